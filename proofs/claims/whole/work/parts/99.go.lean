/-! the tokens of a law: the reference (gen/mod_go.py) -/
def isG (k : Nat) (i : Int) : Bool := decide (k = 133) && ((decide (55 ≤ i) && decide (i ≤ 59)) || decide (i = 63))
def KG (σ σ' : gH) : Prop := ∀ k i, isG k i = false → σ' k i = σ k i
theorem KG.refl {σ : gH} : KG σ σ := fun _ _ _ => rfl
theorem KG.trans {σ σ1 σ2 : gH} (a : KG σ σ1) (b : KG σ1 σ2) : KG σ σ2 := fun k i h => (b k i h).trans (a k i h)
theorem KG.rd {σ σ' : gH} (h : KG σ σ') {k : Nat} {i : Int} (q : isG k i = false) : σ' k i = σ k i := h k i q
theorem KG.up {σ σ' : gH} (h : KG σ σ') {k : Nat} {i v : Int} (q : isG k i = true) : KG σ (gUp σ' k i v) := fun k' i' e => by
  refine Eq.trans ?_ (h k' i' e)
  by_cases c : k' = k
  · subst c
    rw [gUp_at]
    by_cases c2 : i' = i
    · rw [c2, q] at e; cases e
    · exact if_neg c2
  · exact congrFun (if_neg c) i'
def EDG (L : Int) : Int := if L ≤ 500 then L else 500
theorem EDG_in (L : Int) : (L ≤ 500 ∧ EDG L = L) ∨ (500 < L ∧ EDG L = 500) := by
  unfold EDG
  split <;> omega
def WCf (B : Int → Int) : Nat → Int
  | 0 => 0
  | k + 1 => if k < 8 then 27 * WCf B k + B k - 96 else -1
def DNf (B : Int → Int) : Nat → Int
  | 0 => 0
  | k + 1 => if k < 7 then 10 * DNf B k + B k - 48 else DNf B k
theorem DNf_eq {B : Int → Int} : ∀ k, k ≤ 7 → DNf B k = DEC B k
  | 0, _ => rfl
  | k + 1, h => by
    unfold DNf DEC
    rw [if_pos (by omega), DNf_eq k (by omega)]
    omega
theorem WCf_s {B : Int → Int} {a q : Int} (h : a ≤ q) : (q - a < 8 → WCf B (q + 1 - a).toNat = 27 * WCf B (q - a).toNat + B (q - a) - 96) ∧ (8 ≤ q - a → WCf B (q + 1 - a).toNat = -1) := by
  rw [show (q + 1 - a).toNat = (q - a).toNat + 1 by omega]
  refine ⟨fun k => ?_, fun k => if_neg (by omega)⟩
  show (if (q - a).toNat < 8 then 27 * WCf B (q - a).toNat + B ((q - a).toNat : Int) - 96 else -1) = _
  rw [if_pos (by omega), Int.toNat_of_nonneg (by omega)]
theorem DNf_s {B : Int → Int} {a q : Int} (h : a ≤ q) : (q - a < 7 → DNf B (q + 1 - a).toNat = 10 * DNf B (q - a).toNat + B (q - a) - 48) ∧ (7 ≤ q - a → DNf B (q + 1 - a).toNat = DNf B (q - a).toNat) := by
  rw [show (q + 1 - a).toNat = (q - a).toNat + 1 by omega]
  refine ⟨fun k => ?_, fun k => if_neg (by omega)⟩
  show (if (q - a).toNat < 7 then 10 * DNf B (q - a).toNat + B ((q - a).toNat : Int) - 48 else DNf B (q - a).toNat) = _
  rw [if_pos (by omega), Int.toNat_of_nonneg (by omega)]
def p27 (d : Int) : Int := if d ≤ 0 then 1 else if d = 1 then 27 else if d = 2 then 729 else if d = 3 then 19683 else if d = 4 then 531441 else if d = 5 then 14348907 else if d = 6 then 387420489 else if d = 7 then 10460353203 else 282429536481
theorem p27_in (d : Int) : 1 ≤ p27 d ∧ p27 d ≤ 282429536481 := by
  unfold p27
  repeat' split
  all_goals omega
theorem p27_s {d : Int} (h : 0 ≤ d) (h1 : d < 8) : p27 (d + 1) = 27 * p27 d := by
  unfold p27
  repeat' split
  all_goals omega
theorem p27_8 {d : Int} (h : 8 ≤ d) : p27 d = 282429536481 := by
  unfold p27
  repeat' split
  all_goals omega
/-- all of one sort as the first -/
def GDR (T : Int → Int) (a q g : Int) : Prop := (∀ i, a ≤ i → i < q → pln (T i)) ∧ ((g = 1 ∧ ∀ i, a ≤ i → i < q → (ltr (T i) ↔ ltr (T a))) ∨ (g = 0 ∧ ∃ i, a ≤ i ∧ i < q ∧ ¬ (ltr (T i) ↔ ltr (T a))))
theorem GDR_s {T : Int → Int} {a q g g2 : Int} (h : GDR T a q g) (ha : a ≤ q) (hp : pln (T q)) (c : (g = 1 ∧ (ltr (T q) ↔ ltr (T a)) ∧ g2 = 1) ∨ (g2 = 0 ∧ (g = 0 ∨ ¬ (ltr (T q) ↔ ltr (T a))))) : GDR T a (q + 1) g2 := by
  refine ⟨all_s h.1 hp, ?_⟩
  rcases c with ⟨c1, c2, c3⟩ | ⟨c1, c2⟩
  · rcases h.2 with k | k
    · exact Or.inl ⟨c3, all_s k.2 c2⟩
    · omega
  · refine Or.inr ⟨c1, ?_⟩
    rcases c2 with c2 | c2
    · rcases h.2 with k | k
      · omega
      · obtain ⟨i, i0, i1, i2⟩ := k.2
        exact ⟨i, i0, by omega, i2⟩
    · exact ⟨q, ha, by omega, c2⟩
theorem KWD_ex (B : Int → Int) (n : Int) : ∃ v, KWD B n v := by
  by_cases h : ∃ i, 0 ≤ i ∧ i < 135 ∧ WAT B n i
  · obtain ⟨i, a, b, c⟩ := h
    exact ⟨_, Or.inr ⟨i, a, b, c, rfl⟩⟩
  · exact ⟨-1, Or.inl ⟨rfl, fun i a b c => h ⟨i, a, b, c⟩⟩⟩
/-- the fields of the reference, for the token a q k v -/
def MFD (T : Int → Int) (L a q k v : Int) (σ : gH) : Prop := σ 133 56 = a ∧ ((k = 0 ∧ ((L ≤ 500 ∧ σ 133 57 = 0) ∨ (500 < L ∧ σ 133 57 = 1))) ∨
  (σ 133 55 = q ∧ ((k = 1 ∧ σ 133 57 = 1) ∨ (k = 2 ∧ σ 133 57 = 2 ∧ σ 133 63 = WCf (fun j => T (a + j)) (q - a).toNat) ∨ (k = 3 ∧ σ 133 57 = 3 ∧ σ 133 58 = v) ∨ (sgn k ∧ σ 133 57 = 4 ∧ σ 133 59 = k))))
def MTK (T : Int → Int) (L p : Int) (σ : gH) : Prop := ∃ a q k v, TOKN T L (EDG L) p a q k v ∧ MFD T L a q k v σ
theorem GDR_e {T : Int → Int} {L p a q g : Int} {σ : gH} (h : GDR T a q g) (haq : a < q) (hq : q ≤ L) (he : q < L → ¬ pln (T q)) (hb : ∀ i, p ≤ i → i < a → blk (T i)) (hpa : p ≤ a) (haE : a < EDG L) (hpl : pln (T a))
    (h6 : σ 133 56 = a) (h5 : σ 133 55 = q) (hw : σ 133 63 = WCf (fun j => T (a + j)) (q - a).toNat) (hn : σ 133 58 = DNf (fun j => T (a + j)) (q - a).toNat)
    (hk : (g = 1 ∧ ltr (T a) ∧ σ 133 57 = 2) ∨ (g = 1 ∧ ¬ ltr (T a) ∧ q - a ≤ 7 ∧ σ 133 57 = 3) ∨ ((g = 0 ∨ (¬ ltr (T a) ∧ 7 < q - a)) ∧ σ 133 57 = 1)) : MTK T L p σ := by
  have nb : ¬ blk (T a) := by omega
  have base : p ≤ q ∧ True := ⟨by omega, trivial⟩
  have mk : ∀ k v, RUN T L a q k v → TOKN T L (EDG L) p a q k v := fun k v r => Or.inr ⟨hb, hpa, haE, nb, Or.inl ⟨hpl, r⟩⟩
  have r0 : a ≤ q ∧ q ≤ L ∧ (∀ i, a ≤ i → i < q → pln (T i)) ∧ (q < L → ¬ pln (T q)) := ⟨by omega, hq, h.1, he⟩
  rcases hk with ⟨g1, l1, k1⟩ | ⟨g1, l1, l2, k1⟩ | ⟨g1, k1⟩
  · obtain ⟨v, hv⟩ := KWD_ex (fun j => T (a + j)) (q - a)
    rcases h.2 with k | k
    · exact ⟨a, q, 2, v, mk _ _ ⟨r0, Or.inl ⟨fun i x y => (k.2 i x y).mpr l1, rfl, hv⟩⟩, h6, Or.inr ⟨h5, Or.inr (Or.inl ⟨rfl, k1, hw⟩)⟩⟩
    · omega
  · rcases h.2 with k | k
    · refine ⟨a, q, 3, _, mk _ _ ⟨r0, Or.inr (Or.inl ⟨fun i x y => ?_, haq, l2, rfl, rfl⟩)⟩, h6, Or.inr ⟨h5, Or.inr (Or.inr (Or.inl ⟨rfl, k1, hn.trans (DNf_eq _ (by omega))⟩))⟩⟩
      have e1 := h.1 i x y
      have e2 := k.2 i x y
      rcases e1 with e1 | e1
      · exact absurd (e2.mp e1) l1
      · exact e1
    · omega
  · refine ⟨a, q, 1, -1, mk _ _ ⟨r0, Or.inr (Or.inr ?_)⟩, h6, Or.inr ⟨h5, Or.inl ⟨rfl, k1⟩⟩⟩
    have dg : ∀ i, a ≤ i → i < q → ¬ ltr (T i) → dgt (T i) := fun i x y z => (h.1 i x y).resolve_left z
    rcases h.2 with k | k
    · have g1 := g1.resolve_left (by omega)
      exact ⟨⟨a, by omega, haq, dg a (by omega) haq g1.1⟩, Or.inr g1.2, rfl, rfl⟩
    · obtain ⟨i, i0, i1, i2⟩ := k.2
      by_cases l1 : ltr (T a)
      · have n1 : ¬ ltr (T i) := fun x => i2 ⟨fun _ => l1, fun _ => x⟩
        exact ⟨⟨i, i0, i1, dg i i0 i1 n1⟩, Or.inl ⟨a, by omega, haq, l1⟩, rfl, rfl⟩
      · have n1 : ltr (T i) := Classical.byContradiction fun x => i2 ⟨fun y => absurd y x, fun y => absurd y l1⟩
        exact ⟨⟨a, by omega, haq, dg a (by omega) haq l1⟩, Or.inl ⟨i, i0, i1, n1⟩, rfl, rfl⟩
def BYT (T : Int → Int) (L x : Int) : Int := if x < L then T x else 0
theorem BYT_in (T : Int → Int) (L x : Int) : (x < L ∧ BYT T L x = T x) ∨ (L ≤ x ∧ BYT T L x = 0) := by
  unfold BYT
  split <;> omega
theorem gb_cs (P : Prop) [Decidable P] : (gb P = 1 ∧ P) ∨ (gb P = 0 ∧ ¬ P) := by
  by_cases h : P
  · exact Or.inl ⟨gb_t h, h⟩
  · exact Or.inr ⟨gb_f h, h⟩
theorem mg_isDigit (σ : gH) (x : Int) : Mt mX12_isDigit 0 [gI x] σ (rE (gI (gb (48 ≤ x ∧ x ≤ 57))) σ) := by
  refine Mt.walk (ls := [gI x]) pn_X12 rfl (fun _ _ h => by cases h.1) (Nat.le_of_ble_eq_true rfl) rfl ?_
  refine w_iload_n (pc' := 1) (i := 0) (by rfl) (by rfl) dX12_isDigit_0 rfl ?_
  refine w_bipush (pc' := 3) (by decide) (by decide) dX12_isDigit_1 rfl ?_
  refine w_icmp_lt (pc' := 6) (t := 16) dX12_isDigit_3 rfl rfl (fun c_3 => ?_) (fun c_3 => ?_)
  · skip
    refine w_iconst (pc' := 17) (by decide) dX12_isDigit_16 rfl ?_
    refine w_zreturn rfl (.inl rfl) dX12_isDigit_17 ?_
    first | (exfalso; omega) | exact ⟨congrArg gI (gb_t (by omega)).symm, rfl⟩ | exact ⟨congrArg gI (gb_f (by omega)).symm, rfl⟩
  · skip
    refine w_iload_n (pc' := 7) (i := 0) (by rfl) (by rfl) dX12_isDigit_6 rfl ?_
    refine w_bipush (pc' := 9) (by decide) (by decide) dX12_isDigit_7 rfl ?_
    refine w_icmp_gt (pc' := 12) (t := 16) dX12_isDigit_9 rfl rfl (fun c_9 => ?_) (fun c_9 => ?_)
    · skip
      refine w_iconst (pc' := 17) (by decide) dX12_isDigit_16 rfl ?_
      refine w_zreturn rfl (.inl rfl) dX12_isDigit_17 ?_
      first | (exfalso; omega) | exact ⟨congrArg gI (gb_t (by omega)).symm, rfl⟩ | exact ⟨congrArg gI (gb_f (by omega)).symm, rfl⟩
    · skip
      refine w_iconst (pc' := 13) (by decide) dX12_isDigit_12 rfl ?_
      refine w_goto (pc' := 17) dX12_isDigit_13 rfl ?_
      refine w_zreturn rfl (.inr rfl) dX12_isDigit_17 ?_
      first | (exfalso; omega) | exact ⟨congrArg gI (gb_t (by omega)).symm, rfl⟩ | exact ⟨congrArg gI (gb_f (by omega)).symm, rfl⟩
theorem mg_byteAt (σ : gH) (x : Int) (hx : 0 ≤ x) (hL : σ 133 54 ≤ 540) : Mt mX12_byteAt 0 [gR 133, gI x] σ (rE (gI (BYT (σ 134) (σ 133 54) x)) σ) := by
  refine Mt.walk (ls := [gR 133, gI x]) pn_X12 rfl (fun _ _ h => by cases h.1) (Nat.le_of_ble_eq_true rfl) rfl ?_
  have hb := BYT_in (σ 134) (σ 133 54) x
  refine w_iload_n (pc' := 1) (i := 1) (by rfl) (by rfl) dX12_byteAt_0 rfl ?_
  refine w_aload_n (pc' := 2) (i := 0) (by rfl) (by rfl) dX12_byteAt_1 rfl ?_
  refine v_getI (pc' := 5) (ji := 54) rfl fg_X12_376 kd_133 dX12_byteAt_2 rfl ?_
  refine w_icmp_ge (pc' := 8) (t := 17) dX12_byteAt_5 rfl rfl (fun c_5 => ?_) (fun c_5 => ?_)
  · skip
    refine w_iconst (pc' := 18) (by decide) dX12_byteAt_17 rfl ?_
    refine v_ireturn rfl dX12_byteAt_18 ?_
    first | (exfalso; omega) | exact ⟨congrArg gI (by omega), rfl⟩
  · skip
    refine w_aload_n (pc' := 9) (i := 0) (by rfl) (by rfl) dX12_byteAt_8 rfl ?_
    refine w_getS (pc' := 12) (q := 134) fg_X12_7 kd_133 sf_X12_1 gr_133_1 dX12_byteAt_9 rfl ?_
    refine w_iload_n (pc' := 13) (i := 1) (by rfl) (by rfl) dX12_byteAt_12 rfl ?_
    refine w_iald (pc' := 14) kd_134 (by omega) (by omega) dX12_byteAt_13 rfl ?_
    refine w_goto (pc' := 18) dX12_byteAt_14 rfl ?_
    refine v_ireturn rfl dX12_byteAt_18 ?_
    first | (exfalso; omega) | exact ⟨congrArg gI (by omega), rfl⟩
set_option maxHeartbeats 4000000 in
theorem mg_go {σ : gH} (hL : (σ 133 54) ≤ 540) (h0 : 0 ≤ (σ 133 55) ∧ (σ 133 55) ≤ (σ 133 54)) : Mt mX12_go 1 [gR 133] σ (fun v σ' => v = gX 1 ∧ KG σ σ' ∧ MTK (σ 134) (σ 133 54) (σ 133 55) σ') := by
  refine Mt.walk (ls := [gR 133, gX 1, gX 1, gX 1, gX 1]) pn_X12 rfl (fun _ _ h => by cases h.1) (Nat.le_of_ble_eq_true rfl) rfl ?_
  have hl_0 : ∀ (mm : Nat) (a : Int), ((σ 133 54) - a).toNat = mm → ((σ 133 55) ≤ a) → ((σ 133 55) ≤ (σ 133 54) → a ≤ (σ 133 54)) → (∀ i, (σ 133 55) ≤ i → i < a → blk ((σ 134) i)) → Wp mX12_go 1 (fun v σ' => v = gX 1 ∧ KG σ σ' ∧ MTK (σ 134) (σ 133 54) (σ 133 55) σ') (gUp σ 133 55 a) 0 [gR 133, gX 1, gX 1, gX 1, gX 1] [] := by
    intro m_0
    induction m_0 using Nat.strongRecOn with
    | _ m_0 ih_0 =>
      intro a hmeas_0 a0 a1 hb
      refine w_aload_n (pc' := 1) (i := 0) (by rfl) (by rfl) dX12_go_0 rfl ?_
      refine v_getI (pc' := 4) (ji := 55) rfl fg_X12_379 kd_133 dX12_go_1 rfl ?_
      show Wp _ _ _ _ _ _ [gI a]
      refine w_aload_n (pc' := 5) (i := 0) (by rfl) (by rfl) dX12_go_4 rfl ?_
      refine v_getI (pc' := 8) (ji := 54) rfl fg_X12_376 kd_133 dX12_go_5 rfl ?_
      show Wp _ _ _ _ _ _ [gI (σ 133 54), gI a]
      have hj_52 : ((σ 133 54) ≤ a ∨ ¬ blk ((σ 134) a)) → Wp mX12_go 1 (fun v σ' => v = gX 1 ∧ KG σ σ' ∧ MTK (σ 134) (σ 133 54) (σ 133 55) σ') (gUp σ 133 55 a) 52 [gR 133, gX 1, gX 1, gX 1, gX 1] [] := by
        intro hx_52
        refine w_aload_n (pc' := 53) (i := 0) (by rfl) (by rfl) dX12_go_52 rfl ?_
        refine w_aload_n (pc' := 54) (i := 0) (by rfl) (by rfl) dX12_go_53 rfl ?_
        refine v_getI (pc' := 57) (ji := 55) rfl fg_X12_379 kd_133 dX12_go_54 rfl ?_
        show Wp _ _ _ _ _ _ [gI a, gR 133]
        have hED : ∀ _ : Unit, _ := fun _ => EDG_in (σ 133 54)
        refine v_putI (pc' := 60) (ji := 56) rfl fp_X12_382 kd_133 sf_X12_56 dX12_go_57 rfl ?_
        refine w_aload_n (pc' := 61) (i := 0) (by rfl) (by rfl) dX12_go_60 rfl ?_
        refine v_getI (pc' := 64) (ji := 54) rfl fg_X12_376 kd_133 dX12_go_61 rfl ?_
        show Wp _ _ _ _ _ _ [gI (σ 133 54)]
        refine w_sipush (pc' := 67) (by decide) (by decide) dX12_go_64 rfl ?_
        refine w_icmp_le (pc' := 70) (t := 93) dX12_go_67 rfl rfl (fun c_67 => ?_) (fun c_67 => ?_)
        · skip
          refine w_aload_n (pc' := 94) (i := 0) (by rfl) (by rfl) dX12_go_93 rfl ?_
          refine v_getI (pc' := 97) (ji := 55) rfl fg_X12_379 kd_133 dX12_go_94 rfl ?_
          show Wp _ _ _ _ _ _ [gI a]
          refine w_aload_n (pc' := 98) (i := 0) (by rfl) (by rfl) dX12_go_97 rfl ?_
          refine v_getI (pc' := 101) (ji := 54) rfl fg_X12_376 kd_133 dX12_go_98 rfl ?_
          show Wp _ _ _ _ _ _ [gI (σ 133 54), gI a]
          refine w_icmp_lt (pc' := 104) (t := 110) dX12_go_101 rfl rfl (fun c_101 => ?_) (fun c_101 => ?_)
          · skip
            refine w_aload_n (pc' := 111) (i := 0) (by rfl) (by rfl) dX12_go_110 rfl ?_
            refine w_getS (pc' := 114) (q := 134) fg_X12_7 kd_133 sf_X12_1 gr_133_1 dX12_go_111 rfl ?_
            refine w_aload_n (pc' := 115) (i := 0) (by rfl) (by rfl) dX12_go_114 rfl ?_
            refine v_getI (pc' := 118) (ji := 55) rfl fg_X12_379 kd_133 dX12_go_115 rfl ?_
            show Wp _ _ _ _ _ _ [gI a, gR 134]
            refine w_iald (pc' := 119) kd_134 (by omega) (by omega) dX12_go_118 rfl ?_
            show Wp _ _ _ _ _ _ [gI (σ 134 a)]
            refine w_istore_n (pc' := 120) (i := 1) (ls' := [gR 133, gI (σ 134 a), gX 1, gX 1, gX 1]) (by rfl) (by decide) (by rfl) dX12_go_119 rfl ?_
            refine w_iload_n (pc' := 121) (i := 1) (by rfl) (by rfl) dX12_go_120 rfl ?_
            refine v_callSE (pc' := 124) (st' := [gI (gb (97 ≤ (σ 134 a) ∧ (σ 134 a) ≤ 122))]) (d' := 0) (av := [gI (σ 134 a)]) ms_mX12_isLetter st_mX12_isLetter lk_X12_261 rfl rfl (Nat.le_of_ble_eq_true rfl) (Nat.le_of_ble_eq_true rfl) dX12_go_121 rfl rfl (mo_isLetter (gUp (gUp σ 133 55 a) 133 56 a) (σ 134 a)) ?_
            have hj_195 : (pln ((σ 134) a)) → Wp mX12_go 1 (fun v σ' => v = gX 1 ∧ KG σ σ' ∧ MTK (σ 134) (σ 133 54) (σ 133 55) σ') (gUp (gUp σ 133 55 a) 133 56 a) 195 [gR 133, gI (σ 134 a), gX 1, gX 1, gX 1] [] := by
              intro hx_195
              refine w_iload_n (pc' := 196) (i := 1) (by rfl) (by rfl) dX12_go_195 rfl ?_
              refine v_callSE (pc' := 199) (st' := [gI (gb (97 ≤ (σ 134 a) ∧ (σ 134 a) ≤ 122))]) (d' := 0) (av := [gI (σ 134 a)]) ms_mX12_isLetter st_mX12_isLetter lk_X12_261 rfl rfl (Nat.le_of_ble_eq_true rfl) (Nat.le_of_ble_eq_true rfl) dX12_go_196 rfl rfl (mo_isLetter (gUp (gUp σ 133 55 a) 133 56 a) (σ 134 a)) ?_
              refine w_istore_n (pc' := 200) (i := 2) (ls' := [gR 133, gI (σ 134 a), gI (gb (97 ≤ (σ 134 a) ∧ (σ 134 a) ≤ 122)), gX 1, gX 1]) (by rfl) (by decide) (by rfl) dX12_go_199 rfl ?_
              refine w_iconst (pc' := 201) (by decide) dX12_go_200 rfl ?_
              refine w_istore_n (pc' := 202) (i := 3) (ls' := [gR 133, gI (σ 134 a), gI (gb (97 ≤ (σ 134 a) ∧ (σ 134 a) ≤ 122)), gI 1, gX 1]) (by rfl) (by decide) (by rfl) dX12_go_201 rfl ?_
              refine w_aload_n (pc' := 203) (i := 0) (by rfl) (by rfl) dX12_go_202 rfl ?_
              refine w_lconst (n := 0) (pc' := 204) (by decide) (by decide) dX12_go_203 rfl ?_
              refine v_putJ (pc' := 207) (ji := 63) rfl fp_X12_394 kd_133 sf_X12_63 dX12_go_204 rfl ?_
              refine w_aload_n (pc' := 208) (i := 0) (by rfl) (by rfl) dX12_go_207 rfl ?_
              refine w_iconst (pc' := 209) (by decide) dX12_go_208 rfl ?_
              refine v_putI (pc' := 212) (ji := 58) rfl fp_X12_397 kd_133 sf_X12_58 dX12_go_209 rfl ?_
              have hl_212 : ∀ (mm : Nat) (lt g q w n : Int), ((σ 133 54) - q).toNat = mm → (a ≤ q) → (q ≤ (σ 133 54)) → (∀ _ : Unit, (lt = 1 ∧ ltr ((σ 134) a)) ∨ (lt = 0 ∧ ¬ ltr ((σ 134) a))) → (0 ≤ g ∧ g ≤ 1) → (GDR (σ 134) a q g) → (w = WCf (fun j => (σ 134) (a + j)) (q - a).toNat) → (n = DNf (fun j => (σ 134) (a + j)) (q - a).toNat) → (-(2 * p27 (q - a)) + 2 ≤ w ∧ w ≤ 2 * p27 (q - a) - 2) → (-(9 * p10 (q - a)) + 9 ≤ n ∧ n ≤ 9 * p10 (q - a) - 9) → Wp mX12_go 1 (fun v σ' => v = gX 1 ∧ KG σ σ' ∧ MTK (σ 134) (σ 133 54) (σ 133 55) σ') (gUp (gUp (gUp (gUp σ 133 55 q) 133 56 a) 133 63 w) 133 58 n) 212 [gR 133, gI (σ 134 a), gI lt, gI g, gX 1] [] := by
                intro m_212
                induction m_212 using Nat.strongRecOn with
                | _ m_212 ih_212 =>
                  intro lt g q w n hmeas_212 q0 q1 hlt hg hG hw hn w0 n0
                  have hby : ∀ _ : Unit, _ := fun _ => BYT_in (σ 134) (σ 133 54) q
                  have hgb : ∀ _ : Unit, _ := fun _ => gb_cs (97 ≤ (σ 134) q ∧ (σ 134) q ≤ 122)
                  have hqa : 0 ≤ q - a := by omega
                  have e7 := p27_in (q - a)
                  have e7b := p27_in (q + 1 - a)
                  have e1 := p10_in (q - a)
                  have e1b := p10_in (q + 1 - a)
                  have e1m : p10 (q - a) ≤ p10 (q + 1 - a) := by have := p10_m hqa; rw [show q + 1 - a = q - a + 1 by omega]; exact this
                  have e7s : ∀ _ : Unit, q - a < 8 → p27 (q + 1 - a) = 27 * p27 (q - a) := fun _ h => by rw [show q + 1 - a = q - a + 1 by omega]; exact p27_s hqa h
                  have e78 : ∀ _ : Unit, 8 ≤ q - a → p27 (q + 1 - a) = 282429536481 := fun _ h => p27_8 (by omega)
                  have e1s : ∀ _ : Unit, q - a < 7 → p10 (q + 1 - a) = 10 * p10 (q - a) := fun _ h => by rw [show q + 1 - a = q - a + 1 by omega]; exact p10_s hqa h
                  have ews := WCf_s (B := (fun j => (σ 134) (a + j))) q0
                  have ens := DNf_s (B := (fun j => (σ 134) (a + j))) q0
                  rw [show a + (q - a) = q by omega] at ews ens
                  have ewu : ∀ _ : Unit, _ := fun _ => ews
                  have enu : ∀ _ : Unit, _ := fun _ => ens
                  clear ews ens
                  refine w_aload_n (pc' := 213) (i := 0) (by rfl) (by rfl) dX12_go_212 rfl ?_
                  refine w_aload_n (pc' := 214) (i := 0) (by rfl) (by rfl) dX12_go_213 rfl ?_
                  have hj_354 : ((∀ _ : Unit, q < (σ 133 54) → ¬ pln ((σ 134) q)) ∧ ∀ _ : Unit, a < q) → Wp mX12_go 1 (fun v σ' => v = gX 1 ∧ KG σ σ' ∧ MTK (σ 134) (σ 133 54) (σ 133 55) σ') (gUp (gUp (gUp (gUp σ 133 55 q) 133 56 a) 133 63 w) 133 58 n) 354 [gR 133, gI (σ 134 a), gI lt, gI g, gX 1] [] := by
                    intro hx_354
                    have hen := hx_354.1
                    have hne := hx_354.2
                    refine w_aload_n (pc' := 355) (i := 0) (by rfl) (by rfl) dX12_go_354 rfl ?_
                    refine w_iload_n (pc' := 356) (i := 3) (by rfl) (by rfl) dX12_go_355 rfl ?_
                    refine w_if_eq (pc' := 359) (t := 377) dX12_go_356 rfl rfl (fun c_356 => ?_) (fun c_356 => ?_)
                    · skip
                      refine w_iconst (pc' := 378) (by decide) dX12_go_377 rfl ?_
                      refine w_goto (pc' := 390) dX12_go_378 rfl ?_
                      refine v_putI (pc' := 393) (ji := 57) rfl fp_X12_385 kd_133 sf_X12_57 dX12_go_390 rfl ?_
                      refine w_return rfl dX12_go_393 ?_
                      refine ⟨rfl, (((((KG.refl.up (k := 133) (i := 55) (v := q) rfl).up (k := 133) (i := 56) (v := a) rfl).up (k := 133) (i := 63) (v := w) rfl).up (k := 133) (i := 58) (v := n) rfl).up (k := 133) (i := 57) (v := 1) rfl), ?_⟩
                      have hl9 := hlt ()
                      have hE9 := hED ()
                      exact GDR_e hG (hne ()) q1 (hen ()) hb a0 (by omega) hx_195 rfl rfl hw hn (by first | exact Or.inl ⟨by omega, by omega, rfl⟩ | exact Or.inr (Or.inl ⟨by omega, by omega, by omega, rfl⟩) | exact Or.inr (Or.inr ⟨by omega, rfl⟩))
                    · skip
                      refine w_iload_n (pc' := 360) (i := 2) (by rfl) (by rfl) dX12_go_359 rfl ?_
                      refine w_if_ne (pc' := 363) (t := 381) dX12_go_360 rfl rfl (fun c_360 => ?_) (fun c_360 => ?_)
                      · skip
                        refine w_iload_n (pc' := 382) (i := 2) (by rfl) (by rfl) dX12_go_381 rfl ?_
                        refine w_if_eq (pc' := 385) (t := 389) dX12_go_382 rfl rfl (fun c_382 => ?_) (fun c_382 => ?_)
                        · skip
                          refine w_iconst (pc' := 390) (by decide) dX12_go_389 rfl ?_
                          refine v_putI (pc' := 393) (ji := 57) rfl fp_X12_385 kd_133 sf_X12_57 dX12_go_390 rfl ?_
                          refine w_return rfl dX12_go_393 ?_
                          refine ⟨rfl, (((((KG.refl.up (k := 133) (i := 55) (v := q) rfl).up (k := 133) (i := 56) (v := a) rfl).up (k := 133) (i := 63) (v := w) rfl).up (k := 133) (i := 58) (v := n) rfl).up (k := 133) (i := 57) (v := 3) rfl), ?_⟩
                          have hl9 := hlt ()
                          have hE9 := hED ()
                          exact GDR_e hG (hne ()) q1 (hen ()) hb a0 (by omega) hx_195 rfl rfl hw hn (by first | exact Or.inl ⟨by omega, by omega, rfl⟩ | exact Or.inr (Or.inl ⟨by omega, by omega, by omega, rfl⟩) | exact Or.inr (Or.inr ⟨by omega, rfl⟩))
                        · skip
                          refine w_iconst (pc' := 386) (by decide) dX12_go_385 rfl ?_
                          refine w_goto (pc' := 390) dX12_go_386 rfl ?_
                          refine v_putI (pc' := 393) (ji := 57) rfl fp_X12_385 kd_133 sf_X12_57 dX12_go_390 rfl ?_
                          refine w_return rfl dX12_go_393 ?_
                          refine ⟨rfl, (((((KG.refl.up (k := 133) (i := 55) (v := q) rfl).up (k := 133) (i := 56) (v := a) rfl).up (k := 133) (i := 63) (v := w) rfl).up (k := 133) (i := 58) (v := n) rfl).up (k := 133) (i := 57) (v := 2) rfl), ?_⟩
                          have hl9 := hlt ()
                          have hE9 := hED ()
                          exact GDR_e hG (hne ()) q1 (hen ()) hb a0 (by omega) hx_195 rfl rfl hw hn (by first | exact Or.inl ⟨by omega, by omega, rfl⟩ | exact Or.inr (Or.inl ⟨by omega, by omega, by omega, rfl⟩) | exact Or.inr (Or.inr ⟨by omega, rfl⟩))
                      · skip
                        refine w_aload_n (pc' := 364) (i := 0) (by rfl) (by rfl) dX12_go_363 rfl ?_
                        refine v_getI (pc' := 367) (ji := 55) rfl fg_X12_379 kd_133 dX12_go_364 rfl ?_
                        show Wp _ _ _ _ _ _ [gI q, gR 133]
                        refine w_aload_n (pc' := 368) (i := 0) (by rfl) (by rfl) dX12_go_367 rfl ?_
                        refine v_getI (pc' := 371) (ji := 56) rfl fg_X12_382 kd_133 dX12_go_368 rfl ?_
                        show Wp _ _ _ _ _ _ [gI a, gI q, gR 133]
                        refine v_isub (pc' := 372) (by omega) dX12_go_371 rfl ?_
                        refine w_bipush (pc' := 374) (by decide) (by decide) dX12_go_372 rfl ?_
                        refine w_icmp_le (pc' := 377) (t := 381) dX12_go_374 rfl rfl (fun c_374 => ?_) (fun c_374 => ?_)
                        · skip
                          refine w_iload_n (pc' := 382) (i := 2) (by rfl) (by rfl) dX12_go_381 rfl ?_
                          refine w_if_eq (pc' := 385) (t := 389) dX12_go_382 rfl rfl (fun c_382 => ?_) (fun c_382 => ?_)
                          · skip
                            refine w_iconst (pc' := 390) (by decide) dX12_go_389 rfl ?_
                            refine v_putI (pc' := 393) (ji := 57) rfl fp_X12_385 kd_133 sf_X12_57 dX12_go_390 rfl ?_
                            refine w_return rfl dX12_go_393 ?_
                            refine ⟨rfl, (((((KG.refl.up (k := 133) (i := 55) (v := q) rfl).up (k := 133) (i := 56) (v := a) rfl).up (k := 133) (i := 63) (v := w) rfl).up (k := 133) (i := 58) (v := n) rfl).up (k := 133) (i := 57) (v := 3) rfl), ?_⟩
                            have hl9 := hlt ()
                            have hE9 := hED ()
                            exact GDR_e hG (hne ()) q1 (hen ()) hb a0 (by omega) hx_195 rfl rfl hw hn (by first | exact Or.inl ⟨by omega, by omega, rfl⟩ | exact Or.inr (Or.inl ⟨by omega, by omega, by omega, rfl⟩) | exact Or.inr (Or.inr ⟨by omega, rfl⟩))
                          · skip
                            refine w_iconst (pc' := 386) (by decide) dX12_go_385 rfl ?_
                            refine w_goto (pc' := 390) dX12_go_386 rfl ?_
                            refine v_putI (pc' := 393) (ji := 57) rfl fp_X12_385 kd_133 sf_X12_57 dX12_go_390 rfl ?_
                            refine w_return rfl dX12_go_393 ?_
                            refine ⟨rfl, (((((KG.refl.up (k := 133) (i := 55) (v := q) rfl).up (k := 133) (i := 56) (v := a) rfl).up (k := 133) (i := 63) (v := w) rfl).up (k := 133) (i := 58) (v := n) rfl).up (k := 133) (i := 57) (v := 2) rfl), ?_⟩
                            have hl9 := hlt ()
                            have hE9 := hED ()
                            exact GDR_e hG (hne ()) q1 (hen ()) hb a0 (by omega) hx_195 rfl rfl hw hn (by first | exact Or.inl ⟨by omega, by omega, rfl⟩ | exact Or.inr (Or.inl ⟨by omega, by omega, by omega, rfl⟩) | exact Or.inr (Or.inr ⟨by omega, rfl⟩))
                        · skip
                          refine w_iconst (pc' := 378) (by decide) dX12_go_377 rfl ?_
                          refine w_goto (pc' := 390) dX12_go_378 rfl ?_
                          refine v_putI (pc' := 393) (ji := 57) rfl fp_X12_385 kd_133 sf_X12_57 dX12_go_390 rfl ?_
                          refine w_return rfl dX12_go_393 ?_
                          refine ⟨rfl, (((((KG.refl.up (k := 133) (i := 55) (v := q) rfl).up (k := 133) (i := 56) (v := a) rfl).up (k := 133) (i := 63) (v := w) rfl).up (k := 133) (i := 58) (v := n) rfl).up (k := 133) (i := 57) (v := 1) rfl), ?_⟩
                          have hl9 := hlt ()
                          have hE9 := hED ()
                          exact GDR_e hG (hne ()) q1 (hen ()) hb a0 (by omega) hx_195 rfl rfl hw hn (by first | exact Or.inl ⟨by omega, by omega, rfl⟩ | exact Or.inr (Or.inl ⟨by omega, by omega, by omega, rfl⟩) | exact Or.inr (Or.inr ⟨by omega, rfl⟩))
                  refine v_getI (pc' := 217) (ji := 55) rfl fg_X12_379 kd_133 dX12_go_214 rfl ?_
                  show Wp _ _ _ _ _ _ [gI q, gR 133]
                  refine v_callVE (pc' := 220) (st' := [gI (BYT (σ 134) (σ 133 54) q)]) (d' := 0) (av := [gI q]) mi_mX12_byteAt lk_X12_400 rfl ci_X12 kd_133 rfl (Nat.le_of_ble_eq_true rfl) (Nat.le_of_ble_eq_true rfl) dX12_go_217 rfl rfl (mg_byteAt (gUp (gUp (gUp (gUp σ 133 55 q) 133 56 a) 133 63 w) 133 58 n) q (by omega) hL) ?_
                  refine v_callSE (pc' := 223) (st' := [gI (gb (97 ≤ (BYT (σ 134) (σ 133 54) q) ∧ (BYT (σ 134) (σ 133 54) q) ≤ 122))]) (d' := 0) (av := [gI (BYT (σ 134) (σ 133 54) q)]) ms_mX12_isLetter st_mX12_isLetter lk_X12_261 rfl rfl (Nat.le_of_ble_eq_true rfl) (Nat.le_of_ble_eq_true rfl) dX12_go_220 rfl rfl (mo_isLetter (gUp (gUp (gUp (gUp σ 133 55 q) 133 56 a) 133 63 w) 133 58 n) (BYT (σ 134) (σ 133 54) q)) ?_
                  have hj_240 : (q < (σ 133 54) ∧ pln ((σ 134) q)) → Wp mX12_go 1 (fun v σ' => v = gX 1 ∧ KG σ σ' ∧ MTK (σ 134) (σ 133 54) (σ 133 55) σ') (gUp (gUp (gUp (gUp σ 133 55 q) 133 56 a) 133 63 w) 133 58 n) 240 [gR 133, gI (σ 134 a), gI lt, gI g, gX 1] [] := by
                    intro hx_240
                    refine w_aload_n (pc' := 241) (i := 0) (by rfl) (by rfl) dX12_go_240 rfl ?_
                    refine w_getS (pc' := 244) (q := 134) fg_X12_7 kd_133 sf_X12_1 gr_133_1 dX12_go_241 rfl ?_
                    refine w_aload_n (pc' := 245) (i := 0) (by rfl) (by rfl) dX12_go_244 rfl ?_
                    refine v_getI (pc' := 248) (ji := 55) rfl fg_X12_379 kd_133 dX12_go_245 rfl ?_
                    show Wp _ _ _ _ _ _ [gI q, gR 134]
                    refine w_iald (pc' := 249) kd_134 (by omega) (by omega) dX12_go_248 rfl ?_
                    show Wp _ _ _ _ _ _ [gI (σ 134 q)]
                    refine w_istore (pc' := 251) (ls' := [gR 133, gI (σ 134 a), gI lt, gI g, gI (σ 134 q)]) (by decide) (by rfl) dX12_go_249 rfl ?_
                    have hj_269 : ∀ g2 : Int, (0 ≤ g2 ∧ g2 ≤ 1) → GDR (σ 134) a (q + 1) g2 → Wp mX12_go 1 (fun v σ' => v = gX 1 ∧ KG σ σ' ∧ MTK (σ 134) (σ 133 54) (σ 133 55) σ') (gUp (gUp (gUp (gUp σ 133 55 q) 133 56 a) 133 63 w) 133 58 n) 269 [gR 133, gI (σ 134 a), gI lt, gI g, gI (σ 134 q)] [gI g2] := by
                      intro g2 hg1 hg2
                      refine w_istore_n (pc' := 270) (i := 3) (ls' := [gR 133, gI (σ 134 a), gI lt, gI g2, gI (σ 134 q)]) (by rfl) (by decide) (by rfl) dX12_go_269 rfl ?_
                      refine w_aload_n (pc' := 271) (i := 0) (by rfl) (by rfl) dX12_go_270 rfl ?_
                      refine w_aload_n (pc' := 272) (i := 0) (by rfl) (by rfl) dX12_go_271 rfl ?_
                      refine v_getI (pc' := 275) (ji := 55) rfl fg_X12_379 kd_133 dX12_go_272 rfl ?_
                      show Wp _ _ _ _ _ _ [gI q, gR 133]
                      refine w_aload_n (pc' := 276) (i := 0) (by rfl) (by rfl) dX12_go_275 rfl ?_
                      refine v_getI (pc' := 279) (ji := 56) rfl fg_X12_382 kd_133 dX12_go_276 rfl ?_
                      show Wp _ _ _ _ _ _ [gI a, gI q, gR 133]
                      refine v_isub (pc' := 280) (by omega) dX12_go_279 rfl ?_
                      refine w_bipush (pc' := 282) (by decide) (by decide) dX12_go_280 rfl ?_
                      refine w_icmp_ge (pc' := 285) (t := 304) dX12_go_282 rfl rfl (fun c_282 => ?_) (fun c_282 => ?_)
                      · skip
                        refine w_ldc2 (pc' := 307) (by decide) ct_X12_347 dX12_go_304 rfl ?_
                        refine v_putJ (pc' := 310) (ji := 63) rfl fp_X12_394 kd_133 sf_X12_63 dX12_go_307 rfl ?_
                        refine Wp.heq (σ' := gUp (gUp (gUp (gUp σ 133 55 q) 133 56 a) 133 63 (-1)) 133 58 n) ((gUp_ci (by decide)).trans (congrArg (fun z => gUp z 133 58 n) gUp_same)) ?_
                        refine w_aload_n (pc' := 311) (i := 0) (by rfl) (by rfl) dX12_go_310 rfl ?_
                        refine v_getI (pc' := 314) (ji := 55) rfl fg_X12_379 kd_133 dX12_go_311 rfl ?_
                        show Wp _ _ _ _ _ _ [gI q]
                        refine w_aload_n (pc' := 315) (i := 0) (by rfl) (by rfl) dX12_go_314 rfl ?_
                        refine v_getI (pc' := 318) (ji := 56) rfl fg_X12_382 kd_133 dX12_go_315 rfl ?_
                        show Wp _ _ _ _ _ _ [gI a, gI q]
                        refine v_isub (pc' := 319) (by omega) dX12_go_318 rfl ?_
                        refine w_bipush (pc' := 321) (by decide) (by decide) dX12_go_319 rfl ?_
                        refine w_icmp_ge (pc' := 324) (t := 341) dX12_go_321 rfl rfl (fun c_321 => ?_) (fun c_321 => ?_)
                        · skip
                          refine w_aload_n (pc' := 342) (i := 0) (by rfl) (by rfl) dX12_go_341 rfl ?_
                          refine w_dup (pc' := 343) dX12_go_342 rfl ?_
                          refine v_getI (pc' := 346) (ji := 55) rfl fg_X12_379 kd_133 dX12_go_343 rfl ?_
                          show Wp _ _ _ _ _ _ [gI q, gR 133]
                          refine w_iconst (pc' := 347) (by decide) dX12_go_346 rfl ?_
                          refine v_iadd (pc' := 348) (by omega) dX12_go_347 rfl ?_
                          refine v_putI (pc' := 351) (ji := 55) rfl fp_X12_379 kd_133 sf_X12_55 dX12_go_348 rfl ?_
                          refine Wp.heq (σ' := gUp (gUp (gUp (gUp σ 133 55 (q + 1)) 133 56 a) 133 63 (-1)) 133 58 n) ((gUp_ci (by decide)).trans (congrArg (fun z => gUp z 133 58 n) ((gUp_ci (by decide)).trans (congrArg (fun z => gUp z 133 63 (-1)) ((gUp_ci (by decide)).trans (congrArg (fun z => gUp z 133 56 a) gUp_same)))))) ?_
                          refine w_goto (pc' := 212) dX12_go_351 rfl ?_
                          refine Wp.lose (ls' := [gR 133, gI (σ 134 a), gI lt, gI g2, gX 1]) ⟨.inr rfl, ⟨.inr rfl, ⟨.inr rfl, ⟨.inr rfl, ⟨.inl rfl, trivial⟩⟩⟩⟩⟩ ?_
                          exact ih_212 _ (by omega) lt g2 (q + 1) (-1) n rfl (by omega) (by omega) (by exact hlt) (by omega) (by exact hg2) (by first | (have := (ewu ()).1 (by omega); omega) | (have := (ewu ()).2 (by omega); omega)) (by first | (have := (enu ()).1 (by omega); omega) | (have := (enu ()).2 (by omega); omega)) (by first | (have := e7s () (by omega); omega) | (have := e78 () (by omega); omega)) (by first | (have := e1s () (by omega); omega) | omega)
                        · skip
                          refine w_aload_n (pc' := 325) (i := 0) (by rfl) (by rfl) dX12_go_324 rfl ?_
                          refine w_bipush (pc' := 327) (by decide) (by decide) dX12_go_325 rfl ?_
                          refine w_aload_n (pc' := 328) (i := 0) (by rfl) (by rfl) dX12_go_327 rfl ?_
                          refine v_getI (pc' := 331) (ji := 58) rfl fg_X12_397 kd_133 dX12_go_328 rfl ?_
                          show Wp _ _ _ _ _ _ [gI n, gI 10, gR 133]
                          refine v_imul (pc' := 332) (by have := e1s () (by omega); omega) dX12_go_331 rfl ?_
                          refine w_iload (pc' := 334) (by rfl) dX12_go_332 rfl ?_
                          refine v_iadd (pc' := 335) (by first | (have := e7s () (by omega); omega) | (have := e1s () (by omega); omega)) dX12_go_334 rfl ?_
                          refine w_bipush (pc' := 337) (by decide) (by decide) dX12_go_335 rfl ?_
                          refine v_isub (pc' := 338) (by first | (have := e7s () (by omega); omega) | (have := e1s () (by omega); omega)) dX12_go_337 rfl ?_
                          refine v_putI (pc' := 341) (ji := 58) rfl fp_X12_397 kd_133 sf_X12_58 dX12_go_338 rfl ?_
                          refine Wp.heq (σ' := gUp (gUp (gUp (gUp σ 133 55 q) 133 56 a) 133 63 (-1)) 133 58 (((10 * n) + (σ 134 q)) - 48)) gUp_same ?_
                          refine w_aload_n (pc' := 342) (i := 0) (by rfl) (by rfl) dX12_go_341 rfl ?_
                          refine w_dup (pc' := 343) dX12_go_342 rfl ?_
                          refine v_getI (pc' := 346) (ji := 55) rfl fg_X12_379 kd_133 dX12_go_343 rfl ?_
                          show Wp _ _ _ _ _ _ [gI q, gR 133]
                          refine w_iconst (pc' := 347) (by decide) dX12_go_346 rfl ?_
                          refine v_iadd (pc' := 348) (by omega) dX12_go_347 rfl ?_
                          refine v_putI (pc' := 351) (ji := 55) rfl fp_X12_379 kd_133 sf_X12_55 dX12_go_348 rfl ?_
                          refine Wp.heq (σ' := gUp (gUp (gUp (gUp σ 133 55 (q + 1)) 133 56 a) 133 63 (-1)) 133 58 (((10 * n) + (σ 134 q)) - 48)) ((gUp_ci (by decide)).trans (congrArg (fun z => gUp z 133 58 (((10 * n) + (σ 134 q)) - 48)) ((gUp_ci (by decide)).trans (congrArg (fun z => gUp z 133 63 (-1)) ((gUp_ci (by decide)).trans (congrArg (fun z => gUp z 133 56 a) gUp_same)))))) ?_
                          refine w_goto (pc' := 212) dX12_go_351 rfl ?_
                          refine Wp.lose (ls' := [gR 133, gI (σ 134 a), gI lt, gI g2, gX 1]) ⟨.inr rfl, ⟨.inr rfl, ⟨.inr rfl, ⟨.inr rfl, ⟨.inl rfl, trivial⟩⟩⟩⟩⟩ ?_
                          exact ih_212 _ (by omega) lt g2 (q + 1) (-1) (((10 * n) + (σ 134 q)) - 48) rfl (by omega) (by omega) (by exact hlt) (by omega) (by exact hg2) (by first | (have := (ewu ()).1 (by omega); omega) | (have := (ewu ()).2 (by omega); omega)) (by first | (have := (enu ()).1 (by omega); omega) | (have := (enu ()).2 (by omega); omega)) (by first | (have := e7s () (by omega); omega) | (have := e78 () (by omega); omega)) (by first | (have := e1s () (by omega); omega) | omega)
                      · skip
                        refine w_ldc2 (pc' := 288) (by decide) ct_X12_265 dX12_go_285 rfl ?_
                        refine w_aload_n (pc' := 289) (i := 0) (by rfl) (by rfl) dX12_go_288 rfl ?_
                        refine v_getJ (pc' := 292) (ji := 63) rfl fg_X12_394 kd_133 dX12_go_289 rfl ?_
                        show Wp _ _ _ _ _ _ [gJ w, gJ 27, gR 133]
                        refine v_lmul (pc' := 293) (by first | (have := e7s () (by omega); omega)) dX12_go_292 rfl ?_
                        refine w_iload (pc' := 295) (by rfl) dX12_go_293 rfl ?_
                        refine w_i2l (pc' := 296) dX12_go_295 rfl ?_
                        refine v_ladd (pc' := 297) (by first | (have := e7s () (by omega); omega) | (have := e1s () (by omega); omega)) dX12_go_296 rfl ?_
                        refine w_ldc2 (pc' := 300) (by decide) ct_X12_267 dX12_go_297 rfl ?_
                        refine v_lsub (pc' := 301) (by first | (have := e7s () (by omega); omega) | (have := e1s () (by omega); omega)) dX12_go_300 rfl ?_
                        refine w_goto (pc' := 307) dX12_go_301 rfl ?_
                        refine v_putJ (pc' := 310) (ji := 63) rfl fp_X12_394 kd_133 sf_X12_63 dX12_go_307 rfl ?_
                        refine Wp.heq (σ' := gUp (gUp (gUp (gUp σ 133 55 q) 133 56 a) 133 63 (((27 * w) + (σ 134 q)) - 96)) 133 58 n) ((gUp_ci (by decide)).trans (congrArg (fun z => gUp z 133 58 n) gUp_same)) ?_
                        refine w_aload_n (pc' := 311) (i := 0) (by rfl) (by rfl) dX12_go_310 rfl ?_
                        refine v_getI (pc' := 314) (ji := 55) rfl fg_X12_379 kd_133 dX12_go_311 rfl ?_
                        show Wp _ _ _ _ _ _ [gI q]
                        refine w_aload_n (pc' := 315) (i := 0) (by rfl) (by rfl) dX12_go_314 rfl ?_
                        refine v_getI (pc' := 318) (ji := 56) rfl fg_X12_382 kd_133 dX12_go_315 rfl ?_
                        show Wp _ _ _ _ _ _ [gI a, gI q]
                        refine v_isub (pc' := 319) (by omega) dX12_go_318 rfl ?_
                        refine w_bipush (pc' := 321) (by decide) (by decide) dX12_go_319 rfl ?_
                        refine w_icmp_ge (pc' := 324) (t := 341) dX12_go_321 rfl rfl (fun c_321 => ?_) (fun c_321 => ?_)
                        · skip
                          refine w_aload_n (pc' := 342) (i := 0) (by rfl) (by rfl) dX12_go_341 rfl ?_
                          refine w_dup (pc' := 343) dX12_go_342 rfl ?_
                          refine v_getI (pc' := 346) (ji := 55) rfl fg_X12_379 kd_133 dX12_go_343 rfl ?_
                          show Wp _ _ _ _ _ _ [gI q, gR 133]
                          refine w_iconst (pc' := 347) (by decide) dX12_go_346 rfl ?_
                          refine v_iadd (pc' := 348) (by omega) dX12_go_347 rfl ?_
                          refine v_putI (pc' := 351) (ji := 55) rfl fp_X12_379 kd_133 sf_X12_55 dX12_go_348 rfl ?_
                          refine Wp.heq (σ' := gUp (gUp (gUp (gUp σ 133 55 (q + 1)) 133 56 a) 133 63 (((27 * w) + (σ 134 q)) - 96)) 133 58 n) ((gUp_ci (by decide)).trans (congrArg (fun z => gUp z 133 58 n) ((gUp_ci (by decide)).trans (congrArg (fun z => gUp z 133 63 (((27 * w) + (σ 134 q)) - 96)) ((gUp_ci (by decide)).trans (congrArg (fun z => gUp z 133 56 a) gUp_same)))))) ?_
                          refine w_goto (pc' := 212) dX12_go_351 rfl ?_
                          refine Wp.lose (ls' := [gR 133, gI (σ 134 a), gI lt, gI g2, gX 1]) ⟨.inr rfl, ⟨.inr rfl, ⟨.inr rfl, ⟨.inr rfl, ⟨.inl rfl, trivial⟩⟩⟩⟩⟩ ?_
                          exact ih_212 _ (by omega) lt g2 (q + 1) (((27 * w) + (σ 134 q)) - 96) n rfl (by omega) (by omega) (by exact hlt) (by omega) (by exact hg2) (by first | (have := (ewu ()).1 (by omega); omega) | (have := (ewu ()).2 (by omega); omega)) (by first | (have := (enu ()).1 (by omega); omega) | (have := (enu ()).2 (by omega); omega)) (by first | (have := e7s () (by omega); omega) | (have := e78 () (by omega); omega)) (by first | (have := e1s () (by omega); omega) | omega)
                        · skip
                          refine w_aload_n (pc' := 325) (i := 0) (by rfl) (by rfl) dX12_go_324 rfl ?_
                          refine w_bipush (pc' := 327) (by decide) (by decide) dX12_go_325 rfl ?_
                          refine w_aload_n (pc' := 328) (i := 0) (by rfl) (by rfl) dX12_go_327 rfl ?_
                          refine v_getI (pc' := 331) (ji := 58) rfl fg_X12_397 kd_133 dX12_go_328 rfl ?_
                          show Wp _ _ _ _ _ _ [gI n, gI 10, gR 133]
                          refine v_imul (pc' := 332) (by have := e1s () (by omega); omega) dX12_go_331 rfl ?_
                          refine w_iload (pc' := 334) (by rfl) dX12_go_332 rfl ?_
                          refine v_iadd (pc' := 335) (by first | (have := e7s () (by omega); omega) | (have := e1s () (by omega); omega)) dX12_go_334 rfl ?_
                          refine w_bipush (pc' := 337) (by decide) (by decide) dX12_go_335 rfl ?_
                          refine v_isub (pc' := 338) (by first | (have := e7s () (by omega); omega) | (have := e1s () (by omega); omega)) dX12_go_337 rfl ?_
                          refine v_putI (pc' := 341) (ji := 58) rfl fp_X12_397 kd_133 sf_X12_58 dX12_go_338 rfl ?_
                          refine Wp.heq (σ' := gUp (gUp (gUp (gUp σ 133 55 q) 133 56 a) 133 63 (((27 * w) + (σ 134 q)) - 96)) 133 58 (((10 * n) + (σ 134 q)) - 48)) gUp_same ?_
                          refine w_aload_n (pc' := 342) (i := 0) (by rfl) (by rfl) dX12_go_341 rfl ?_
                          refine w_dup (pc' := 343) dX12_go_342 rfl ?_
                          refine v_getI (pc' := 346) (ji := 55) rfl fg_X12_379 kd_133 dX12_go_343 rfl ?_
                          show Wp _ _ _ _ _ _ [gI q, gR 133]
                          refine w_iconst (pc' := 347) (by decide) dX12_go_346 rfl ?_
                          refine v_iadd (pc' := 348) (by omega) dX12_go_347 rfl ?_
                          refine v_putI (pc' := 351) (ji := 55) rfl fp_X12_379 kd_133 sf_X12_55 dX12_go_348 rfl ?_
                          refine Wp.heq (σ' := gUp (gUp (gUp (gUp σ 133 55 (q + 1)) 133 56 a) 133 63 (((27 * w) + (σ 134 q)) - 96)) 133 58 (((10 * n) + (σ 134 q)) - 48)) ((gUp_ci (by decide)).trans (congrArg (fun z => gUp z 133 58 (((10 * n) + (σ 134 q)) - 48)) ((gUp_ci (by decide)).trans (congrArg (fun z => gUp z 133 63 (((27 * w) + (σ 134 q)) - 96)) ((gUp_ci (by decide)).trans (congrArg (fun z => gUp z 133 56 a) gUp_same)))))) ?_
                          refine w_goto (pc' := 212) dX12_go_351 rfl ?_
                          refine Wp.lose (ls' := [gR 133, gI (σ 134 a), gI lt, gI g2, gX 1]) ⟨.inr rfl, ⟨.inr rfl, ⟨.inr rfl, ⟨.inr rfl, ⟨.inl rfl, trivial⟩⟩⟩⟩⟩ ?_
                          exact ih_212 _ (by omega) lt g2 (q + 1) (((27 * w) + (σ 134 q)) - 96) (((10 * n) + (σ 134 q)) - 48) rfl (by omega) (by omega) (by exact hlt) (by omega) (by exact hg2) (by first | (have := (ewu ()).1 (by omega); omega) | (have := (ewu ()).2 (by omega); omega)) (by first | (have := (enu ()).1 (by omega); omega) | (have := (enu ()).2 (by omega); omega)) (by first | (have := e7s () (by omega); omega) | (have := e78 () (by omega); omega)) (by first | (have := e1s () (by omega); omega) | omega)
                    refine w_iload_n (pc' := 252) (i := 3) (by rfl) (by rfl) dX12_go_251 rfl ?_
                    refine w_if_eq (pc' := 255) (t := 268) dX12_go_252 rfl rfl (fun c_252 => ?_) (fun c_252 => ?_)
                    · skip
                      refine w_iconst (pc' := 269) (by decide) dX12_go_268 rfl ?_
                      exact hj_269 0 (by omega) (GDR_s hG q0 hx_240.2 (by have := hgb (); have := hlt (); omega))
                    · skip
                      refine w_iload (pc' := 257) (by rfl) dX12_go_255 rfl ?_
                      refine v_callSE (pc' := 260) (st' := [gI (gb (97 ≤ (σ 134 q) ∧ (σ 134 q) ≤ 122))]) (d' := 0) (av := [gI (σ 134 q)]) ms_mX12_isLetter st_mX12_isLetter lk_X12_261 rfl rfl (Nat.le_of_ble_eq_true rfl) (Nat.le_of_ble_eq_true rfl) dX12_go_257 rfl rfl (mo_isLetter (gUp (gUp (gUp (gUp σ 133 55 q) 133 56 a) 133 63 w) 133 58 n) (σ 134 q)) ?_
                      refine w_iload_n (pc' := 261) (i := 2) (by rfl) (by rfl) dX12_go_260 rfl ?_
                      refine w_icmp_ne (pc' := 264) (t := 268) dX12_go_261 rfl rfl (fun c_261 => ?_) (fun c_261 => ?_)
                      · skip
                        refine w_iconst (pc' := 269) (by decide) dX12_go_268 rfl ?_
                        exact hj_269 0 (by omega) (GDR_s hG q0 hx_240.2 (by have := hgb (); have := hlt (); omega))
                      · skip
                        refine w_iconst (pc' := 265) (by decide) dX12_go_264 rfl ?_
                        refine w_goto (pc' := 269) dX12_go_265 rfl ?_
                        exact hj_269 1 (by omega) (GDR_s hG q0 hx_240.2 (by have := hgb (); have := hlt (); omega))
                  refine v_if_neB (pc' := 226) (t := 240) dX12_go_223 rfl rfl (fun c_223 => ?_) (fun c_223 => ?_)
                  · skip
                    exact hj_240 (by have := hby (); omega)
                  · skip
                    refine w_aload_n (pc' := 227) (i := 0) (by rfl) (by rfl) dX12_go_226 rfl ?_
                    refine w_aload_n (pc' := 228) (i := 0) (by rfl) (by rfl) dX12_go_227 rfl ?_
                    refine v_getI (pc' := 231) (ji := 55) rfl fg_X12_379 kd_133 dX12_go_228 rfl ?_
                    show Wp _ _ _ _ _ _ [gI q, gR 133]
                    refine v_callVE (pc' := 234) (st' := [gI (BYT (σ 134) (σ 133 54) q)]) (d' := 0) (av := [gI q]) mi_mX12_byteAt lk_X12_400 rfl ci_X12 kd_133 rfl (Nat.le_of_ble_eq_true rfl) (Nat.le_of_ble_eq_true rfl) dX12_go_231 rfl rfl (mg_byteAt (gUp (gUp (gUp (gUp σ 133 55 q) 133 56 a) 133 63 w) 133 58 n) q (by omega) hL) ?_
                    refine v_callSE (pc' := 237) (st' := [gI (gb (48 ≤ (BYT (σ 134) (σ 133 54) q) ∧ (BYT (σ 134) (σ 133 54) q) ≤ 57))]) (d' := 0) (av := [gI (BYT (σ 134) (σ 133 54) q)]) ms_mX12_isDigit st_mX12_isDigit lk_X12_388 rfl rfl (Nat.le_of_ble_eq_true rfl) (Nat.le_of_ble_eq_true rfl) dX12_go_234 rfl rfl (mg_isDigit (gUp (gUp (gUp (gUp σ 133 55 q) 133 56 a) 133 63 w) 133 58 n) (BYT (σ 134) (σ 133 54) q)) ?_
                    refine v_if_eqB (pc' := 240) (t := 354) dX12_go_237 rfl rfl (fun c_237 => ?_) (fun c_237 => ?_)
                    · skip
                      exact hj_354 ⟨fun _ h => by have := hby (); omega, fun _ => by have := hby (); (by_cases e : q = a; (exfalso; have e2 : σ 134 q = σ 134 a := (by rw [e]); omega); omega)⟩
                    · skip
                      exact hj_240 (by have := hby (); omega)
              exact hl_212 _ (gb (97 ≤ (σ 134 a) ∧ (σ 134 a) ≤ 122)) 1 a 0 0 rfl (by omega) (by omega) (by exact fun _ => gb_cs _) (by omega) (by exact ⟨fun i x y => by omega, Or.inl ⟨rfl, fun i x y => by omega⟩⟩) (by rw [show a - a = 0 by omega]; rfl) (by rw [show a - a = 0 by omega]; rfl) (by rw [show a - a = 0 by omega]; decide) (by rw [show a - a = 0 by omega]; decide)
            refine v_if_neB (pc' := 127) (t := 195) dX12_go_124 rfl rfl (fun c_124 => ?_) (fun c_124 => ?_)
            · skip
              exact hj_195 (by omega)
            · skip
              refine w_iload_n (pc' := 128) (i := 1) (by rfl) (by rfl) dX12_go_127 rfl ?_
              refine v_callSE (pc' := 131) (st' := [gI (gb (48 ≤ (σ 134 a) ∧ (σ 134 a) ≤ 57))]) (d' := 0) (av := [gI (σ 134 a)]) ms_mX12_isDigit st_mX12_isDigit lk_X12_388 rfl rfl (Nat.le_of_ble_eq_true rfl) (Nat.le_of_ble_eq_true rfl) dX12_go_128 rfl rfl (mg_isDigit (gUp (gUp σ 133 55 a) 133 56 a) (σ 134 a)) ?_
              refine v_if_neB (pc' := 134) (t := 195) dX12_go_131 rfl rfl (fun c_131 => ?_) (fun c_131 => ?_)
              · skip
                exact hj_195 (by omega)
              · skip
                refine w_aload_n (pc' := 135) (i := 0) (by rfl) (by rfl) dX12_go_134 rfl ?_
                refine w_iload_n (pc' := 136) (i := 1) (by rfl) (by rfl) dX12_go_135 rfl ?_
                refine w_bipush (pc' := 138) (by decide) (by decide) dX12_go_136 rfl ?_
                refine w_icmp_eq (pc' := 141) (t := 171) dX12_go_138 rfl rfl (fun c_138 => ?_) (fun c_138 => ?_)
                · skip
                  refine w_iconst (pc' := 172) (by decide) dX12_go_171 rfl ?_
                  refine w_goto (pc' := 176) dX12_go_172 rfl ?_
                  refine v_putI (pc' := 179) (ji := 57) rfl fp_X12_385 kd_133 sf_X12_57 dX12_go_176 rfl ?_
                  refine w_aload_n (pc' := 180) (i := 0) (by rfl) (by rfl) dX12_go_179 rfl ?_
                  refine w_iload_n (pc' := 181) (i := 1) (by rfl) (by rfl) dX12_go_180 rfl ?_
                  refine v_putI (pc' := 184) (ji := 59) rfl fp_X12_391 kd_133 sf_X12_59 dX12_go_181 rfl ?_
                  refine w_aload_n (pc' := 185) (i := 0) (by rfl) (by rfl) dX12_go_184 rfl ?_
                  refine w_dup (pc' := 186) dX12_go_185 rfl ?_
                  refine v_getI (pc' := 189) (ji := 55) rfl fg_X12_379 kd_133 dX12_go_186 rfl ?_
                  show Wp _ _ _ _ _ _ [gI a, gR 133]
                  refine w_iconst (pc' := 190) (by decide) dX12_go_189 rfl ?_
                  refine v_iadd (pc' := 191) (by omega) dX12_go_190 rfl ?_
                  refine v_putI (pc' := 194) (ji := 55) rfl fp_X12_379 kd_133 sf_X12_55 dX12_go_191 rfl ?_
                  refine Wp.heq (σ' := gUp (gUp (gUp (gUp σ 133 55 (a + 1)) 133 56 a) 133 57 4) 133 59 (σ 134 a)) ((gUp_ci (by decide)).trans (congrArg (fun z => gUp z 133 59 (σ 134 a)) ((gUp_ci (by decide)).trans (congrArg (fun z => gUp z 133 57 4) ((gUp_ci (by decide)).trans (congrArg (fun z => gUp z 133 56 a) gUp_same)))))) ?_
                  refine w_return rfl dX12_go_194 ?_
                  refine ⟨rfl, ((((KG.refl.up (k := 133) (i := 55) (v := (a + 1)) rfl).up (k := 133) (i := 56) (v := a) rfl).up (k := 133) (i := 57) (v := 4) rfl).up (k := 133) (i := 59) (v := (σ 134 a)) rfl), ?_⟩
                  have hE9 := hED ()
                  exact ⟨a, a + 1, (σ 134) a, -1, Or.inr ⟨hb, a0, by omega, by omega, Or.inr ⟨by omega, rfl, rfl, Or.inl ⟨by omega, rfl⟩⟩⟩, rfl, Or.inr ⟨rfl, Or.inr (Or.inr (Or.inr ⟨by omega, rfl, rfl⟩))⟩⟩
                · skip
                  refine w_iload_n (pc' := 142) (i := 1) (by rfl) (by rfl) dX12_go_141 rfl ?_
                  refine w_bipush (pc' := 144) (by decide) (by decide) dX12_go_142 rfl ?_
                  refine w_icmp_eq (pc' := 147) (t := 171) dX12_go_144 rfl rfl (fun c_144 => ?_) (fun c_144 => ?_)
                  · skip
                    refine w_iconst (pc' := 172) (by decide) dX12_go_171 rfl ?_
                    refine w_goto (pc' := 176) dX12_go_172 rfl ?_
                    refine v_putI (pc' := 179) (ji := 57) rfl fp_X12_385 kd_133 sf_X12_57 dX12_go_176 rfl ?_
                    refine w_aload_n (pc' := 180) (i := 0) (by rfl) (by rfl) dX12_go_179 rfl ?_
                    refine w_iload_n (pc' := 181) (i := 1) (by rfl) (by rfl) dX12_go_180 rfl ?_
                    refine v_putI (pc' := 184) (ji := 59) rfl fp_X12_391 kd_133 sf_X12_59 dX12_go_181 rfl ?_
                    refine w_aload_n (pc' := 185) (i := 0) (by rfl) (by rfl) dX12_go_184 rfl ?_
                    refine w_dup (pc' := 186) dX12_go_185 rfl ?_
                    refine v_getI (pc' := 189) (ji := 55) rfl fg_X12_379 kd_133 dX12_go_186 rfl ?_
                    show Wp _ _ _ _ _ _ [gI a, gR 133]
                    refine w_iconst (pc' := 190) (by decide) dX12_go_189 rfl ?_
                    refine v_iadd (pc' := 191) (by omega) dX12_go_190 rfl ?_
                    refine v_putI (pc' := 194) (ji := 55) rfl fp_X12_379 kd_133 sf_X12_55 dX12_go_191 rfl ?_
                    refine Wp.heq (σ' := gUp (gUp (gUp (gUp σ 133 55 (a + 1)) 133 56 a) 133 57 4) 133 59 (σ 134 a)) ((gUp_ci (by decide)).trans (congrArg (fun z => gUp z 133 59 (σ 134 a)) ((gUp_ci (by decide)).trans (congrArg (fun z => gUp z 133 57 4) ((gUp_ci (by decide)).trans (congrArg (fun z => gUp z 133 56 a) gUp_same)))))) ?_
                    refine w_return rfl dX12_go_194 ?_
                    refine ⟨rfl, ((((KG.refl.up (k := 133) (i := 55) (v := (a + 1)) rfl).up (k := 133) (i := 56) (v := a) rfl).up (k := 133) (i := 57) (v := 4) rfl).up (k := 133) (i := 59) (v := (σ 134 a)) rfl), ?_⟩
                    have hE9 := hED ()
                    exact ⟨a, a + 1, (σ 134) a, -1, Or.inr ⟨hb, a0, by omega, by omega, Or.inr ⟨by omega, rfl, rfl, Or.inl ⟨by omega, rfl⟩⟩⟩, rfl, Or.inr ⟨rfl, Or.inr (Or.inr (Or.inr ⟨by omega, rfl, rfl⟩))⟩⟩
                  · skip
                    refine w_iload_n (pc' := 148) (i := 1) (by rfl) (by rfl) dX12_go_147 rfl ?_
                    refine w_bipush (pc' := 150) (by decide) (by decide) dX12_go_148 rfl ?_
                    refine w_icmp_eq (pc' := 153) (t := 171) dX12_go_150 rfl rfl (fun c_150 => ?_) (fun c_150 => ?_)
                    · skip
                      refine w_iconst (pc' := 172) (by decide) dX12_go_171 rfl ?_
                      refine w_goto (pc' := 176) dX12_go_172 rfl ?_
                      refine v_putI (pc' := 179) (ji := 57) rfl fp_X12_385 kd_133 sf_X12_57 dX12_go_176 rfl ?_
                      refine w_aload_n (pc' := 180) (i := 0) (by rfl) (by rfl) dX12_go_179 rfl ?_
                      refine w_iload_n (pc' := 181) (i := 1) (by rfl) (by rfl) dX12_go_180 rfl ?_
                      refine v_putI (pc' := 184) (ji := 59) rfl fp_X12_391 kd_133 sf_X12_59 dX12_go_181 rfl ?_
                      refine w_aload_n (pc' := 185) (i := 0) (by rfl) (by rfl) dX12_go_184 rfl ?_
                      refine w_dup (pc' := 186) dX12_go_185 rfl ?_
                      refine v_getI (pc' := 189) (ji := 55) rfl fg_X12_379 kd_133 dX12_go_186 rfl ?_
                      show Wp _ _ _ _ _ _ [gI a, gR 133]
                      refine w_iconst (pc' := 190) (by decide) dX12_go_189 rfl ?_
                      refine v_iadd (pc' := 191) (by omega) dX12_go_190 rfl ?_
                      refine v_putI (pc' := 194) (ji := 55) rfl fp_X12_379 kd_133 sf_X12_55 dX12_go_191 rfl ?_
                      refine Wp.heq (σ' := gUp (gUp (gUp (gUp σ 133 55 (a + 1)) 133 56 a) 133 57 4) 133 59 (σ 134 a)) ((gUp_ci (by decide)).trans (congrArg (fun z => gUp z 133 59 (σ 134 a)) ((gUp_ci (by decide)).trans (congrArg (fun z => gUp z 133 57 4) ((gUp_ci (by decide)).trans (congrArg (fun z => gUp z 133 56 a) gUp_same)))))) ?_
                      refine w_return rfl dX12_go_194 ?_
                      refine ⟨rfl, ((((KG.refl.up (k := 133) (i := 55) (v := (a + 1)) rfl).up (k := 133) (i := 56) (v := a) rfl).up (k := 133) (i := 57) (v := 4) rfl).up (k := 133) (i := 59) (v := (σ 134 a)) rfl), ?_⟩
                      have hE9 := hED ()
                      exact ⟨a, a + 1, (σ 134) a, -1, Or.inr ⟨hb, a0, by omega, by omega, Or.inr ⟨by omega, rfl, rfl, Or.inl ⟨by omega, rfl⟩⟩⟩, rfl, Or.inr ⟨rfl, Or.inr (Or.inr (Or.inr ⟨by omega, rfl, rfl⟩))⟩⟩
                    · skip
                      refine w_iload_n (pc' := 154) (i := 1) (by rfl) (by rfl) dX12_go_153 rfl ?_
                      refine w_bipush (pc' := 156) (by decide) (by decide) dX12_go_154 rfl ?_
                      refine w_icmp_eq (pc' := 159) (t := 171) dX12_go_156 rfl rfl (fun c_156 => ?_) (fun c_156 => ?_)
                      · skip
                        refine w_iconst (pc' := 172) (by decide) dX12_go_171 rfl ?_
                        refine w_goto (pc' := 176) dX12_go_172 rfl ?_
                        refine v_putI (pc' := 179) (ji := 57) rfl fp_X12_385 kd_133 sf_X12_57 dX12_go_176 rfl ?_
                        refine w_aload_n (pc' := 180) (i := 0) (by rfl) (by rfl) dX12_go_179 rfl ?_
                        refine w_iload_n (pc' := 181) (i := 1) (by rfl) (by rfl) dX12_go_180 rfl ?_
                        refine v_putI (pc' := 184) (ji := 59) rfl fp_X12_391 kd_133 sf_X12_59 dX12_go_181 rfl ?_
                        refine w_aload_n (pc' := 185) (i := 0) (by rfl) (by rfl) dX12_go_184 rfl ?_
                        refine w_dup (pc' := 186) dX12_go_185 rfl ?_
                        refine v_getI (pc' := 189) (ji := 55) rfl fg_X12_379 kd_133 dX12_go_186 rfl ?_
                        show Wp _ _ _ _ _ _ [gI a, gR 133]
                        refine w_iconst (pc' := 190) (by decide) dX12_go_189 rfl ?_
                        refine v_iadd (pc' := 191) (by omega) dX12_go_190 rfl ?_
                        refine v_putI (pc' := 194) (ji := 55) rfl fp_X12_379 kd_133 sf_X12_55 dX12_go_191 rfl ?_
                        refine Wp.heq (σ' := gUp (gUp (gUp (gUp σ 133 55 (a + 1)) 133 56 a) 133 57 4) 133 59 (σ 134 a)) ((gUp_ci (by decide)).trans (congrArg (fun z => gUp z 133 59 (σ 134 a)) ((gUp_ci (by decide)).trans (congrArg (fun z => gUp z 133 57 4) ((gUp_ci (by decide)).trans (congrArg (fun z => gUp z 133 56 a) gUp_same)))))) ?_
                        refine w_return rfl dX12_go_194 ?_
                        refine ⟨rfl, ((((KG.refl.up (k := 133) (i := 55) (v := (a + 1)) rfl).up (k := 133) (i := 56) (v := a) rfl).up (k := 133) (i := 57) (v := 4) rfl).up (k := 133) (i := 59) (v := (σ 134 a)) rfl), ?_⟩
                        have hE9 := hED ()
                        exact ⟨a, a + 1, (σ 134) a, -1, Or.inr ⟨hb, a0, by omega, by omega, Or.inr ⟨by omega, rfl, rfl, Or.inl ⟨by omega, rfl⟩⟩⟩, rfl, Or.inr ⟨rfl, Or.inr (Or.inr (Or.inr ⟨by omega, rfl, rfl⟩))⟩⟩
                      · skip
                        refine w_iload_n (pc' := 160) (i := 1) (by rfl) (by rfl) dX12_go_159 rfl ?_
                        refine w_bipush (pc' := 162) (by decide) (by decide) dX12_go_160 rfl ?_
                        refine w_icmp_eq (pc' := 165) (t := 171) dX12_go_162 rfl rfl (fun c_162 => ?_) (fun c_162 => ?_)
                        · skip
                          refine w_iconst (pc' := 172) (by decide) dX12_go_171 rfl ?_
                          refine w_goto (pc' := 176) dX12_go_172 rfl ?_
                          refine v_putI (pc' := 179) (ji := 57) rfl fp_X12_385 kd_133 sf_X12_57 dX12_go_176 rfl ?_
                          refine w_aload_n (pc' := 180) (i := 0) (by rfl) (by rfl) dX12_go_179 rfl ?_
                          refine w_iload_n (pc' := 181) (i := 1) (by rfl) (by rfl) dX12_go_180 rfl ?_
                          refine v_putI (pc' := 184) (ji := 59) rfl fp_X12_391 kd_133 sf_X12_59 dX12_go_181 rfl ?_
                          refine w_aload_n (pc' := 185) (i := 0) (by rfl) (by rfl) dX12_go_184 rfl ?_
                          refine w_dup (pc' := 186) dX12_go_185 rfl ?_
                          refine v_getI (pc' := 189) (ji := 55) rfl fg_X12_379 kd_133 dX12_go_186 rfl ?_
                          show Wp _ _ _ _ _ _ [gI a, gR 133]
                          refine w_iconst (pc' := 190) (by decide) dX12_go_189 rfl ?_
                          refine v_iadd (pc' := 191) (by omega) dX12_go_190 rfl ?_
                          refine v_putI (pc' := 194) (ji := 55) rfl fp_X12_379 kd_133 sf_X12_55 dX12_go_191 rfl ?_
                          refine Wp.heq (σ' := gUp (gUp (gUp (gUp σ 133 55 (a + 1)) 133 56 a) 133 57 4) 133 59 (σ 134 a)) ((gUp_ci (by decide)).trans (congrArg (fun z => gUp z 133 59 (σ 134 a)) ((gUp_ci (by decide)).trans (congrArg (fun z => gUp z 133 57 4) ((gUp_ci (by decide)).trans (congrArg (fun z => gUp z 133 56 a) gUp_same)))))) ?_
                          refine w_return rfl dX12_go_194 ?_
                          refine ⟨rfl, ((((KG.refl.up (k := 133) (i := 55) (v := (a + 1)) rfl).up (k := 133) (i := 56) (v := a) rfl).up (k := 133) (i := 57) (v := 4) rfl).up (k := 133) (i := 59) (v := (σ 134 a)) rfl), ?_⟩
                          have hE9 := hED ()
                          exact ⟨a, a + 1, (σ 134) a, -1, Or.inr ⟨hb, a0, by omega, by omega, Or.inr ⟨by omega, rfl, rfl, Or.inl ⟨by omega, rfl⟩⟩⟩, rfl, Or.inr ⟨rfl, Or.inr (Or.inr (Or.inr ⟨by omega, rfl, rfl⟩))⟩⟩
                        · skip
                          refine w_iload_n (pc' := 166) (i := 1) (by rfl) (by rfl) dX12_go_165 rfl ?_
                          refine w_bipush (pc' := 168) (by decide) (by decide) dX12_go_166 rfl ?_
                          refine w_icmp_ne (pc' := 171) (t := 175) dX12_go_168 rfl rfl (fun c_168 => ?_) (fun c_168 => ?_)
                          · skip
                            refine w_iconst (pc' := 176) (by decide) dX12_go_175 rfl ?_
                            refine v_putI (pc' := 179) (ji := 57) rfl fp_X12_385 kd_133 sf_X12_57 dX12_go_176 rfl ?_
                            refine w_aload_n (pc' := 180) (i := 0) (by rfl) (by rfl) dX12_go_179 rfl ?_
                            refine w_iload_n (pc' := 181) (i := 1) (by rfl) (by rfl) dX12_go_180 rfl ?_
                            refine v_putI (pc' := 184) (ji := 59) rfl fp_X12_391 kd_133 sf_X12_59 dX12_go_181 rfl ?_
                            refine w_aload_n (pc' := 185) (i := 0) (by rfl) (by rfl) dX12_go_184 rfl ?_
                            refine w_dup (pc' := 186) dX12_go_185 rfl ?_
                            refine v_getI (pc' := 189) (ji := 55) rfl fg_X12_379 kd_133 dX12_go_186 rfl ?_
                            show Wp _ _ _ _ _ _ [gI a, gR 133]
                            refine w_iconst (pc' := 190) (by decide) dX12_go_189 rfl ?_
                            refine v_iadd (pc' := 191) (by omega) dX12_go_190 rfl ?_
                            refine v_putI (pc' := 194) (ji := 55) rfl fp_X12_379 kd_133 sf_X12_55 dX12_go_191 rfl ?_
                            refine Wp.heq (σ' := gUp (gUp (gUp (gUp σ 133 55 (a + 1)) 133 56 a) 133 57 1) 133 59 (σ 134 a)) ((gUp_ci (by decide)).trans (congrArg (fun z => gUp z 133 59 (σ 134 a)) ((gUp_ci (by decide)).trans (congrArg (fun z => gUp z 133 57 1) ((gUp_ci (by decide)).trans (congrArg (fun z => gUp z 133 56 a) gUp_same)))))) ?_
                            refine w_return rfl dX12_go_194 ?_
                            refine ⟨rfl, ((((KG.refl.up (k := 133) (i := 55) (v := (a + 1)) rfl).up (k := 133) (i := 56) (v := a) rfl).up (k := 133) (i := 57) (v := 1) rfl).up (k := 133) (i := 59) (v := (σ 134 a)) rfl), ?_⟩
                            have hE9 := hED ()
                            exact ⟨a, a + 1, 1, -1, Or.inr ⟨hb, a0, by omega, by omega, Or.inr ⟨by omega, rfl, rfl, Or.inr ⟨by omega, rfl⟩⟩⟩, rfl, Or.inr ⟨rfl, Or.inl ⟨rfl, rfl⟩⟩⟩
                          · skip
                            refine w_iconst (pc' := 172) (by decide) dX12_go_171 rfl ?_
                            refine w_goto (pc' := 176) dX12_go_172 rfl ?_
                            refine v_putI (pc' := 179) (ji := 57) rfl fp_X12_385 kd_133 sf_X12_57 dX12_go_176 rfl ?_
                            refine w_aload_n (pc' := 180) (i := 0) (by rfl) (by rfl) dX12_go_179 rfl ?_
                            refine w_iload_n (pc' := 181) (i := 1) (by rfl) (by rfl) dX12_go_180 rfl ?_
                            refine v_putI (pc' := 184) (ji := 59) rfl fp_X12_391 kd_133 sf_X12_59 dX12_go_181 rfl ?_
                            refine w_aload_n (pc' := 185) (i := 0) (by rfl) (by rfl) dX12_go_184 rfl ?_
                            refine w_dup (pc' := 186) dX12_go_185 rfl ?_
                            refine v_getI (pc' := 189) (ji := 55) rfl fg_X12_379 kd_133 dX12_go_186 rfl ?_
                            show Wp _ _ _ _ _ _ [gI a, gR 133]
                            refine w_iconst (pc' := 190) (by decide) dX12_go_189 rfl ?_
                            refine v_iadd (pc' := 191) (by omega) dX12_go_190 rfl ?_
                            refine v_putI (pc' := 194) (ji := 55) rfl fp_X12_379 kd_133 sf_X12_55 dX12_go_191 rfl ?_
                            refine Wp.heq (σ' := gUp (gUp (gUp (gUp σ 133 55 (a + 1)) 133 56 a) 133 57 4) 133 59 (σ 134 a)) ((gUp_ci (by decide)).trans (congrArg (fun z => gUp z 133 59 (σ 134 a)) ((gUp_ci (by decide)).trans (congrArg (fun z => gUp z 133 57 4) ((gUp_ci (by decide)).trans (congrArg (fun z => gUp z 133 56 a) gUp_same)))))) ?_
                            refine w_return rfl dX12_go_194 ?_
                            refine ⟨rfl, ((((KG.refl.up (k := 133) (i := 55) (v := (a + 1)) rfl).up (k := 133) (i := 56) (v := a) rfl).up (k := 133) (i := 57) (v := 4) rfl).up (k := 133) (i := 59) (v := (σ 134 a)) rfl), ?_⟩
                            have hE9 := hED ()
                            exact ⟨a, a + 1, (σ 134) a, -1, Or.inr ⟨hb, a0, by omega, by omega, Or.inr ⟨by omega, rfl, rfl, Or.inl ⟨by omega, rfl⟩⟩⟩, rfl, Or.inr ⟨rfl, Or.inr (Or.inr (Or.inr ⟨by omega, rfl, rfl⟩))⟩⟩
          · skip
            refine w_aload_n (pc' := 105) (i := 0) (by rfl) (by rfl) dX12_go_104 rfl ?_
            refine w_iconst (pc' := 106) (by decide) dX12_go_105 rfl ?_
            refine v_putI (pc' := 109) (ji := 57) rfl fp_X12_385 kd_133 sf_X12_57 dX12_go_106 rfl ?_
            refine w_return rfl dX12_go_109 ?_
            refine ⟨rfl, (((KG.refl.up (k := 133) (i := 55) (v := a) rfl).up (k := 133) (i := 56) (v := a) rfl).up (k := 133) (i := 57) (v := 0) rfl), ?_⟩
            have hE9 := hED ()
            exact ⟨EDG (σ 133 54), EDG (σ 133 54), 0, -1, Or.inl ⟨fun i x y => hb i x (by omega), rfl, rfl, rfl, rfl⟩, (show a = _ by omega), Or.inl ⟨rfl, Or.inl ⟨by omega, rfl⟩⟩⟩
        · skip
          refine w_aload_n (pc' := 71) (i := 0) (by rfl) (by rfl) dX12_go_70 rfl ?_
          refine v_getI (pc' := 74) (ji := 56) rfl fg_X12_382 kd_133 dX12_go_71 rfl ?_
          show Wp _ _ _ _ _ _ [gI a]
          refine w_sipush (pc' := 77) (by decide) (by decide) dX12_go_74 rfl ?_
          refine w_icmp_lt (pc' := 80) (t := 93) dX12_go_77 rfl rfl (fun c_77 => ?_) (fun c_77 => ?_)
          · skip
            refine w_aload_n (pc' := 94) (i := 0) (by rfl) (by rfl) dX12_go_93 rfl ?_
            refine v_getI (pc' := 97) (ji := 55) rfl fg_X12_379 kd_133 dX12_go_94 rfl ?_
            show Wp _ _ _ _ _ _ [gI a]
            refine w_aload_n (pc' := 98) (i := 0) (by rfl) (by rfl) dX12_go_97 rfl ?_
            refine v_getI (pc' := 101) (ji := 54) rfl fg_X12_376 kd_133 dX12_go_98 rfl ?_
            show Wp _ _ _ _ _ _ [gI (σ 133 54), gI a]
            refine w_icmp_lt (pc' := 104) (t := 110) dX12_go_101 rfl rfl (fun c_101 => ?_) (fun c_101 => ?_)
            · skip
              refine w_aload_n (pc' := 111) (i := 0) (by rfl) (by rfl) dX12_go_110 rfl ?_
              refine w_getS (pc' := 114) (q := 134) fg_X12_7 kd_133 sf_X12_1 gr_133_1 dX12_go_111 rfl ?_
              refine w_aload_n (pc' := 115) (i := 0) (by rfl) (by rfl) dX12_go_114 rfl ?_
              refine v_getI (pc' := 118) (ji := 55) rfl fg_X12_379 kd_133 dX12_go_115 rfl ?_
              show Wp _ _ _ _ _ _ [gI a, gR 134]
              refine w_iald (pc' := 119) kd_134 (by omega) (by omega) dX12_go_118 rfl ?_
              show Wp _ _ _ _ _ _ [gI (σ 134 a)]
              refine w_istore_n (pc' := 120) (i := 1) (ls' := [gR 133, gI (σ 134 a), gX 1, gX 1, gX 1]) (by rfl) (by decide) (by rfl) dX12_go_119 rfl ?_
              refine w_iload_n (pc' := 121) (i := 1) (by rfl) (by rfl) dX12_go_120 rfl ?_
              refine v_callSE (pc' := 124) (st' := [gI (gb (97 ≤ (σ 134 a) ∧ (σ 134 a) ≤ 122))]) (d' := 0) (av := [gI (σ 134 a)]) ms_mX12_isLetter st_mX12_isLetter lk_X12_261 rfl rfl (Nat.le_of_ble_eq_true rfl) (Nat.le_of_ble_eq_true rfl) dX12_go_121 rfl rfl (mo_isLetter (gUp (gUp σ 133 55 a) 133 56 a) (σ 134 a)) ?_
              have hj_195 : (pln ((σ 134) a)) → Wp mX12_go 1 (fun v σ' => v = gX 1 ∧ KG σ σ' ∧ MTK (σ 134) (σ 133 54) (σ 133 55) σ') (gUp (gUp σ 133 55 a) 133 56 a) 195 [gR 133, gI (σ 134 a), gX 1, gX 1, gX 1] [] := by
                intro hx_195
                refine w_iload_n (pc' := 196) (i := 1) (by rfl) (by rfl) dX12_go_195 rfl ?_
                refine v_callSE (pc' := 199) (st' := [gI (gb (97 ≤ (σ 134 a) ∧ (σ 134 a) ≤ 122))]) (d' := 0) (av := [gI (σ 134 a)]) ms_mX12_isLetter st_mX12_isLetter lk_X12_261 rfl rfl (Nat.le_of_ble_eq_true rfl) (Nat.le_of_ble_eq_true rfl) dX12_go_196 rfl rfl (mo_isLetter (gUp (gUp σ 133 55 a) 133 56 a) (σ 134 a)) ?_
                refine w_istore_n (pc' := 200) (i := 2) (ls' := [gR 133, gI (σ 134 a), gI (gb (97 ≤ (σ 134 a) ∧ (σ 134 a) ≤ 122)), gX 1, gX 1]) (by rfl) (by decide) (by rfl) dX12_go_199 rfl ?_
                refine w_iconst (pc' := 201) (by decide) dX12_go_200 rfl ?_
                refine w_istore_n (pc' := 202) (i := 3) (ls' := [gR 133, gI (σ 134 a), gI (gb (97 ≤ (σ 134 a) ∧ (σ 134 a) ≤ 122)), gI 1, gX 1]) (by rfl) (by decide) (by rfl) dX12_go_201 rfl ?_
                refine w_aload_n (pc' := 203) (i := 0) (by rfl) (by rfl) dX12_go_202 rfl ?_
                refine w_lconst (n := 0) (pc' := 204) (by decide) (by decide) dX12_go_203 rfl ?_
                refine v_putJ (pc' := 207) (ji := 63) rfl fp_X12_394 kd_133 sf_X12_63 dX12_go_204 rfl ?_
                refine w_aload_n (pc' := 208) (i := 0) (by rfl) (by rfl) dX12_go_207 rfl ?_
                refine w_iconst (pc' := 209) (by decide) dX12_go_208 rfl ?_
                refine v_putI (pc' := 212) (ji := 58) rfl fp_X12_397 kd_133 sf_X12_58 dX12_go_209 rfl ?_
                have hl_212 : ∀ (mm : Nat) (lt g q w n : Int), ((σ 133 54) - q).toNat = mm → (a ≤ q) → (q ≤ (σ 133 54)) → (∀ _ : Unit, (lt = 1 ∧ ltr ((σ 134) a)) ∨ (lt = 0 ∧ ¬ ltr ((σ 134) a))) → (0 ≤ g ∧ g ≤ 1) → (GDR (σ 134) a q g) → (w = WCf (fun j => (σ 134) (a + j)) (q - a).toNat) → (n = DNf (fun j => (σ 134) (a + j)) (q - a).toNat) → (-(2 * p27 (q - a)) + 2 ≤ w ∧ w ≤ 2 * p27 (q - a) - 2) → (-(9 * p10 (q - a)) + 9 ≤ n ∧ n ≤ 9 * p10 (q - a) - 9) → Wp mX12_go 1 (fun v σ' => v = gX 1 ∧ KG σ σ' ∧ MTK (σ 134) (σ 133 54) (σ 133 55) σ') (gUp (gUp (gUp (gUp σ 133 55 q) 133 56 a) 133 63 w) 133 58 n) 212 [gR 133, gI (σ 134 a), gI lt, gI g, gX 1] [] := by
                  intro m_212
                  induction m_212 using Nat.strongRecOn with
                  | _ m_212 ih_212 =>
                    intro lt g q w n hmeas_212 q0 q1 hlt hg hG hw hn w0 n0
                    have hby : ∀ _ : Unit, _ := fun _ => BYT_in (σ 134) (σ 133 54) q
                    have hgb : ∀ _ : Unit, _ := fun _ => gb_cs (97 ≤ (σ 134) q ∧ (σ 134) q ≤ 122)
                    have hqa : 0 ≤ q - a := by omega
                    have e7 := p27_in (q - a)
                    have e7b := p27_in (q + 1 - a)
                    have e1 := p10_in (q - a)
                    have e1b := p10_in (q + 1 - a)
                    have e1m : p10 (q - a) ≤ p10 (q + 1 - a) := by have := p10_m hqa; rw [show q + 1 - a = q - a + 1 by omega]; exact this
                    have e7s : ∀ _ : Unit, q - a < 8 → p27 (q + 1 - a) = 27 * p27 (q - a) := fun _ h => by rw [show q + 1 - a = q - a + 1 by omega]; exact p27_s hqa h
                    have e78 : ∀ _ : Unit, 8 ≤ q - a → p27 (q + 1 - a) = 282429536481 := fun _ h => p27_8 (by omega)
                    have e1s : ∀ _ : Unit, q - a < 7 → p10 (q + 1 - a) = 10 * p10 (q - a) := fun _ h => by rw [show q + 1 - a = q - a + 1 by omega]; exact p10_s hqa h
                    have ews := WCf_s (B := (fun j => (σ 134) (a + j))) q0
                    have ens := DNf_s (B := (fun j => (σ 134) (a + j))) q0
                    rw [show a + (q - a) = q by omega] at ews ens
                    have ewu : ∀ _ : Unit, _ := fun _ => ews
                    have enu : ∀ _ : Unit, _ := fun _ => ens
                    clear ews ens
                    refine w_aload_n (pc' := 213) (i := 0) (by rfl) (by rfl) dX12_go_212 rfl ?_
                    refine w_aload_n (pc' := 214) (i := 0) (by rfl) (by rfl) dX12_go_213 rfl ?_
                    have hj_354 : ((∀ _ : Unit, q < (σ 133 54) → ¬ pln ((σ 134) q)) ∧ ∀ _ : Unit, a < q) → Wp mX12_go 1 (fun v σ' => v = gX 1 ∧ KG σ σ' ∧ MTK (σ 134) (σ 133 54) (σ 133 55) σ') (gUp (gUp (gUp (gUp σ 133 55 q) 133 56 a) 133 63 w) 133 58 n) 354 [gR 133, gI (σ 134 a), gI lt, gI g, gX 1] [] := by
                      intro hx_354
                      have hen := hx_354.1
                      have hne := hx_354.2
                      refine w_aload_n (pc' := 355) (i := 0) (by rfl) (by rfl) dX12_go_354 rfl ?_
                      refine w_iload_n (pc' := 356) (i := 3) (by rfl) (by rfl) dX12_go_355 rfl ?_
                      refine w_if_eq (pc' := 359) (t := 377) dX12_go_356 rfl rfl (fun c_356 => ?_) (fun c_356 => ?_)
                      · skip
                        refine w_iconst (pc' := 378) (by decide) dX12_go_377 rfl ?_
                        refine w_goto (pc' := 390) dX12_go_378 rfl ?_
                        refine v_putI (pc' := 393) (ji := 57) rfl fp_X12_385 kd_133 sf_X12_57 dX12_go_390 rfl ?_
                        refine w_return rfl dX12_go_393 ?_
                        refine ⟨rfl, (((((KG.refl.up (k := 133) (i := 55) (v := q) rfl).up (k := 133) (i := 56) (v := a) rfl).up (k := 133) (i := 63) (v := w) rfl).up (k := 133) (i := 58) (v := n) rfl).up (k := 133) (i := 57) (v := 1) rfl), ?_⟩
                        have hl9 := hlt ()
                        have hE9 := hED ()
                        exact GDR_e hG (hne ()) q1 (hen ()) hb a0 (by omega) hx_195 rfl rfl hw hn (by first | exact Or.inl ⟨by omega, by omega, rfl⟩ | exact Or.inr (Or.inl ⟨by omega, by omega, by omega, rfl⟩) | exact Or.inr (Or.inr ⟨by omega, rfl⟩))
                      · skip
                        refine w_iload_n (pc' := 360) (i := 2) (by rfl) (by rfl) dX12_go_359 rfl ?_
                        refine w_if_ne (pc' := 363) (t := 381) dX12_go_360 rfl rfl (fun c_360 => ?_) (fun c_360 => ?_)
                        · skip
                          refine w_iload_n (pc' := 382) (i := 2) (by rfl) (by rfl) dX12_go_381 rfl ?_
                          refine w_if_eq (pc' := 385) (t := 389) dX12_go_382 rfl rfl (fun c_382 => ?_) (fun c_382 => ?_)
                          · skip
                            refine w_iconst (pc' := 390) (by decide) dX12_go_389 rfl ?_
                            refine v_putI (pc' := 393) (ji := 57) rfl fp_X12_385 kd_133 sf_X12_57 dX12_go_390 rfl ?_
                            refine w_return rfl dX12_go_393 ?_
                            refine ⟨rfl, (((((KG.refl.up (k := 133) (i := 55) (v := q) rfl).up (k := 133) (i := 56) (v := a) rfl).up (k := 133) (i := 63) (v := w) rfl).up (k := 133) (i := 58) (v := n) rfl).up (k := 133) (i := 57) (v := 3) rfl), ?_⟩
                            have hl9 := hlt ()
                            have hE9 := hED ()
                            exact GDR_e hG (hne ()) q1 (hen ()) hb a0 (by omega) hx_195 rfl rfl hw hn (by first | exact Or.inl ⟨by omega, by omega, rfl⟩ | exact Or.inr (Or.inl ⟨by omega, by omega, by omega, rfl⟩) | exact Or.inr (Or.inr ⟨by omega, rfl⟩))
                          · skip
                            refine w_iconst (pc' := 386) (by decide) dX12_go_385 rfl ?_
                            refine w_goto (pc' := 390) dX12_go_386 rfl ?_
                            refine v_putI (pc' := 393) (ji := 57) rfl fp_X12_385 kd_133 sf_X12_57 dX12_go_390 rfl ?_
                            refine w_return rfl dX12_go_393 ?_
                            refine ⟨rfl, (((((KG.refl.up (k := 133) (i := 55) (v := q) rfl).up (k := 133) (i := 56) (v := a) rfl).up (k := 133) (i := 63) (v := w) rfl).up (k := 133) (i := 58) (v := n) rfl).up (k := 133) (i := 57) (v := 2) rfl), ?_⟩
                            have hl9 := hlt ()
                            have hE9 := hED ()
                            exact GDR_e hG (hne ()) q1 (hen ()) hb a0 (by omega) hx_195 rfl rfl hw hn (by first | exact Or.inl ⟨by omega, by omega, rfl⟩ | exact Or.inr (Or.inl ⟨by omega, by omega, by omega, rfl⟩) | exact Or.inr (Or.inr ⟨by omega, rfl⟩))
                        · skip
                          refine w_aload_n (pc' := 364) (i := 0) (by rfl) (by rfl) dX12_go_363 rfl ?_
                          refine v_getI (pc' := 367) (ji := 55) rfl fg_X12_379 kd_133 dX12_go_364 rfl ?_
                          show Wp _ _ _ _ _ _ [gI q, gR 133]
                          refine w_aload_n (pc' := 368) (i := 0) (by rfl) (by rfl) dX12_go_367 rfl ?_
                          refine v_getI (pc' := 371) (ji := 56) rfl fg_X12_382 kd_133 dX12_go_368 rfl ?_
                          show Wp _ _ _ _ _ _ [gI a, gI q, gR 133]
                          refine v_isub (pc' := 372) (by omega) dX12_go_371 rfl ?_
                          refine w_bipush (pc' := 374) (by decide) (by decide) dX12_go_372 rfl ?_
                          refine w_icmp_le (pc' := 377) (t := 381) dX12_go_374 rfl rfl (fun c_374 => ?_) (fun c_374 => ?_)
                          · skip
                            refine w_iload_n (pc' := 382) (i := 2) (by rfl) (by rfl) dX12_go_381 rfl ?_
                            refine w_if_eq (pc' := 385) (t := 389) dX12_go_382 rfl rfl (fun c_382 => ?_) (fun c_382 => ?_)
                            · skip
                              refine w_iconst (pc' := 390) (by decide) dX12_go_389 rfl ?_
                              refine v_putI (pc' := 393) (ji := 57) rfl fp_X12_385 kd_133 sf_X12_57 dX12_go_390 rfl ?_
                              refine w_return rfl dX12_go_393 ?_
                              refine ⟨rfl, (((((KG.refl.up (k := 133) (i := 55) (v := q) rfl).up (k := 133) (i := 56) (v := a) rfl).up (k := 133) (i := 63) (v := w) rfl).up (k := 133) (i := 58) (v := n) rfl).up (k := 133) (i := 57) (v := 3) rfl), ?_⟩
                              have hl9 := hlt ()
                              have hE9 := hED ()
                              exact GDR_e hG (hne ()) q1 (hen ()) hb a0 (by omega) hx_195 rfl rfl hw hn (by first | exact Or.inl ⟨by omega, by omega, rfl⟩ | exact Or.inr (Or.inl ⟨by omega, by omega, by omega, rfl⟩) | exact Or.inr (Or.inr ⟨by omega, rfl⟩))
                            · skip
                              refine w_iconst (pc' := 386) (by decide) dX12_go_385 rfl ?_
                              refine w_goto (pc' := 390) dX12_go_386 rfl ?_
                              refine v_putI (pc' := 393) (ji := 57) rfl fp_X12_385 kd_133 sf_X12_57 dX12_go_390 rfl ?_
                              refine w_return rfl dX12_go_393 ?_
                              refine ⟨rfl, (((((KG.refl.up (k := 133) (i := 55) (v := q) rfl).up (k := 133) (i := 56) (v := a) rfl).up (k := 133) (i := 63) (v := w) rfl).up (k := 133) (i := 58) (v := n) rfl).up (k := 133) (i := 57) (v := 2) rfl), ?_⟩
                              have hl9 := hlt ()
                              have hE9 := hED ()
                              exact GDR_e hG (hne ()) q1 (hen ()) hb a0 (by omega) hx_195 rfl rfl hw hn (by first | exact Or.inl ⟨by omega, by omega, rfl⟩ | exact Or.inr (Or.inl ⟨by omega, by omega, by omega, rfl⟩) | exact Or.inr (Or.inr ⟨by omega, rfl⟩))
                          · skip
                            refine w_iconst (pc' := 378) (by decide) dX12_go_377 rfl ?_
                            refine w_goto (pc' := 390) dX12_go_378 rfl ?_
                            refine v_putI (pc' := 393) (ji := 57) rfl fp_X12_385 kd_133 sf_X12_57 dX12_go_390 rfl ?_
                            refine w_return rfl dX12_go_393 ?_
                            refine ⟨rfl, (((((KG.refl.up (k := 133) (i := 55) (v := q) rfl).up (k := 133) (i := 56) (v := a) rfl).up (k := 133) (i := 63) (v := w) rfl).up (k := 133) (i := 58) (v := n) rfl).up (k := 133) (i := 57) (v := 1) rfl), ?_⟩
                            have hl9 := hlt ()
                            have hE9 := hED ()
                            exact GDR_e hG (hne ()) q1 (hen ()) hb a0 (by omega) hx_195 rfl rfl hw hn (by first | exact Or.inl ⟨by omega, by omega, rfl⟩ | exact Or.inr (Or.inl ⟨by omega, by omega, by omega, rfl⟩) | exact Or.inr (Or.inr ⟨by omega, rfl⟩))
                    refine v_getI (pc' := 217) (ji := 55) rfl fg_X12_379 kd_133 dX12_go_214 rfl ?_
                    show Wp _ _ _ _ _ _ [gI q, gR 133]
                    refine v_callVE (pc' := 220) (st' := [gI (BYT (σ 134) (σ 133 54) q)]) (d' := 0) (av := [gI q]) mi_mX12_byteAt lk_X12_400 rfl ci_X12 kd_133 rfl (Nat.le_of_ble_eq_true rfl) (Nat.le_of_ble_eq_true rfl) dX12_go_217 rfl rfl (mg_byteAt (gUp (gUp (gUp (gUp σ 133 55 q) 133 56 a) 133 63 w) 133 58 n) q (by omega) hL) ?_
                    refine v_callSE (pc' := 223) (st' := [gI (gb (97 ≤ (BYT (σ 134) (σ 133 54) q) ∧ (BYT (σ 134) (σ 133 54) q) ≤ 122))]) (d' := 0) (av := [gI (BYT (σ 134) (σ 133 54) q)]) ms_mX12_isLetter st_mX12_isLetter lk_X12_261 rfl rfl (Nat.le_of_ble_eq_true rfl) (Nat.le_of_ble_eq_true rfl) dX12_go_220 rfl rfl (mo_isLetter (gUp (gUp (gUp (gUp σ 133 55 q) 133 56 a) 133 63 w) 133 58 n) (BYT (σ 134) (σ 133 54) q)) ?_
                    have hj_240 : (q < (σ 133 54) ∧ pln ((σ 134) q)) → Wp mX12_go 1 (fun v σ' => v = gX 1 ∧ KG σ σ' ∧ MTK (σ 134) (σ 133 54) (σ 133 55) σ') (gUp (gUp (gUp (gUp σ 133 55 q) 133 56 a) 133 63 w) 133 58 n) 240 [gR 133, gI (σ 134 a), gI lt, gI g, gX 1] [] := by
                      intro hx_240
                      refine w_aload_n (pc' := 241) (i := 0) (by rfl) (by rfl) dX12_go_240 rfl ?_
                      refine w_getS (pc' := 244) (q := 134) fg_X12_7 kd_133 sf_X12_1 gr_133_1 dX12_go_241 rfl ?_
                      refine w_aload_n (pc' := 245) (i := 0) (by rfl) (by rfl) dX12_go_244 rfl ?_
                      refine v_getI (pc' := 248) (ji := 55) rfl fg_X12_379 kd_133 dX12_go_245 rfl ?_
                      show Wp _ _ _ _ _ _ [gI q, gR 134]
                      refine w_iald (pc' := 249) kd_134 (by omega) (by omega) dX12_go_248 rfl ?_
                      show Wp _ _ _ _ _ _ [gI (σ 134 q)]
                      refine w_istore (pc' := 251) (ls' := [gR 133, gI (σ 134 a), gI lt, gI g, gI (σ 134 q)]) (by decide) (by rfl) dX12_go_249 rfl ?_
                      have hj_269 : ∀ g2 : Int, (0 ≤ g2 ∧ g2 ≤ 1) → GDR (σ 134) a (q + 1) g2 → Wp mX12_go 1 (fun v σ' => v = gX 1 ∧ KG σ σ' ∧ MTK (σ 134) (σ 133 54) (σ 133 55) σ') (gUp (gUp (gUp (gUp σ 133 55 q) 133 56 a) 133 63 w) 133 58 n) 269 [gR 133, gI (σ 134 a), gI lt, gI g, gI (σ 134 q)] [gI g2] := by
                        intro g2 hg1 hg2
                        refine w_istore_n (pc' := 270) (i := 3) (ls' := [gR 133, gI (σ 134 a), gI lt, gI g2, gI (σ 134 q)]) (by rfl) (by decide) (by rfl) dX12_go_269 rfl ?_
                        refine w_aload_n (pc' := 271) (i := 0) (by rfl) (by rfl) dX12_go_270 rfl ?_
                        refine w_aload_n (pc' := 272) (i := 0) (by rfl) (by rfl) dX12_go_271 rfl ?_
                        refine v_getI (pc' := 275) (ji := 55) rfl fg_X12_379 kd_133 dX12_go_272 rfl ?_
                        show Wp _ _ _ _ _ _ [gI q, gR 133]
                        refine w_aload_n (pc' := 276) (i := 0) (by rfl) (by rfl) dX12_go_275 rfl ?_
                        refine v_getI (pc' := 279) (ji := 56) rfl fg_X12_382 kd_133 dX12_go_276 rfl ?_
                        show Wp _ _ _ _ _ _ [gI a, gI q, gR 133]
                        refine v_isub (pc' := 280) (by omega) dX12_go_279 rfl ?_
                        refine w_bipush (pc' := 282) (by decide) (by decide) dX12_go_280 rfl ?_
                        refine w_icmp_ge (pc' := 285) (t := 304) dX12_go_282 rfl rfl (fun c_282 => ?_) (fun c_282 => ?_)
                        · skip
                          refine w_ldc2 (pc' := 307) (by decide) ct_X12_347 dX12_go_304 rfl ?_
                          refine v_putJ (pc' := 310) (ji := 63) rfl fp_X12_394 kd_133 sf_X12_63 dX12_go_307 rfl ?_
                          refine Wp.heq (σ' := gUp (gUp (gUp (gUp σ 133 55 q) 133 56 a) 133 63 (-1)) 133 58 n) ((gUp_ci (by decide)).trans (congrArg (fun z => gUp z 133 58 n) gUp_same)) ?_
                          refine w_aload_n (pc' := 311) (i := 0) (by rfl) (by rfl) dX12_go_310 rfl ?_
                          refine v_getI (pc' := 314) (ji := 55) rfl fg_X12_379 kd_133 dX12_go_311 rfl ?_
                          show Wp _ _ _ _ _ _ [gI q]
                          refine w_aload_n (pc' := 315) (i := 0) (by rfl) (by rfl) dX12_go_314 rfl ?_
                          refine v_getI (pc' := 318) (ji := 56) rfl fg_X12_382 kd_133 dX12_go_315 rfl ?_
                          show Wp _ _ _ _ _ _ [gI a, gI q]
                          refine v_isub (pc' := 319) (by omega) dX12_go_318 rfl ?_
                          refine w_bipush (pc' := 321) (by decide) (by decide) dX12_go_319 rfl ?_
                          refine w_icmp_ge (pc' := 324) (t := 341) dX12_go_321 rfl rfl (fun c_321 => ?_) (fun c_321 => ?_)
                          · skip
                            refine w_aload_n (pc' := 342) (i := 0) (by rfl) (by rfl) dX12_go_341 rfl ?_
                            refine w_dup (pc' := 343) dX12_go_342 rfl ?_
                            refine v_getI (pc' := 346) (ji := 55) rfl fg_X12_379 kd_133 dX12_go_343 rfl ?_
                            show Wp _ _ _ _ _ _ [gI q, gR 133]
                            refine w_iconst (pc' := 347) (by decide) dX12_go_346 rfl ?_
                            refine v_iadd (pc' := 348) (by omega) dX12_go_347 rfl ?_
                            refine v_putI (pc' := 351) (ji := 55) rfl fp_X12_379 kd_133 sf_X12_55 dX12_go_348 rfl ?_
                            refine Wp.heq (σ' := gUp (gUp (gUp (gUp σ 133 55 (q + 1)) 133 56 a) 133 63 (-1)) 133 58 n) ((gUp_ci (by decide)).trans (congrArg (fun z => gUp z 133 58 n) ((gUp_ci (by decide)).trans (congrArg (fun z => gUp z 133 63 (-1)) ((gUp_ci (by decide)).trans (congrArg (fun z => gUp z 133 56 a) gUp_same)))))) ?_
                            refine w_goto (pc' := 212) dX12_go_351 rfl ?_
                            refine Wp.lose (ls' := [gR 133, gI (σ 134 a), gI lt, gI g2, gX 1]) ⟨.inr rfl, ⟨.inr rfl, ⟨.inr rfl, ⟨.inr rfl, ⟨.inl rfl, trivial⟩⟩⟩⟩⟩ ?_
                            exact ih_212 _ (by omega) lt g2 (q + 1) (-1) n rfl (by omega) (by omega) (by exact hlt) (by omega) (by exact hg2) (by first | (have := (ewu ()).1 (by omega); omega) | (have := (ewu ()).2 (by omega); omega)) (by first | (have := (enu ()).1 (by omega); omega) | (have := (enu ()).2 (by omega); omega)) (by first | (have := e7s () (by omega); omega) | (have := e78 () (by omega); omega)) (by first | (have := e1s () (by omega); omega) | omega)
                          · skip
                            refine w_aload_n (pc' := 325) (i := 0) (by rfl) (by rfl) dX12_go_324 rfl ?_
                            refine w_bipush (pc' := 327) (by decide) (by decide) dX12_go_325 rfl ?_
                            refine w_aload_n (pc' := 328) (i := 0) (by rfl) (by rfl) dX12_go_327 rfl ?_
                            refine v_getI (pc' := 331) (ji := 58) rfl fg_X12_397 kd_133 dX12_go_328 rfl ?_
                            show Wp _ _ _ _ _ _ [gI n, gI 10, gR 133]
                            refine v_imul (pc' := 332) (by have := e1s () (by omega); omega) dX12_go_331 rfl ?_
                            refine w_iload (pc' := 334) (by rfl) dX12_go_332 rfl ?_
                            refine v_iadd (pc' := 335) (by first | (have := e7s () (by omega); omega) | (have := e1s () (by omega); omega)) dX12_go_334 rfl ?_
                            refine w_bipush (pc' := 337) (by decide) (by decide) dX12_go_335 rfl ?_
                            refine v_isub (pc' := 338) (by first | (have := e7s () (by omega); omega) | (have := e1s () (by omega); omega)) dX12_go_337 rfl ?_
                            refine v_putI (pc' := 341) (ji := 58) rfl fp_X12_397 kd_133 sf_X12_58 dX12_go_338 rfl ?_
                            refine Wp.heq (σ' := gUp (gUp (gUp (gUp σ 133 55 q) 133 56 a) 133 63 (-1)) 133 58 (((10 * n) + (σ 134 q)) - 48)) gUp_same ?_
                            refine w_aload_n (pc' := 342) (i := 0) (by rfl) (by rfl) dX12_go_341 rfl ?_
                            refine w_dup (pc' := 343) dX12_go_342 rfl ?_
                            refine v_getI (pc' := 346) (ji := 55) rfl fg_X12_379 kd_133 dX12_go_343 rfl ?_
                            show Wp _ _ _ _ _ _ [gI q, gR 133]
                            refine w_iconst (pc' := 347) (by decide) dX12_go_346 rfl ?_
                            refine v_iadd (pc' := 348) (by omega) dX12_go_347 rfl ?_
                            refine v_putI (pc' := 351) (ji := 55) rfl fp_X12_379 kd_133 sf_X12_55 dX12_go_348 rfl ?_
                            refine Wp.heq (σ' := gUp (gUp (gUp (gUp σ 133 55 (q + 1)) 133 56 a) 133 63 (-1)) 133 58 (((10 * n) + (σ 134 q)) - 48)) ((gUp_ci (by decide)).trans (congrArg (fun z => gUp z 133 58 (((10 * n) + (σ 134 q)) - 48)) ((gUp_ci (by decide)).trans (congrArg (fun z => gUp z 133 63 (-1)) ((gUp_ci (by decide)).trans (congrArg (fun z => gUp z 133 56 a) gUp_same)))))) ?_
                            refine w_goto (pc' := 212) dX12_go_351 rfl ?_
                            refine Wp.lose (ls' := [gR 133, gI (σ 134 a), gI lt, gI g2, gX 1]) ⟨.inr rfl, ⟨.inr rfl, ⟨.inr rfl, ⟨.inr rfl, ⟨.inl rfl, trivial⟩⟩⟩⟩⟩ ?_
                            exact ih_212 _ (by omega) lt g2 (q + 1) (-1) (((10 * n) + (σ 134 q)) - 48) rfl (by omega) (by omega) (by exact hlt) (by omega) (by exact hg2) (by first | (have := (ewu ()).1 (by omega); omega) | (have := (ewu ()).2 (by omega); omega)) (by first | (have := (enu ()).1 (by omega); omega) | (have := (enu ()).2 (by omega); omega)) (by first | (have := e7s () (by omega); omega) | (have := e78 () (by omega); omega)) (by first | (have := e1s () (by omega); omega) | omega)
                        · skip
                          refine w_ldc2 (pc' := 288) (by decide) ct_X12_265 dX12_go_285 rfl ?_
                          refine w_aload_n (pc' := 289) (i := 0) (by rfl) (by rfl) dX12_go_288 rfl ?_
                          refine v_getJ (pc' := 292) (ji := 63) rfl fg_X12_394 kd_133 dX12_go_289 rfl ?_
                          show Wp _ _ _ _ _ _ [gJ w, gJ 27, gR 133]
                          refine v_lmul (pc' := 293) (by first | (have := e7s () (by omega); omega)) dX12_go_292 rfl ?_
                          refine w_iload (pc' := 295) (by rfl) dX12_go_293 rfl ?_
                          refine w_i2l (pc' := 296) dX12_go_295 rfl ?_
                          refine v_ladd (pc' := 297) (by first | (have := e7s () (by omega); omega) | (have := e1s () (by omega); omega)) dX12_go_296 rfl ?_
                          refine w_ldc2 (pc' := 300) (by decide) ct_X12_267 dX12_go_297 rfl ?_
                          refine v_lsub (pc' := 301) (by first | (have := e7s () (by omega); omega) | (have := e1s () (by omega); omega)) dX12_go_300 rfl ?_
                          refine w_goto (pc' := 307) dX12_go_301 rfl ?_
                          refine v_putJ (pc' := 310) (ji := 63) rfl fp_X12_394 kd_133 sf_X12_63 dX12_go_307 rfl ?_
                          refine Wp.heq (σ' := gUp (gUp (gUp (gUp σ 133 55 q) 133 56 a) 133 63 (((27 * w) + (σ 134 q)) - 96)) 133 58 n) ((gUp_ci (by decide)).trans (congrArg (fun z => gUp z 133 58 n) gUp_same)) ?_
                          refine w_aload_n (pc' := 311) (i := 0) (by rfl) (by rfl) dX12_go_310 rfl ?_
                          refine v_getI (pc' := 314) (ji := 55) rfl fg_X12_379 kd_133 dX12_go_311 rfl ?_
                          show Wp _ _ _ _ _ _ [gI q]
                          refine w_aload_n (pc' := 315) (i := 0) (by rfl) (by rfl) dX12_go_314 rfl ?_
                          refine v_getI (pc' := 318) (ji := 56) rfl fg_X12_382 kd_133 dX12_go_315 rfl ?_
                          show Wp _ _ _ _ _ _ [gI a, gI q]
                          refine v_isub (pc' := 319) (by omega) dX12_go_318 rfl ?_
                          refine w_bipush (pc' := 321) (by decide) (by decide) dX12_go_319 rfl ?_
                          refine w_icmp_ge (pc' := 324) (t := 341) dX12_go_321 rfl rfl (fun c_321 => ?_) (fun c_321 => ?_)
                          · skip
                            refine w_aload_n (pc' := 342) (i := 0) (by rfl) (by rfl) dX12_go_341 rfl ?_
                            refine w_dup (pc' := 343) dX12_go_342 rfl ?_
                            refine v_getI (pc' := 346) (ji := 55) rfl fg_X12_379 kd_133 dX12_go_343 rfl ?_
                            show Wp _ _ _ _ _ _ [gI q, gR 133]
                            refine w_iconst (pc' := 347) (by decide) dX12_go_346 rfl ?_
                            refine v_iadd (pc' := 348) (by omega) dX12_go_347 rfl ?_
                            refine v_putI (pc' := 351) (ji := 55) rfl fp_X12_379 kd_133 sf_X12_55 dX12_go_348 rfl ?_
                            refine Wp.heq (σ' := gUp (gUp (gUp (gUp σ 133 55 (q + 1)) 133 56 a) 133 63 (((27 * w) + (σ 134 q)) - 96)) 133 58 n) ((gUp_ci (by decide)).trans (congrArg (fun z => gUp z 133 58 n) ((gUp_ci (by decide)).trans (congrArg (fun z => gUp z 133 63 (((27 * w) + (σ 134 q)) - 96)) ((gUp_ci (by decide)).trans (congrArg (fun z => gUp z 133 56 a) gUp_same)))))) ?_
                            refine w_goto (pc' := 212) dX12_go_351 rfl ?_
                            refine Wp.lose (ls' := [gR 133, gI (σ 134 a), gI lt, gI g2, gX 1]) ⟨.inr rfl, ⟨.inr rfl, ⟨.inr rfl, ⟨.inr rfl, ⟨.inl rfl, trivial⟩⟩⟩⟩⟩ ?_
                            exact ih_212 _ (by omega) lt g2 (q + 1) (((27 * w) + (σ 134 q)) - 96) n rfl (by omega) (by omega) (by exact hlt) (by omega) (by exact hg2) (by first | (have := (ewu ()).1 (by omega); omega) | (have := (ewu ()).2 (by omega); omega)) (by first | (have := (enu ()).1 (by omega); omega) | (have := (enu ()).2 (by omega); omega)) (by first | (have := e7s () (by omega); omega) | (have := e78 () (by omega); omega)) (by first | (have := e1s () (by omega); omega) | omega)
                          · skip
                            refine w_aload_n (pc' := 325) (i := 0) (by rfl) (by rfl) dX12_go_324 rfl ?_
                            refine w_bipush (pc' := 327) (by decide) (by decide) dX12_go_325 rfl ?_
                            refine w_aload_n (pc' := 328) (i := 0) (by rfl) (by rfl) dX12_go_327 rfl ?_
                            refine v_getI (pc' := 331) (ji := 58) rfl fg_X12_397 kd_133 dX12_go_328 rfl ?_
                            show Wp _ _ _ _ _ _ [gI n, gI 10, gR 133]
                            refine v_imul (pc' := 332) (by have := e1s () (by omega); omega) dX12_go_331 rfl ?_
                            refine w_iload (pc' := 334) (by rfl) dX12_go_332 rfl ?_
                            refine v_iadd (pc' := 335) (by first | (have := e7s () (by omega); omega) | (have := e1s () (by omega); omega)) dX12_go_334 rfl ?_
                            refine w_bipush (pc' := 337) (by decide) (by decide) dX12_go_335 rfl ?_
                            refine v_isub (pc' := 338) (by first | (have := e7s () (by omega); omega) | (have := e1s () (by omega); omega)) dX12_go_337 rfl ?_
                            refine v_putI (pc' := 341) (ji := 58) rfl fp_X12_397 kd_133 sf_X12_58 dX12_go_338 rfl ?_
                            refine Wp.heq (σ' := gUp (gUp (gUp (gUp σ 133 55 q) 133 56 a) 133 63 (((27 * w) + (σ 134 q)) - 96)) 133 58 (((10 * n) + (σ 134 q)) - 48)) gUp_same ?_
                            refine w_aload_n (pc' := 342) (i := 0) (by rfl) (by rfl) dX12_go_341 rfl ?_
                            refine w_dup (pc' := 343) dX12_go_342 rfl ?_
                            refine v_getI (pc' := 346) (ji := 55) rfl fg_X12_379 kd_133 dX12_go_343 rfl ?_
                            show Wp _ _ _ _ _ _ [gI q, gR 133]
                            refine w_iconst (pc' := 347) (by decide) dX12_go_346 rfl ?_
                            refine v_iadd (pc' := 348) (by omega) dX12_go_347 rfl ?_
                            refine v_putI (pc' := 351) (ji := 55) rfl fp_X12_379 kd_133 sf_X12_55 dX12_go_348 rfl ?_
                            refine Wp.heq (σ' := gUp (gUp (gUp (gUp σ 133 55 (q + 1)) 133 56 a) 133 63 (((27 * w) + (σ 134 q)) - 96)) 133 58 (((10 * n) + (σ 134 q)) - 48)) ((gUp_ci (by decide)).trans (congrArg (fun z => gUp z 133 58 (((10 * n) + (σ 134 q)) - 48)) ((gUp_ci (by decide)).trans (congrArg (fun z => gUp z 133 63 (((27 * w) + (σ 134 q)) - 96)) ((gUp_ci (by decide)).trans (congrArg (fun z => gUp z 133 56 a) gUp_same)))))) ?_
                            refine w_goto (pc' := 212) dX12_go_351 rfl ?_
                            refine Wp.lose (ls' := [gR 133, gI (σ 134 a), gI lt, gI g2, gX 1]) ⟨.inr rfl, ⟨.inr rfl, ⟨.inr rfl, ⟨.inr rfl, ⟨.inl rfl, trivial⟩⟩⟩⟩⟩ ?_
                            exact ih_212 _ (by omega) lt g2 (q + 1) (((27 * w) + (σ 134 q)) - 96) (((10 * n) + (σ 134 q)) - 48) rfl (by omega) (by omega) (by exact hlt) (by omega) (by exact hg2) (by first | (have := (ewu ()).1 (by omega); omega) | (have := (ewu ()).2 (by omega); omega)) (by first | (have := (enu ()).1 (by omega); omega) | (have := (enu ()).2 (by omega); omega)) (by first | (have := e7s () (by omega); omega) | (have := e78 () (by omega); omega)) (by first | (have := e1s () (by omega); omega) | omega)
                      refine w_iload_n (pc' := 252) (i := 3) (by rfl) (by rfl) dX12_go_251 rfl ?_
                      refine w_if_eq (pc' := 255) (t := 268) dX12_go_252 rfl rfl (fun c_252 => ?_) (fun c_252 => ?_)
                      · skip
                        refine w_iconst (pc' := 269) (by decide) dX12_go_268 rfl ?_
                        exact hj_269 0 (by omega) (GDR_s hG q0 hx_240.2 (by have := hgb (); have := hlt (); omega))
                      · skip
                        refine w_iload (pc' := 257) (by rfl) dX12_go_255 rfl ?_
                        refine v_callSE (pc' := 260) (st' := [gI (gb (97 ≤ (σ 134 q) ∧ (σ 134 q) ≤ 122))]) (d' := 0) (av := [gI (σ 134 q)]) ms_mX12_isLetter st_mX12_isLetter lk_X12_261 rfl rfl (Nat.le_of_ble_eq_true rfl) (Nat.le_of_ble_eq_true rfl) dX12_go_257 rfl rfl (mo_isLetter (gUp (gUp (gUp (gUp σ 133 55 q) 133 56 a) 133 63 w) 133 58 n) (σ 134 q)) ?_
                        refine w_iload_n (pc' := 261) (i := 2) (by rfl) (by rfl) dX12_go_260 rfl ?_
                        refine w_icmp_ne (pc' := 264) (t := 268) dX12_go_261 rfl rfl (fun c_261 => ?_) (fun c_261 => ?_)
                        · skip
                          refine w_iconst (pc' := 269) (by decide) dX12_go_268 rfl ?_
                          exact hj_269 0 (by omega) (GDR_s hG q0 hx_240.2 (by have := hgb (); have := hlt (); omega))
                        · skip
                          refine w_iconst (pc' := 265) (by decide) dX12_go_264 rfl ?_
                          refine w_goto (pc' := 269) dX12_go_265 rfl ?_
                          exact hj_269 1 (by omega) (GDR_s hG q0 hx_240.2 (by have := hgb (); have := hlt (); omega))
                    refine v_if_neB (pc' := 226) (t := 240) dX12_go_223 rfl rfl (fun c_223 => ?_) (fun c_223 => ?_)
                    · skip
                      exact hj_240 (by have := hby (); omega)
                    · skip
                      refine w_aload_n (pc' := 227) (i := 0) (by rfl) (by rfl) dX12_go_226 rfl ?_
                      refine w_aload_n (pc' := 228) (i := 0) (by rfl) (by rfl) dX12_go_227 rfl ?_
                      refine v_getI (pc' := 231) (ji := 55) rfl fg_X12_379 kd_133 dX12_go_228 rfl ?_
                      show Wp _ _ _ _ _ _ [gI q, gR 133]
                      refine v_callVE (pc' := 234) (st' := [gI (BYT (σ 134) (σ 133 54) q)]) (d' := 0) (av := [gI q]) mi_mX12_byteAt lk_X12_400 rfl ci_X12 kd_133 rfl (Nat.le_of_ble_eq_true rfl) (Nat.le_of_ble_eq_true rfl) dX12_go_231 rfl rfl (mg_byteAt (gUp (gUp (gUp (gUp σ 133 55 q) 133 56 a) 133 63 w) 133 58 n) q (by omega) hL) ?_
                      refine v_callSE (pc' := 237) (st' := [gI (gb (48 ≤ (BYT (σ 134) (σ 133 54) q) ∧ (BYT (σ 134) (σ 133 54) q) ≤ 57))]) (d' := 0) (av := [gI (BYT (σ 134) (σ 133 54) q)]) ms_mX12_isDigit st_mX12_isDigit lk_X12_388 rfl rfl (Nat.le_of_ble_eq_true rfl) (Nat.le_of_ble_eq_true rfl) dX12_go_234 rfl rfl (mg_isDigit (gUp (gUp (gUp (gUp σ 133 55 q) 133 56 a) 133 63 w) 133 58 n) (BYT (σ 134) (σ 133 54) q)) ?_
                      refine v_if_eqB (pc' := 240) (t := 354) dX12_go_237 rfl rfl (fun c_237 => ?_) (fun c_237 => ?_)
                      · skip
                        exact hj_354 ⟨fun _ h => by have := hby (); omega, fun _ => by have := hby (); (by_cases e : q = a; (exfalso; have e2 : σ 134 q = σ 134 a := (by rw [e]); omega); omega)⟩
                      · skip
                        exact hj_240 (by have := hby (); omega)
                exact hl_212 _ (gb (97 ≤ (σ 134 a) ∧ (σ 134 a) ≤ 122)) 1 a 0 0 rfl (by omega) (by omega) (by exact fun _ => gb_cs _) (by omega) (by exact ⟨fun i x y => by omega, Or.inl ⟨rfl, fun i x y => by omega⟩⟩) (by rw [show a - a = 0 by omega]; rfl) (by rw [show a - a = 0 by omega]; rfl) (by rw [show a - a = 0 by omega]; decide) (by rw [show a - a = 0 by omega]; decide)
              refine v_if_neB (pc' := 127) (t := 195) dX12_go_124 rfl rfl (fun c_124 => ?_) (fun c_124 => ?_)
              · skip
                exact hj_195 (by omega)
              · skip
                refine w_iload_n (pc' := 128) (i := 1) (by rfl) (by rfl) dX12_go_127 rfl ?_
                refine v_callSE (pc' := 131) (st' := [gI (gb (48 ≤ (σ 134 a) ∧ (σ 134 a) ≤ 57))]) (d' := 0) (av := [gI (σ 134 a)]) ms_mX12_isDigit st_mX12_isDigit lk_X12_388 rfl rfl (Nat.le_of_ble_eq_true rfl) (Nat.le_of_ble_eq_true rfl) dX12_go_128 rfl rfl (mg_isDigit (gUp (gUp σ 133 55 a) 133 56 a) (σ 134 a)) ?_
                refine v_if_neB (pc' := 134) (t := 195) dX12_go_131 rfl rfl (fun c_131 => ?_) (fun c_131 => ?_)
                · skip
                  exact hj_195 (by omega)
                · skip
                  refine w_aload_n (pc' := 135) (i := 0) (by rfl) (by rfl) dX12_go_134 rfl ?_
                  refine w_iload_n (pc' := 136) (i := 1) (by rfl) (by rfl) dX12_go_135 rfl ?_
                  refine w_bipush (pc' := 138) (by decide) (by decide) dX12_go_136 rfl ?_
                  refine w_icmp_eq (pc' := 141) (t := 171) dX12_go_138 rfl rfl (fun c_138 => ?_) (fun c_138 => ?_)
                  · skip
                    refine w_iconst (pc' := 172) (by decide) dX12_go_171 rfl ?_
                    refine w_goto (pc' := 176) dX12_go_172 rfl ?_
                    refine v_putI (pc' := 179) (ji := 57) rfl fp_X12_385 kd_133 sf_X12_57 dX12_go_176 rfl ?_
                    refine w_aload_n (pc' := 180) (i := 0) (by rfl) (by rfl) dX12_go_179 rfl ?_
                    refine w_iload_n (pc' := 181) (i := 1) (by rfl) (by rfl) dX12_go_180 rfl ?_
                    refine v_putI (pc' := 184) (ji := 59) rfl fp_X12_391 kd_133 sf_X12_59 dX12_go_181 rfl ?_
                    refine w_aload_n (pc' := 185) (i := 0) (by rfl) (by rfl) dX12_go_184 rfl ?_
                    refine w_dup (pc' := 186) dX12_go_185 rfl ?_
                    refine v_getI (pc' := 189) (ji := 55) rfl fg_X12_379 kd_133 dX12_go_186 rfl ?_
                    show Wp _ _ _ _ _ _ [gI a, gR 133]
                    refine w_iconst (pc' := 190) (by decide) dX12_go_189 rfl ?_
                    refine v_iadd (pc' := 191) (by omega) dX12_go_190 rfl ?_
                    refine v_putI (pc' := 194) (ji := 55) rfl fp_X12_379 kd_133 sf_X12_55 dX12_go_191 rfl ?_
                    refine Wp.heq (σ' := gUp (gUp (gUp (gUp σ 133 55 (a + 1)) 133 56 a) 133 57 4) 133 59 (σ 134 a)) ((gUp_ci (by decide)).trans (congrArg (fun z => gUp z 133 59 (σ 134 a)) ((gUp_ci (by decide)).trans (congrArg (fun z => gUp z 133 57 4) ((gUp_ci (by decide)).trans (congrArg (fun z => gUp z 133 56 a) gUp_same)))))) ?_
                    refine w_return rfl dX12_go_194 ?_
                    refine ⟨rfl, ((((KG.refl.up (k := 133) (i := 55) (v := (a + 1)) rfl).up (k := 133) (i := 56) (v := a) rfl).up (k := 133) (i := 57) (v := 4) rfl).up (k := 133) (i := 59) (v := (σ 134 a)) rfl), ?_⟩
                    have hE9 := hED ()
                    exact ⟨a, a + 1, (σ 134) a, -1, Or.inr ⟨hb, a0, by omega, by omega, Or.inr ⟨by omega, rfl, rfl, Or.inl ⟨by omega, rfl⟩⟩⟩, rfl, Or.inr ⟨rfl, Or.inr (Or.inr (Or.inr ⟨by omega, rfl, rfl⟩))⟩⟩
                  · skip
                    refine w_iload_n (pc' := 142) (i := 1) (by rfl) (by rfl) dX12_go_141 rfl ?_
                    refine w_bipush (pc' := 144) (by decide) (by decide) dX12_go_142 rfl ?_
                    refine w_icmp_eq (pc' := 147) (t := 171) dX12_go_144 rfl rfl (fun c_144 => ?_) (fun c_144 => ?_)
                    · skip
                      refine w_iconst (pc' := 172) (by decide) dX12_go_171 rfl ?_
                      refine w_goto (pc' := 176) dX12_go_172 rfl ?_
                      refine v_putI (pc' := 179) (ji := 57) rfl fp_X12_385 kd_133 sf_X12_57 dX12_go_176 rfl ?_
                      refine w_aload_n (pc' := 180) (i := 0) (by rfl) (by rfl) dX12_go_179 rfl ?_
                      refine w_iload_n (pc' := 181) (i := 1) (by rfl) (by rfl) dX12_go_180 rfl ?_
                      refine v_putI (pc' := 184) (ji := 59) rfl fp_X12_391 kd_133 sf_X12_59 dX12_go_181 rfl ?_
                      refine w_aload_n (pc' := 185) (i := 0) (by rfl) (by rfl) dX12_go_184 rfl ?_
                      refine w_dup (pc' := 186) dX12_go_185 rfl ?_
                      refine v_getI (pc' := 189) (ji := 55) rfl fg_X12_379 kd_133 dX12_go_186 rfl ?_
                      show Wp _ _ _ _ _ _ [gI a, gR 133]
                      refine w_iconst (pc' := 190) (by decide) dX12_go_189 rfl ?_
                      refine v_iadd (pc' := 191) (by omega) dX12_go_190 rfl ?_
                      refine v_putI (pc' := 194) (ji := 55) rfl fp_X12_379 kd_133 sf_X12_55 dX12_go_191 rfl ?_
                      refine Wp.heq (σ' := gUp (gUp (gUp (gUp σ 133 55 (a + 1)) 133 56 a) 133 57 4) 133 59 (σ 134 a)) ((gUp_ci (by decide)).trans (congrArg (fun z => gUp z 133 59 (σ 134 a)) ((gUp_ci (by decide)).trans (congrArg (fun z => gUp z 133 57 4) ((gUp_ci (by decide)).trans (congrArg (fun z => gUp z 133 56 a) gUp_same)))))) ?_
                      refine w_return rfl dX12_go_194 ?_
                      refine ⟨rfl, ((((KG.refl.up (k := 133) (i := 55) (v := (a + 1)) rfl).up (k := 133) (i := 56) (v := a) rfl).up (k := 133) (i := 57) (v := 4) rfl).up (k := 133) (i := 59) (v := (σ 134 a)) rfl), ?_⟩
                      have hE9 := hED ()
                      exact ⟨a, a + 1, (σ 134) a, -1, Or.inr ⟨hb, a0, by omega, by omega, Or.inr ⟨by omega, rfl, rfl, Or.inl ⟨by omega, rfl⟩⟩⟩, rfl, Or.inr ⟨rfl, Or.inr (Or.inr (Or.inr ⟨by omega, rfl, rfl⟩))⟩⟩
                    · skip
                      refine w_iload_n (pc' := 148) (i := 1) (by rfl) (by rfl) dX12_go_147 rfl ?_
                      refine w_bipush (pc' := 150) (by decide) (by decide) dX12_go_148 rfl ?_
                      refine w_icmp_eq (pc' := 153) (t := 171) dX12_go_150 rfl rfl (fun c_150 => ?_) (fun c_150 => ?_)
                      · skip
                        refine w_iconst (pc' := 172) (by decide) dX12_go_171 rfl ?_
                        refine w_goto (pc' := 176) dX12_go_172 rfl ?_
                        refine v_putI (pc' := 179) (ji := 57) rfl fp_X12_385 kd_133 sf_X12_57 dX12_go_176 rfl ?_
                        refine w_aload_n (pc' := 180) (i := 0) (by rfl) (by rfl) dX12_go_179 rfl ?_
                        refine w_iload_n (pc' := 181) (i := 1) (by rfl) (by rfl) dX12_go_180 rfl ?_
                        refine v_putI (pc' := 184) (ji := 59) rfl fp_X12_391 kd_133 sf_X12_59 dX12_go_181 rfl ?_
                        refine w_aload_n (pc' := 185) (i := 0) (by rfl) (by rfl) dX12_go_184 rfl ?_
                        refine w_dup (pc' := 186) dX12_go_185 rfl ?_
                        refine v_getI (pc' := 189) (ji := 55) rfl fg_X12_379 kd_133 dX12_go_186 rfl ?_
                        show Wp _ _ _ _ _ _ [gI a, gR 133]
                        refine w_iconst (pc' := 190) (by decide) dX12_go_189 rfl ?_
                        refine v_iadd (pc' := 191) (by omega) dX12_go_190 rfl ?_
                        refine v_putI (pc' := 194) (ji := 55) rfl fp_X12_379 kd_133 sf_X12_55 dX12_go_191 rfl ?_
                        refine Wp.heq (σ' := gUp (gUp (gUp (gUp σ 133 55 (a + 1)) 133 56 a) 133 57 4) 133 59 (σ 134 a)) ((gUp_ci (by decide)).trans (congrArg (fun z => gUp z 133 59 (σ 134 a)) ((gUp_ci (by decide)).trans (congrArg (fun z => gUp z 133 57 4) ((gUp_ci (by decide)).trans (congrArg (fun z => gUp z 133 56 a) gUp_same)))))) ?_
                        refine w_return rfl dX12_go_194 ?_
                        refine ⟨rfl, ((((KG.refl.up (k := 133) (i := 55) (v := (a + 1)) rfl).up (k := 133) (i := 56) (v := a) rfl).up (k := 133) (i := 57) (v := 4) rfl).up (k := 133) (i := 59) (v := (σ 134 a)) rfl), ?_⟩
                        have hE9 := hED ()
                        exact ⟨a, a + 1, (σ 134) a, -1, Or.inr ⟨hb, a0, by omega, by omega, Or.inr ⟨by omega, rfl, rfl, Or.inl ⟨by omega, rfl⟩⟩⟩, rfl, Or.inr ⟨rfl, Or.inr (Or.inr (Or.inr ⟨by omega, rfl, rfl⟩))⟩⟩
                      · skip
                        refine w_iload_n (pc' := 154) (i := 1) (by rfl) (by rfl) dX12_go_153 rfl ?_
                        refine w_bipush (pc' := 156) (by decide) (by decide) dX12_go_154 rfl ?_
                        refine w_icmp_eq (pc' := 159) (t := 171) dX12_go_156 rfl rfl (fun c_156 => ?_) (fun c_156 => ?_)
                        · skip
                          refine w_iconst (pc' := 172) (by decide) dX12_go_171 rfl ?_
                          refine w_goto (pc' := 176) dX12_go_172 rfl ?_
                          refine v_putI (pc' := 179) (ji := 57) rfl fp_X12_385 kd_133 sf_X12_57 dX12_go_176 rfl ?_
                          refine w_aload_n (pc' := 180) (i := 0) (by rfl) (by rfl) dX12_go_179 rfl ?_
                          refine w_iload_n (pc' := 181) (i := 1) (by rfl) (by rfl) dX12_go_180 rfl ?_
                          refine v_putI (pc' := 184) (ji := 59) rfl fp_X12_391 kd_133 sf_X12_59 dX12_go_181 rfl ?_
                          refine w_aload_n (pc' := 185) (i := 0) (by rfl) (by rfl) dX12_go_184 rfl ?_
                          refine w_dup (pc' := 186) dX12_go_185 rfl ?_
                          refine v_getI (pc' := 189) (ji := 55) rfl fg_X12_379 kd_133 dX12_go_186 rfl ?_
                          show Wp _ _ _ _ _ _ [gI a, gR 133]
                          refine w_iconst (pc' := 190) (by decide) dX12_go_189 rfl ?_
                          refine v_iadd (pc' := 191) (by omega) dX12_go_190 rfl ?_
                          refine v_putI (pc' := 194) (ji := 55) rfl fp_X12_379 kd_133 sf_X12_55 dX12_go_191 rfl ?_
                          refine Wp.heq (σ' := gUp (gUp (gUp (gUp σ 133 55 (a + 1)) 133 56 a) 133 57 4) 133 59 (σ 134 a)) ((gUp_ci (by decide)).trans (congrArg (fun z => gUp z 133 59 (σ 134 a)) ((gUp_ci (by decide)).trans (congrArg (fun z => gUp z 133 57 4) ((gUp_ci (by decide)).trans (congrArg (fun z => gUp z 133 56 a) gUp_same)))))) ?_
                          refine w_return rfl dX12_go_194 ?_
                          refine ⟨rfl, ((((KG.refl.up (k := 133) (i := 55) (v := (a + 1)) rfl).up (k := 133) (i := 56) (v := a) rfl).up (k := 133) (i := 57) (v := 4) rfl).up (k := 133) (i := 59) (v := (σ 134 a)) rfl), ?_⟩
                          have hE9 := hED ()
                          exact ⟨a, a + 1, (σ 134) a, -1, Or.inr ⟨hb, a0, by omega, by omega, Or.inr ⟨by omega, rfl, rfl, Or.inl ⟨by omega, rfl⟩⟩⟩, rfl, Or.inr ⟨rfl, Or.inr (Or.inr (Or.inr ⟨by omega, rfl, rfl⟩))⟩⟩
                        · skip
                          refine w_iload_n (pc' := 160) (i := 1) (by rfl) (by rfl) dX12_go_159 rfl ?_
                          refine w_bipush (pc' := 162) (by decide) (by decide) dX12_go_160 rfl ?_
                          refine w_icmp_eq (pc' := 165) (t := 171) dX12_go_162 rfl rfl (fun c_162 => ?_) (fun c_162 => ?_)
                          · skip
                            refine w_iconst (pc' := 172) (by decide) dX12_go_171 rfl ?_
                            refine w_goto (pc' := 176) dX12_go_172 rfl ?_
                            refine v_putI (pc' := 179) (ji := 57) rfl fp_X12_385 kd_133 sf_X12_57 dX12_go_176 rfl ?_
                            refine w_aload_n (pc' := 180) (i := 0) (by rfl) (by rfl) dX12_go_179 rfl ?_
                            refine w_iload_n (pc' := 181) (i := 1) (by rfl) (by rfl) dX12_go_180 rfl ?_
                            refine v_putI (pc' := 184) (ji := 59) rfl fp_X12_391 kd_133 sf_X12_59 dX12_go_181 rfl ?_
                            refine w_aload_n (pc' := 185) (i := 0) (by rfl) (by rfl) dX12_go_184 rfl ?_
                            refine w_dup (pc' := 186) dX12_go_185 rfl ?_
                            refine v_getI (pc' := 189) (ji := 55) rfl fg_X12_379 kd_133 dX12_go_186 rfl ?_
                            show Wp _ _ _ _ _ _ [gI a, gR 133]
                            refine w_iconst (pc' := 190) (by decide) dX12_go_189 rfl ?_
                            refine v_iadd (pc' := 191) (by omega) dX12_go_190 rfl ?_
                            refine v_putI (pc' := 194) (ji := 55) rfl fp_X12_379 kd_133 sf_X12_55 dX12_go_191 rfl ?_
                            refine Wp.heq (σ' := gUp (gUp (gUp (gUp σ 133 55 (a + 1)) 133 56 a) 133 57 4) 133 59 (σ 134 a)) ((gUp_ci (by decide)).trans (congrArg (fun z => gUp z 133 59 (σ 134 a)) ((gUp_ci (by decide)).trans (congrArg (fun z => gUp z 133 57 4) ((gUp_ci (by decide)).trans (congrArg (fun z => gUp z 133 56 a) gUp_same)))))) ?_
                            refine w_return rfl dX12_go_194 ?_
                            refine ⟨rfl, ((((KG.refl.up (k := 133) (i := 55) (v := (a + 1)) rfl).up (k := 133) (i := 56) (v := a) rfl).up (k := 133) (i := 57) (v := 4) rfl).up (k := 133) (i := 59) (v := (σ 134 a)) rfl), ?_⟩
                            have hE9 := hED ()
                            exact ⟨a, a + 1, (σ 134) a, -1, Or.inr ⟨hb, a0, by omega, by omega, Or.inr ⟨by omega, rfl, rfl, Or.inl ⟨by omega, rfl⟩⟩⟩, rfl, Or.inr ⟨rfl, Or.inr (Or.inr (Or.inr ⟨by omega, rfl, rfl⟩))⟩⟩
                          · skip
                            refine w_iload_n (pc' := 166) (i := 1) (by rfl) (by rfl) dX12_go_165 rfl ?_
                            refine w_bipush (pc' := 168) (by decide) (by decide) dX12_go_166 rfl ?_
                            refine w_icmp_ne (pc' := 171) (t := 175) dX12_go_168 rfl rfl (fun c_168 => ?_) (fun c_168 => ?_)
                            · skip
                              refine w_iconst (pc' := 176) (by decide) dX12_go_175 rfl ?_
                              refine v_putI (pc' := 179) (ji := 57) rfl fp_X12_385 kd_133 sf_X12_57 dX12_go_176 rfl ?_
                              refine w_aload_n (pc' := 180) (i := 0) (by rfl) (by rfl) dX12_go_179 rfl ?_
                              refine w_iload_n (pc' := 181) (i := 1) (by rfl) (by rfl) dX12_go_180 rfl ?_
                              refine v_putI (pc' := 184) (ji := 59) rfl fp_X12_391 kd_133 sf_X12_59 dX12_go_181 rfl ?_
                              refine w_aload_n (pc' := 185) (i := 0) (by rfl) (by rfl) dX12_go_184 rfl ?_
                              refine w_dup (pc' := 186) dX12_go_185 rfl ?_
                              refine v_getI (pc' := 189) (ji := 55) rfl fg_X12_379 kd_133 dX12_go_186 rfl ?_
                              show Wp _ _ _ _ _ _ [gI a, gR 133]
                              refine w_iconst (pc' := 190) (by decide) dX12_go_189 rfl ?_
                              refine v_iadd (pc' := 191) (by omega) dX12_go_190 rfl ?_
                              refine v_putI (pc' := 194) (ji := 55) rfl fp_X12_379 kd_133 sf_X12_55 dX12_go_191 rfl ?_
                              refine Wp.heq (σ' := gUp (gUp (gUp (gUp σ 133 55 (a + 1)) 133 56 a) 133 57 1) 133 59 (σ 134 a)) ((gUp_ci (by decide)).trans (congrArg (fun z => gUp z 133 59 (σ 134 a)) ((gUp_ci (by decide)).trans (congrArg (fun z => gUp z 133 57 1) ((gUp_ci (by decide)).trans (congrArg (fun z => gUp z 133 56 a) gUp_same)))))) ?_
                              refine w_return rfl dX12_go_194 ?_
                              refine ⟨rfl, ((((KG.refl.up (k := 133) (i := 55) (v := (a + 1)) rfl).up (k := 133) (i := 56) (v := a) rfl).up (k := 133) (i := 57) (v := 1) rfl).up (k := 133) (i := 59) (v := (σ 134 a)) rfl), ?_⟩
                              have hE9 := hED ()
                              exact ⟨a, a + 1, 1, -1, Or.inr ⟨hb, a0, by omega, by omega, Or.inr ⟨by omega, rfl, rfl, Or.inr ⟨by omega, rfl⟩⟩⟩, rfl, Or.inr ⟨rfl, Or.inl ⟨rfl, rfl⟩⟩⟩
                            · skip
                              refine w_iconst (pc' := 172) (by decide) dX12_go_171 rfl ?_
                              refine w_goto (pc' := 176) dX12_go_172 rfl ?_
                              refine v_putI (pc' := 179) (ji := 57) rfl fp_X12_385 kd_133 sf_X12_57 dX12_go_176 rfl ?_
                              refine w_aload_n (pc' := 180) (i := 0) (by rfl) (by rfl) dX12_go_179 rfl ?_
                              refine w_iload_n (pc' := 181) (i := 1) (by rfl) (by rfl) dX12_go_180 rfl ?_
                              refine v_putI (pc' := 184) (ji := 59) rfl fp_X12_391 kd_133 sf_X12_59 dX12_go_181 rfl ?_
                              refine w_aload_n (pc' := 185) (i := 0) (by rfl) (by rfl) dX12_go_184 rfl ?_
                              refine w_dup (pc' := 186) dX12_go_185 rfl ?_
                              refine v_getI (pc' := 189) (ji := 55) rfl fg_X12_379 kd_133 dX12_go_186 rfl ?_
                              show Wp _ _ _ _ _ _ [gI a, gR 133]
                              refine w_iconst (pc' := 190) (by decide) dX12_go_189 rfl ?_
                              refine v_iadd (pc' := 191) (by omega) dX12_go_190 rfl ?_
                              refine v_putI (pc' := 194) (ji := 55) rfl fp_X12_379 kd_133 sf_X12_55 dX12_go_191 rfl ?_
                              refine Wp.heq (σ' := gUp (gUp (gUp (gUp σ 133 55 (a + 1)) 133 56 a) 133 57 4) 133 59 (σ 134 a)) ((gUp_ci (by decide)).trans (congrArg (fun z => gUp z 133 59 (σ 134 a)) ((gUp_ci (by decide)).trans (congrArg (fun z => gUp z 133 57 4) ((gUp_ci (by decide)).trans (congrArg (fun z => gUp z 133 56 a) gUp_same)))))) ?_
                              refine w_return rfl dX12_go_194 ?_
                              refine ⟨rfl, ((((KG.refl.up (k := 133) (i := 55) (v := (a + 1)) rfl).up (k := 133) (i := 56) (v := a) rfl).up (k := 133) (i := 57) (v := 4) rfl).up (k := 133) (i := 59) (v := (σ 134 a)) rfl), ?_⟩
                              have hE9 := hED ()
                              exact ⟨a, a + 1, (σ 134) a, -1, Or.inr ⟨hb, a0, by omega, by omega, Or.inr ⟨by omega, rfl, rfl, Or.inl ⟨by omega, rfl⟩⟩⟩, rfl, Or.inr ⟨rfl, Or.inr (Or.inr (Or.inr ⟨by omega, rfl, rfl⟩))⟩⟩
            · skip
              refine w_aload_n (pc' := 105) (i := 0) (by rfl) (by rfl) dX12_go_104 rfl ?_
              refine w_iconst (pc' := 106) (by decide) dX12_go_105 rfl ?_
              refine v_putI (pc' := 109) (ji := 57) rfl fp_X12_385 kd_133 sf_X12_57 dX12_go_106 rfl ?_
              refine w_return rfl dX12_go_109 ?_
              refine ⟨rfl, (((KG.refl.up (k := 133) (i := 55) (v := a) rfl).up (k := 133) (i := 56) (v := a) rfl).up (k := 133) (i := 57) (v := 0) rfl), ?_⟩
              have hE9 := hED ()
              exact ⟨EDG (σ 133 54), EDG (σ 133 54), 0, -1, Or.inl ⟨fun i x y => hb i x (by omega), rfl, rfl, rfl, rfl⟩, (show a = _ by omega), Or.inl ⟨rfl, Or.inl ⟨by omega, rfl⟩⟩⟩
          · skip
            refine w_aload_n (pc' := 81) (i := 0) (by rfl) (by rfl) dX12_go_80 rfl ?_
            refine w_sipush (pc' := 84) (by decide) (by decide) dX12_go_81 rfl ?_
            refine v_putI (pc' := 87) (ji := 56) rfl fp_X12_382 kd_133 sf_X12_56 dX12_go_84 rfl ?_
            refine Wp.heq (σ' := gUp (gUp σ 133 55 a) 133 56 500) gUp_same ?_
            refine w_aload_n (pc' := 88) (i := 0) (by rfl) (by rfl) dX12_go_87 rfl ?_
            refine w_iconst (pc' := 89) (by decide) dX12_go_88 rfl ?_
            refine v_putI (pc' := 92) (ji := 57) rfl fp_X12_385 kd_133 sf_X12_57 dX12_go_89 rfl ?_
            refine w_return rfl dX12_go_92 ?_
            refine ⟨rfl, (((KG.refl.up (k := 133) (i := 55) (v := a) rfl).up (k := 133) (i := 56) (v := 500) rfl).up (k := 133) (i := 57) (v := 1) rfl), ?_⟩
            have hE9 := hED ()
            exact ⟨EDG (σ 133 54), EDG (σ 133 54), 0, -1, Or.inl ⟨fun i x y => hb i x (by omega), rfl, rfl, rfl, rfl⟩, (show 500 = _ by omega), Or.inl ⟨rfl, Or.inr ⟨by omega, rfl⟩⟩⟩
      refine w_icmp_ge (pc' := 11) (t := 52) dX12_go_8 rfl rfl (fun c_8 => ?_) (fun c_8 => ?_)
      · skip
        exact hj_52 (by omega)
      · skip
        refine w_aload_n (pc' := 12) (i := 0) (by rfl) (by rfl) dX12_go_11 rfl ?_
        refine w_getS (pc' := 15) (q := 134) fg_X12_7 kd_133 sf_X12_1 gr_133_1 dX12_go_12 rfl ?_
        refine w_aload_n (pc' := 16) (i := 0) (by rfl) (by rfl) dX12_go_15 rfl ?_
        refine v_getI (pc' := 19) (ji := 55) rfl fg_X12_379 kd_133 dX12_go_16 rfl ?_
        show Wp _ _ _ _ _ _ [gI a, gR 134]
        refine w_iald (pc' := 20) kd_134 (by omega) (by omega) dX12_go_19 rfl ?_
        show Wp _ _ _ _ _ _ [gI (σ 134 a)]
        refine w_bipush (pc' := 22) (by decide) (by decide) dX12_go_20 rfl ?_
        refine w_icmp_eq (pc' := 25) (t := 39) dX12_go_22 rfl rfl (fun c_22 => ?_) (fun c_22 => ?_)
        · skip
          refine w_aload_n (pc' := 40) (i := 0) (by rfl) (by rfl) dX12_go_39 rfl ?_
          refine w_dup (pc' := 41) dX12_go_40 rfl ?_
          refine v_getI (pc' := 44) (ji := 55) rfl fg_X12_379 kd_133 dX12_go_41 rfl ?_
          show Wp _ _ _ _ _ _ [gI a, gR 133]
          refine w_iconst (pc' := 45) (by decide) dX12_go_44 rfl ?_
          refine v_iadd (pc' := 46) (by omega) dX12_go_45 rfl ?_
          refine v_putI (pc' := 49) (ji := 55) rfl fp_X12_379 kd_133 sf_X12_55 dX12_go_46 rfl ?_
          refine Wp.heq (σ' := gUp σ 133 55 (a + 1)) gUp_same ?_
          refine w_goto (pc' := 0) dX12_go_49 rfl ?_
          exact ih_0 _ (by omega) (a + 1) rfl (by omega) (by omega) (by exact all_s hb (by omega))
        · skip
          refine w_aload_n (pc' := 26) (i := 0) (by rfl) (by rfl) dX12_go_25 rfl ?_
          refine w_getS (pc' := 29) (q := 134) fg_X12_7 kd_133 sf_X12_1 gr_133_1 dX12_go_26 rfl ?_
          refine w_aload_n (pc' := 30) (i := 0) (by rfl) (by rfl) dX12_go_29 rfl ?_
          refine v_getI (pc' := 33) (ji := 55) rfl fg_X12_379 kd_133 dX12_go_30 rfl ?_
          show Wp _ _ _ _ _ _ [gI a, gR 134]
          refine w_iald (pc' := 34) kd_134 (by omega) (by omega) dX12_go_33 rfl ?_
          show Wp _ _ _ _ _ _ [gI (σ 134 a)]
          refine w_bipush (pc' := 36) (by decide) (by decide) dX12_go_34 rfl ?_
          refine w_icmp_ne (pc' := 39) (t := 52) dX12_go_36 rfl rfl (fun c_36 => ?_) (fun c_36 => ?_)
          · skip
            exact hj_52 (by omega)
          · skip
            refine w_aload_n (pc' := 40) (i := 0) (by rfl) (by rfl) dX12_go_39 rfl ?_
            refine w_dup (pc' := 41) dX12_go_40 rfl ?_
            refine v_getI (pc' := 44) (ji := 55) rfl fg_X12_379 kd_133 dX12_go_41 rfl ?_
            show Wp _ _ _ _ _ _ [gI a, gR 133]
            refine w_iconst (pc' := 45) (by decide) dX12_go_44 rfl ?_
            refine v_iadd (pc' := 46) (by omega) dX12_go_45 rfl ?_
            refine v_putI (pc' := 49) (ji := 55) rfl fp_X12_379 kd_133 sf_X12_55 dX12_go_46 rfl ?_
            refine Wp.heq (σ' := gUp σ 133 55 (a + 1)) gUp_same ?_
            refine w_goto (pc' := 0) dX12_go_49 rfl ?_
            exact ih_0 _ (by omega) (a + 1) rfl (by omega) (by omega) (by exact all_s hb (by omega))
  refine Wp.heq (σ' := gUp σ 133 55 (σ 133 55)) gUp_id.symm ?_
  exact hl_0 _ (σ 133 55) rfl (by omega) (by omega) (by intro i a b; omega)
