/-! degrees: class and reference (gen/mod_deg.py) -/
theorem k_fillI {x n : Nat} (hk : gL[x]? = some (.inr (0, n))) (hn : gi32 n) (σ : gH) (v : Int) : Mt mJ7_fill_53178 0 [gR x, gI v] σ (rE (gX 1) (gUr σ x (fillF (σ x) n v))) := by
  refine Mt.walk (ls := [gR x, gI v, gX 1, gX 1]) pn_J7 rfl (fun _ _ h => by cases h.1) (Nat.le_of_ble_eq_true rfl) rfl ?_
  refine w_iconst (pc' := 1) (by decide) dJ7_fill_53178_0 rfl ?_
  refine w_istore_n (pc' := 2) (i := 2) (ls' := [gR x, gI v, gI 0, gX 1]) (by rfl) (by decide) (by rfl) dJ7_fill_53178_1 rfl ?_
  refine w_aload_n (pc' := 3) (i := 0) (by rfl) (by rfl) dJ7_fill_53178_2 rfl ?_
  refine w_alen (pc' := 4) hk (by decide) hn dJ7_fill_53178_3 rfl ?_
  refine w_istore_n (pc' := 5) (i := 3) (ls' := [gR x, gI v, gI 0, gI n]) (by rfl) (by decide) (by rfl) dJ7_fill_53178_4 rfl ?_
  have hl_5 : ∀ (mm : Nat) (i : Int) (σv : gH), ((n : Int) - i).toNat = mm → (0 ≤ i) → (i ≤ n) → (σv = gUr σ x (fillF (σ x) i v)) → Wp mJ7_fill_53178 0 (rE (gX 1) (gUr σ x (fillF (σ x) n v))) σv 5 [gR x, gI v, gI i, gI n] [] := by
    intro m_5
    induction m_5 using Nat.strongRecOn with
    | _ m_5 ih_5 =>
      intro i σv hmeas_5 h0 h1 hv
      refine w_iload_n (pc' := 6) (i := 2) (by rfl) (by rfl) dJ7_fill_53178_5 rfl ?_
      refine w_iload_n (pc' := 7) (i := 3) (by rfl) (by rfl) dJ7_fill_53178_6 rfl ?_
      refine w_icmp_ge (pc' := 10) (t := 20) dJ7_fill_53178_7 rfl rfl (fun c_7 => ?_) (fun c_7 => ?_)
      · skip
        refine w_return rfl dJ7_fill_53178_20 ?_
        exact ⟨rfl, by rw [hv, show i = (n : Int) by omega]⟩
      · skip
        refine w_aload_n (pc' := 11) (i := 0) (by rfl) (by rfl) dJ7_fill_53178_10 rfl ?_
        refine w_iload_n (pc' := 12) (i := 2) (by rfl) (by rfl) dJ7_fill_53178_11 rfl ?_
        refine w_iload_n (pc' := 13) (i := 1) (by rfl) (by rfl) dJ7_fill_53178_12 rfl ?_
        refine w_iast (pc' := 14) hk (by omega) (by omega) dJ7_fill_53178_13 rfl ?_
        refine v_iinc (pc' := 17) (x := i) (ls' := [gR x, gI v, gI (i + 1), gI n]) (by omega) (by decide) (by rfl) (by rfl) dJ7_fill_53178_14 rfl ?_
        refine w_goto (pc' := 5) dJ7_fill_53178_17 rfl ?_
        exact ih_5 _ (by omega) (i + 1) (gUp σv x i v) rfl (by omega) (by omega) (by rw [hv, gUp_row]; congr 1; funext j; unfold updI fillF; by_cases e1 : j = i; rw [if_pos e1, if_pos (by omega)]; rw [if_neg e1]; by_cases e2 : 0 ≤ j ∧ j < i; rw [if_pos e2, if_pos (by omega)]; rw [if_neg e2, if_neg (by omega)])
  exact hl_5 _ 0 σ rfl (by omega) (by omega) (by rw [show fillF (σ x) 0 v = σ x from by funext j; unfold fillF; rw [if_neg (by omega)]]; exact gUr_id.symm)
theorem k_fillJ {x n : Nat} (hk : gL[x]? = some (.inr (1, n))) (hn : gi32 n) (σ : gH) (v : Int) : Mt mJ7_fill_d0a16 0 [gR x, gJ v] σ (rE (gX 1) (gUr σ x (fillF (σ x) n v))) := by
  refine Mt.walk (ls := [gR x, gJ v, gX 1, gX 1, gX 1]) pn_J7 rfl (fun _ _ h => by cases h.1) (Nat.le_of_ble_eq_true rfl) rfl ?_
  refine w_iconst (pc' := 1) (by decide) dJ7_fill_d0a16_0 rfl ?_
  refine w_istore_n (pc' := 2) (i := 3) (ls' := [gR x, gJ v, gX 1, gI 0, gX 1]) (by rfl) (by decide) (by rfl) dJ7_fill_d0a16_1 rfl ?_
  refine w_aload_n (pc' := 3) (i := 0) (by rfl) (by rfl) dJ7_fill_d0a16_2 rfl ?_
  refine w_alen (pc' := 4) hk (by decide) hn dJ7_fill_d0a16_3 rfl ?_
  refine w_istore (pc' := 6) (ls' := [gR x, gJ v, gX 1, gI 0, gI n]) (by decide) (by rfl) dJ7_fill_d0a16_4 rfl ?_
  have hl_6 : ∀ (mm : Nat) (i : Int) (σv : gH), ((n : Int) - i).toNat = mm → (0 ≤ i) → (i ≤ n) → (σv = gUr σ x (fillF (σ x) i v)) → Wp mJ7_fill_d0a16 0 (rE (gX 1) (gUr σ x (fillF (σ x) n v))) σv 6 [gR x, gJ v, gX 1, gI i, gI n] [] := by
    intro m_6
    induction m_6 using Nat.strongRecOn with
    | _ m_6 ih_6 =>
      intro i σv hmeas_6 h0 h1 hv
      refine w_iload_n (pc' := 7) (i := 3) (by rfl) (by rfl) dJ7_fill_d0a16_6 rfl ?_
      refine w_iload (pc' := 9) (by rfl) dJ7_fill_d0a16_7 rfl ?_
      refine w_icmp_ge (pc' := 12) (t := 22) dJ7_fill_d0a16_9 rfl rfl (fun c_9 => ?_) (fun c_9 => ?_)
      · skip
        refine w_return rfl dJ7_fill_d0a16_22 ?_
        exact ⟨rfl, by rw [hv, show i = (n : Int) by omega]⟩
      · skip
        refine w_aload_n (pc' := 13) (i := 0) (by rfl) (by rfl) dJ7_fill_d0a16_12 rfl ?_
        refine w_iload_n (pc' := 14) (i := 3) (by rfl) (by rfl) dJ7_fill_d0a16_13 rfl ?_
        refine w_lload_n (pc' := 15) (i := 1) (by rfl) (by rfl) dJ7_fill_d0a16_14 rfl ?_
        refine w_last (pc' := 16) hk (by omega) (by omega) dJ7_fill_d0a16_15 rfl ?_
        refine v_iinc (pc' := 19) (x := i) (ls' := [gR x, gJ v, gX 1, gI (i + 1), gI n]) (by omega) (by decide) (by rfl) (by rfl) dJ7_fill_d0a16_16 rfl ?_
        refine w_goto (pc' := 6) dJ7_fill_d0a16_19 rfl ?_
        exact ih_6 _ (by omega) (i + 1) (gUp σv x i v) rfl (by omega) (by omega) (by rw [hv, gUp_row]; congr 1; funext j; unfold updI fillF; by_cases e1 : j = i; rw [if_pos e1, if_pos (by omega)]; rw [if_neg e1]; by_cases e2 : 0 ≤ j ∧ j < i; rw [if_pos e2, if_pos (by omega)]; rw [if_neg e2, if_neg (by omega)])
  exact hl_6 _ 0 σ rfl (by omega) (by omega) (by rw [show fillF (σ x) 0 v = σ x from by funext j; unfold fillF; rw [if_neg (by omega)]]; exact gUr_id.symm)
theorem mo_isOnE (σ : gH) (f u d : Int) (h : u = -1 ∨ isDy u) : Mt mX12_isOn 0 [gI f, gI (ev u), gI d] σ (rE (gI (gb (f ≤ d ∧ (u = -1 ∨ d < u)))) σ) := by
  have e := ev_on (u := u) (d := d) h
  have mo_isOn : Mt mX12_isOn 0 [gI f, gI (ev u), gI d] σ (rE (gI (gb (f ≤ d ∧ (ev u = 2147483647 ∨ d < ev u)))) σ) := by
    generalize ev u = w
    refine Mt.walk (ls := [gI f, gI w, gI d]) pn_X12 rfl (fun _ _ h => by cases h.1) (Nat.le_of_ble_eq_true rfl) rfl ?_
    refine w_iload_n (pc' := 1) (i := 0) (by rfl) (by rfl) dX12_isOn_0 rfl ?_
    refine w_iload_n (pc' := 2) (i := 2) (by rfl) (by rfl) dX12_isOn_1 rfl ?_
    refine w_icmp_gt (pc' := 5) (t := 21) dX12_isOn_2 rfl rfl (fun c_2 => ?_) (fun c_2 => ?_)
    · skip
      refine w_iconst (pc' := 22) (by decide) dX12_isOn_21 rfl ?_
      refine w_zreturn rfl (.inl rfl) dX12_isOn_22 ?_
      first | (exfalso; omega) | exact ⟨gbT (by omega), rfl⟩ | exact ⟨gbF (by omega), rfl⟩
    · skip
      refine w_iload_n (pc' := 6) (i := 1) (by rfl) (by rfl) dX12_isOn_5 rfl ?_
      refine w_ldc_w (pc' := 9) (by decide) ct_X12_282 dX12_isOn_6 rfl ?_
      refine w_icmp_eq (pc' := 12) (t := 17) dX12_isOn_9 rfl rfl (fun c_9 => ?_) (fun c_9 => ?_)
      · skip
        refine w_iconst (pc' := 18) (by decide) dX12_isOn_17 rfl ?_
        refine w_goto (pc' := 22) dX12_isOn_18 rfl ?_
        refine w_zreturn rfl (.inr rfl) dX12_isOn_22 ?_
        first | (exfalso; omega) | exact ⟨gbT (by omega), rfl⟩ | exact ⟨gbF (by omega), rfl⟩
      · skip
        refine w_iload_n (pc' := 13) (i := 2) (by rfl) (by rfl) dX12_isOn_12 rfl ?_
        refine w_iload_n (pc' := 14) (i := 1) (by rfl) (by rfl) dX12_isOn_13 rfl ?_
        refine w_icmp_ge (pc' := 17) (t := 21) dX12_isOn_14 rfl rfl (fun c_14 => ?_) (fun c_14 => ?_)
        · skip
          refine w_iconst (pc' := 22) (by decide) dX12_isOn_21 rfl ?_
          refine w_zreturn rfl (.inl rfl) dX12_isOn_22 ?_
          first | (exfalso; omega) | exact ⟨gbT (by omega), rfl⟩ | exact ⟨gbF (by omega), rfl⟩
        · skip
          refine w_iconst (pc' := 18) (by decide) dX12_isOn_17 rfl ?_
          refine w_goto (pc' := 22) dX12_isOn_18 rfl ?_
          refine w_zreturn rfl (.inr rfl) dX12_isOn_22 ?_
          first | (exfalso; omega) | exact ⟨gbT (by omega), rfl⟩ | exact ⟨gbF (by omega), rfl⟩
  have e2 : gb (f ≤ d ∧ (ev u = 2147483647 ∨ d < ev u)) = gb (f ≤ d ∧ (u = -1 ∨ d < u)) := gb_congr (and_congr_right fun _ => e)
  rw [← e2]
  exact mo_isOn
theorem dgR_ag {f g : Int → Int} {a b n : Int} (ha : 0 ≤ a ∧ a < 60) (hb : 0 ≤ b ∧ b < 60) (h : ∀ x, 0 ≤ x → x < 60 → f x = g x) : ∀ x, 0 ≤ x → x < 60 → dgR f a b n x = dgR g a b n x := by
  intro x h0 h1
  unfold dgR
  rw [h a ha.1 ha.2, h b hb.1 hb.2]
  split
  · unfold updI
    split
    · rfl
    · exact h x h0 h1
  · exact h x h0 h1
theorem dgI_t {a b kn fr un : Int → Int} {d t n : Int} {f : Int → Int} {i : Int} (h0 : 0 ≤ i) (hl : liv kn fr un d t i) : dgI a b kn fr un d t n f (i + 1).toNat = dgR (dgR (dgI a b kn fr un d t n f i.toNat) (a i) (b i) n) (b i) (a i) n := by
  have e : (i + 1).toNat = i.toNat + 1 := by omega
  have e2 : ((i.toNat : Nat) : Int) = i := Int.toNat_of_nonneg h0
  rw [e]
  show (if liv kn fr un d t (i.toNat : Int) then _ else _) = _
  rw [e2, if_pos hl]
theorem dgI_f {a b kn fr un : Int → Int} {d t n : Int} {f : Int → Int} {i : Int} (h0 : 0 ≤ i) (hl : ¬ liv kn fr un d t i) : dgI a b kn fr un d t n f (i + 1).toNat = dgI a b kn fr un d t n f i.toNat := by
  have e : (i + 1).toNat = i.toNat + 1 := by omega
  have e2 : ((i.toNat : Nat) : Int) = i := Int.toNat_of_nonneg h0
  rw [e]
  show (if liv kn fr un d t (i.toNat : Int) then _ else _) = _
  rw [e2, if_neg hl]
theorem dgN_s {m : Int} {a b kn fr un : Int → Int} {x d t n : Int} (h : 1 ≤ n) : dgN m a b kn fr un x d t n.toNat = dgI a b kn fr un d t n (dgN m a b kn fr un x d t (n - 1).toNat) m.toNat := by
  have e : n.toNat = (n - 1).toNat + 1 := by omega
  have e2 : (((n - 1).toNat : Nat) : Int) + 1 = n := by omega
  rw [e]
  show dgI a b kn fr un d t (((n - 1).toNat : Nat) + 1) _ _ = _
  rw [e2]
/-- in round n every degree is at most n, or none yet -/
theorem dgR_le {f : Int → Int} {a b n : Int} (h : ∀ x, f x ≤ n ∨ f x = 5) : ∀ x, dgR f a b n x ≤ n ∨ dgR f a b n x = 5 := by
  intro x
  unfold dgR
  split
  · unfold updI
    split
    · exact Or.inl (Int.le_refl _)
    · exact h x
  · exact h x
theorem dgI_le {a b kn fr un : Int → Int} {d t n : Int} {f : Int → Int} (h : ∀ x, f x ≤ n ∨ f x = 5) : ∀ (i : Nat) (x : Int), dgI a b kn fr un d t n f i x ≤ n ∨ dgI a b kn fr un d t n f i x = 5
  | 0, x => h x
  | i + 1, x => by
    show (if liv kn fr un d t i then dgR (dgR (dgI a b kn fr un d t n f i) (a i) (b i) n) (b i) (a i) n else dgI a b kn fr un d t n f i) x ≤ n ∨ (if liv kn fr un d t i then dgR (dgR (dgI a b kn fr un d t n f i) (a i) (b i) n) (b i) (a i) n else dgI a b kn fr un d t n f i) x = 5
    split
    · exact dgR_le (dgR_le (dgI_le h i)) x
    · exact dgI_le h i x
theorem dgN_le {m : Int} {a b kn fr un : Int → Int} {x d t : Int} : ∀ (n : Nat) (y : Int), dgN m a b kn fr un x d t n y ≤ n ∨ dgN m a b kn fr un x d t n y = 5
  | 0, y => by
    show updI (fun _ => 5) x 0 y ≤ 0 ∨ updI (fun _ => 5) x 0 y = 5
    unfold updI
    split
    · exact Or.inl (Int.le_refl _)
    · exact Or.inr rfl
  | n + 1, y => dgI_le (fun z => (dgN_le n z).imp (fun h => by omega) id) _ y
theorem dgI_ge {a b kn fr un : Int → Int} {d t n : Int} {f : Int → Int} (hn : 0 ≤ n) (h : ∀ x, 0 ≤ f x) : ∀ (i : Nat) (x : Int), 0 ≤ dgI a b kn fr un d t n f i x
  | 0, x => h x
  | i + 1, x => by
    have st : ∀ (g : Int → Int) (p q : Int), (∀ x, 0 ≤ g x) → ∀ x, 0 ≤ dgR g p q n x := by
      intro g p q hg x
      unfold dgR
      split
      · unfold updI
        split
        · exact hn
        · exact hg x
      · exact hg x
    show 0 ≤ (if liv kn fr un d t i then dgR (dgR (dgI a b kn fr un d t n f i) (a i) (b i) n) (b i) (a i) n else dgI a b kn fr un d t n f i) x
    split
    · exact st _ _ _ (st _ _ _ (dgI_ge hn h i)) x
    · exact dgI_ge hn h i x
theorem dgN_ge {m : Int} {a b kn fr un : Int → Int} {x d t : Int} : ∀ (n : Nat) (y : Int), 0 ≤ dgN m a b kn fr un x d t n y
  | 0, y => by
    show 0 ≤ updI (fun _ => 5) x 0 y
    unfold updI
    split
    · omega
    · show (0 : Int) ≤ 5
      omega
  | n + 1, y => dgI_ge (by omega) (dgN_ge n) _ y
theorem DG_le (σ : gH) (x d t y : Int) : 0 ≤ DG σ x d t y ∧ DG σ x d t y ≤ 5 := by
  have h1 := dgN_ge (m := σ 6 6) (a := σ 7) (b := σ 8) (kn := σ 12) (fr := σ 10) (un := σ 11) (x := x) (d := d) (t := t) 4 y
  have h2 := dgN_le (m := σ 6 6) (a := σ 7) (b := σ 8) (kn := σ 12) (fr := σ 10) (un := σ 11) (x := x) (d := d) (t := t) 4 y
  have e : DG σ x d t y = dgN (σ 6 6) (σ 7) (σ 8) (σ 12) (σ 10) (σ 11) x d t 4 y := rfl
  rw [e]
  omega
theorem DG_hm {σ σ' : gH} (h : hm σ' = hm σ) (x d t y : Int) : DG σ' x d t y = DG σ x d t y := by
  show DG (hm σ') x d t y = DG (hm σ) x d t y
  rw [h]
theorem k_reach {near other n : Int} (σ : gH) (f : Int → Int) (h1 : 0 ≤ near ∧ near < 60) (h2 : 0 ≤ other ∧ other < 60) (h3 : 1 ≤ n ∧ n ≤ 4) : Mt mX8_reach 0 [gR 3, gI near, gI other, gI n] (gUr σ 13 f) (rE (gX 1) (gUr σ 13 (dgR f near other n))) := by
  refine Mt.walk (ls := [gR 3, gI near, gI other, gI n, gX 1]) pn_X8 rfl (fun _ _ h => by cases h.1) (Nat.le_of_ble_eq_true rfl) rfl ?_
  refine w_iload_n (pc' := 1) (i := 1) (by rfl) (by rfl) dX8_reach_0 rfl ?_
  refine w_if_lt (pc' := 4) (t := 24) dX8_reach_1 rfl rfl (fun c_1 => ?_) (fun c_1 => ?_)
  · skip
    refine w_iconst (pc' := 25) (by decide) dX8_reach_24 rfl ?_
    refine w_istore (pc' := 27) (ls' := [gR 3, gI near, gI other, gI n, gI 0]) (by decide) (by rfl) dX8_reach_25 rfl ?_
    refine w_iload (pc' := 29) (by rfl) dX8_reach_27 rfl ?_
    refine w_if_eq (pc' := 32) (t := 61) dX8_reach_29 rfl rfl (fun c_29 => ?_) (fun c_29 => ?_)
    · skip
      refine w_return rfl dX8_reach_61 ?_
      first | (exfalso; omega) | exact ⟨rfl, by unfold dgR; rw [if_pos (by omega)]⟩ | exact ⟨rfl, by unfold dgR; rw [if_neg (by omega)]⟩
    · skip
      refine w_aload_n (pc' := 33) (i := 0) (by rfl) (by rfl) dX8_reach_32 rfl ?_
      refine w_getS (pc' := 36) (q := 13) fg_X8_28 kd_3 sf_X8_4 gr_3_4 dX8_reach_33 rfl ?_
      refine w_iload_n (pc' := 37) (i := 1) (by rfl) (by rfl) dX8_reach_36 rfl ?_
      refine w_iald (pc' := 38) kd_13 (by omega) (by omega) dX8_reach_37 rfl ?_
      show Wp _ _ _ _ _ _ [gI (f near)]
      refine w_iload_n (pc' := 39) (i := 3) (by rfl) (by rfl) dX8_reach_38 rfl ?_
      refine w_iconst (pc' := 40) (by decide) dX8_reach_39 rfl ?_
      refine v_isub (pc' := 41) (by omega) dX8_reach_40 rfl ?_
      refine w_icmp_ne (pc' := 44) (t := 61) dX8_reach_41 rfl rfl (fun c_41 => ?_) (fun c_41 => ?_)
      · skip
        refine w_return rfl dX8_reach_61 ?_
        first | (exfalso; omega) | exact ⟨rfl, by unfold dgR; rw [if_pos (by omega)]⟩ | exact ⟨rfl, by unfold dgR; rw [if_neg (by omega)]⟩
      · skip
        refine w_aload_n (pc' := 45) (i := 0) (by rfl) (by rfl) dX8_reach_44 rfl ?_
        refine w_getS (pc' := 48) (q := 13) fg_X8_28 kd_3 sf_X8_4 gr_3_4 dX8_reach_45 rfl ?_
        refine w_iload_n (pc' := 49) (i := 2) (by rfl) (by rfl) dX8_reach_48 rfl ?_
        refine w_iald (pc' := 50) kd_13 (by omega) (by omega) dX8_reach_49 rfl ?_
        show Wp _ _ _ _ _ _ [gI (f other)]
        refine w_iconst (pc' := 51) (by decide) dX8_reach_50 rfl ?_
        refine w_icmp_ne (pc' := 54) (t := 61) dX8_reach_51 rfl rfl (fun c_51 => ?_) (fun c_51 => ?_)
        · skip
          refine w_return rfl dX8_reach_61 ?_
          first | (exfalso; omega) | exact ⟨rfl, by unfold dgR; rw [if_pos (by omega)]⟩ | exact ⟨rfl, by unfold dgR; rw [if_neg (by omega)]⟩
        · skip
          refine w_aload_n (pc' := 55) (i := 0) (by rfl) (by rfl) dX8_reach_54 rfl ?_
          refine w_getS (pc' := 58) (q := 13) fg_X8_28 kd_3 sf_X8_4 gr_3_4 dX8_reach_55 rfl ?_
          refine w_iload_n (pc' := 59) (i := 2) (by rfl) (by rfl) dX8_reach_58 rfl ?_
          refine w_iload_n (pc' := 60) (i := 3) (by rfl) (by rfl) dX8_reach_59 rfl ?_
          refine w_iast (pc' := 61) kd_13 (by omega) (by omega) dX8_reach_60 rfl ?_
          refine Wp.heq (σ' := gUr σ 13 (updI f other n)) gUp_row ?_
          refine w_return rfl dX8_reach_61 ?_
          first | (exfalso; omega) | exact ⟨rfl, by unfold dgR; rw [if_pos (by omega)]⟩ | exact ⟨rfl, by unfold dgR; rw [if_neg (by omega)]⟩
  · skip
    refine w_iload_n (pc' := 5) (i := 1) (by rfl) (by rfl) dX8_reach_4 rfl ?_
    refine w_bipush (pc' := 7) (by decide) (by decide) dX8_reach_5 rfl ?_
    refine w_icmp_ge (pc' := 10) (t := 24) dX8_reach_7 rfl rfl (fun c_7 => ?_) (fun c_7 => ?_)
    · skip
      refine w_iconst (pc' := 25) (by decide) dX8_reach_24 rfl ?_
      refine w_istore (pc' := 27) (ls' := [gR 3, gI near, gI other, gI n, gI 0]) (by decide) (by rfl) dX8_reach_25 rfl ?_
      refine w_iload (pc' := 29) (by rfl) dX8_reach_27 rfl ?_
      refine w_if_eq (pc' := 32) (t := 61) dX8_reach_29 rfl rfl (fun c_29 => ?_) (fun c_29 => ?_)
      · skip
        refine w_return rfl dX8_reach_61 ?_
        first | (exfalso; omega) | exact ⟨rfl, by unfold dgR; rw [if_pos (by omega)]⟩ | exact ⟨rfl, by unfold dgR; rw [if_neg (by omega)]⟩
      · skip
        refine w_aload_n (pc' := 33) (i := 0) (by rfl) (by rfl) dX8_reach_32 rfl ?_
        refine w_getS (pc' := 36) (q := 13) fg_X8_28 kd_3 sf_X8_4 gr_3_4 dX8_reach_33 rfl ?_
        refine w_iload_n (pc' := 37) (i := 1) (by rfl) (by rfl) dX8_reach_36 rfl ?_
        refine w_iald (pc' := 38) kd_13 (by omega) (by omega) dX8_reach_37 rfl ?_
        show Wp _ _ _ _ _ _ [gI (f near)]
        refine w_iload_n (pc' := 39) (i := 3) (by rfl) (by rfl) dX8_reach_38 rfl ?_
        refine w_iconst (pc' := 40) (by decide) dX8_reach_39 rfl ?_
        refine v_isub (pc' := 41) (by omega) dX8_reach_40 rfl ?_
        refine w_icmp_ne (pc' := 44) (t := 61) dX8_reach_41 rfl rfl (fun c_41 => ?_) (fun c_41 => ?_)
        · skip
          refine w_return rfl dX8_reach_61 ?_
          first | (exfalso; omega) | exact ⟨rfl, by unfold dgR; rw [if_pos (by omega)]⟩ | exact ⟨rfl, by unfold dgR; rw [if_neg (by omega)]⟩
        · skip
          refine w_aload_n (pc' := 45) (i := 0) (by rfl) (by rfl) dX8_reach_44 rfl ?_
          refine w_getS (pc' := 48) (q := 13) fg_X8_28 kd_3 sf_X8_4 gr_3_4 dX8_reach_45 rfl ?_
          refine w_iload_n (pc' := 49) (i := 2) (by rfl) (by rfl) dX8_reach_48 rfl ?_
          refine w_iald (pc' := 50) kd_13 (by omega) (by omega) dX8_reach_49 rfl ?_
          show Wp _ _ _ _ _ _ [gI (f other)]
          refine w_iconst (pc' := 51) (by decide) dX8_reach_50 rfl ?_
          refine w_icmp_ne (pc' := 54) (t := 61) dX8_reach_51 rfl rfl (fun c_51 => ?_) (fun c_51 => ?_)
          · skip
            refine w_return rfl dX8_reach_61 ?_
            first | (exfalso; omega) | exact ⟨rfl, by unfold dgR; rw [if_pos (by omega)]⟩ | exact ⟨rfl, by unfold dgR; rw [if_neg (by omega)]⟩
          · skip
            refine w_aload_n (pc' := 55) (i := 0) (by rfl) (by rfl) dX8_reach_54 rfl ?_
            refine w_getS (pc' := 58) (q := 13) fg_X8_28 kd_3 sf_X8_4 gr_3_4 dX8_reach_55 rfl ?_
            refine w_iload_n (pc' := 59) (i := 2) (by rfl) (by rfl) dX8_reach_58 rfl ?_
            refine w_iload_n (pc' := 60) (i := 3) (by rfl) (by rfl) dX8_reach_59 rfl ?_
            refine w_iast (pc' := 61) kd_13 (by omega) (by omega) dX8_reach_60 rfl ?_
            refine Wp.heq (σ' := gUr σ 13 (updI f other n)) gUp_row ?_
            refine w_return rfl dX8_reach_61 ?_
            first | (exfalso; omega) | exact ⟨rfl, by unfold dgR; rw [if_pos (by omega)]⟩ | exact ⟨rfl, by unfold dgR; rw [if_neg (by omega)]⟩
    · skip
      refine w_iload_n (pc' := 11) (i := 2) (by rfl) (by rfl) dX8_reach_10 rfl ?_
      refine w_if_lt (pc' := 14) (t := 24) dX8_reach_11 rfl rfl (fun c_11 => ?_) (fun c_11 => ?_)
      · skip
        refine w_iconst (pc' := 25) (by decide) dX8_reach_24 rfl ?_
        refine w_istore (pc' := 27) (ls' := [gR 3, gI near, gI other, gI n, gI 0]) (by decide) (by rfl) dX8_reach_25 rfl ?_
        refine w_iload (pc' := 29) (by rfl) dX8_reach_27 rfl ?_
        refine w_if_eq (pc' := 32) (t := 61) dX8_reach_29 rfl rfl (fun c_29 => ?_) (fun c_29 => ?_)
        · skip
          refine w_return rfl dX8_reach_61 ?_
          first | (exfalso; omega) | exact ⟨rfl, by unfold dgR; rw [if_pos (by omega)]⟩ | exact ⟨rfl, by unfold dgR; rw [if_neg (by omega)]⟩
        · skip
          refine w_aload_n (pc' := 33) (i := 0) (by rfl) (by rfl) dX8_reach_32 rfl ?_
          refine w_getS (pc' := 36) (q := 13) fg_X8_28 kd_3 sf_X8_4 gr_3_4 dX8_reach_33 rfl ?_
          refine w_iload_n (pc' := 37) (i := 1) (by rfl) (by rfl) dX8_reach_36 rfl ?_
          refine w_iald (pc' := 38) kd_13 (by omega) (by omega) dX8_reach_37 rfl ?_
          show Wp _ _ _ _ _ _ [gI (f near)]
          refine w_iload_n (pc' := 39) (i := 3) (by rfl) (by rfl) dX8_reach_38 rfl ?_
          refine w_iconst (pc' := 40) (by decide) dX8_reach_39 rfl ?_
          refine v_isub (pc' := 41) (by omega) dX8_reach_40 rfl ?_
          refine w_icmp_ne (pc' := 44) (t := 61) dX8_reach_41 rfl rfl (fun c_41 => ?_) (fun c_41 => ?_)
          · skip
            refine w_return rfl dX8_reach_61 ?_
            first | (exfalso; omega) | exact ⟨rfl, by unfold dgR; rw [if_pos (by omega)]⟩ | exact ⟨rfl, by unfold dgR; rw [if_neg (by omega)]⟩
          · skip
            refine w_aload_n (pc' := 45) (i := 0) (by rfl) (by rfl) dX8_reach_44 rfl ?_
            refine w_getS (pc' := 48) (q := 13) fg_X8_28 kd_3 sf_X8_4 gr_3_4 dX8_reach_45 rfl ?_
            refine w_iload_n (pc' := 49) (i := 2) (by rfl) (by rfl) dX8_reach_48 rfl ?_
            refine w_iald (pc' := 50) kd_13 (by omega) (by omega) dX8_reach_49 rfl ?_
            show Wp _ _ _ _ _ _ [gI (f other)]
            refine w_iconst (pc' := 51) (by decide) dX8_reach_50 rfl ?_
            refine w_icmp_ne (pc' := 54) (t := 61) dX8_reach_51 rfl rfl (fun c_51 => ?_) (fun c_51 => ?_)
            · skip
              refine w_return rfl dX8_reach_61 ?_
              first | (exfalso; omega) | exact ⟨rfl, by unfold dgR; rw [if_pos (by omega)]⟩ | exact ⟨rfl, by unfold dgR; rw [if_neg (by omega)]⟩
            · skip
              refine w_aload_n (pc' := 55) (i := 0) (by rfl) (by rfl) dX8_reach_54 rfl ?_
              refine w_getS (pc' := 58) (q := 13) fg_X8_28 kd_3 sf_X8_4 gr_3_4 dX8_reach_55 rfl ?_
              refine w_iload_n (pc' := 59) (i := 2) (by rfl) (by rfl) dX8_reach_58 rfl ?_
              refine w_iload_n (pc' := 60) (i := 3) (by rfl) (by rfl) dX8_reach_59 rfl ?_
              refine w_iast (pc' := 61) kd_13 (by omega) (by omega) dX8_reach_60 rfl ?_
              refine Wp.heq (σ' := gUr σ 13 (updI f other n)) gUp_row ?_
              refine w_return rfl dX8_reach_61 ?_
              first | (exfalso; omega) | exact ⟨rfl, by unfold dgR; rw [if_pos (by omega)]⟩ | exact ⟨rfl, by unfold dgR; rw [if_neg (by omega)]⟩
      · skip
        refine w_iload_n (pc' := 15) (i := 2) (by rfl) (by rfl) dX8_reach_14 rfl ?_
        refine w_bipush (pc' := 17) (by decide) (by decide) dX8_reach_15 rfl ?_
        refine w_icmp_ge (pc' := 20) (t := 24) dX8_reach_17 rfl rfl (fun c_17 => ?_) (fun c_17 => ?_)
        · skip
          refine w_iconst (pc' := 25) (by decide) dX8_reach_24 rfl ?_
          refine w_istore (pc' := 27) (ls' := [gR 3, gI near, gI other, gI n, gI 0]) (by decide) (by rfl) dX8_reach_25 rfl ?_
          refine w_iload (pc' := 29) (by rfl) dX8_reach_27 rfl ?_
          refine w_if_eq (pc' := 32) (t := 61) dX8_reach_29 rfl rfl (fun c_29 => ?_) (fun c_29 => ?_)
          · skip
            refine w_return rfl dX8_reach_61 ?_
            first | (exfalso; omega) | exact ⟨rfl, by unfold dgR; rw [if_pos (by omega)]⟩ | exact ⟨rfl, by unfold dgR; rw [if_neg (by omega)]⟩
          · skip
            refine w_aload_n (pc' := 33) (i := 0) (by rfl) (by rfl) dX8_reach_32 rfl ?_
            refine w_getS (pc' := 36) (q := 13) fg_X8_28 kd_3 sf_X8_4 gr_3_4 dX8_reach_33 rfl ?_
            refine w_iload_n (pc' := 37) (i := 1) (by rfl) (by rfl) dX8_reach_36 rfl ?_
            refine w_iald (pc' := 38) kd_13 (by omega) (by omega) dX8_reach_37 rfl ?_
            show Wp _ _ _ _ _ _ [gI (f near)]
            refine w_iload_n (pc' := 39) (i := 3) (by rfl) (by rfl) dX8_reach_38 rfl ?_
            refine w_iconst (pc' := 40) (by decide) dX8_reach_39 rfl ?_
            refine v_isub (pc' := 41) (by omega) dX8_reach_40 rfl ?_
            refine w_icmp_ne (pc' := 44) (t := 61) dX8_reach_41 rfl rfl (fun c_41 => ?_) (fun c_41 => ?_)
            · skip
              refine w_return rfl dX8_reach_61 ?_
              first | (exfalso; omega) | exact ⟨rfl, by unfold dgR; rw [if_pos (by omega)]⟩ | exact ⟨rfl, by unfold dgR; rw [if_neg (by omega)]⟩
            · skip
              refine w_aload_n (pc' := 45) (i := 0) (by rfl) (by rfl) dX8_reach_44 rfl ?_
              refine w_getS (pc' := 48) (q := 13) fg_X8_28 kd_3 sf_X8_4 gr_3_4 dX8_reach_45 rfl ?_
              refine w_iload_n (pc' := 49) (i := 2) (by rfl) (by rfl) dX8_reach_48 rfl ?_
              refine w_iald (pc' := 50) kd_13 (by omega) (by omega) dX8_reach_49 rfl ?_
              show Wp _ _ _ _ _ _ [gI (f other)]
              refine w_iconst (pc' := 51) (by decide) dX8_reach_50 rfl ?_
              refine w_icmp_ne (pc' := 54) (t := 61) dX8_reach_51 rfl rfl (fun c_51 => ?_) (fun c_51 => ?_)
              · skip
                refine w_return rfl dX8_reach_61 ?_
                first | (exfalso; omega) | exact ⟨rfl, by unfold dgR; rw [if_pos (by omega)]⟩ | exact ⟨rfl, by unfold dgR; rw [if_neg (by omega)]⟩
              · skip
                refine w_aload_n (pc' := 55) (i := 0) (by rfl) (by rfl) dX8_reach_54 rfl ?_
                refine w_getS (pc' := 58) (q := 13) fg_X8_28 kd_3 sf_X8_4 gr_3_4 dX8_reach_55 rfl ?_
                refine w_iload_n (pc' := 59) (i := 2) (by rfl) (by rfl) dX8_reach_58 rfl ?_
                refine w_iload_n (pc' := 60) (i := 3) (by rfl) (by rfl) dX8_reach_59 rfl ?_
                refine w_iast (pc' := 61) kd_13 (by omega) (by omega) dX8_reach_60 rfl ?_
                refine Wp.heq (σ' := gUr σ 13 (updI f other n)) gUp_row ?_
                refine w_return rfl dX8_reach_61 ?_
                first | (exfalso; omega) | exact ⟨rfl, by unfold dgR; rw [if_pos (by omega)]⟩ | exact ⟨rfl, by unfold dgR; rw [if_neg (by omega)]⟩
        · skip
          refine w_iconst (pc' := 21) (by decide) dX8_reach_20 rfl ?_
          refine w_goto (pc' := 25) dX8_reach_21 rfl ?_
          refine w_istore (pc' := 27) (ls' := [gR 3, gI near, gI other, gI n, gI 1]) (by decide) (by rfl) dX8_reach_25 rfl ?_
          refine w_iload (pc' := 29) (by rfl) dX8_reach_27 rfl ?_
          refine w_if_eq (pc' := 32) (t := 61) dX8_reach_29 rfl rfl (fun c_29 => ?_) (fun c_29 => ?_)
          · skip
            refine w_return rfl dX8_reach_61 ?_
            first | (exfalso; omega) | exact ⟨rfl, by unfold dgR; rw [if_pos (by omega)]⟩ | exact ⟨rfl, by unfold dgR; rw [if_neg (by omega)]⟩
          · skip
            refine w_aload_n (pc' := 33) (i := 0) (by rfl) (by rfl) dX8_reach_32 rfl ?_
            refine w_getS (pc' := 36) (q := 13) fg_X8_28 kd_3 sf_X8_4 gr_3_4 dX8_reach_33 rfl ?_
            refine w_iload_n (pc' := 37) (i := 1) (by rfl) (by rfl) dX8_reach_36 rfl ?_
            refine w_iald (pc' := 38) kd_13 (by omega) (by omega) dX8_reach_37 rfl ?_
            show Wp _ _ _ _ _ _ [gI (f near)]
            refine w_iload_n (pc' := 39) (i := 3) (by rfl) (by rfl) dX8_reach_38 rfl ?_
            refine w_iconst (pc' := 40) (by decide) dX8_reach_39 rfl ?_
            refine v_isub (pc' := 41) (by omega) dX8_reach_40 rfl ?_
            refine w_icmp_ne (pc' := 44) (t := 61) dX8_reach_41 rfl rfl (fun c_41 => ?_) (fun c_41 => ?_)
            · skip
              refine w_return rfl dX8_reach_61 ?_
              first | (exfalso; omega) | exact ⟨rfl, by unfold dgR; rw [if_pos (by omega)]⟩ | exact ⟨rfl, by unfold dgR; rw [if_neg (by omega)]⟩
            · skip
              refine w_aload_n (pc' := 45) (i := 0) (by rfl) (by rfl) dX8_reach_44 rfl ?_
              refine w_getS (pc' := 48) (q := 13) fg_X8_28 kd_3 sf_X8_4 gr_3_4 dX8_reach_45 rfl ?_
              refine w_iload_n (pc' := 49) (i := 2) (by rfl) (by rfl) dX8_reach_48 rfl ?_
              refine w_iald (pc' := 50) kd_13 (by omega) (by omega) dX8_reach_49 rfl ?_
              show Wp _ _ _ _ _ _ [gI (f other)]
              refine w_iconst (pc' := 51) (by decide) dX8_reach_50 rfl ?_
              refine w_icmp_ne (pc' := 54) (t := 61) dX8_reach_51 rfl rfl (fun c_51 => ?_) (fun c_51 => ?_)
              · skip
                refine w_return rfl dX8_reach_61 ?_
                first | (exfalso; omega) | exact ⟨rfl, by unfold dgR; rw [if_pos (by omega)]⟩ | exact ⟨rfl, by unfold dgR; rw [if_neg (by omega)]⟩
              · skip
                refine w_aload_n (pc' := 55) (i := 0) (by rfl) (by rfl) dX8_reach_54 rfl ?_
                refine w_getS (pc' := 58) (q := 13) fg_X8_28 kd_3 sf_X8_4 gr_3_4 dX8_reach_55 rfl ?_
                refine w_iload_n (pc' := 59) (i := 2) (by rfl) (by rfl) dX8_reach_58 rfl ?_
                refine w_iload_n (pc' := 60) (i := 3) (by rfl) (by rfl) dX8_reach_59 rfl ?_
                refine w_iast (pc' := 61) kd_13 (by omega) (by omega) dX8_reach_60 rfl ?_
                refine Wp.heq (σ' := gUr σ 13 (updI f other n)) gUp_row ?_
                refine w_return rfl dX8_reach_61 ?_
                first | (exfalso; omega) | exact ⟨rfl, by unfold dgR; rw [if_pos (by omega)]⟩ | exact ⟨rfl, by unfold dgR; rw [if_neg (by omega)]⟩
set_option maxHeartbeats 1000000 in
theorem k_spread {σ0 σ : gH} (hI : Inv σ0) (hq : QC σ0 σ) (x d t : Int) (hx : 0 ≤ x ∧ x < σ0 3 2) : Mt mX8_spread 1 [gR 3, gI x, gI d, gI t] σ (fun v σ' => v = gX 1 ∧ QC σ0 σ' ∧ Kp 34 σ σ' ∧ ∀ y, 0 ≤ y → y < 60 → σ' 13 y = DG σ0 x d t y) := by
  refine Mt.walk (ls := [gR 3, gI x, gI d, gI t, gX 1, gX 1, gX 1]) pn_X8 rfl (fun _ _ h => by cases h.1) (Nat.le_of_ble_eq_true rfl) rfl ?_
  have hp := hI.f.hp
  have hk1 := hI.f.kin.2.2.1
  refine w_aload_n (pc' := 1) (i := 0) (by rfl) (by rfl) dX8_spread_0 rfl ?_
  refine w_getS (pc' := 4) (q := 6) fg_X8_24 kd_3 sf_X8_3 gr_3_3 dX8_spread_1 rfl ?_
  refine v_callVE (pc' := 7) (st' := [gI (σ0 6 6)]) (d' := 0) (av := []) mi_mX9_total lk_X8_55 rfl ci_X9 kd_6 rfl (Nat.le_of_ble_eq_true rfl) (Nat.le_of_ble_eq_true rfl) dX8_spread_4 rfl rfl (hmP (F := fun z => gI (z 6 6)) (hq.1) (fun _ => rfl) (sp_total sp_6 σ)) ?_
  refine w_istore (pc' := 9) (ls' := [gR 3, gI x, gI d, gI t, gI (σ0 6 6), gX 1, gX 1]) (by decide) (by rfl) dX8_spread_7 rfl ?_
  refine w_iload_n (pc' := 10) (i := 1) (by rfl) (by rfl) dX8_spread_9 rfl ?_
  refine w_aload_n (pc' := 11) (i := 0) (by rfl) (by rfl) dX8_spread_10 rfl ?_
  refine v_getI (pc' := 14) (ji := 5) rfl fg_X8_31 kd_3 dX8_spread_11 rfl ?_
  refine w_icmp_ne (pc' := 17) (t := 43) dX8_spread_14 rfl rfl (fun c_14 => ?_) (fun c_14 => ?_)
  · skip
    refine w_aload_n (pc' := 44) (i := 0) (by rfl) (by rfl) dX8_spread_43 rfl ?_
    refine w_iload_n (pc' := 45) (i := 1) (by rfl) (by rfl) dX8_spread_44 rfl ?_
    refine v_putI (pc' := 48) (ji := 5) rfl fp_X8_31 kd_3 sf_X8_5 dX8_spread_45 rfl ?_
    refine w_aload_n (pc' := 49) (i := 0) (by rfl) (by rfl) dX8_spread_48 rfl ?_
    refine w_iload_n (pc' := 50) (i := 2) (by rfl) (by rfl) dX8_spread_49 rfl ?_
    refine v_putI (pc' := 53) (ji := 6) rfl fp_X8_63 kd_3 sf_X8_6 dX8_spread_50 rfl ?_
    refine w_aload_n (pc' := 54) (i := 0) (by rfl) (by rfl) dX8_spread_53 rfl ?_
    refine w_iload_n (pc' := 55) (i := 3) (by rfl) (by rfl) dX8_spread_54 rfl ?_
    refine v_putI (pc' := 58) (ji := 7) rfl fp_X8_66 kd_3 sf_X8_7 dX8_spread_55 rfl ?_
    refine w_aload_n (pc' := 59) (i := 0) (by rfl) (by rfl) dX8_spread_58 rfl ?_
    refine w_iload (pc' := 61) (by rfl) dX8_spread_59 rfl ?_
    refine v_putI (pc' := 64) (ji := 8) rfl fp_X8_69 kd_3 sf_X8_8 dX8_spread_61 rfl ?_
    refine w_aload_n (pc' := 65) (i := 0) (by rfl) (by rfl) dX8_spread_64 rfl ?_
    refine w_getS (pc' := 68) (q := 13) fg_X8_28 kd_3 sf_X8_4 gr_3_4 dX8_spread_65 rfl ?_
    refine w_iconst (pc' := 69) (by decide) dX8_spread_68 rfl ?_
    refine v_callSE (pc' := 72) (st' := []) (d' := 0) (av := [gR 13, gI 5]) ms_mJ7_fill_53178 st_mJ7_fill_53178 lk_X8_72 rfl rfl (Nat.le_of_ble_eq_true rfl) (Nat.le_of_ble_eq_true rfl) dX8_spread_69 rfl rfl (k_fillI (x := 13) (n := 60) kd_13 (by decide) (gUp (gUp (gUp (gUp σ 3 5 x) 3 6 d) 3 7 t) 3 8 (σ0 6 6)) 5) ?_
    refine w_aload_n (pc' := 73) (i := 0) (by rfl) (by rfl) dX8_spread_72 rfl ?_
    refine w_iload_n (pc' := 74) (i := 1) (by rfl) (by rfl) dX8_spread_73 rfl ?_
    refine v_callVE (pc' := 77) (st' := [gI (gb (0 ≤ x ∧ x < (σ0 3 2)))]) (d' := 0) (av := [gI x]) mi_mX8_has lk_X8_40 rfl ci_X8 kd_3 rfl (Nat.le_of_ble_eq_true rfl) (Nat.le_of_ble_eq_true rfl) dX8_spread_74 rfl rfl (hmP (F := fun z => gI (gb (0 ≤ x ∧ x < (z 3 2)))) (((hm_ur (hm_nfC 13 (by decide))).trans ((hm_up (by decide)).trans ((hm_up (by decide)).trans ((hm_up (by decide)).trans ((hm_up (by decide)).trans hq.1)))))) (fun _ => rfl) (pa_has (gUr (gUp (gUp (gUp (gUp σ 3 5 x) 3 6 d) 3 7 t) 3 8 (σ0 6 6)) 13 (fillF (σ 13) 60 5)) (hm_FA (((hm_ur (hm_nfC 13 (by decide))).trans ((hm_up (by decide)).trans ((hm_up (by decide)).trans ((hm_up (by decide)).trans ((hm_up (by decide)).trans hq.1)))))) hI.1).1.hp x)) ?_
    refine v_if_eqB (pc' := 80) (t := 87) dX8_spread_77 rfl rfl (fun c_77 => ?_) (fun c_77 => ?_)
    · skip
      exfalso; omega
    · skip
      refine w_aload_n (pc' := 81) (i := 0) (by rfl) (by rfl) dX8_spread_80 rfl ?_
      refine w_getS (pc' := 84) (q := 13) fg_X8_28 kd_3 sf_X8_4 gr_3_4 dX8_spread_81 rfl ?_
      refine w_iload_n (pc' := 85) (i := 1) (by rfl) (by rfl) dX8_spread_84 rfl ?_
      refine w_iconst (pc' := 86) (by decide) dX8_spread_85 rfl ?_
      refine w_iast (pc' := 87) kd_13 (by omega) (by omega) dX8_spread_86 rfl ?_
      refine Wp.heq (σ' := gUr (gUp (gUp (gUp (gUp σ 3 5 x) 3 6 d) 3 7 t) 3 8 (σ0 6 6)) 13 (updI (fillF (σ 13) 60 5) x 0)) gUp_row ?_
      refine w_iconst (pc' := 88) (by decide) dX8_spread_87 rfl ?_
      refine w_istore (pc' := 90) (ls' := [gR 3, gI x, gI d, gI t, gI (σ0 6 6), gI 1, gX 1]) (by decide) (by rfl) dX8_spread_88 rfl ?_
      have hl_90 : ∀ (mm : Nat) (n : Int) (f : Int → Int), (5 - n).toNat = mm → (1 ≤ n) → (n ≤ 5) → (∀ y, 0 ≤ y → y < 60 → f y = dgN (σ0 6 6) (σ0 7) (σ0 8) (σ0 12) (σ0 10) (σ0 11) x d t (n - 1).toNat y) → Wp mX8_spread 1 (fun v σ' => v = gX 1 ∧ QC σ0 σ' ∧ Kp 34 σ σ' ∧ ∀ y, 0 ≤ y → y < 60 → σ' 13 y = DG σ0 x d t y) (gUr (gUp (gUp (gUp (gUp σ 3 5 x) 3 6 d) 3 7 t) 3 8 (σ0 6 6)) 13 f) 90 [gR 3, gI x, gI d, gI t, gI (σ0 6 6), gI n, gX 1] [] := by
        intro m_90
        induction m_90 using Nat.strongRecOn with
        | _ m_90 ih_90 =>
          intro n f hmeas_90 hn0 hn1 hf
          have hk0 := hI.f.kin.2.1
          refine w_iload (pc' := 92) (by rfl) dX8_spread_90 rfl ?_
          refine w_iconst (pc' := 93) (by decide) dX8_spread_92 rfl ?_
          refine w_icmp_ge (pc' := 96) (t := 192) dX8_spread_93 rfl rfl (fun c_93 => ?_) (fun c_93 => ?_)
          · skip
            refine w_return rfl dX8_spread_192 ?_
            have hf2 : ∀ y, 0 ≤ y → y < 60 → f y = DG σ0 x d t y := fun y h0 h1 => by
              rw [hf y h0 h1, show n - 1 = 4 by omega]
              rfl
            have q1 := (((hm_up (σ := gUp (gUp (gUp σ 3 5 x) 3 6 d) 3 7 t) (k := 3) (i := 8) (v := σ0 6 6) (by decide)).trans (hm_up (by decide))).trans ((hm_up (by decide)).trans (hm_up (by decide)))).trans hq.1
            have q2 := (hm_ur (σ := gUp (gUp (gUp (gUp σ 3 5 x) 3 6 d) 3 7 t) 3 8 (σ0 6 6)) (k := 13) (f := f) (hm_nfC 13 (by decide))).trans q1
            have k6 : σ 6 6 = σ0 6 6 := hq.rd (.inr rfl)
            have hc : C_deg (gUr (gUp (gUp (gUp (gUp σ 3 5 x) 3 6 d) 3 7 t) 3 8 (σ0 6 6)) 13 f) := ⟨by show σ0 6 6 ≤ σ 6 6; omega, fun _ _ y h0 h1 => (hf2 y h0 h1).trans (DG_hm q2 x d t y).symm⟩
            exact ⟨rfl, ⟨q2, hc, hq.2.2⟩, ((((Kp.refl.up (by decide)).up (by decide)).up (by decide)).up (by decide)).ur (by decide), hf2⟩
          · skip
            refine w_iconst (pc' := 97) (by decide) dX8_spread_96 rfl ?_
            refine w_istore (pc' := 99) (ls' := [gR 3, gI x, gI d, gI t, gI (σ0 6 6), gI n, gI 0]) (by decide) (by rfl) dX8_spread_97 rfl ?_
            have hl_99 : ∀ (mm : Nat) (i : Int) (g : Int → Int), (σ0 6 6 - i).toNat = mm → (0 ≤ i) → (i ≤ σ0 6 6) → (∀ y, 0 ≤ y → y < 60 → g y = dgI (σ0 7) (σ0 8) (σ0 12) (σ0 10) (σ0 11) d t n (dgN (σ0 6 6) (σ0 7) (σ0 8) (σ0 12) (σ0 10) (σ0 11) x d t (n - 1).toNat) i.toNat y) → Wp mX8_spread 1 (fun v σ' => v = gX 1 ∧ QC σ0 σ' ∧ Kp 34 σ σ' ∧ ∀ y, 0 ≤ y → y < 60 → σ' 13 y = DG σ0 x d t y) (gUr (gUp (gUp (gUp (gUp σ 3 5 x) 3 6 d) 3 7 t) 3 8 (σ0 6 6)) 13 g) 99 [gR 3, gI x, gI d, gI t, gI (σ0 6 6), gI n, gI i] [] := by
              intro m_99
              induction m_99 using Nat.strongRecOn with
              | _ m_99 ih_99 =>
                intro i g hmeas_99 hi0 hi1 hg
                have hk1 := hI.f.kin.2.2.1
                have hb : i < σ0 6 6 → (0 ≤ σ0 7 i ∧ σ0 7 i < 60) ∧ (0 ≤ σ0 8 i ∧ σ0 8 i < 60) := fun h => by
                  have k := (hI.f.kin.2.2.2 i hi0 h).2.2.2.2.2
                  have p := hI.f.hp
                  unfold isPe isP at k
                  omega
                refine w_iload (pc' := 101) (by rfl) dX8_spread_99 rfl ?_
                refine w_iload (pc' := 103) (by rfl) dX8_spread_101 rfl ?_
                refine w_icmp_ge (pc' := 106) (t := 186) dX8_spread_103 rfl rfl (fun c_103 => ?_) (fun c_103 => ?_)
                · skip
                  refine v_iinc (pc' := 189) (x := n) (ls' := [gR 3, gI x, gI d, gI t, gI (σ0 6 6), gI (n + 1), gI i]) (by omega) (by decide) (by rfl) (by rfl) dX8_spread_186 rfl ?_
                  refine w_goto (pc' := 90) dX8_spread_189 rfl ?_
                  refine Wp.lose (ls' := [gR 3, gI x, gI d, gI t, gI (σ0 6 6), gI (n + 1), gX 1]) ⟨.inr rfl, ⟨.inr rfl, ⟨.inr rfl, ⟨.inr rfl, ⟨.inr rfl, ⟨.inr rfl, ⟨.inl rfl, trivial⟩⟩⟩⟩⟩⟩⟩ ?_
                  exact ih_90 _ (by omega) (n + 1) g rfl (by omega) (by omega) (by intro y h0 h1; rw [hg y h0 h1, show i = σ0 6 6 by omega, show n + 1 - 1 = n by omega, ← dgN_s (by omega)])
                · skip
                  refine w_aload_n (pc' := 107) (i := 0) (by rfl) (by rfl) dX8_spread_106 rfl ?_
                  refine w_getS (pc' := 110) (q := 6) fg_X8_24 kd_3 sf_X8_3 gr_3_3 dX8_spread_107 rfl ?_
                  refine w_iload (pc' := 112) (by rfl) dX8_spread_110 rfl ?_
                  refine w_iload_n (pc' := 113) (i := 3) (by rfl) (by rfl) dX8_spread_112 rfl ?_
                  refine v_callVE (pc' := 116) (st' := [gI (gb (0 ≤ i ∧ i < σ0 6 6 ∧ σ0 12 i ≤ t))]) (d' := 0) (av := [gI i, gI t]) mi_mX9_isKnown lk_X8_78 rfl ci_X9 kd_6 rfl (Nat.le_of_ble_eq_true rfl) (Nat.le_of_ble_eq_true rfl) dX8_spread_113 rfl rfl (hmP (F := fun z => gI (gb (0 ≤ i ∧ i < z 6 6 ∧ z 12 i ≤ t))) (((hm_ur (hm_nfC 13 (by decide))).trans ((hm_up (by decide)).trans ((hm_up (by decide)).trans ((hm_up (by decide)).trans ((hm_up (by decide)).trans hq.1)))))) (fun _ => rfl) (sp_isKnown sp_6 (gUr (gUp (gUp (gUp (gUp σ 3 5 x) 3 6 d) 3 7 t) 3 8 (σ0 6 6)) 13 g) (hm_FA (((hm_ur (hm_nfC 13 (by decide))).trans ((hm_up (by decide)).trans ((hm_up (by decide)).trans ((hm_up (by decide)).trans ((hm_up (by decide)).trans hq.1)))))) hI.1).1.kin.2.2.1 i t)) ?_
                  refine v_if_eqB (pc' := 119) (t := 180) dX8_spread_116 rfl rfl (fun c_116 => ?_) (fun c_116 => ?_)
                  · skip
                    refine v_iinc (pc' := 183) (x := i) (ls' := [gR 3, gI x, gI d, gI t, gI (σ0 6 6), gI n, gI (i + 1)]) (by omega) (by decide) (by rfl) (by rfl) dX8_spread_180 rfl ?_
                    refine w_goto (pc' := 99) dX8_spread_183 rfl ?_
                    exact ih_99 _ (by omega) (i + 1) g rfl (by omega) (by omega) (by first | (intro y h0 h1; rw [dgI_f (by omega) (by unfold liv; omega)]; exact hg y h0 h1) | (intro y h0 h1; rw [dgI_t (by omega) ⟨by omega, by omega, by omega⟩]; exact dgR_ag ⟨by omega, by omega⟩ ⟨by omega, by omega⟩ (dgR_ag ⟨by omega, by omega⟩ ⟨by omega, by omega⟩ hg) y h0 h1))
                  · skip
                    refine w_aload_n (pc' := 120) (i := 0) (by rfl) (by rfl) dX8_spread_119 rfl ?_
                    refine w_getS (pc' := 123) (q := 6) fg_X8_24 kd_3 sf_X8_3 gr_3_3 dX8_spread_120 rfl ?_
                    refine w_iload (pc' := 125) (by rfl) dX8_spread_123 rfl ?_
                    refine w_iload_n (pc' := 126) (i := 2) (by rfl) (by rfl) dX8_spread_125 rfl ?_
                    refine v_callVE (pc' := 129) (st' := [gI (gb (0 ≤ i ∧ i < σ0 6 6 ∧ σ0 10 i ≤ d ∧ (σ0 11 i = -1 ∨ d < σ0 11 i)))]) (d' := 0) (av := [gI i, gI d]) mi_mX9_covers lk_X8_82 rfl ci_X9 kd_6 rfl (Nat.le_of_ble_eq_true rfl) (Nat.le_of_ble_eq_true rfl) dX8_spread_126 rfl rfl (hmP (F := fun z => gI (gb (0 ≤ i ∧ i < z 6 6 ∧ z 10 i ≤ d ∧ (z 11 i = -1 ∨ d < z 11 i)))) (((hm_ur (hm_nfC 13 (by decide))).trans ((hm_up (by decide)).trans ((hm_up (by decide)).trans ((hm_up (by decide)).trans ((hm_up (by decide)).trans hq.1)))))) (fun _ => rfl) (sp_covers sp_6 (gUr (gUp (gUp (gUp (gUp σ 3 5 x) 3 6 d) 3 7 t) 3 8 (σ0 6 6)) 13 g) (hm_FA (((hm_ur (hm_nfC 13 (by decide))).trans ((hm_up (by decide)).trans ((hm_up (by decide)).trans ((hm_up (by decide)).trans ((hm_up (by decide)).trans hq.1)))))) hI.1).1.kin.2.2.1 i d)) ?_
                    refine v_if_eqB (pc' := 132) (t := 180) dX8_spread_129 rfl rfl (fun c_129 => ?_) (fun c_129 => ?_)
                    · skip
                      refine v_iinc (pc' := 183) (x := i) (ls' := [gR 3, gI x, gI d, gI t, gI (σ0 6 6), gI n, gI (i + 1)]) (by omega) (by decide) (by rfl) (by rfl) dX8_spread_180 rfl ?_
                      refine w_goto (pc' := 99) dX8_spread_183 rfl ?_
                      exact ih_99 _ (by omega) (i + 1) g rfl (by omega) (by omega) (by first | (intro y h0 h1; rw [dgI_f (by omega) (by unfold liv; omega)]; exact hg y h0 h1) | (intro y h0 h1; rw [dgI_t (by omega) ⟨by omega, by omega, by omega⟩]; exact dgR_ag ⟨by omega, by omega⟩ ⟨by omega, by omega⟩ (dgR_ag ⟨by omega, by omega⟩ ⟨by omega, by omega⟩ hg) y h0 h1))
                    · skip
                      refine w_aload_n (pc' := 133) (i := 0) (by rfl) (by rfl) dX8_spread_132 rfl ?_
                      refine w_aload_n (pc' := 134) (i := 0) (by rfl) (by rfl) dX8_spread_133 rfl ?_
                      refine w_getS (pc' := 137) (q := 6) fg_X8_24 kd_3 sf_X8_3 gr_3_3 dX8_spread_134 rfl ?_
                      refine w_iload (pc' := 139) (by rfl) dX8_spread_137 rfl ?_
                      refine v_callVE (pc' := 142) (st' := [gI (σ0 7 i), gR 3]) (d' := 0) (av := [gI i]) mi_mX9_first lk_X8_85 rfl ci_X9 kd_6 rfl (Nat.le_of_ble_eq_true rfl) (Nat.le_of_ble_eq_true rfl) dX8_spread_139 rfl rfl (hmP (F := fun z => gI (z 7 i)) (((hm_ur (hm_nfC 13 (by decide))).trans ((hm_up (by decide)).trans ((hm_up (by decide)).trans ((hm_up (by decide)).trans ((hm_up (by decide)).trans hq.1)))))) (fun _ => rfl) (sp_first sp_6 (gUr (gUp (gUp (gUp (gUp σ 3 5 x) 3 6 d) 3 7 t) 3 8 (σ0 6 6)) 13 g) (i := i) (by omega) (by omega))) ?_
                      refine w_aload_n (pc' := 143) (i := 0) (by rfl) (by rfl) dX8_spread_142 rfl ?_
                      refine w_getS (pc' := 146) (q := 6) fg_X8_24 kd_3 sf_X8_3 gr_3_3 dX8_spread_143 rfl ?_
                      refine w_iload (pc' := 148) (by rfl) dX8_spread_146 rfl ?_
                      refine v_callVE (pc' := 151) (st' := [gI (σ0 8 i), gI (σ0 7 i), gR 3]) (d' := 0) (av := [gI i]) mi_mX9_second lk_X8_89 rfl ci_X9 kd_6 rfl (Nat.le_of_ble_eq_true rfl) (Nat.le_of_ble_eq_true rfl) dX8_spread_148 rfl rfl (hmP (F := fun z => gI (z 8 i)) (((hm_ur (hm_nfC 13 (by decide))).trans ((hm_up (by decide)).trans ((hm_up (by decide)).trans ((hm_up (by decide)).trans ((hm_up (by decide)).trans hq.1)))))) (fun _ => rfl) (sp_second sp_6 (gUr (gUp (gUp (gUp (gUp σ 3 5 x) 3 6 d) 3 7 t) 3 8 (σ0 6 6)) 13 g) (i := i) (by omega) (by omega))) ?_
                      refine w_iload (pc' := 153) (by rfl) dX8_spread_151 rfl ?_
                      refine v_callVE (pc' := 156) (st' := []) (d' := 0) (av := [gI (σ0 7 i), gI (σ0 8 i), gI n]) mi_mX8_reach lk_X8_92 rfl ci_X8 kd_3 rfl (Nat.le_of_ble_eq_true rfl) (Nat.le_of_ble_eq_true rfl) dX8_spread_153 rfl rfl (k_reach (near := σ0 7 i) (other := σ0 8 i) (n := n) (gUp (gUp (gUp (gUp σ 3 5 x) 3 6 d) 3 7 t) 3 8 (σ0 6 6)) g ⟨by omega, by omega⟩ ⟨by omega, by omega⟩ ⟨by omega, by omega⟩) ?_
                      refine w_aload_n (pc' := 157) (i := 0) (by rfl) (by rfl) dX8_spread_156 rfl ?_
                      refine w_aload_n (pc' := 158) (i := 0) (by rfl) (by rfl) dX8_spread_157 rfl ?_
                      refine w_getS (pc' := 161) (q := 6) fg_X8_24 kd_3 sf_X8_3 gr_3_3 dX8_spread_158 rfl ?_
                      refine w_iload (pc' := 163) (by rfl) dX8_spread_161 rfl ?_
                      refine v_callVE (pc' := 166) (st' := [gI (σ0 8 i), gR 3]) (d' := 0) (av := [gI i]) mi_mX9_second lk_X8_89 rfl ci_X9 kd_6 rfl (Nat.le_of_ble_eq_true rfl) (Nat.le_of_ble_eq_true rfl) dX8_spread_163 rfl rfl (hmP (F := fun z => gI (z 8 i)) (((hm_ur (hm_nfC 13 (by decide))).trans ((hm_up (by decide)).trans ((hm_up (by decide)).trans ((hm_up (by decide)).trans ((hm_up (by decide)).trans hq.1)))))) (fun _ => rfl) (sp_second sp_6 (gUr (gUp (gUp (gUp (gUp σ 3 5 x) 3 6 d) 3 7 t) 3 8 (σ0 6 6)) 13 (dgR g (σ0 7 i) (σ0 8 i) n)) (i := i) (by omega) (by omega))) ?_
                      refine w_aload_n (pc' := 167) (i := 0) (by rfl) (by rfl) dX8_spread_166 rfl ?_
                      refine w_getS (pc' := 170) (q := 6) fg_X8_24 kd_3 sf_X8_3 gr_3_3 dX8_spread_167 rfl ?_
                      refine w_iload (pc' := 172) (by rfl) dX8_spread_170 rfl ?_
                      refine v_callVE (pc' := 175) (st' := [gI (σ0 7 i), gI (σ0 8 i), gR 3]) (d' := 0) (av := [gI i]) mi_mX9_first lk_X8_85 rfl ci_X9 kd_6 rfl (Nat.le_of_ble_eq_true rfl) (Nat.le_of_ble_eq_true rfl) dX8_spread_172 rfl rfl (hmP (F := fun z => gI (z 7 i)) (((hm_ur (hm_nfC 13 (by decide))).trans ((hm_up (by decide)).trans ((hm_up (by decide)).trans ((hm_up (by decide)).trans ((hm_up (by decide)).trans hq.1)))))) (fun _ => rfl) (sp_first sp_6 (gUr (gUp (gUp (gUp (gUp σ 3 5 x) 3 6 d) 3 7 t) 3 8 (σ0 6 6)) 13 (dgR g (σ0 7 i) (σ0 8 i) n)) (i := i) (by omega) (by omega))) ?_
                      refine w_iload (pc' := 177) (by rfl) dX8_spread_175 rfl ?_
                      refine v_callVE (pc' := 180) (st' := []) (d' := 0) (av := [gI (σ0 8 i), gI (σ0 7 i), gI n]) mi_mX8_reach lk_X8_92 rfl ci_X8 kd_3 rfl (Nat.le_of_ble_eq_true rfl) (Nat.le_of_ble_eq_true rfl) dX8_spread_177 rfl rfl (k_reach (near := σ0 8 i) (other := σ0 7 i) (n := n) (gUp (gUp (gUp (gUp σ 3 5 x) 3 6 d) 3 7 t) 3 8 (σ0 6 6)) (dgR g (σ0 7 i) (σ0 8 i) n) ⟨by omega, by omega⟩ ⟨by omega, by omega⟩ ⟨by omega, by omega⟩) ?_
                      refine v_iinc (pc' := 183) (x := i) (ls' := [gR 3, gI x, gI d, gI t, gI (σ0 6 6), gI n, gI (i + 1)]) (by omega) (by decide) (by rfl) (by rfl) dX8_spread_180 rfl ?_
                      refine w_goto (pc' := 99) dX8_spread_183 rfl ?_
                      exact ih_99 _ (by omega) (i + 1) (dgR (dgR g (σ0 7 i) (σ0 8 i) n) (σ0 8 i) (σ0 7 i) n) rfl (by omega) (by omega) (by first | (intro y h0 h1; rw [dgI_f (by omega) (by unfold liv; omega)]; exact hg y h0 h1) | (intro y h0 h1; rw [dgI_t (by omega) ⟨by omega, by omega, by omega⟩]; exact dgR_ag ⟨by omega, by omega⟩ ⟨by omega, by omega⟩ (dgR_ag ⟨by omega, by omega⟩ ⟨by omega, by omega⟩ hg) y h0 h1))
            exact hl_99 _ 0 f rfl (by omega) (by first | omega | exact hI.f.kin.2.1) (by exact hf)
      exact hl_90 _ 1 (updI (fillF (σ 13) 60 5) x 0) rfl (by omega) (by omega) (by intro y h0 h1; show _ = updI (fun _ => 5) x 0 y; unfold updI; split; rfl; exact fillF_in h0 h1)
  · skip
    refine w_iload_n (pc' := 18) (i := 2) (by rfl) (by rfl) dX8_spread_17 rfl ?_
    refine w_aload_n (pc' := 19) (i := 0) (by rfl) (by rfl) dX8_spread_18 rfl ?_
    refine v_getI (pc' := 22) (ji := 6) rfl fg_X8_63 kd_3 dX8_spread_19 rfl ?_
    refine w_icmp_ne (pc' := 25) (t := 43) dX8_spread_22 rfl rfl (fun c_22 => ?_) (fun c_22 => ?_)
    · skip
      refine w_aload_n (pc' := 44) (i := 0) (by rfl) (by rfl) dX8_spread_43 rfl ?_
      refine w_iload_n (pc' := 45) (i := 1) (by rfl) (by rfl) dX8_spread_44 rfl ?_
      refine v_putI (pc' := 48) (ji := 5) rfl fp_X8_31 kd_3 sf_X8_5 dX8_spread_45 rfl ?_
      refine w_aload_n (pc' := 49) (i := 0) (by rfl) (by rfl) dX8_spread_48 rfl ?_
      refine w_iload_n (pc' := 50) (i := 2) (by rfl) (by rfl) dX8_spread_49 rfl ?_
      refine v_putI (pc' := 53) (ji := 6) rfl fp_X8_63 kd_3 sf_X8_6 dX8_spread_50 rfl ?_
      refine w_aload_n (pc' := 54) (i := 0) (by rfl) (by rfl) dX8_spread_53 rfl ?_
      refine w_iload_n (pc' := 55) (i := 3) (by rfl) (by rfl) dX8_spread_54 rfl ?_
      refine v_putI (pc' := 58) (ji := 7) rfl fp_X8_66 kd_3 sf_X8_7 dX8_spread_55 rfl ?_
      refine w_aload_n (pc' := 59) (i := 0) (by rfl) (by rfl) dX8_spread_58 rfl ?_
      refine w_iload (pc' := 61) (by rfl) dX8_spread_59 rfl ?_
      refine v_putI (pc' := 64) (ji := 8) rfl fp_X8_69 kd_3 sf_X8_8 dX8_spread_61 rfl ?_
      refine w_aload_n (pc' := 65) (i := 0) (by rfl) (by rfl) dX8_spread_64 rfl ?_
      refine w_getS (pc' := 68) (q := 13) fg_X8_28 kd_3 sf_X8_4 gr_3_4 dX8_spread_65 rfl ?_
      refine w_iconst (pc' := 69) (by decide) dX8_spread_68 rfl ?_
      refine v_callSE (pc' := 72) (st' := []) (d' := 0) (av := [gR 13, gI 5]) ms_mJ7_fill_53178 st_mJ7_fill_53178 lk_X8_72 rfl rfl (Nat.le_of_ble_eq_true rfl) (Nat.le_of_ble_eq_true rfl) dX8_spread_69 rfl rfl (k_fillI (x := 13) (n := 60) kd_13 (by decide) (gUp (gUp (gUp (gUp σ 3 5 x) 3 6 d) 3 7 t) 3 8 (σ0 6 6)) 5) ?_
      refine w_aload_n (pc' := 73) (i := 0) (by rfl) (by rfl) dX8_spread_72 rfl ?_
      refine w_iload_n (pc' := 74) (i := 1) (by rfl) (by rfl) dX8_spread_73 rfl ?_
      refine v_callVE (pc' := 77) (st' := [gI (gb (0 ≤ x ∧ x < (σ0 3 2)))]) (d' := 0) (av := [gI x]) mi_mX8_has lk_X8_40 rfl ci_X8 kd_3 rfl (Nat.le_of_ble_eq_true rfl) (Nat.le_of_ble_eq_true rfl) dX8_spread_74 rfl rfl (hmP (F := fun z => gI (gb (0 ≤ x ∧ x < (z 3 2)))) (((hm_ur (hm_nfC 13 (by decide))).trans ((hm_up (by decide)).trans ((hm_up (by decide)).trans ((hm_up (by decide)).trans ((hm_up (by decide)).trans hq.1)))))) (fun _ => rfl) (pa_has (gUr (gUp (gUp (gUp (gUp σ 3 5 x) 3 6 d) 3 7 t) 3 8 (σ0 6 6)) 13 (fillF (σ 13) 60 5)) (hm_FA (((hm_ur (hm_nfC 13 (by decide))).trans ((hm_up (by decide)).trans ((hm_up (by decide)).trans ((hm_up (by decide)).trans ((hm_up (by decide)).trans hq.1)))))) hI.1).1.hp x)) ?_
      refine v_if_eqB (pc' := 80) (t := 87) dX8_spread_77 rfl rfl (fun c_77 => ?_) (fun c_77 => ?_)
      · skip
        exfalso; omega
      · skip
        refine w_aload_n (pc' := 81) (i := 0) (by rfl) (by rfl) dX8_spread_80 rfl ?_
        refine w_getS (pc' := 84) (q := 13) fg_X8_28 kd_3 sf_X8_4 gr_3_4 dX8_spread_81 rfl ?_
        refine w_iload_n (pc' := 85) (i := 1) (by rfl) (by rfl) dX8_spread_84 rfl ?_
        refine w_iconst (pc' := 86) (by decide) dX8_spread_85 rfl ?_
        refine w_iast (pc' := 87) kd_13 (by omega) (by omega) dX8_spread_86 rfl ?_
        refine Wp.heq (σ' := gUr (gUp (gUp (gUp (gUp σ 3 5 x) 3 6 d) 3 7 t) 3 8 (σ0 6 6)) 13 (updI (fillF (σ 13) 60 5) x 0)) gUp_row ?_
        refine w_iconst (pc' := 88) (by decide) dX8_spread_87 rfl ?_
        refine w_istore (pc' := 90) (ls' := [gR 3, gI x, gI d, gI t, gI (σ0 6 6), gI 1, gX 1]) (by decide) (by rfl) dX8_spread_88 rfl ?_
        have hl_90 : ∀ (mm : Nat) (n : Int) (f : Int → Int), (5 - n).toNat = mm → (1 ≤ n) → (n ≤ 5) → (∀ y, 0 ≤ y → y < 60 → f y = dgN (σ0 6 6) (σ0 7) (σ0 8) (σ0 12) (σ0 10) (σ0 11) x d t (n - 1).toNat y) → Wp mX8_spread 1 (fun v σ' => v = gX 1 ∧ QC σ0 σ' ∧ Kp 34 σ σ' ∧ ∀ y, 0 ≤ y → y < 60 → σ' 13 y = DG σ0 x d t y) (gUr (gUp (gUp (gUp (gUp σ 3 5 x) 3 6 d) 3 7 t) 3 8 (σ0 6 6)) 13 f) 90 [gR 3, gI x, gI d, gI t, gI (σ0 6 6), gI n, gX 1] [] := by
          intro m_90
          induction m_90 using Nat.strongRecOn with
          | _ m_90 ih_90 =>
            intro n f hmeas_90 hn0 hn1 hf
            have hk0 := hI.f.kin.2.1
            refine w_iload (pc' := 92) (by rfl) dX8_spread_90 rfl ?_
            refine w_iconst (pc' := 93) (by decide) dX8_spread_92 rfl ?_
            refine w_icmp_ge (pc' := 96) (t := 192) dX8_spread_93 rfl rfl (fun c_93 => ?_) (fun c_93 => ?_)
            · skip
              refine w_return rfl dX8_spread_192 ?_
              have hf2 : ∀ y, 0 ≤ y → y < 60 → f y = DG σ0 x d t y := fun y h0 h1 => by
                rw [hf y h0 h1, show n - 1 = 4 by omega]
                rfl
              have q1 := (((hm_up (σ := gUp (gUp (gUp σ 3 5 x) 3 6 d) 3 7 t) (k := 3) (i := 8) (v := σ0 6 6) (by decide)).trans (hm_up (by decide))).trans ((hm_up (by decide)).trans (hm_up (by decide)))).trans hq.1
              have q2 := (hm_ur (σ := gUp (gUp (gUp (gUp σ 3 5 x) 3 6 d) 3 7 t) 3 8 (σ0 6 6)) (k := 13) (f := f) (hm_nfC 13 (by decide))).trans q1
              have k6 : σ 6 6 = σ0 6 6 := hq.rd (.inr rfl)
              have hc : C_deg (gUr (gUp (gUp (gUp (gUp σ 3 5 x) 3 6 d) 3 7 t) 3 8 (σ0 6 6)) 13 f) := ⟨by show σ0 6 6 ≤ σ 6 6; omega, fun _ _ y h0 h1 => (hf2 y h0 h1).trans (DG_hm q2 x d t y).symm⟩
              exact ⟨rfl, ⟨q2, hc, hq.2.2⟩, ((((Kp.refl.up (by decide)).up (by decide)).up (by decide)).up (by decide)).ur (by decide), hf2⟩
            · skip
              refine w_iconst (pc' := 97) (by decide) dX8_spread_96 rfl ?_
              refine w_istore (pc' := 99) (ls' := [gR 3, gI x, gI d, gI t, gI (σ0 6 6), gI n, gI 0]) (by decide) (by rfl) dX8_spread_97 rfl ?_
              have hl_99 : ∀ (mm : Nat) (i : Int) (g : Int → Int), (σ0 6 6 - i).toNat = mm → (0 ≤ i) → (i ≤ σ0 6 6) → (∀ y, 0 ≤ y → y < 60 → g y = dgI (σ0 7) (σ0 8) (σ0 12) (σ0 10) (σ0 11) d t n (dgN (σ0 6 6) (σ0 7) (σ0 8) (σ0 12) (σ0 10) (σ0 11) x d t (n - 1).toNat) i.toNat y) → Wp mX8_spread 1 (fun v σ' => v = gX 1 ∧ QC σ0 σ' ∧ Kp 34 σ σ' ∧ ∀ y, 0 ≤ y → y < 60 → σ' 13 y = DG σ0 x d t y) (gUr (gUp (gUp (gUp (gUp σ 3 5 x) 3 6 d) 3 7 t) 3 8 (σ0 6 6)) 13 g) 99 [gR 3, gI x, gI d, gI t, gI (σ0 6 6), gI n, gI i] [] := by
                intro m_99
                induction m_99 using Nat.strongRecOn with
                | _ m_99 ih_99 =>
                  intro i g hmeas_99 hi0 hi1 hg
                  have hk1 := hI.f.kin.2.2.1
                  have hb : i < σ0 6 6 → (0 ≤ σ0 7 i ∧ σ0 7 i < 60) ∧ (0 ≤ σ0 8 i ∧ σ0 8 i < 60) := fun h => by
                    have k := (hI.f.kin.2.2.2 i hi0 h).2.2.2.2.2
                    have p := hI.f.hp
                    unfold isPe isP at k
                    omega
                  refine w_iload (pc' := 101) (by rfl) dX8_spread_99 rfl ?_
                  refine w_iload (pc' := 103) (by rfl) dX8_spread_101 rfl ?_
                  refine w_icmp_ge (pc' := 106) (t := 186) dX8_spread_103 rfl rfl (fun c_103 => ?_) (fun c_103 => ?_)
                  · skip
                    refine v_iinc (pc' := 189) (x := n) (ls' := [gR 3, gI x, gI d, gI t, gI (σ0 6 6), gI (n + 1), gI i]) (by omega) (by decide) (by rfl) (by rfl) dX8_spread_186 rfl ?_
                    refine w_goto (pc' := 90) dX8_spread_189 rfl ?_
                    refine Wp.lose (ls' := [gR 3, gI x, gI d, gI t, gI (σ0 6 6), gI (n + 1), gX 1]) ⟨.inr rfl, ⟨.inr rfl, ⟨.inr rfl, ⟨.inr rfl, ⟨.inr rfl, ⟨.inr rfl, ⟨.inl rfl, trivial⟩⟩⟩⟩⟩⟩⟩ ?_
                    exact ih_90 _ (by omega) (n + 1) g rfl (by omega) (by omega) (by intro y h0 h1; rw [hg y h0 h1, show i = σ0 6 6 by omega, show n + 1 - 1 = n by omega, ← dgN_s (by omega)])
                  · skip
                    refine w_aload_n (pc' := 107) (i := 0) (by rfl) (by rfl) dX8_spread_106 rfl ?_
                    refine w_getS (pc' := 110) (q := 6) fg_X8_24 kd_3 sf_X8_3 gr_3_3 dX8_spread_107 rfl ?_
                    refine w_iload (pc' := 112) (by rfl) dX8_spread_110 rfl ?_
                    refine w_iload_n (pc' := 113) (i := 3) (by rfl) (by rfl) dX8_spread_112 rfl ?_
                    refine v_callVE (pc' := 116) (st' := [gI (gb (0 ≤ i ∧ i < σ0 6 6 ∧ σ0 12 i ≤ t))]) (d' := 0) (av := [gI i, gI t]) mi_mX9_isKnown lk_X8_78 rfl ci_X9 kd_6 rfl (Nat.le_of_ble_eq_true rfl) (Nat.le_of_ble_eq_true rfl) dX8_spread_113 rfl rfl (hmP (F := fun z => gI (gb (0 ≤ i ∧ i < z 6 6 ∧ z 12 i ≤ t))) (((hm_ur (hm_nfC 13 (by decide))).trans ((hm_up (by decide)).trans ((hm_up (by decide)).trans ((hm_up (by decide)).trans ((hm_up (by decide)).trans hq.1)))))) (fun _ => rfl) (sp_isKnown sp_6 (gUr (gUp (gUp (gUp (gUp σ 3 5 x) 3 6 d) 3 7 t) 3 8 (σ0 6 6)) 13 g) (hm_FA (((hm_ur (hm_nfC 13 (by decide))).trans ((hm_up (by decide)).trans ((hm_up (by decide)).trans ((hm_up (by decide)).trans ((hm_up (by decide)).trans hq.1)))))) hI.1).1.kin.2.2.1 i t)) ?_
                    refine v_if_eqB (pc' := 119) (t := 180) dX8_spread_116 rfl rfl (fun c_116 => ?_) (fun c_116 => ?_)
                    · skip
                      refine v_iinc (pc' := 183) (x := i) (ls' := [gR 3, gI x, gI d, gI t, gI (σ0 6 6), gI n, gI (i + 1)]) (by omega) (by decide) (by rfl) (by rfl) dX8_spread_180 rfl ?_
                      refine w_goto (pc' := 99) dX8_spread_183 rfl ?_
                      exact ih_99 _ (by omega) (i + 1) g rfl (by omega) (by omega) (by first | (intro y h0 h1; rw [dgI_f (by omega) (by unfold liv; omega)]; exact hg y h0 h1) | (intro y h0 h1; rw [dgI_t (by omega) ⟨by omega, by omega, by omega⟩]; exact dgR_ag ⟨by omega, by omega⟩ ⟨by omega, by omega⟩ (dgR_ag ⟨by omega, by omega⟩ ⟨by omega, by omega⟩ hg) y h0 h1))
                    · skip
                      refine w_aload_n (pc' := 120) (i := 0) (by rfl) (by rfl) dX8_spread_119 rfl ?_
                      refine w_getS (pc' := 123) (q := 6) fg_X8_24 kd_3 sf_X8_3 gr_3_3 dX8_spread_120 rfl ?_
                      refine w_iload (pc' := 125) (by rfl) dX8_spread_123 rfl ?_
                      refine w_iload_n (pc' := 126) (i := 2) (by rfl) (by rfl) dX8_spread_125 rfl ?_
                      refine v_callVE (pc' := 129) (st' := [gI (gb (0 ≤ i ∧ i < σ0 6 6 ∧ σ0 10 i ≤ d ∧ (σ0 11 i = -1 ∨ d < σ0 11 i)))]) (d' := 0) (av := [gI i, gI d]) mi_mX9_covers lk_X8_82 rfl ci_X9 kd_6 rfl (Nat.le_of_ble_eq_true rfl) (Nat.le_of_ble_eq_true rfl) dX8_spread_126 rfl rfl (hmP (F := fun z => gI (gb (0 ≤ i ∧ i < z 6 6 ∧ z 10 i ≤ d ∧ (z 11 i = -1 ∨ d < z 11 i)))) (((hm_ur (hm_nfC 13 (by decide))).trans ((hm_up (by decide)).trans ((hm_up (by decide)).trans ((hm_up (by decide)).trans ((hm_up (by decide)).trans hq.1)))))) (fun _ => rfl) (sp_covers sp_6 (gUr (gUp (gUp (gUp (gUp σ 3 5 x) 3 6 d) 3 7 t) 3 8 (σ0 6 6)) 13 g) (hm_FA (((hm_ur (hm_nfC 13 (by decide))).trans ((hm_up (by decide)).trans ((hm_up (by decide)).trans ((hm_up (by decide)).trans ((hm_up (by decide)).trans hq.1)))))) hI.1).1.kin.2.2.1 i d)) ?_
                      refine v_if_eqB (pc' := 132) (t := 180) dX8_spread_129 rfl rfl (fun c_129 => ?_) (fun c_129 => ?_)
                      · skip
                        refine v_iinc (pc' := 183) (x := i) (ls' := [gR 3, gI x, gI d, gI t, gI (σ0 6 6), gI n, gI (i + 1)]) (by omega) (by decide) (by rfl) (by rfl) dX8_spread_180 rfl ?_
                        refine w_goto (pc' := 99) dX8_spread_183 rfl ?_
                        exact ih_99 _ (by omega) (i + 1) g rfl (by omega) (by omega) (by first | (intro y h0 h1; rw [dgI_f (by omega) (by unfold liv; omega)]; exact hg y h0 h1) | (intro y h0 h1; rw [dgI_t (by omega) ⟨by omega, by omega, by omega⟩]; exact dgR_ag ⟨by omega, by omega⟩ ⟨by omega, by omega⟩ (dgR_ag ⟨by omega, by omega⟩ ⟨by omega, by omega⟩ hg) y h0 h1))
                      · skip
                        refine w_aload_n (pc' := 133) (i := 0) (by rfl) (by rfl) dX8_spread_132 rfl ?_
                        refine w_aload_n (pc' := 134) (i := 0) (by rfl) (by rfl) dX8_spread_133 rfl ?_
                        refine w_getS (pc' := 137) (q := 6) fg_X8_24 kd_3 sf_X8_3 gr_3_3 dX8_spread_134 rfl ?_
                        refine w_iload (pc' := 139) (by rfl) dX8_spread_137 rfl ?_
                        refine v_callVE (pc' := 142) (st' := [gI (σ0 7 i), gR 3]) (d' := 0) (av := [gI i]) mi_mX9_first lk_X8_85 rfl ci_X9 kd_6 rfl (Nat.le_of_ble_eq_true rfl) (Nat.le_of_ble_eq_true rfl) dX8_spread_139 rfl rfl (hmP (F := fun z => gI (z 7 i)) (((hm_ur (hm_nfC 13 (by decide))).trans ((hm_up (by decide)).trans ((hm_up (by decide)).trans ((hm_up (by decide)).trans ((hm_up (by decide)).trans hq.1)))))) (fun _ => rfl) (sp_first sp_6 (gUr (gUp (gUp (gUp (gUp σ 3 5 x) 3 6 d) 3 7 t) 3 8 (σ0 6 6)) 13 g) (i := i) (by omega) (by omega))) ?_
                        refine w_aload_n (pc' := 143) (i := 0) (by rfl) (by rfl) dX8_spread_142 rfl ?_
                        refine w_getS (pc' := 146) (q := 6) fg_X8_24 kd_3 sf_X8_3 gr_3_3 dX8_spread_143 rfl ?_
                        refine w_iload (pc' := 148) (by rfl) dX8_spread_146 rfl ?_
                        refine v_callVE (pc' := 151) (st' := [gI (σ0 8 i), gI (σ0 7 i), gR 3]) (d' := 0) (av := [gI i]) mi_mX9_second lk_X8_89 rfl ci_X9 kd_6 rfl (Nat.le_of_ble_eq_true rfl) (Nat.le_of_ble_eq_true rfl) dX8_spread_148 rfl rfl (hmP (F := fun z => gI (z 8 i)) (((hm_ur (hm_nfC 13 (by decide))).trans ((hm_up (by decide)).trans ((hm_up (by decide)).trans ((hm_up (by decide)).trans ((hm_up (by decide)).trans hq.1)))))) (fun _ => rfl) (sp_second sp_6 (gUr (gUp (gUp (gUp (gUp σ 3 5 x) 3 6 d) 3 7 t) 3 8 (σ0 6 6)) 13 g) (i := i) (by omega) (by omega))) ?_
                        refine w_iload (pc' := 153) (by rfl) dX8_spread_151 rfl ?_
                        refine v_callVE (pc' := 156) (st' := []) (d' := 0) (av := [gI (σ0 7 i), gI (σ0 8 i), gI n]) mi_mX8_reach lk_X8_92 rfl ci_X8 kd_3 rfl (Nat.le_of_ble_eq_true rfl) (Nat.le_of_ble_eq_true rfl) dX8_spread_153 rfl rfl (k_reach (near := σ0 7 i) (other := σ0 8 i) (n := n) (gUp (gUp (gUp (gUp σ 3 5 x) 3 6 d) 3 7 t) 3 8 (σ0 6 6)) g ⟨by omega, by omega⟩ ⟨by omega, by omega⟩ ⟨by omega, by omega⟩) ?_
                        refine w_aload_n (pc' := 157) (i := 0) (by rfl) (by rfl) dX8_spread_156 rfl ?_
                        refine w_aload_n (pc' := 158) (i := 0) (by rfl) (by rfl) dX8_spread_157 rfl ?_
                        refine w_getS (pc' := 161) (q := 6) fg_X8_24 kd_3 sf_X8_3 gr_3_3 dX8_spread_158 rfl ?_
                        refine w_iload (pc' := 163) (by rfl) dX8_spread_161 rfl ?_
                        refine v_callVE (pc' := 166) (st' := [gI (σ0 8 i), gR 3]) (d' := 0) (av := [gI i]) mi_mX9_second lk_X8_89 rfl ci_X9 kd_6 rfl (Nat.le_of_ble_eq_true rfl) (Nat.le_of_ble_eq_true rfl) dX8_spread_163 rfl rfl (hmP (F := fun z => gI (z 8 i)) (((hm_ur (hm_nfC 13 (by decide))).trans ((hm_up (by decide)).trans ((hm_up (by decide)).trans ((hm_up (by decide)).trans ((hm_up (by decide)).trans hq.1)))))) (fun _ => rfl) (sp_second sp_6 (gUr (gUp (gUp (gUp (gUp σ 3 5 x) 3 6 d) 3 7 t) 3 8 (σ0 6 6)) 13 (dgR g (σ0 7 i) (σ0 8 i) n)) (i := i) (by omega) (by omega))) ?_
                        refine w_aload_n (pc' := 167) (i := 0) (by rfl) (by rfl) dX8_spread_166 rfl ?_
                        refine w_getS (pc' := 170) (q := 6) fg_X8_24 kd_3 sf_X8_3 gr_3_3 dX8_spread_167 rfl ?_
                        refine w_iload (pc' := 172) (by rfl) dX8_spread_170 rfl ?_
                        refine v_callVE (pc' := 175) (st' := [gI (σ0 7 i), gI (σ0 8 i), gR 3]) (d' := 0) (av := [gI i]) mi_mX9_first lk_X8_85 rfl ci_X9 kd_6 rfl (Nat.le_of_ble_eq_true rfl) (Nat.le_of_ble_eq_true rfl) dX8_spread_172 rfl rfl (hmP (F := fun z => gI (z 7 i)) (((hm_ur (hm_nfC 13 (by decide))).trans ((hm_up (by decide)).trans ((hm_up (by decide)).trans ((hm_up (by decide)).trans ((hm_up (by decide)).trans hq.1)))))) (fun _ => rfl) (sp_first sp_6 (gUr (gUp (gUp (gUp (gUp σ 3 5 x) 3 6 d) 3 7 t) 3 8 (σ0 6 6)) 13 (dgR g (σ0 7 i) (σ0 8 i) n)) (i := i) (by omega) (by omega))) ?_
                        refine w_iload (pc' := 177) (by rfl) dX8_spread_175 rfl ?_
                        refine v_callVE (pc' := 180) (st' := []) (d' := 0) (av := [gI (σ0 8 i), gI (σ0 7 i), gI n]) mi_mX8_reach lk_X8_92 rfl ci_X8 kd_3 rfl (Nat.le_of_ble_eq_true rfl) (Nat.le_of_ble_eq_true rfl) dX8_spread_177 rfl rfl (k_reach (near := σ0 8 i) (other := σ0 7 i) (n := n) (gUp (gUp (gUp (gUp σ 3 5 x) 3 6 d) 3 7 t) 3 8 (σ0 6 6)) (dgR g (σ0 7 i) (σ0 8 i) n) ⟨by omega, by omega⟩ ⟨by omega, by omega⟩ ⟨by omega, by omega⟩) ?_
                        refine v_iinc (pc' := 183) (x := i) (ls' := [gR 3, gI x, gI d, gI t, gI (σ0 6 6), gI n, gI (i + 1)]) (by omega) (by decide) (by rfl) (by rfl) dX8_spread_180 rfl ?_
                        refine w_goto (pc' := 99) dX8_spread_183 rfl ?_
                        exact ih_99 _ (by omega) (i + 1) (dgR (dgR g (σ0 7 i) (σ0 8 i) n) (σ0 8 i) (σ0 7 i) n) rfl (by omega) (by omega) (by first | (intro y h0 h1; rw [dgI_f (by omega) (by unfold liv; omega)]; exact hg y h0 h1) | (intro y h0 h1; rw [dgI_t (by omega) ⟨by omega, by omega, by omega⟩]; exact dgR_ag ⟨by omega, by omega⟩ ⟨by omega, by omega⟩ (dgR_ag ⟨by omega, by omega⟩ ⟨by omega, by omega⟩ hg) y h0 h1))
              exact hl_99 _ 0 f rfl (by omega) (by first | omega | exact hI.f.kin.2.1) (by exact hf)
        exact hl_90 _ 1 (updI (fillF (σ 13) 60 5) x 0) rfl (by omega) (by omega) (by intro y h0 h1; show _ = updI (fun _ => 5) x 0 y; unfold updI; split; rfl; exact fillF_in h0 h1)
    · skip
      refine w_iload_n (pc' := 26) (i := 3) (by rfl) (by rfl) dX8_spread_25 rfl ?_
      refine w_aload_n (pc' := 27) (i := 0) (by rfl) (by rfl) dX8_spread_26 rfl ?_
      refine v_getI (pc' := 30) (ji := 7) rfl fg_X8_66 kd_3 dX8_spread_27 rfl ?_
      refine w_icmp_ne (pc' := 33) (t := 43) dX8_spread_30 rfl rfl (fun c_30 => ?_) (fun c_30 => ?_)
      · skip
        refine w_aload_n (pc' := 44) (i := 0) (by rfl) (by rfl) dX8_spread_43 rfl ?_
        refine w_iload_n (pc' := 45) (i := 1) (by rfl) (by rfl) dX8_spread_44 rfl ?_
        refine v_putI (pc' := 48) (ji := 5) rfl fp_X8_31 kd_3 sf_X8_5 dX8_spread_45 rfl ?_
        refine w_aload_n (pc' := 49) (i := 0) (by rfl) (by rfl) dX8_spread_48 rfl ?_
        refine w_iload_n (pc' := 50) (i := 2) (by rfl) (by rfl) dX8_spread_49 rfl ?_
        refine v_putI (pc' := 53) (ji := 6) rfl fp_X8_63 kd_3 sf_X8_6 dX8_spread_50 rfl ?_
        refine w_aload_n (pc' := 54) (i := 0) (by rfl) (by rfl) dX8_spread_53 rfl ?_
        refine w_iload_n (pc' := 55) (i := 3) (by rfl) (by rfl) dX8_spread_54 rfl ?_
        refine v_putI (pc' := 58) (ji := 7) rfl fp_X8_66 kd_3 sf_X8_7 dX8_spread_55 rfl ?_
        refine w_aload_n (pc' := 59) (i := 0) (by rfl) (by rfl) dX8_spread_58 rfl ?_
        refine w_iload (pc' := 61) (by rfl) dX8_spread_59 rfl ?_
        refine v_putI (pc' := 64) (ji := 8) rfl fp_X8_69 kd_3 sf_X8_8 dX8_spread_61 rfl ?_
        refine w_aload_n (pc' := 65) (i := 0) (by rfl) (by rfl) dX8_spread_64 rfl ?_
        refine w_getS (pc' := 68) (q := 13) fg_X8_28 kd_3 sf_X8_4 gr_3_4 dX8_spread_65 rfl ?_
        refine w_iconst (pc' := 69) (by decide) dX8_spread_68 rfl ?_
        refine v_callSE (pc' := 72) (st' := []) (d' := 0) (av := [gR 13, gI 5]) ms_mJ7_fill_53178 st_mJ7_fill_53178 lk_X8_72 rfl rfl (Nat.le_of_ble_eq_true rfl) (Nat.le_of_ble_eq_true rfl) dX8_spread_69 rfl rfl (k_fillI (x := 13) (n := 60) kd_13 (by decide) (gUp (gUp (gUp (gUp σ 3 5 x) 3 6 d) 3 7 t) 3 8 (σ0 6 6)) 5) ?_
        refine w_aload_n (pc' := 73) (i := 0) (by rfl) (by rfl) dX8_spread_72 rfl ?_
        refine w_iload_n (pc' := 74) (i := 1) (by rfl) (by rfl) dX8_spread_73 rfl ?_
        refine v_callVE (pc' := 77) (st' := [gI (gb (0 ≤ x ∧ x < (σ0 3 2)))]) (d' := 0) (av := [gI x]) mi_mX8_has lk_X8_40 rfl ci_X8 kd_3 rfl (Nat.le_of_ble_eq_true rfl) (Nat.le_of_ble_eq_true rfl) dX8_spread_74 rfl rfl (hmP (F := fun z => gI (gb (0 ≤ x ∧ x < (z 3 2)))) (((hm_ur (hm_nfC 13 (by decide))).trans ((hm_up (by decide)).trans ((hm_up (by decide)).trans ((hm_up (by decide)).trans ((hm_up (by decide)).trans hq.1)))))) (fun _ => rfl) (pa_has (gUr (gUp (gUp (gUp (gUp σ 3 5 x) 3 6 d) 3 7 t) 3 8 (σ0 6 6)) 13 (fillF (σ 13) 60 5)) (hm_FA (((hm_ur (hm_nfC 13 (by decide))).trans ((hm_up (by decide)).trans ((hm_up (by decide)).trans ((hm_up (by decide)).trans ((hm_up (by decide)).trans hq.1)))))) hI.1).1.hp x)) ?_
        refine v_if_eqB (pc' := 80) (t := 87) dX8_spread_77 rfl rfl (fun c_77 => ?_) (fun c_77 => ?_)
        · skip
          exfalso; omega
        · skip
          refine w_aload_n (pc' := 81) (i := 0) (by rfl) (by rfl) dX8_spread_80 rfl ?_
          refine w_getS (pc' := 84) (q := 13) fg_X8_28 kd_3 sf_X8_4 gr_3_4 dX8_spread_81 rfl ?_
          refine w_iload_n (pc' := 85) (i := 1) (by rfl) (by rfl) dX8_spread_84 rfl ?_
          refine w_iconst (pc' := 86) (by decide) dX8_spread_85 rfl ?_
          refine w_iast (pc' := 87) kd_13 (by omega) (by omega) dX8_spread_86 rfl ?_
          refine Wp.heq (σ' := gUr (gUp (gUp (gUp (gUp σ 3 5 x) 3 6 d) 3 7 t) 3 8 (σ0 6 6)) 13 (updI (fillF (σ 13) 60 5) x 0)) gUp_row ?_
          refine w_iconst (pc' := 88) (by decide) dX8_spread_87 rfl ?_
          refine w_istore (pc' := 90) (ls' := [gR 3, gI x, gI d, gI t, gI (σ0 6 6), gI 1, gX 1]) (by decide) (by rfl) dX8_spread_88 rfl ?_
          have hl_90 : ∀ (mm : Nat) (n : Int) (f : Int → Int), (5 - n).toNat = mm → (1 ≤ n) → (n ≤ 5) → (∀ y, 0 ≤ y → y < 60 → f y = dgN (σ0 6 6) (σ0 7) (σ0 8) (σ0 12) (σ0 10) (σ0 11) x d t (n - 1).toNat y) → Wp mX8_spread 1 (fun v σ' => v = gX 1 ∧ QC σ0 σ' ∧ Kp 34 σ σ' ∧ ∀ y, 0 ≤ y → y < 60 → σ' 13 y = DG σ0 x d t y) (gUr (gUp (gUp (gUp (gUp σ 3 5 x) 3 6 d) 3 7 t) 3 8 (σ0 6 6)) 13 f) 90 [gR 3, gI x, gI d, gI t, gI (σ0 6 6), gI n, gX 1] [] := by
            intro m_90
            induction m_90 using Nat.strongRecOn with
            | _ m_90 ih_90 =>
              intro n f hmeas_90 hn0 hn1 hf
              have hk0 := hI.f.kin.2.1
              refine w_iload (pc' := 92) (by rfl) dX8_spread_90 rfl ?_
              refine w_iconst (pc' := 93) (by decide) dX8_spread_92 rfl ?_
              refine w_icmp_ge (pc' := 96) (t := 192) dX8_spread_93 rfl rfl (fun c_93 => ?_) (fun c_93 => ?_)
              · skip
                refine w_return rfl dX8_spread_192 ?_
                have hf2 : ∀ y, 0 ≤ y → y < 60 → f y = DG σ0 x d t y := fun y h0 h1 => by
                  rw [hf y h0 h1, show n - 1 = 4 by omega]
                  rfl
                have q1 := (((hm_up (σ := gUp (gUp (gUp σ 3 5 x) 3 6 d) 3 7 t) (k := 3) (i := 8) (v := σ0 6 6) (by decide)).trans (hm_up (by decide))).trans ((hm_up (by decide)).trans (hm_up (by decide)))).trans hq.1
                have q2 := (hm_ur (σ := gUp (gUp (gUp (gUp σ 3 5 x) 3 6 d) 3 7 t) 3 8 (σ0 6 6)) (k := 13) (f := f) (hm_nfC 13 (by decide))).trans q1
                have k6 : σ 6 6 = σ0 6 6 := hq.rd (.inr rfl)
                have hc : C_deg (gUr (gUp (gUp (gUp (gUp σ 3 5 x) 3 6 d) 3 7 t) 3 8 (σ0 6 6)) 13 f) := ⟨by show σ0 6 6 ≤ σ 6 6; omega, fun _ _ y h0 h1 => (hf2 y h0 h1).trans (DG_hm q2 x d t y).symm⟩
                exact ⟨rfl, ⟨q2, hc, hq.2.2⟩, ((((Kp.refl.up (by decide)).up (by decide)).up (by decide)).up (by decide)).ur (by decide), hf2⟩
              · skip
                refine w_iconst (pc' := 97) (by decide) dX8_spread_96 rfl ?_
                refine w_istore (pc' := 99) (ls' := [gR 3, gI x, gI d, gI t, gI (σ0 6 6), gI n, gI 0]) (by decide) (by rfl) dX8_spread_97 rfl ?_
                have hl_99 : ∀ (mm : Nat) (i : Int) (g : Int → Int), (σ0 6 6 - i).toNat = mm → (0 ≤ i) → (i ≤ σ0 6 6) → (∀ y, 0 ≤ y → y < 60 → g y = dgI (σ0 7) (σ0 8) (σ0 12) (σ0 10) (σ0 11) d t n (dgN (σ0 6 6) (σ0 7) (σ0 8) (σ0 12) (σ0 10) (σ0 11) x d t (n - 1).toNat) i.toNat y) → Wp mX8_spread 1 (fun v σ' => v = gX 1 ∧ QC σ0 σ' ∧ Kp 34 σ σ' ∧ ∀ y, 0 ≤ y → y < 60 → σ' 13 y = DG σ0 x d t y) (gUr (gUp (gUp (gUp (gUp σ 3 5 x) 3 6 d) 3 7 t) 3 8 (σ0 6 6)) 13 g) 99 [gR 3, gI x, gI d, gI t, gI (σ0 6 6), gI n, gI i] [] := by
                  intro m_99
                  induction m_99 using Nat.strongRecOn with
                  | _ m_99 ih_99 =>
                    intro i g hmeas_99 hi0 hi1 hg
                    have hk1 := hI.f.kin.2.2.1
                    have hb : i < σ0 6 6 → (0 ≤ σ0 7 i ∧ σ0 7 i < 60) ∧ (0 ≤ σ0 8 i ∧ σ0 8 i < 60) := fun h => by
                      have k := (hI.f.kin.2.2.2 i hi0 h).2.2.2.2.2
                      have p := hI.f.hp
                      unfold isPe isP at k
                      omega
                    refine w_iload (pc' := 101) (by rfl) dX8_spread_99 rfl ?_
                    refine w_iload (pc' := 103) (by rfl) dX8_spread_101 rfl ?_
                    refine w_icmp_ge (pc' := 106) (t := 186) dX8_spread_103 rfl rfl (fun c_103 => ?_) (fun c_103 => ?_)
                    · skip
                      refine v_iinc (pc' := 189) (x := n) (ls' := [gR 3, gI x, gI d, gI t, gI (σ0 6 6), gI (n + 1), gI i]) (by omega) (by decide) (by rfl) (by rfl) dX8_spread_186 rfl ?_
                      refine w_goto (pc' := 90) dX8_spread_189 rfl ?_
                      refine Wp.lose (ls' := [gR 3, gI x, gI d, gI t, gI (σ0 6 6), gI (n + 1), gX 1]) ⟨.inr rfl, ⟨.inr rfl, ⟨.inr rfl, ⟨.inr rfl, ⟨.inr rfl, ⟨.inr rfl, ⟨.inl rfl, trivial⟩⟩⟩⟩⟩⟩⟩ ?_
                      exact ih_90 _ (by omega) (n + 1) g rfl (by omega) (by omega) (by intro y h0 h1; rw [hg y h0 h1, show i = σ0 6 6 by omega, show n + 1 - 1 = n by omega, ← dgN_s (by omega)])
                    · skip
                      refine w_aload_n (pc' := 107) (i := 0) (by rfl) (by rfl) dX8_spread_106 rfl ?_
                      refine w_getS (pc' := 110) (q := 6) fg_X8_24 kd_3 sf_X8_3 gr_3_3 dX8_spread_107 rfl ?_
                      refine w_iload (pc' := 112) (by rfl) dX8_spread_110 rfl ?_
                      refine w_iload_n (pc' := 113) (i := 3) (by rfl) (by rfl) dX8_spread_112 rfl ?_
                      refine v_callVE (pc' := 116) (st' := [gI (gb (0 ≤ i ∧ i < σ0 6 6 ∧ σ0 12 i ≤ t))]) (d' := 0) (av := [gI i, gI t]) mi_mX9_isKnown lk_X8_78 rfl ci_X9 kd_6 rfl (Nat.le_of_ble_eq_true rfl) (Nat.le_of_ble_eq_true rfl) dX8_spread_113 rfl rfl (hmP (F := fun z => gI (gb (0 ≤ i ∧ i < z 6 6 ∧ z 12 i ≤ t))) (((hm_ur (hm_nfC 13 (by decide))).trans ((hm_up (by decide)).trans ((hm_up (by decide)).trans ((hm_up (by decide)).trans ((hm_up (by decide)).trans hq.1)))))) (fun _ => rfl) (sp_isKnown sp_6 (gUr (gUp (gUp (gUp (gUp σ 3 5 x) 3 6 d) 3 7 t) 3 8 (σ0 6 6)) 13 g) (hm_FA (((hm_ur (hm_nfC 13 (by decide))).trans ((hm_up (by decide)).trans ((hm_up (by decide)).trans ((hm_up (by decide)).trans ((hm_up (by decide)).trans hq.1)))))) hI.1).1.kin.2.2.1 i t)) ?_
                      refine v_if_eqB (pc' := 119) (t := 180) dX8_spread_116 rfl rfl (fun c_116 => ?_) (fun c_116 => ?_)
                      · skip
                        refine v_iinc (pc' := 183) (x := i) (ls' := [gR 3, gI x, gI d, gI t, gI (σ0 6 6), gI n, gI (i + 1)]) (by omega) (by decide) (by rfl) (by rfl) dX8_spread_180 rfl ?_
                        refine w_goto (pc' := 99) dX8_spread_183 rfl ?_
                        exact ih_99 _ (by omega) (i + 1) g rfl (by omega) (by omega) (by first | (intro y h0 h1; rw [dgI_f (by omega) (by unfold liv; omega)]; exact hg y h0 h1) | (intro y h0 h1; rw [dgI_t (by omega) ⟨by omega, by omega, by omega⟩]; exact dgR_ag ⟨by omega, by omega⟩ ⟨by omega, by omega⟩ (dgR_ag ⟨by omega, by omega⟩ ⟨by omega, by omega⟩ hg) y h0 h1))
                      · skip
                        refine w_aload_n (pc' := 120) (i := 0) (by rfl) (by rfl) dX8_spread_119 rfl ?_
                        refine w_getS (pc' := 123) (q := 6) fg_X8_24 kd_3 sf_X8_3 gr_3_3 dX8_spread_120 rfl ?_
                        refine w_iload (pc' := 125) (by rfl) dX8_spread_123 rfl ?_
                        refine w_iload_n (pc' := 126) (i := 2) (by rfl) (by rfl) dX8_spread_125 rfl ?_
                        refine v_callVE (pc' := 129) (st' := [gI (gb (0 ≤ i ∧ i < σ0 6 6 ∧ σ0 10 i ≤ d ∧ (σ0 11 i = -1 ∨ d < σ0 11 i)))]) (d' := 0) (av := [gI i, gI d]) mi_mX9_covers lk_X8_82 rfl ci_X9 kd_6 rfl (Nat.le_of_ble_eq_true rfl) (Nat.le_of_ble_eq_true rfl) dX8_spread_126 rfl rfl (hmP (F := fun z => gI (gb (0 ≤ i ∧ i < z 6 6 ∧ z 10 i ≤ d ∧ (z 11 i = -1 ∨ d < z 11 i)))) (((hm_ur (hm_nfC 13 (by decide))).trans ((hm_up (by decide)).trans ((hm_up (by decide)).trans ((hm_up (by decide)).trans ((hm_up (by decide)).trans hq.1)))))) (fun _ => rfl) (sp_covers sp_6 (gUr (gUp (gUp (gUp (gUp σ 3 5 x) 3 6 d) 3 7 t) 3 8 (σ0 6 6)) 13 g) (hm_FA (((hm_ur (hm_nfC 13 (by decide))).trans ((hm_up (by decide)).trans ((hm_up (by decide)).trans ((hm_up (by decide)).trans ((hm_up (by decide)).trans hq.1)))))) hI.1).1.kin.2.2.1 i d)) ?_
                        refine v_if_eqB (pc' := 132) (t := 180) dX8_spread_129 rfl rfl (fun c_129 => ?_) (fun c_129 => ?_)
                        · skip
                          refine v_iinc (pc' := 183) (x := i) (ls' := [gR 3, gI x, gI d, gI t, gI (σ0 6 6), gI n, gI (i + 1)]) (by omega) (by decide) (by rfl) (by rfl) dX8_spread_180 rfl ?_
                          refine w_goto (pc' := 99) dX8_spread_183 rfl ?_
                          exact ih_99 _ (by omega) (i + 1) g rfl (by omega) (by omega) (by first | (intro y h0 h1; rw [dgI_f (by omega) (by unfold liv; omega)]; exact hg y h0 h1) | (intro y h0 h1; rw [dgI_t (by omega) ⟨by omega, by omega, by omega⟩]; exact dgR_ag ⟨by omega, by omega⟩ ⟨by omega, by omega⟩ (dgR_ag ⟨by omega, by omega⟩ ⟨by omega, by omega⟩ hg) y h0 h1))
                        · skip
                          refine w_aload_n (pc' := 133) (i := 0) (by rfl) (by rfl) dX8_spread_132 rfl ?_
                          refine w_aload_n (pc' := 134) (i := 0) (by rfl) (by rfl) dX8_spread_133 rfl ?_
                          refine w_getS (pc' := 137) (q := 6) fg_X8_24 kd_3 sf_X8_3 gr_3_3 dX8_spread_134 rfl ?_
                          refine w_iload (pc' := 139) (by rfl) dX8_spread_137 rfl ?_
                          refine v_callVE (pc' := 142) (st' := [gI (σ0 7 i), gR 3]) (d' := 0) (av := [gI i]) mi_mX9_first lk_X8_85 rfl ci_X9 kd_6 rfl (Nat.le_of_ble_eq_true rfl) (Nat.le_of_ble_eq_true rfl) dX8_spread_139 rfl rfl (hmP (F := fun z => gI (z 7 i)) (((hm_ur (hm_nfC 13 (by decide))).trans ((hm_up (by decide)).trans ((hm_up (by decide)).trans ((hm_up (by decide)).trans ((hm_up (by decide)).trans hq.1)))))) (fun _ => rfl) (sp_first sp_6 (gUr (gUp (gUp (gUp (gUp σ 3 5 x) 3 6 d) 3 7 t) 3 8 (σ0 6 6)) 13 g) (i := i) (by omega) (by omega))) ?_
                          refine w_aload_n (pc' := 143) (i := 0) (by rfl) (by rfl) dX8_spread_142 rfl ?_
                          refine w_getS (pc' := 146) (q := 6) fg_X8_24 kd_3 sf_X8_3 gr_3_3 dX8_spread_143 rfl ?_
                          refine w_iload (pc' := 148) (by rfl) dX8_spread_146 rfl ?_
                          refine v_callVE (pc' := 151) (st' := [gI (σ0 8 i), gI (σ0 7 i), gR 3]) (d' := 0) (av := [gI i]) mi_mX9_second lk_X8_89 rfl ci_X9 kd_6 rfl (Nat.le_of_ble_eq_true rfl) (Nat.le_of_ble_eq_true rfl) dX8_spread_148 rfl rfl (hmP (F := fun z => gI (z 8 i)) (((hm_ur (hm_nfC 13 (by decide))).trans ((hm_up (by decide)).trans ((hm_up (by decide)).trans ((hm_up (by decide)).trans ((hm_up (by decide)).trans hq.1)))))) (fun _ => rfl) (sp_second sp_6 (gUr (gUp (gUp (gUp (gUp σ 3 5 x) 3 6 d) 3 7 t) 3 8 (σ0 6 6)) 13 g) (i := i) (by omega) (by omega))) ?_
                          refine w_iload (pc' := 153) (by rfl) dX8_spread_151 rfl ?_
                          refine v_callVE (pc' := 156) (st' := []) (d' := 0) (av := [gI (σ0 7 i), gI (σ0 8 i), gI n]) mi_mX8_reach lk_X8_92 rfl ci_X8 kd_3 rfl (Nat.le_of_ble_eq_true rfl) (Nat.le_of_ble_eq_true rfl) dX8_spread_153 rfl rfl (k_reach (near := σ0 7 i) (other := σ0 8 i) (n := n) (gUp (gUp (gUp (gUp σ 3 5 x) 3 6 d) 3 7 t) 3 8 (σ0 6 6)) g ⟨by omega, by omega⟩ ⟨by omega, by omega⟩ ⟨by omega, by omega⟩) ?_
                          refine w_aload_n (pc' := 157) (i := 0) (by rfl) (by rfl) dX8_spread_156 rfl ?_
                          refine w_aload_n (pc' := 158) (i := 0) (by rfl) (by rfl) dX8_spread_157 rfl ?_
                          refine w_getS (pc' := 161) (q := 6) fg_X8_24 kd_3 sf_X8_3 gr_3_3 dX8_spread_158 rfl ?_
                          refine w_iload (pc' := 163) (by rfl) dX8_spread_161 rfl ?_
                          refine v_callVE (pc' := 166) (st' := [gI (σ0 8 i), gR 3]) (d' := 0) (av := [gI i]) mi_mX9_second lk_X8_89 rfl ci_X9 kd_6 rfl (Nat.le_of_ble_eq_true rfl) (Nat.le_of_ble_eq_true rfl) dX8_spread_163 rfl rfl (hmP (F := fun z => gI (z 8 i)) (((hm_ur (hm_nfC 13 (by decide))).trans ((hm_up (by decide)).trans ((hm_up (by decide)).trans ((hm_up (by decide)).trans ((hm_up (by decide)).trans hq.1)))))) (fun _ => rfl) (sp_second sp_6 (gUr (gUp (gUp (gUp (gUp σ 3 5 x) 3 6 d) 3 7 t) 3 8 (σ0 6 6)) 13 (dgR g (σ0 7 i) (σ0 8 i) n)) (i := i) (by omega) (by omega))) ?_
                          refine w_aload_n (pc' := 167) (i := 0) (by rfl) (by rfl) dX8_spread_166 rfl ?_
                          refine w_getS (pc' := 170) (q := 6) fg_X8_24 kd_3 sf_X8_3 gr_3_3 dX8_spread_167 rfl ?_
                          refine w_iload (pc' := 172) (by rfl) dX8_spread_170 rfl ?_
                          refine v_callVE (pc' := 175) (st' := [gI (σ0 7 i), gI (σ0 8 i), gR 3]) (d' := 0) (av := [gI i]) mi_mX9_first lk_X8_85 rfl ci_X9 kd_6 rfl (Nat.le_of_ble_eq_true rfl) (Nat.le_of_ble_eq_true rfl) dX8_spread_172 rfl rfl (hmP (F := fun z => gI (z 7 i)) (((hm_ur (hm_nfC 13 (by decide))).trans ((hm_up (by decide)).trans ((hm_up (by decide)).trans ((hm_up (by decide)).trans ((hm_up (by decide)).trans hq.1)))))) (fun _ => rfl) (sp_first sp_6 (gUr (gUp (gUp (gUp (gUp σ 3 5 x) 3 6 d) 3 7 t) 3 8 (σ0 6 6)) 13 (dgR g (σ0 7 i) (σ0 8 i) n)) (i := i) (by omega) (by omega))) ?_
                          refine w_iload (pc' := 177) (by rfl) dX8_spread_175 rfl ?_
                          refine v_callVE (pc' := 180) (st' := []) (d' := 0) (av := [gI (σ0 8 i), gI (σ0 7 i), gI n]) mi_mX8_reach lk_X8_92 rfl ci_X8 kd_3 rfl (Nat.le_of_ble_eq_true rfl) (Nat.le_of_ble_eq_true rfl) dX8_spread_177 rfl rfl (k_reach (near := σ0 8 i) (other := σ0 7 i) (n := n) (gUp (gUp (gUp (gUp σ 3 5 x) 3 6 d) 3 7 t) 3 8 (σ0 6 6)) (dgR g (σ0 7 i) (σ0 8 i) n) ⟨by omega, by omega⟩ ⟨by omega, by omega⟩ ⟨by omega, by omega⟩) ?_
                          refine v_iinc (pc' := 183) (x := i) (ls' := [gR 3, gI x, gI d, gI t, gI (σ0 6 6), gI n, gI (i + 1)]) (by omega) (by decide) (by rfl) (by rfl) dX8_spread_180 rfl ?_
                          refine w_goto (pc' := 99) dX8_spread_183 rfl ?_
                          exact ih_99 _ (by omega) (i + 1) (dgR (dgR g (σ0 7 i) (σ0 8 i) n) (σ0 8 i) (σ0 7 i) n) rfl (by omega) (by omega) (by first | (intro y h0 h1; rw [dgI_f (by omega) (by unfold liv; omega)]; exact hg y h0 h1) | (intro y h0 h1; rw [dgI_t (by omega) ⟨by omega, by omega, by omega⟩]; exact dgR_ag ⟨by omega, by omega⟩ ⟨by omega, by omega⟩ (dgR_ag ⟨by omega, by omega⟩ ⟨by omega, by omega⟩ hg) y h0 h1))
                exact hl_99 _ 0 f rfl (by omega) (by first | omega | exact hI.f.kin.2.1) (by exact hf)
          exact hl_90 _ 1 (updI (fillF (σ 13) 60 5) x 0) rfl (by omega) (by omega) (by intro y h0 h1; show _ = updI (fun _ => 5) x 0 y; unfold updI; split; rfl; exact fillF_in h0 h1)
      · skip
        refine w_iload (pc' := 35) (by rfl) dX8_spread_33 rfl ?_
        refine w_aload_n (pc' := 36) (i := 0) (by rfl) (by rfl) dX8_spread_35 rfl ?_
        refine v_getI (pc' := 39) (ji := 8) rfl fg_X8_69 kd_3 dX8_spread_36 rfl ?_
        refine w_icmp_ne (pc' := 42) (t := 43) dX8_spread_39 rfl rfl (fun c_39 => ?_) (fun c_39 => ?_)
        · skip
          refine w_aload_n (pc' := 44) (i := 0) (by rfl) (by rfl) dX8_spread_43 rfl ?_
          refine w_iload_n (pc' := 45) (i := 1) (by rfl) (by rfl) dX8_spread_44 rfl ?_
          refine v_putI (pc' := 48) (ji := 5) rfl fp_X8_31 kd_3 sf_X8_5 dX8_spread_45 rfl ?_
          refine w_aload_n (pc' := 49) (i := 0) (by rfl) (by rfl) dX8_spread_48 rfl ?_
          refine w_iload_n (pc' := 50) (i := 2) (by rfl) (by rfl) dX8_spread_49 rfl ?_
          refine v_putI (pc' := 53) (ji := 6) rfl fp_X8_63 kd_3 sf_X8_6 dX8_spread_50 rfl ?_
          refine w_aload_n (pc' := 54) (i := 0) (by rfl) (by rfl) dX8_spread_53 rfl ?_
          refine w_iload_n (pc' := 55) (i := 3) (by rfl) (by rfl) dX8_spread_54 rfl ?_
          refine v_putI (pc' := 58) (ji := 7) rfl fp_X8_66 kd_3 sf_X8_7 dX8_spread_55 rfl ?_
          refine w_aload_n (pc' := 59) (i := 0) (by rfl) (by rfl) dX8_spread_58 rfl ?_
          refine w_iload (pc' := 61) (by rfl) dX8_spread_59 rfl ?_
          refine v_putI (pc' := 64) (ji := 8) rfl fp_X8_69 kd_3 sf_X8_8 dX8_spread_61 rfl ?_
          refine w_aload_n (pc' := 65) (i := 0) (by rfl) (by rfl) dX8_spread_64 rfl ?_
          refine w_getS (pc' := 68) (q := 13) fg_X8_28 kd_3 sf_X8_4 gr_3_4 dX8_spread_65 rfl ?_
          refine w_iconst (pc' := 69) (by decide) dX8_spread_68 rfl ?_
          refine v_callSE (pc' := 72) (st' := []) (d' := 0) (av := [gR 13, gI 5]) ms_mJ7_fill_53178 st_mJ7_fill_53178 lk_X8_72 rfl rfl (Nat.le_of_ble_eq_true rfl) (Nat.le_of_ble_eq_true rfl) dX8_spread_69 rfl rfl (k_fillI (x := 13) (n := 60) kd_13 (by decide) (gUp (gUp (gUp (gUp σ 3 5 x) 3 6 d) 3 7 t) 3 8 (σ0 6 6)) 5) ?_
          refine w_aload_n (pc' := 73) (i := 0) (by rfl) (by rfl) dX8_spread_72 rfl ?_
          refine w_iload_n (pc' := 74) (i := 1) (by rfl) (by rfl) dX8_spread_73 rfl ?_
          refine v_callVE (pc' := 77) (st' := [gI (gb (0 ≤ x ∧ x < (σ0 3 2)))]) (d' := 0) (av := [gI x]) mi_mX8_has lk_X8_40 rfl ci_X8 kd_3 rfl (Nat.le_of_ble_eq_true rfl) (Nat.le_of_ble_eq_true rfl) dX8_spread_74 rfl rfl (hmP (F := fun z => gI (gb (0 ≤ x ∧ x < (z 3 2)))) (((hm_ur (hm_nfC 13 (by decide))).trans ((hm_up (by decide)).trans ((hm_up (by decide)).trans ((hm_up (by decide)).trans ((hm_up (by decide)).trans hq.1)))))) (fun _ => rfl) (pa_has (gUr (gUp (gUp (gUp (gUp σ 3 5 x) 3 6 d) 3 7 t) 3 8 (σ0 6 6)) 13 (fillF (σ 13) 60 5)) (hm_FA (((hm_ur (hm_nfC 13 (by decide))).trans ((hm_up (by decide)).trans ((hm_up (by decide)).trans ((hm_up (by decide)).trans ((hm_up (by decide)).trans hq.1)))))) hI.1).1.hp x)) ?_
          refine v_if_eqB (pc' := 80) (t := 87) dX8_spread_77 rfl rfl (fun c_77 => ?_) (fun c_77 => ?_)
          · skip
            exfalso; omega
          · skip
            refine w_aload_n (pc' := 81) (i := 0) (by rfl) (by rfl) dX8_spread_80 rfl ?_
            refine w_getS (pc' := 84) (q := 13) fg_X8_28 kd_3 sf_X8_4 gr_3_4 dX8_spread_81 rfl ?_
            refine w_iload_n (pc' := 85) (i := 1) (by rfl) (by rfl) dX8_spread_84 rfl ?_
            refine w_iconst (pc' := 86) (by decide) dX8_spread_85 rfl ?_
            refine w_iast (pc' := 87) kd_13 (by omega) (by omega) dX8_spread_86 rfl ?_
            refine Wp.heq (σ' := gUr (gUp (gUp (gUp (gUp σ 3 5 x) 3 6 d) 3 7 t) 3 8 (σ0 6 6)) 13 (updI (fillF (σ 13) 60 5) x 0)) gUp_row ?_
            refine w_iconst (pc' := 88) (by decide) dX8_spread_87 rfl ?_
            refine w_istore (pc' := 90) (ls' := [gR 3, gI x, gI d, gI t, gI (σ0 6 6), gI 1, gX 1]) (by decide) (by rfl) dX8_spread_88 rfl ?_
            have hl_90 : ∀ (mm : Nat) (n : Int) (f : Int → Int), (5 - n).toNat = mm → (1 ≤ n) → (n ≤ 5) → (∀ y, 0 ≤ y → y < 60 → f y = dgN (σ0 6 6) (σ0 7) (σ0 8) (σ0 12) (σ0 10) (σ0 11) x d t (n - 1).toNat y) → Wp mX8_spread 1 (fun v σ' => v = gX 1 ∧ QC σ0 σ' ∧ Kp 34 σ σ' ∧ ∀ y, 0 ≤ y → y < 60 → σ' 13 y = DG σ0 x d t y) (gUr (gUp (gUp (gUp (gUp σ 3 5 x) 3 6 d) 3 7 t) 3 8 (σ0 6 6)) 13 f) 90 [gR 3, gI x, gI d, gI t, gI (σ0 6 6), gI n, gX 1] [] := by
              intro m_90
              induction m_90 using Nat.strongRecOn with
              | _ m_90 ih_90 =>
                intro n f hmeas_90 hn0 hn1 hf
                have hk0 := hI.f.kin.2.1
                refine w_iload (pc' := 92) (by rfl) dX8_spread_90 rfl ?_
                refine w_iconst (pc' := 93) (by decide) dX8_spread_92 rfl ?_
                refine w_icmp_ge (pc' := 96) (t := 192) dX8_spread_93 rfl rfl (fun c_93 => ?_) (fun c_93 => ?_)
                · skip
                  refine w_return rfl dX8_spread_192 ?_
                  have hf2 : ∀ y, 0 ≤ y → y < 60 → f y = DG σ0 x d t y := fun y h0 h1 => by
                    rw [hf y h0 h1, show n - 1 = 4 by omega]
                    rfl
                  have q1 := (((hm_up (σ := gUp (gUp (gUp σ 3 5 x) 3 6 d) 3 7 t) (k := 3) (i := 8) (v := σ0 6 6) (by decide)).trans (hm_up (by decide))).trans ((hm_up (by decide)).trans (hm_up (by decide)))).trans hq.1
                  have q2 := (hm_ur (σ := gUp (gUp (gUp (gUp σ 3 5 x) 3 6 d) 3 7 t) 3 8 (σ0 6 6)) (k := 13) (f := f) (hm_nfC 13 (by decide))).trans q1
                  have k6 : σ 6 6 = σ0 6 6 := hq.rd (.inr rfl)
                  have hc : C_deg (gUr (gUp (gUp (gUp (gUp σ 3 5 x) 3 6 d) 3 7 t) 3 8 (σ0 6 6)) 13 f) := ⟨by show σ0 6 6 ≤ σ 6 6; omega, fun _ _ y h0 h1 => (hf2 y h0 h1).trans (DG_hm q2 x d t y).symm⟩
                  exact ⟨rfl, ⟨q2, hc, hq.2.2⟩, ((((Kp.refl.up (by decide)).up (by decide)).up (by decide)).up (by decide)).ur (by decide), hf2⟩
                · skip
                  refine w_iconst (pc' := 97) (by decide) dX8_spread_96 rfl ?_
                  refine w_istore (pc' := 99) (ls' := [gR 3, gI x, gI d, gI t, gI (σ0 6 6), gI n, gI 0]) (by decide) (by rfl) dX8_spread_97 rfl ?_
                  have hl_99 : ∀ (mm : Nat) (i : Int) (g : Int → Int), (σ0 6 6 - i).toNat = mm → (0 ≤ i) → (i ≤ σ0 6 6) → (∀ y, 0 ≤ y → y < 60 → g y = dgI (σ0 7) (σ0 8) (σ0 12) (σ0 10) (σ0 11) d t n (dgN (σ0 6 6) (σ0 7) (σ0 8) (σ0 12) (σ0 10) (σ0 11) x d t (n - 1).toNat) i.toNat y) → Wp mX8_spread 1 (fun v σ' => v = gX 1 ∧ QC σ0 σ' ∧ Kp 34 σ σ' ∧ ∀ y, 0 ≤ y → y < 60 → σ' 13 y = DG σ0 x d t y) (gUr (gUp (gUp (gUp (gUp σ 3 5 x) 3 6 d) 3 7 t) 3 8 (σ0 6 6)) 13 g) 99 [gR 3, gI x, gI d, gI t, gI (σ0 6 6), gI n, gI i] [] := by
                    intro m_99
                    induction m_99 using Nat.strongRecOn with
                    | _ m_99 ih_99 =>
                      intro i g hmeas_99 hi0 hi1 hg
                      have hk1 := hI.f.kin.2.2.1
                      have hb : i < σ0 6 6 → (0 ≤ σ0 7 i ∧ σ0 7 i < 60) ∧ (0 ≤ σ0 8 i ∧ σ0 8 i < 60) := fun h => by
                        have k := (hI.f.kin.2.2.2 i hi0 h).2.2.2.2.2
                        have p := hI.f.hp
                        unfold isPe isP at k
                        omega
                      refine w_iload (pc' := 101) (by rfl) dX8_spread_99 rfl ?_
                      refine w_iload (pc' := 103) (by rfl) dX8_spread_101 rfl ?_
                      refine w_icmp_ge (pc' := 106) (t := 186) dX8_spread_103 rfl rfl (fun c_103 => ?_) (fun c_103 => ?_)
                      · skip
                        refine v_iinc (pc' := 189) (x := n) (ls' := [gR 3, gI x, gI d, gI t, gI (σ0 6 6), gI (n + 1), gI i]) (by omega) (by decide) (by rfl) (by rfl) dX8_spread_186 rfl ?_
                        refine w_goto (pc' := 90) dX8_spread_189 rfl ?_
                        refine Wp.lose (ls' := [gR 3, gI x, gI d, gI t, gI (σ0 6 6), gI (n + 1), gX 1]) ⟨.inr rfl, ⟨.inr rfl, ⟨.inr rfl, ⟨.inr rfl, ⟨.inr rfl, ⟨.inr rfl, ⟨.inl rfl, trivial⟩⟩⟩⟩⟩⟩⟩ ?_
                        exact ih_90 _ (by omega) (n + 1) g rfl (by omega) (by omega) (by intro y h0 h1; rw [hg y h0 h1, show i = σ0 6 6 by omega, show n + 1 - 1 = n by omega, ← dgN_s (by omega)])
                      · skip
                        refine w_aload_n (pc' := 107) (i := 0) (by rfl) (by rfl) dX8_spread_106 rfl ?_
                        refine w_getS (pc' := 110) (q := 6) fg_X8_24 kd_3 sf_X8_3 gr_3_3 dX8_spread_107 rfl ?_
                        refine w_iload (pc' := 112) (by rfl) dX8_spread_110 rfl ?_
                        refine w_iload_n (pc' := 113) (i := 3) (by rfl) (by rfl) dX8_spread_112 rfl ?_
                        refine v_callVE (pc' := 116) (st' := [gI (gb (0 ≤ i ∧ i < σ0 6 6 ∧ σ0 12 i ≤ t))]) (d' := 0) (av := [gI i, gI t]) mi_mX9_isKnown lk_X8_78 rfl ci_X9 kd_6 rfl (Nat.le_of_ble_eq_true rfl) (Nat.le_of_ble_eq_true rfl) dX8_spread_113 rfl rfl (hmP (F := fun z => gI (gb (0 ≤ i ∧ i < z 6 6 ∧ z 12 i ≤ t))) (((hm_ur (hm_nfC 13 (by decide))).trans ((hm_up (by decide)).trans ((hm_up (by decide)).trans ((hm_up (by decide)).trans ((hm_up (by decide)).trans hq.1)))))) (fun _ => rfl) (sp_isKnown sp_6 (gUr (gUp (gUp (gUp (gUp σ 3 5 x) 3 6 d) 3 7 t) 3 8 (σ0 6 6)) 13 g) (hm_FA (((hm_ur (hm_nfC 13 (by decide))).trans ((hm_up (by decide)).trans ((hm_up (by decide)).trans ((hm_up (by decide)).trans ((hm_up (by decide)).trans hq.1)))))) hI.1).1.kin.2.2.1 i t)) ?_
                        refine v_if_eqB (pc' := 119) (t := 180) dX8_spread_116 rfl rfl (fun c_116 => ?_) (fun c_116 => ?_)
                        · skip
                          refine v_iinc (pc' := 183) (x := i) (ls' := [gR 3, gI x, gI d, gI t, gI (σ0 6 6), gI n, gI (i + 1)]) (by omega) (by decide) (by rfl) (by rfl) dX8_spread_180 rfl ?_
                          refine w_goto (pc' := 99) dX8_spread_183 rfl ?_
                          exact ih_99 _ (by omega) (i + 1) g rfl (by omega) (by omega) (by first | (intro y h0 h1; rw [dgI_f (by omega) (by unfold liv; omega)]; exact hg y h0 h1) | (intro y h0 h1; rw [dgI_t (by omega) ⟨by omega, by omega, by omega⟩]; exact dgR_ag ⟨by omega, by omega⟩ ⟨by omega, by omega⟩ (dgR_ag ⟨by omega, by omega⟩ ⟨by omega, by omega⟩ hg) y h0 h1))
                        · skip
                          refine w_aload_n (pc' := 120) (i := 0) (by rfl) (by rfl) dX8_spread_119 rfl ?_
                          refine w_getS (pc' := 123) (q := 6) fg_X8_24 kd_3 sf_X8_3 gr_3_3 dX8_spread_120 rfl ?_
                          refine w_iload (pc' := 125) (by rfl) dX8_spread_123 rfl ?_
                          refine w_iload_n (pc' := 126) (i := 2) (by rfl) (by rfl) dX8_spread_125 rfl ?_
                          refine v_callVE (pc' := 129) (st' := [gI (gb (0 ≤ i ∧ i < σ0 6 6 ∧ σ0 10 i ≤ d ∧ (σ0 11 i = -1 ∨ d < σ0 11 i)))]) (d' := 0) (av := [gI i, gI d]) mi_mX9_covers lk_X8_82 rfl ci_X9 kd_6 rfl (Nat.le_of_ble_eq_true rfl) (Nat.le_of_ble_eq_true rfl) dX8_spread_126 rfl rfl (hmP (F := fun z => gI (gb (0 ≤ i ∧ i < z 6 6 ∧ z 10 i ≤ d ∧ (z 11 i = -1 ∨ d < z 11 i)))) (((hm_ur (hm_nfC 13 (by decide))).trans ((hm_up (by decide)).trans ((hm_up (by decide)).trans ((hm_up (by decide)).trans ((hm_up (by decide)).trans hq.1)))))) (fun _ => rfl) (sp_covers sp_6 (gUr (gUp (gUp (gUp (gUp σ 3 5 x) 3 6 d) 3 7 t) 3 8 (σ0 6 6)) 13 g) (hm_FA (((hm_ur (hm_nfC 13 (by decide))).trans ((hm_up (by decide)).trans ((hm_up (by decide)).trans ((hm_up (by decide)).trans ((hm_up (by decide)).trans hq.1)))))) hI.1).1.kin.2.2.1 i d)) ?_
                          refine v_if_eqB (pc' := 132) (t := 180) dX8_spread_129 rfl rfl (fun c_129 => ?_) (fun c_129 => ?_)
                          · skip
                            refine v_iinc (pc' := 183) (x := i) (ls' := [gR 3, gI x, gI d, gI t, gI (σ0 6 6), gI n, gI (i + 1)]) (by omega) (by decide) (by rfl) (by rfl) dX8_spread_180 rfl ?_
                            refine w_goto (pc' := 99) dX8_spread_183 rfl ?_
                            exact ih_99 _ (by omega) (i + 1) g rfl (by omega) (by omega) (by first | (intro y h0 h1; rw [dgI_f (by omega) (by unfold liv; omega)]; exact hg y h0 h1) | (intro y h0 h1; rw [dgI_t (by omega) ⟨by omega, by omega, by omega⟩]; exact dgR_ag ⟨by omega, by omega⟩ ⟨by omega, by omega⟩ (dgR_ag ⟨by omega, by omega⟩ ⟨by omega, by omega⟩ hg) y h0 h1))
                          · skip
                            refine w_aload_n (pc' := 133) (i := 0) (by rfl) (by rfl) dX8_spread_132 rfl ?_
                            refine w_aload_n (pc' := 134) (i := 0) (by rfl) (by rfl) dX8_spread_133 rfl ?_
                            refine w_getS (pc' := 137) (q := 6) fg_X8_24 kd_3 sf_X8_3 gr_3_3 dX8_spread_134 rfl ?_
                            refine w_iload (pc' := 139) (by rfl) dX8_spread_137 rfl ?_
                            refine v_callVE (pc' := 142) (st' := [gI (σ0 7 i), gR 3]) (d' := 0) (av := [gI i]) mi_mX9_first lk_X8_85 rfl ci_X9 kd_6 rfl (Nat.le_of_ble_eq_true rfl) (Nat.le_of_ble_eq_true rfl) dX8_spread_139 rfl rfl (hmP (F := fun z => gI (z 7 i)) (((hm_ur (hm_nfC 13 (by decide))).trans ((hm_up (by decide)).trans ((hm_up (by decide)).trans ((hm_up (by decide)).trans ((hm_up (by decide)).trans hq.1)))))) (fun _ => rfl) (sp_first sp_6 (gUr (gUp (gUp (gUp (gUp σ 3 5 x) 3 6 d) 3 7 t) 3 8 (σ0 6 6)) 13 g) (i := i) (by omega) (by omega))) ?_
                            refine w_aload_n (pc' := 143) (i := 0) (by rfl) (by rfl) dX8_spread_142 rfl ?_
                            refine w_getS (pc' := 146) (q := 6) fg_X8_24 kd_3 sf_X8_3 gr_3_3 dX8_spread_143 rfl ?_
                            refine w_iload (pc' := 148) (by rfl) dX8_spread_146 rfl ?_
                            refine v_callVE (pc' := 151) (st' := [gI (σ0 8 i), gI (σ0 7 i), gR 3]) (d' := 0) (av := [gI i]) mi_mX9_second lk_X8_89 rfl ci_X9 kd_6 rfl (Nat.le_of_ble_eq_true rfl) (Nat.le_of_ble_eq_true rfl) dX8_spread_148 rfl rfl (hmP (F := fun z => gI (z 8 i)) (((hm_ur (hm_nfC 13 (by decide))).trans ((hm_up (by decide)).trans ((hm_up (by decide)).trans ((hm_up (by decide)).trans ((hm_up (by decide)).trans hq.1)))))) (fun _ => rfl) (sp_second sp_6 (gUr (gUp (gUp (gUp (gUp σ 3 5 x) 3 6 d) 3 7 t) 3 8 (σ0 6 6)) 13 g) (i := i) (by omega) (by omega))) ?_
                            refine w_iload (pc' := 153) (by rfl) dX8_spread_151 rfl ?_
                            refine v_callVE (pc' := 156) (st' := []) (d' := 0) (av := [gI (σ0 7 i), gI (σ0 8 i), gI n]) mi_mX8_reach lk_X8_92 rfl ci_X8 kd_3 rfl (Nat.le_of_ble_eq_true rfl) (Nat.le_of_ble_eq_true rfl) dX8_spread_153 rfl rfl (k_reach (near := σ0 7 i) (other := σ0 8 i) (n := n) (gUp (gUp (gUp (gUp σ 3 5 x) 3 6 d) 3 7 t) 3 8 (σ0 6 6)) g ⟨by omega, by omega⟩ ⟨by omega, by omega⟩ ⟨by omega, by omega⟩) ?_
                            refine w_aload_n (pc' := 157) (i := 0) (by rfl) (by rfl) dX8_spread_156 rfl ?_
                            refine w_aload_n (pc' := 158) (i := 0) (by rfl) (by rfl) dX8_spread_157 rfl ?_
                            refine w_getS (pc' := 161) (q := 6) fg_X8_24 kd_3 sf_X8_3 gr_3_3 dX8_spread_158 rfl ?_
                            refine w_iload (pc' := 163) (by rfl) dX8_spread_161 rfl ?_
                            refine v_callVE (pc' := 166) (st' := [gI (σ0 8 i), gR 3]) (d' := 0) (av := [gI i]) mi_mX9_second lk_X8_89 rfl ci_X9 kd_6 rfl (Nat.le_of_ble_eq_true rfl) (Nat.le_of_ble_eq_true rfl) dX8_spread_163 rfl rfl (hmP (F := fun z => gI (z 8 i)) (((hm_ur (hm_nfC 13 (by decide))).trans ((hm_up (by decide)).trans ((hm_up (by decide)).trans ((hm_up (by decide)).trans ((hm_up (by decide)).trans hq.1)))))) (fun _ => rfl) (sp_second sp_6 (gUr (gUp (gUp (gUp (gUp σ 3 5 x) 3 6 d) 3 7 t) 3 8 (σ0 6 6)) 13 (dgR g (σ0 7 i) (σ0 8 i) n)) (i := i) (by omega) (by omega))) ?_
                            refine w_aload_n (pc' := 167) (i := 0) (by rfl) (by rfl) dX8_spread_166 rfl ?_
                            refine w_getS (pc' := 170) (q := 6) fg_X8_24 kd_3 sf_X8_3 gr_3_3 dX8_spread_167 rfl ?_
                            refine w_iload (pc' := 172) (by rfl) dX8_spread_170 rfl ?_
                            refine v_callVE (pc' := 175) (st' := [gI (σ0 7 i), gI (σ0 8 i), gR 3]) (d' := 0) (av := [gI i]) mi_mX9_first lk_X8_85 rfl ci_X9 kd_6 rfl (Nat.le_of_ble_eq_true rfl) (Nat.le_of_ble_eq_true rfl) dX8_spread_172 rfl rfl (hmP (F := fun z => gI (z 7 i)) (((hm_ur (hm_nfC 13 (by decide))).trans ((hm_up (by decide)).trans ((hm_up (by decide)).trans ((hm_up (by decide)).trans ((hm_up (by decide)).trans hq.1)))))) (fun _ => rfl) (sp_first sp_6 (gUr (gUp (gUp (gUp (gUp σ 3 5 x) 3 6 d) 3 7 t) 3 8 (σ0 6 6)) 13 (dgR g (σ0 7 i) (σ0 8 i) n)) (i := i) (by omega) (by omega))) ?_
                            refine w_iload (pc' := 177) (by rfl) dX8_spread_175 rfl ?_
                            refine v_callVE (pc' := 180) (st' := []) (d' := 0) (av := [gI (σ0 8 i), gI (σ0 7 i), gI n]) mi_mX8_reach lk_X8_92 rfl ci_X8 kd_3 rfl (Nat.le_of_ble_eq_true rfl) (Nat.le_of_ble_eq_true rfl) dX8_spread_177 rfl rfl (k_reach (near := σ0 8 i) (other := σ0 7 i) (n := n) (gUp (gUp (gUp (gUp σ 3 5 x) 3 6 d) 3 7 t) 3 8 (σ0 6 6)) (dgR g (σ0 7 i) (σ0 8 i) n) ⟨by omega, by omega⟩ ⟨by omega, by omega⟩ ⟨by omega, by omega⟩) ?_
                            refine v_iinc (pc' := 183) (x := i) (ls' := [gR 3, gI x, gI d, gI t, gI (σ0 6 6), gI n, gI (i + 1)]) (by omega) (by decide) (by rfl) (by rfl) dX8_spread_180 rfl ?_
                            refine w_goto (pc' := 99) dX8_spread_183 rfl ?_
                            exact ih_99 _ (by omega) (i + 1) (dgR (dgR g (σ0 7 i) (σ0 8 i) n) (σ0 8 i) (σ0 7 i) n) rfl (by omega) (by omega) (by first | (intro y h0 h1; rw [dgI_f (by omega) (by unfold liv; omega)]; exact hg y h0 h1) | (intro y h0 h1; rw [dgI_t (by omega) ⟨by omega, by omega, by omega⟩]; exact dgR_ag ⟨by omega, by omega⟩ ⟨by omega, by omega⟩ (dgR_ag ⟨by omega, by omega⟩ ⟨by omega, by omega⟩ hg) y h0 h1))
                  exact hl_99 _ 0 f rfl (by omega) (by first | omega | exact hI.f.kin.2.1) (by exact hf)
            exact hl_90 _ 1 (updI (fillF (σ 13) 60 5) x 0) rfl (by omega) (by omega) (by intro y h0 h1; show _ = updI (fun _ => 5) x 0 y; unfold updI; split; rfl; exact fillF_in h0 h1)
        · skip
          refine w_return rfl dX8_spread_42 ?_
          refine ⟨rfl, hq, Kp.refl, fun y h0 h1 => ?_⟩
          have e := hq.2.1.2 (by omega) (by rw [hq.rd (k := 6) (i := 6) (.inr rfl)]; omega) y h0 h1
          rw [e, show σ 3 5 = x by omega, show σ 3 6 = d by omega, show σ 3 7 = t by omega]
          exact DG_hm hq.1 x d t y
theorem k_degreeOf {σ0 σ : gH} (hI : Inv σ0) (hq : QC σ0 σ) (x y d t : Int) (hx : 0 ≤ x ∧ x < σ0 3 2) (hy : 0 ≤ y ∧ y < σ0 3 2) : Mt mX8_degreeOf 2 [gR 3, gI x, gI y, gI d, gI t] σ (fun v σ' => v = gI (DG σ0 x d t y) ∧ QC σ0 σ' ∧ Kp 34 σ σ') := by
  refine Mt.walk (ls := [gR 3, gI x, gI y, gI d, gI t]) pn_X8 rfl (fun _ _ h => by cases h.1) (Nat.le_of_ble_eq_true rfl) rfl ?_
  have hp := hI.f.hp
  refine w_aload_n (pc' := 1) (i := 0) (by rfl) (by rfl) dX8_degreeOf_0 rfl ?_
  refine w_iload_n (pc' := 2) (i := 1) (by rfl) (by rfl) dX8_degreeOf_1 rfl ?_
  refine v_callVE (pc' := 5) (st' := [gI (gb (0 ≤ x ∧ x < (σ0 3 2)))]) (d' := 0) (av := [gI x]) mi_mX8_has lk_X8_40 rfl ci_X8 kd_3 rfl (Nat.le_of_ble_eq_true rfl) (Nat.le_of_ble_eq_true rfl) dX8_degreeOf_2 rfl rfl (hmP (F := fun z => gI (gb (0 ≤ x ∧ x < (z 3 2)))) (hq.1) (fun _ => rfl) (pa_has σ (hm_FA (hq.1) hI.1).1.hp x)) ?_
  refine v_if_eqB (pc' := 8) (t := 16) dX8_degreeOf_5 rfl rfl (fun c_5 => ?_) (fun c_5 => ?_)
  · skip
    refine w_iconst (pc' := 17) (by decide) dX8_degreeOf_16 rfl ?_
    refine v_ireturn rfl dX8_degreeOf_17 ?_
    first | (exfalso; omega) | exact ⟨congrArg gI (hd1 y hy.1 (by omega)), hq1, hk1⟩
  · skip
    refine w_aload_n (pc' := 9) (i := 0) (by rfl) (by rfl) dX8_degreeOf_8 rfl ?_
    refine w_iload_n (pc' := 10) (i := 2) (by rfl) (by rfl) dX8_degreeOf_9 rfl ?_
    refine v_callVE (pc' := 13) (st' := [gI (gb (0 ≤ y ∧ y < (σ0 3 2)))]) (d' := 0) (av := [gI y]) mi_mX8_has lk_X8_40 rfl ci_X8 kd_3 rfl (Nat.le_of_ble_eq_true rfl) (Nat.le_of_ble_eq_true rfl) dX8_degreeOf_10 rfl rfl (hmP (F := fun z => gI (gb (0 ≤ y ∧ y < (z 3 2)))) (hq.1) (fun _ => rfl) (pa_has σ (hm_FA (hq.1) hI.1).1.hp y)) ?_
    refine v_if_neB (pc' := 16) (t := 18) dX8_degreeOf_13 rfl rfl (fun c_13 => ?_) (fun c_13 => ?_)
    · skip
      refine w_aload_n (pc' := 19) (i := 0) (by rfl) (by rfl) dX8_degreeOf_18 rfl ?_
      refine w_iload_n (pc' := 20) (i := 1) (by rfl) (by rfl) dX8_degreeOf_19 rfl ?_
      refine w_iload_n (pc' := 21) (i := 3) (by rfl) (by rfl) dX8_degreeOf_20 rfl ?_
      refine w_iload (pc' := 23) (by rfl) dX8_degreeOf_21 rfl ?_
      refine w_callV (pc' := 26) (d' := 1) (av := [gI x, gI d, gI t]) mi_mX8_spread lk_X8_59 rfl ci_X8 kd_3 rfl (Nat.le_of_ble_eq_true rfl) (Nat.le_of_ble_eq_true rfl) dX8_degreeOf_23 rfl (k_spread hI hq x d t (by omega)) (fun v_23 σ1 q_23 => ?_)
      obtain ⟨rfl, hq1, hk1, hd1⟩ := q_23
      show Wp _ _ _ _ _ _ []
      refine w_aload_n (pc' := 27) (i := 0) (by rfl) (by rfl) dX8_degreeOf_26 rfl ?_
      refine w_getS (pc' := 30) (q := 13) fg_X8_28 kd_3 sf_X8_4 gr_3_4 dX8_degreeOf_27 rfl ?_
      refine w_iload_n (pc' := 31) (i := 2) (by rfl) (by rfl) dX8_degreeOf_30 rfl ?_
      refine w_iald (pc' := 32) kd_13 (by omega) (by omega) dX8_degreeOf_31 rfl ?_
      refine v_ireturn rfl dX8_degreeOf_32 ?_
      first | (exfalso; omega) | exact ⟨congrArg gI (hd1 y hy.1 (by omega)), hq1, hk1⟩
    · skip
      refine w_iconst (pc' := 17) (by decide) dX8_degreeOf_16 rfl ?_
      refine v_ireturn rfl dX8_degreeOf_17 ?_
      first | (exfalso; omega) | exact ⟨congrArg gI (hd1 y hy.1 (by omega)), hq1, hk1⟩
/-- the reference's step: it writes degrees again that stand already -/
theorem dgR_gt {f g : Int → Int} {a b n : Int} (hb : 0 ≤ b ∧ b < 60) (ha : 0 ≤ a ∧ a < 60) (h : ∀ x, 0 ≤ x → x < 60 → f x = g x) (hl : ∀ x, g x ≤ n ∨ g x = 5) (h1 : f a = n - 1) (h2 : n - 1 < f b) : ∀ x, 0 ≤ x → x < 60 → updI f b n x = dgR g a b n x := by
  intro x h0 h3
  unfold dgR
  rw [h a ha.1 ha.2] at h1
  rw [h b hb.1 hb.2] at h2
  by_cases e : g b = 5
  · rw [if_pos ⟨h1, e⟩]
    unfold updI
    split
    · rfl
    · exact h x h0 h3
  · rw [if_neg (fun c => e c.2)]
    unfold updI
    split
    · rename_i e2
      have := hl b
      rw [e2]
      omega
    · exact h x h0 h3
theorem dgR_no {f g : Int → Int} {a b n : Int} (hb : 0 ≤ b ∧ b < 60) (ha : 0 ≤ a ∧ a < 60) (hn : n ≤ 5) (h : ∀ x, 0 ≤ x → x < 60 → f x = g x) (h1 : f a = n - 1 → f b ≤ n - 1) : ∀ x, 0 ≤ x → x < 60 → f x = dgR g a b n x := by
  intro x h0 h3
  unfold dgR
  rw [h a ha.1 ha.2, h b hb.1 hb.2] at h1
  rw [if_neg (fun c => by have := h1 c.1; omega)]
  exact h x h0 h3
set_option maxHeartbeats 2000000 in
theorem q_reach {σ0 σ : gH} (hI : Inv σ0) (hq : QM σ0 σ) (x d t : Int) (hx : 0 ≤ x ∧ x < σ0 3 2) : Mt mX12_reach 1 [gR 133, gI x, gI d, gI t] σ (fun v σ' => v = gX 1 ∧ ∃ f, σ' = gUr σ 172 f ∧ ∀ y, 0 ≤ y → y < 60 → f y = DG σ0 x d t y) := by
  refine Mt.walk (ls := [gR 133, gI x, gI d, gI t, gX 1, gX 1]) pn_X12 rfl (fun _ _ h => by cases h.1) (Nat.le_of_ble_eq_true rfl) rfl ?_
  have hp := hI.f.hp
  have hk1 := hI.f.kin.2.2.1
  refine w_iconst (pc' := 1) (by decide) dX12_reach_0 rfl ?_
  refine w_istore (pc' := 3) (ls' := [gR 133, gI x, gI d, gI t, gI 0, gX 1]) (by decide) (by rfl) dX12_reach_1 rfl ?_
  have hl_3 : ∀ (mm : Nat) (j : Int) (e : Int → Int), (60 - j).toNat = mm → (0 ≤ j) → (j ≤ 60) → (∀ y, 0 ≤ y → y < j → e y = 5) → Wp mX12_reach 1 (fun v σ' => v = gX 1 ∧ ∃ f, σ' = gUr σ 172 f ∧ ∀ y, 0 ≤ y → y < 60 → f y = DG σ0 x d t y) (gUr σ 172 e) 3 [gR 133, gI x, gI d, gI t, gI j, gX 1] [] := by
    intro m_3
    induction m_3 using Nat.strongRecOn with
    | _ m_3 ih_3 =>
      intro j e hmeas_3 hj0 hj1 hf0
      refine w_iload (pc' := 5) (by rfl) dX12_reach_3 rfl ?_
      refine w_bipush (pc' := 7) (by decide) (by decide) dX12_reach_5 rfl ?_
      refine w_icmp_ge (pc' := 10) (t := 24) dX12_reach_7 rfl rfl (fun c_7 => ?_) (fun c_7 => ?_)
      · skip
        refine w_aload_n (pc' := 25) (i := 0) (by rfl) (by rfl) dX12_reach_24 rfl ?_
        refine w_getS (pc' := 28) (q := 172) fg_X12_136 kd_133 sf_X12_53 gr_133_53 dX12_reach_25 rfl ?_
        refine w_iload_n (pc' := 29) (i := 1) (by rfl) (by rfl) dX12_reach_28 rfl ?_
        refine w_iconst (pc' := 30) (by decide) dX12_reach_29 rfl ?_
        refine w_iast (pc' := 31) kd_172 (by omega) (by omega) dX12_reach_30 rfl ?_
        refine Wp.heq (σ' := gUr σ 172 (updI e x 0)) gUp_row ?_
        refine w_iconst (pc' := 32) (by decide) dX12_reach_31 rfl ?_
        refine w_istore (pc' := 34) (ls' := [gR 133, gI x, gI d, gI t, gI 0, gX 1]) (by decide) (by rfl) dX12_reach_32 rfl ?_
        have hl_34 : ∀ (mm : Nat) (n : Int) (f : Int → Int), (4 - n).toNat = mm → (0 ≤ n) → (n ≤ 4) → (∀ y, 0 ≤ y → y < 60 → f y = dgN (σ0 6 6) (σ0 7) (σ0 8) (σ0 12) (σ0 10) (σ0 11) x d t (n).toNat y) → Wp mX12_reach 1 (fun v σ' => v = gX 1 ∧ ∃ f, σ' = gUr σ 172 f ∧ ∀ y, 0 ≤ y → y < 60 → f y = DG σ0 x d t y) (gUr σ 172 f) 34 [gR 133, gI x, gI d, gI t, gI n, gX 1] [] := by
          intro m_34
          induction m_34 using Nat.strongRecOn with
          | _ m_34 ih_34 =>
            intro n f hmeas_34 hn0 hn1 hf
            have hk0 := hI.f.kin.2.1
            refine w_iload (pc' := 36) (by rfl) dX12_reach_34 rfl ?_
            refine w_iconst (pc' := 37) (by decide) dX12_reach_36 rfl ?_
            refine w_icmp_ge (pc' := 40) (t := 199) dX12_reach_37 rfl rfl (fun c_37 => ?_) (fun c_37 => ?_)
            · skip
              refine w_return rfl dX12_reach_199 ?_
              refine ⟨rfl, f, rfl, fun y h0 h1 => ?_⟩
              rw [hf y h0 h1, show n = 4 by omega]
              rfl
            · skip
              refine w_iconst (pc' := 41) (by decide) dX12_reach_40 rfl ?_
              refine w_istore (pc' := 43) (ls' := [gR 133, gI x, gI d, gI t, gI n, gI 0]) (by decide) (by rfl) dX12_reach_41 rfl ?_
              have hl_43 : ∀ (mm : Nat) (i : Int) (g : Int → Int), (σ0 6 6 - i).toNat = mm → (0 ≤ i) → (i ≤ σ0 6 6) → (∀ y, 0 ≤ y → y < 60 → g y = dgI (σ0 7) (σ0 8) (σ0 12) (σ0 10) (σ0 11) d t (n + 1) (dgN (σ0 6 6) (σ0 7) (σ0 8) (σ0 12) (σ0 10) (σ0 11) x d t (n).toNat) i.toNat y) → Wp mX12_reach 1 (fun v σ' => v = gX 1 ∧ ∃ f, σ' = gUr σ 172 f ∧ ∀ y, 0 ≤ y → y < 60 → f y = DG σ0 x d t y) (gUr σ 172 g) 43 [gR 133, gI x, gI d, gI t, gI n, gI i] [] := by
                intro m_43
                induction m_43 using Nat.strongRecOn with
                | _ m_43 ih_43 =>
                  intro i g hmeas_43 hi0 hi1 hg
                  have hk1 := hI.f.kin.2.2.1
                  have hb : i < σ0 6 6 → (0 ≤ σ0 7 i ∧ σ0 7 i < 60) ∧ (0 ≤ σ0 8 i ∧ σ0 8 i < 60) := fun h => by
                    have k := (hI.f.kin.2.2.2 i hi0 h).2.2.2.2.2
                    have p := hI.f.hp
                    unfold isPe isP at k
                    omega
                  have hk5 := hI.f.kin.2.2.2
                  have hsp : i < σ0 6 6 → (σ0 11 i = -1 ∨ isDy (σ0 11 i)) := fun h => ((hk5 i hi0 h).2.2.2.2.2.2.2.2.1.2).imp id (fun q => q.1)
                  have hl : ∀ z, dgI (σ0 7) (σ0 8) (σ0 12) (σ0 10) (σ0 11) d t (n + 1) (dgN (σ0 6 6) (σ0 7) (σ0 8) (σ0 12) (σ0 10) (σ0 11) x d t (n).toNat) i.toNat z ≤ n + 1 ∨ dgI (σ0 7) (σ0 8) (σ0 12) (σ0 10) (σ0 11) d t (n + 1) (dgN (σ0 6 6) (σ0 7) (σ0 8) (σ0 12) (σ0 10) (σ0 11) x d t (n).toNat) i.toNat z = 5 := fun z => dgI_le (fun w => (dgN_le (m := σ0 6 6) (a := σ0 7) (b := σ0 8) (kn := σ0 12) (fr := σ0 10) (un := σ0 11) (x := x) (d := d) (t := t) n.toNat w).imp (fun h => by omega) id) _ z
                  refine w_iload (pc' := 45) (by rfl) dX12_reach_43 rfl ?_
                  refine w_aload_n (pc' := 46) (i := 0) (by rfl) (by rfl) dX12_reach_45 rfl ?_
                  refine v_getI (pc' := 49) (ji := 25) rfl fg_X12_302 kd_133 dX12_reach_46 rfl ?_
                  show Wp _ _ _ _ _ _ [gI (σ 133 25), gI i]
                  rw [(hq).rd (k := 133) (i := 25) (.inr rfl)]
                  rw [hI.f25]
                  refine w_icmp_ge (pc' := 52) (t := 193) dX12_reach_49 rfl rfl (fun c_49 => ?_) (fun c_49 => ?_)
                  · skip
                    refine v_iinc (pc' := 196) (x := n) (ls' := [gR 133, gI x, gI d, gI t, gI (n + 1), gI i]) (by omega) (by decide) (by rfl) (by rfl) dX12_reach_193 rfl ?_
                    refine w_goto (pc' := 34) dX12_reach_196 rfl ?_
                    refine Wp.lose (ls' := [gR 133, gI x, gI d, gI t, gI (n + 1), gX 1]) ⟨.inr rfl, ⟨.inr rfl, ⟨.inr rfl, ⟨.inr rfl, ⟨.inr rfl, ⟨.inl rfl, trivial⟩⟩⟩⟩⟩⟩ ?_
                    exact ih_34 _ (by omega) (n + 1) g rfl (by omega) (by omega) (by intro y h0 h1; rw [hg y h0 h1, show i = σ0 6 6 by omega, dgN_s (n := n + 1) (by omega), show n + 1 - 1 = n by omega])
                  · skip
                    refine w_aload_n (pc' := 53) (i := 0) (by rfl) (by rfl) dX12_reach_52 rfl ?_
                    refine w_getS (pc' := 56) (q := 147) fg_X12_54 kd_133 sf_X12_19 gr_133_19 dX12_reach_53 rfl ?_
                    refine w_iload (pc' := 58) (by rfl) dX12_reach_56 rfl ?_
                    refine w_iald (pc' := 59) kd_147 (by omega) (by omega) dX12_reach_58 rfl ?_
                    show Wp _ _ _ _ _ _ [gI (σ 147 i)]
                    rw [(hq).rd (k := 147) (i := i) (.inr rfl)]
                    rw [hI.e147 (i := i) (by omega) (by omega)]
                    refine w_iload_n (pc' := 60) (i := 3) (by rfl) (by rfl) dX12_reach_59 rfl ?_
                    refine w_icmp_gt (pc' := 63) (t := 187) dX12_reach_60 rfl rfl (fun c_60 => ?_) (fun c_60 => ?_)
                    · skip
                      refine v_iinc (pc' := 190) (x := i) (ls' := [gR 133, gI x, gI d, gI t, gI n, gI (i + 1)]) (by omega) (by decide) (by rfl) (by rfl) dX12_reach_187 rfl ?_
                      refine w_goto (pc' := 43) dX12_reach_190 rfl ?_
                      exact ih_43 _ (by omega) (i + 1) g rfl (by omega) (by omega) (by intro y h0 h1; first | (rw [dgI_f (by omega) (by unfold liv; omega)]; exact hg y h0 h1) | (rw [dgI_t (by omega) ⟨by omega, by omega, by omega⟩]; have nn : n + 1 ≤ 5 := (by omega); have e1 : n + 1 - 1 = n := (by omega); have b1 := (hb (by omega)).1; have b2 := (hb (by omega)).2; have l2 := dgR_le (a := σ0 7 i) (b := σ0 8 i) hl; first | exact dgR_gt b1 b2 (dgR_gt b2 b1 hg hl (by omega) (by omega)) l2 (by omega) (by omega) y h0 h1 | exact dgR_gt b1 b2 (dgR_no b2 b1 nn hg (by omega)) l2 (by omega) (by omega) y h0 h1 | exact dgR_no b1 b2 nn (dgR_gt b2 b1 hg hl (by omega) (by omega)) (by omega) y h0 h1 | exact dgR_no b1 b2 nn (dgR_no b2 b1 nn hg (by omega)) (by omega) y h0 h1))
                    · skip
                      refine w_aload_n (pc' := 64) (i := 0) (by rfl) (by rfl) dX12_reach_63 rfl ?_
                      refine w_getS (pc' := 67) (q := 145) fg_X12_48 kd_133 sf_X12_17 gr_133_17 dX12_reach_64 rfl ?_
                      refine w_iload (pc' := 69) (by rfl) dX12_reach_67 rfl ?_
                      refine w_iald (pc' := 70) kd_145 (by omega) (by omega) dX12_reach_69 rfl ?_
                      show Wp _ _ _ _ _ _ [gI (σ 145 i)]
                      rw [(hq).rd (k := 145) (i := i) (.inr rfl)]
                      rw [hI.e145 (i := i) (by omega) (by omega)]
                      refine w_aload_n (pc' := 71) (i := 0) (by rfl) (by rfl) dX12_reach_70 rfl ?_
                      refine w_getS (pc' := 74) (q := 146) fg_X12_51 kd_133 sf_X12_18 gr_133_18 dX12_reach_71 rfl ?_
                      refine w_iload (pc' := 76) (by rfl) dX12_reach_74 rfl ?_
                      refine w_iald (pc' := 77) kd_146 (by omega) (by omega) dX12_reach_76 rfl ?_
                      show Wp _ _ _ _ _ _ [gI (σ 146 i), gI (σ0 10 i)]
                      rw [(hq).rd (k := 146) (i := i) (.inr rfl)]
                      rw [hI.e146 (i := i) (by omega) (by omega)]
                      refine w_iload_n (pc' := 78) (i := 2) (by rfl) (by rfl) dX12_reach_77 rfl ?_
                      refine v_callSE (pc' := 81) (st' := [gI (gb (σ0 10 i ≤ d ∧ (σ0 11 i = -1 ∨ d < σ0 11 i)))]) (d' := 0) (av := [gI (σ0 10 i), gI (ev (σ0 11 i)), gI d]) ms_mX12_isOn st_mX12_isOn lk_X12_286 rfl rfl (Nat.le_of_ble_eq_true rfl) (Nat.le_of_ble_eq_true rfl) dX12_reach_78 rfl rfl (mo_isOnE (gUr σ 172 g) (σ0 10 i) (σ0 11 i) d (by exact hsp (by omega))) ?_
                      refine v_if_neB (pc' := 84) (t := 87) dX12_reach_81 rfl rfl (fun c_81 => ?_) (fun c_81 => ?_)
                      · skip
                        refine w_aload_n (pc' := 88) (i := 0) (by rfl) (by rfl) dX12_reach_87 rfl ?_
                        refine w_getS (pc' := 91) (q := 172) fg_X12_136 kd_133 sf_X12_53 gr_133_53 dX12_reach_88 rfl ?_
                        refine w_aload_n (pc' := 92) (i := 0) (by rfl) (by rfl) dX12_reach_91 rfl ?_
                        refine w_getS (pc' := 95) (q := 143) fg_X12_42 kd_133 sf_X12_15 gr_133_15 dX12_reach_92 rfl ?_
                        refine w_iload (pc' := 97) (by rfl) dX12_reach_95 rfl ?_
                        refine w_iald (pc' := 98) kd_143 (by omega) (by omega) dX12_reach_97 rfl ?_
                        show Wp _ _ _ _ _ _ [gI (σ 143 i), gR 172]
                        rw [(hq).rd (k := 143) (i := i) (.inr rfl)]
                        rw [hI.e143 (i := i) (by omega) (by omega)]
                        refine w_iald (pc' := 99) kd_172 (by omega) (by omega) dX12_reach_98 rfl ?_
                        show Wp _ _ _ _ _ _ [gI (g (σ0 7 i))]
                        refine w_iload (pc' := 101) (by rfl) dX12_reach_99 rfl ?_
                        refine w_icmp_ne (pc' := 104) (t := 137) dX12_reach_101 rfl rfl (fun c_101 => ?_) (fun c_101 => ?_)
                        · skip
                          refine w_aload_n (pc' := 138) (i := 0) (by rfl) (by rfl) dX12_reach_137 rfl ?_
                          refine w_getS (pc' := 141) (q := 172) fg_X12_136 kd_133 sf_X12_53 gr_133_53 dX12_reach_138 rfl ?_
                          refine w_aload_n (pc' := 142) (i := 0) (by rfl) (by rfl) dX12_reach_141 rfl ?_
                          refine w_getS (pc' := 145) (q := 144) fg_X12_45 kd_133 sf_X12_16 gr_133_16 dX12_reach_142 rfl ?_
                          refine w_iload (pc' := 147) (by rfl) dX12_reach_145 rfl ?_
                          refine w_iald (pc' := 148) kd_144 (by omega) (by omega) dX12_reach_147 rfl ?_
                          show Wp _ _ _ _ _ _ [gI (σ 144 i), gR 172]
                          rw [(hq).rd (k := 144) (i := i) (.inr rfl)]
                          rw [hI.e144 (i := i) (by omega) (by omega)]
                          refine w_iald (pc' := 149) kd_172 (by omega) (by omega) dX12_reach_148 rfl ?_
                          show Wp _ _ _ _ _ _ [gI (g (σ0 8 i))]
                          refine w_iload (pc' := 151) (by rfl) dX12_reach_149 rfl ?_
                          refine w_icmp_ne (pc' := 154) (t := 187) dX12_reach_151 rfl rfl (fun c_151 => ?_) (fun c_151 => ?_)
                          · skip
                            refine v_iinc (pc' := 190) (x := i) (ls' := [gR 133, gI x, gI d, gI t, gI n, gI (i + 1)]) (by omega) (by decide) (by rfl) (by rfl) dX12_reach_187 rfl ?_
                            refine w_goto (pc' := 43) dX12_reach_190 rfl ?_
                            exact ih_43 _ (by omega) (i + 1) g rfl (by omega) (by omega) (by intro y h0 h1; first | (rw [dgI_f (by omega) (by unfold liv; omega)]; exact hg y h0 h1) | (rw [dgI_t (by omega) ⟨by omega, by omega, by omega⟩]; have nn : n + 1 ≤ 5 := (by omega); have e1 : n + 1 - 1 = n := (by omega); have b1 := (hb (by omega)).1; have b2 := (hb (by omega)).2; have l2 := dgR_le (a := σ0 7 i) (b := σ0 8 i) hl; first | exact dgR_gt b1 b2 (dgR_gt b2 b1 hg hl (by omega) (by omega)) l2 (by omega) (by omega) y h0 h1 | exact dgR_gt b1 b2 (dgR_no b2 b1 nn hg (by omega)) l2 (by omega) (by omega) y h0 h1 | exact dgR_no b1 b2 nn (dgR_gt b2 b1 hg hl (by omega) (by omega)) (by omega) y h0 h1 | exact dgR_no b1 b2 nn (dgR_no b2 b1 nn hg (by omega)) (by omega) y h0 h1))
                          · skip
                            refine w_aload_n (pc' := 155) (i := 0) (by rfl) (by rfl) dX12_reach_154 rfl ?_
                            refine w_getS (pc' := 158) (q := 172) fg_X12_136 kd_133 sf_X12_53 gr_133_53 dX12_reach_155 rfl ?_
                            refine w_aload_n (pc' := 159) (i := 0) (by rfl) (by rfl) dX12_reach_158 rfl ?_
                            refine w_getS (pc' := 162) (q := 143) fg_X12_42 kd_133 sf_X12_15 gr_133_15 dX12_reach_159 rfl ?_
                            refine w_iload (pc' := 164) (by rfl) dX12_reach_162 rfl ?_
                            refine w_iald (pc' := 165) kd_143 (by omega) (by omega) dX12_reach_164 rfl ?_
                            show Wp _ _ _ _ _ _ [gI (σ 143 i), gR 172]
                            rw [(hq).rd (k := 143) (i := i) (.inr rfl)]
                            rw [hI.e143 (i := i) (by omega) (by omega)]
                            refine w_iald (pc' := 166) kd_172 (by omega) (by omega) dX12_reach_165 rfl ?_
                            show Wp _ _ _ _ _ _ [gI (g (σ0 7 i))]
                            refine w_iload (pc' := 168) (by rfl) dX12_reach_166 rfl ?_
                            refine w_icmp_le (pc' := 171) (t := 187) dX12_reach_168 rfl rfl (fun c_168 => ?_) (fun c_168 => ?_)
                            · skip
                              refine v_iinc (pc' := 190) (x := i) (ls' := [gR 133, gI x, gI d, gI t, gI n, gI (i + 1)]) (by omega) (by decide) (by rfl) (by rfl) dX12_reach_187 rfl ?_
                              refine w_goto (pc' := 43) dX12_reach_190 rfl ?_
                              exact ih_43 _ (by omega) (i + 1) g rfl (by omega) (by omega) (by intro y h0 h1; first | (rw [dgI_f (by omega) (by unfold liv; omega)]; exact hg y h0 h1) | (rw [dgI_t (by omega) ⟨by omega, by omega, by omega⟩]; have nn : n + 1 ≤ 5 := (by omega); have e1 : n + 1 - 1 = n := (by omega); have b1 := (hb (by omega)).1; have b2 := (hb (by omega)).2; have l2 := dgR_le (a := σ0 7 i) (b := σ0 8 i) hl; first | exact dgR_gt b1 b2 (dgR_gt b2 b1 hg hl (by omega) (by omega)) l2 (by omega) (by omega) y h0 h1 | exact dgR_gt b1 b2 (dgR_no b2 b1 nn hg (by omega)) l2 (by omega) (by omega) y h0 h1 | exact dgR_no b1 b2 nn (dgR_gt b2 b1 hg hl (by omega) (by omega)) (by omega) y h0 h1 | exact dgR_no b1 b2 nn (dgR_no b2 b1 nn hg (by omega)) (by omega) y h0 h1))
                            · skip
                              refine w_aload_n (pc' := 172) (i := 0) (by rfl) (by rfl) dX12_reach_171 rfl ?_
                              refine w_getS (pc' := 175) (q := 172) fg_X12_136 kd_133 sf_X12_53 gr_133_53 dX12_reach_172 rfl ?_
                              refine w_aload_n (pc' := 176) (i := 0) (by rfl) (by rfl) dX12_reach_175 rfl ?_
                              refine w_getS (pc' := 179) (q := 143) fg_X12_42 kd_133 sf_X12_15 gr_133_15 dX12_reach_176 rfl ?_
                              refine w_iload (pc' := 181) (by rfl) dX12_reach_179 rfl ?_
                              refine w_iald (pc' := 182) kd_143 (by omega) (by omega) dX12_reach_181 rfl ?_
                              show Wp _ _ _ _ _ _ [gI (σ 143 i), gR 172]
                              rw [(hq).rd (k := 143) (i := i) (.inr rfl)]
                              rw [hI.e143 (i := i) (by omega) (by omega)]
                              refine w_iload (pc' := 184) (by rfl) dX12_reach_182 rfl ?_
                              refine w_iconst (pc' := 185) (by decide) dX12_reach_184 rfl ?_
                              refine v_iadd (pc' := 186) (by omega) dX12_reach_185 rfl ?_
                              refine w_iast (pc' := 187) kd_172 (by omega) (by omega) dX12_reach_186 rfl ?_
                              refine Wp.heq (σ' := gUr σ 172 (updI g (σ0 7 i) (n + 1))) gUp_row ?_
                              refine v_iinc (pc' := 190) (x := i) (ls' := [gR 133, gI x, gI d, gI t, gI n, gI (i + 1)]) (by omega) (by decide) (by rfl) (by rfl) dX12_reach_187 rfl ?_
                              refine w_goto (pc' := 43) dX12_reach_190 rfl ?_
                              exact ih_43 _ (by omega) (i + 1) (updI g (σ0 7 i) (n + 1)) rfl (by omega) (by omega) (by intro y h0 h1; first | (rw [dgI_f (by omega) (by unfold liv; omega)]; exact hg y h0 h1) | (rw [dgI_t (by omega) ⟨by omega, by omega, by omega⟩]; have nn : n + 1 ≤ 5 := (by omega); have e1 : n + 1 - 1 = n := (by omega); have b1 := (hb (by omega)).1; have b2 := (hb (by omega)).2; have l2 := dgR_le (a := σ0 7 i) (b := σ0 8 i) hl; first | exact dgR_gt b1 b2 (dgR_gt b2 b1 hg hl (by omega) (by omega)) l2 (by omega) (by omega) y h0 h1 | exact dgR_gt b1 b2 (dgR_no b2 b1 nn hg (by omega)) l2 (by omega) (by omega) y h0 h1 | exact dgR_no b1 b2 nn (dgR_gt b2 b1 hg hl (by omega) (by omega)) (by omega) y h0 h1 | exact dgR_no b1 b2 nn (dgR_no b2 b1 nn hg (by omega)) (by omega) y h0 h1))
                        · skip
                          refine w_aload_n (pc' := 105) (i := 0) (by rfl) (by rfl) dX12_reach_104 rfl ?_
                          refine w_getS (pc' := 108) (q := 172) fg_X12_136 kd_133 sf_X12_53 gr_133_53 dX12_reach_105 rfl ?_
                          refine w_aload_n (pc' := 109) (i := 0) (by rfl) (by rfl) dX12_reach_108 rfl ?_
                          refine w_getS (pc' := 112) (q := 144) fg_X12_45 kd_133 sf_X12_16 gr_133_16 dX12_reach_109 rfl ?_
                          refine w_iload (pc' := 114) (by rfl) dX12_reach_112 rfl ?_
                          refine w_iald (pc' := 115) kd_144 (by omega) (by omega) dX12_reach_114 rfl ?_
                          show Wp _ _ _ _ _ _ [gI (σ 144 i), gR 172]
                          rw [(hq).rd (k := 144) (i := i) (.inr rfl)]
                          rw [hI.e144 (i := i) (by omega) (by omega)]
                          refine w_iald (pc' := 116) kd_172 (by omega) (by omega) dX12_reach_115 rfl ?_
                          show Wp _ _ _ _ _ _ [gI (g (σ0 8 i))]
                          refine w_iload (pc' := 118) (by rfl) dX12_reach_116 rfl ?_
                          refine w_icmp_le (pc' := 121) (t := 137) dX12_reach_118 rfl rfl (fun c_118 => ?_) (fun c_118 => ?_)
                          · skip
                            refine w_aload_n (pc' := 138) (i := 0) (by rfl) (by rfl) dX12_reach_137 rfl ?_
                            refine w_getS (pc' := 141) (q := 172) fg_X12_136 kd_133 sf_X12_53 gr_133_53 dX12_reach_138 rfl ?_
                            refine w_aload_n (pc' := 142) (i := 0) (by rfl) (by rfl) dX12_reach_141 rfl ?_
                            refine w_getS (pc' := 145) (q := 144) fg_X12_45 kd_133 sf_X12_16 gr_133_16 dX12_reach_142 rfl ?_
                            refine w_iload (pc' := 147) (by rfl) dX12_reach_145 rfl ?_
                            refine w_iald (pc' := 148) kd_144 (by omega) (by omega) dX12_reach_147 rfl ?_
                            show Wp _ _ _ _ _ _ [gI (σ 144 i), gR 172]
                            rw [(hq).rd (k := 144) (i := i) (.inr rfl)]
                            rw [hI.e144 (i := i) (by omega) (by omega)]
                            refine w_iald (pc' := 149) kd_172 (by omega) (by omega) dX12_reach_148 rfl ?_
                            show Wp _ _ _ _ _ _ [gI (g (σ0 8 i))]
                            refine w_iload (pc' := 151) (by rfl) dX12_reach_149 rfl ?_
                            refine w_icmp_ne (pc' := 154) (t := 187) dX12_reach_151 rfl rfl (fun c_151 => ?_) (fun c_151 => ?_)
                            · skip
                              refine v_iinc (pc' := 190) (x := i) (ls' := [gR 133, gI x, gI d, gI t, gI n, gI (i + 1)]) (by omega) (by decide) (by rfl) (by rfl) dX12_reach_187 rfl ?_
                              refine w_goto (pc' := 43) dX12_reach_190 rfl ?_
                              exact ih_43 _ (by omega) (i + 1) g rfl (by omega) (by omega) (by intro y h0 h1; first | (rw [dgI_f (by omega) (by unfold liv; omega)]; exact hg y h0 h1) | (rw [dgI_t (by omega) ⟨by omega, by omega, by omega⟩]; have nn : n + 1 ≤ 5 := (by omega); have e1 : n + 1 - 1 = n := (by omega); have b1 := (hb (by omega)).1; have b2 := (hb (by omega)).2; have l2 := dgR_le (a := σ0 7 i) (b := σ0 8 i) hl; first | exact dgR_gt b1 b2 (dgR_gt b2 b1 hg hl (by omega) (by omega)) l2 (by omega) (by omega) y h0 h1 | exact dgR_gt b1 b2 (dgR_no b2 b1 nn hg (by omega)) l2 (by omega) (by omega) y h0 h1 | exact dgR_no b1 b2 nn (dgR_gt b2 b1 hg hl (by omega) (by omega)) (by omega) y h0 h1 | exact dgR_no b1 b2 nn (dgR_no b2 b1 nn hg (by omega)) (by omega) y h0 h1))
                            · skip
                              refine w_aload_n (pc' := 155) (i := 0) (by rfl) (by rfl) dX12_reach_154 rfl ?_
                              refine w_getS (pc' := 158) (q := 172) fg_X12_136 kd_133 sf_X12_53 gr_133_53 dX12_reach_155 rfl ?_
                              refine w_aload_n (pc' := 159) (i := 0) (by rfl) (by rfl) dX12_reach_158 rfl ?_
                              refine w_getS (pc' := 162) (q := 143) fg_X12_42 kd_133 sf_X12_15 gr_133_15 dX12_reach_159 rfl ?_
                              refine w_iload (pc' := 164) (by rfl) dX12_reach_162 rfl ?_
                              refine w_iald (pc' := 165) kd_143 (by omega) (by omega) dX12_reach_164 rfl ?_
                              show Wp _ _ _ _ _ _ [gI (σ 143 i), gR 172]
                              rw [(hq).rd (k := 143) (i := i) (.inr rfl)]
                              rw [hI.e143 (i := i) (by omega) (by omega)]
                              refine w_iald (pc' := 166) kd_172 (by omega) (by omega) dX12_reach_165 rfl ?_
                              show Wp _ _ _ _ _ _ [gI (g (σ0 7 i))]
                              refine w_iload (pc' := 168) (by rfl) dX12_reach_166 rfl ?_
                              refine w_icmp_le (pc' := 171) (t := 187) dX12_reach_168 rfl rfl (fun c_168 => ?_) (fun c_168 => ?_)
                              · skip
                                refine v_iinc (pc' := 190) (x := i) (ls' := [gR 133, gI x, gI d, gI t, gI n, gI (i + 1)]) (by omega) (by decide) (by rfl) (by rfl) dX12_reach_187 rfl ?_
                                refine w_goto (pc' := 43) dX12_reach_190 rfl ?_
                                exact ih_43 _ (by omega) (i + 1) g rfl (by omega) (by omega) (by intro y h0 h1; first | (rw [dgI_f (by omega) (by unfold liv; omega)]; exact hg y h0 h1) | (rw [dgI_t (by omega) ⟨by omega, by omega, by omega⟩]; have nn : n + 1 ≤ 5 := (by omega); have e1 : n + 1 - 1 = n := (by omega); have b1 := (hb (by omega)).1; have b2 := (hb (by omega)).2; have l2 := dgR_le (a := σ0 7 i) (b := σ0 8 i) hl; first | exact dgR_gt b1 b2 (dgR_gt b2 b1 hg hl (by omega) (by omega)) l2 (by omega) (by omega) y h0 h1 | exact dgR_gt b1 b2 (dgR_no b2 b1 nn hg (by omega)) l2 (by omega) (by omega) y h0 h1 | exact dgR_no b1 b2 nn (dgR_gt b2 b1 hg hl (by omega) (by omega)) (by omega) y h0 h1 | exact dgR_no b1 b2 nn (dgR_no b2 b1 nn hg (by omega)) (by omega) y h0 h1))
                              · skip
                                refine w_aload_n (pc' := 172) (i := 0) (by rfl) (by rfl) dX12_reach_171 rfl ?_
                                refine w_getS (pc' := 175) (q := 172) fg_X12_136 kd_133 sf_X12_53 gr_133_53 dX12_reach_172 rfl ?_
                                refine w_aload_n (pc' := 176) (i := 0) (by rfl) (by rfl) dX12_reach_175 rfl ?_
                                refine w_getS (pc' := 179) (q := 143) fg_X12_42 kd_133 sf_X12_15 gr_133_15 dX12_reach_176 rfl ?_
                                refine w_iload (pc' := 181) (by rfl) dX12_reach_179 rfl ?_
                                refine w_iald (pc' := 182) kd_143 (by omega) (by omega) dX12_reach_181 rfl ?_
                                show Wp _ _ _ _ _ _ [gI (σ 143 i), gR 172]
                                rw [(hq).rd (k := 143) (i := i) (.inr rfl)]
                                rw [hI.e143 (i := i) (by omega) (by omega)]
                                refine w_iload (pc' := 184) (by rfl) dX12_reach_182 rfl ?_
                                refine w_iconst (pc' := 185) (by decide) dX12_reach_184 rfl ?_
                                refine v_iadd (pc' := 186) (by omega) dX12_reach_185 rfl ?_
                                refine w_iast (pc' := 187) kd_172 (by omega) (by omega) dX12_reach_186 rfl ?_
                                refine Wp.heq (σ' := gUr σ 172 (updI g (σ0 7 i) (n + 1))) gUp_row ?_
                                refine v_iinc (pc' := 190) (x := i) (ls' := [gR 133, gI x, gI d, gI t, gI n, gI (i + 1)]) (by omega) (by decide) (by rfl) (by rfl) dX12_reach_187 rfl ?_
                                refine w_goto (pc' := 43) dX12_reach_190 rfl ?_
                                exact ih_43 _ (by omega) (i + 1) (updI g (σ0 7 i) (n + 1)) rfl (by omega) (by omega) (by intro y h0 h1; first | (rw [dgI_f (by omega) (by unfold liv; omega)]; exact hg y h0 h1) | (rw [dgI_t (by omega) ⟨by omega, by omega, by omega⟩]; have nn : n + 1 ≤ 5 := (by omega); have e1 : n + 1 - 1 = n := (by omega); have b1 := (hb (by omega)).1; have b2 := (hb (by omega)).2; have l2 := dgR_le (a := σ0 7 i) (b := σ0 8 i) hl; first | exact dgR_gt b1 b2 (dgR_gt b2 b1 hg hl (by omega) (by omega)) l2 (by omega) (by omega) y h0 h1 | exact dgR_gt b1 b2 (dgR_no b2 b1 nn hg (by omega)) l2 (by omega) (by omega) y h0 h1 | exact dgR_no b1 b2 nn (dgR_gt b2 b1 hg hl (by omega) (by omega)) (by omega) y h0 h1 | exact dgR_no b1 b2 nn (dgR_no b2 b1 nn hg (by omega)) (by omega) y h0 h1))
                          · skip
                            refine w_aload_n (pc' := 122) (i := 0) (by rfl) (by rfl) dX12_reach_121 rfl ?_
                            refine w_getS (pc' := 125) (q := 172) fg_X12_136 kd_133 sf_X12_53 gr_133_53 dX12_reach_122 rfl ?_
                            refine w_aload_n (pc' := 126) (i := 0) (by rfl) (by rfl) dX12_reach_125 rfl ?_
                            refine w_getS (pc' := 129) (q := 144) fg_X12_45 kd_133 sf_X12_16 gr_133_16 dX12_reach_126 rfl ?_
                            refine w_iload (pc' := 131) (by rfl) dX12_reach_129 rfl ?_
                            refine w_iald (pc' := 132) kd_144 (by omega) (by omega) dX12_reach_131 rfl ?_
                            show Wp _ _ _ _ _ _ [gI (σ 144 i), gR 172]
                            rw [(hq).rd (k := 144) (i := i) (.inr rfl)]
                            rw [hI.e144 (i := i) (by omega) (by omega)]
                            refine w_iload (pc' := 134) (by rfl) dX12_reach_132 rfl ?_
                            refine w_iconst (pc' := 135) (by decide) dX12_reach_134 rfl ?_
                            refine v_iadd (pc' := 136) (by omega) dX12_reach_135 rfl ?_
                            refine w_iast (pc' := 137) kd_172 (by omega) (by omega) dX12_reach_136 rfl ?_
                            refine Wp.heq (σ' := gUr σ 172 (updI g (σ0 8 i) (n + 1))) gUp_row ?_
                            refine w_aload_n (pc' := 138) (i := 0) (by rfl) (by rfl) dX12_reach_137 rfl ?_
                            refine w_getS (pc' := 141) (q := 172) fg_X12_136 kd_133 sf_X12_53 gr_133_53 dX12_reach_138 rfl ?_
                            refine w_aload_n (pc' := 142) (i := 0) (by rfl) (by rfl) dX12_reach_141 rfl ?_
                            refine w_getS (pc' := 145) (q := 144) fg_X12_45 kd_133 sf_X12_16 gr_133_16 dX12_reach_142 rfl ?_
                            refine w_iload (pc' := 147) (by rfl) dX12_reach_145 rfl ?_
                            refine w_iald (pc' := 148) kd_144 (by omega) (by omega) dX12_reach_147 rfl ?_
                            show Wp _ _ _ _ _ _ [gI (σ 144 i), gR 172]
                            rw [(hq).rd (k := 144) (i := i) (.inr rfl)]
                            rw [hI.e144 (i := i) (by omega) (by omega)]
                            refine w_iald (pc' := 149) kd_172 (by omega) (by omega) dX12_reach_148 rfl ?_
                            show Wp _ _ _ _ _ _ [gI ((updI g (σ0 8 i) (n + 1)) (σ0 8 i))]
                            refine w_iload (pc' := 151) (by rfl) dX12_reach_149 rfl ?_
                            refine w_icmp_ne (pc' := 154) (t := 187) dX12_reach_151 rfl rfl (fun c_151 => ?_) (fun c_151 => ?_)
                            · skip
                              refine v_iinc (pc' := 190) (x := i) (ls' := [gR 133, gI x, gI d, gI t, gI n, gI (i + 1)]) (by omega) (by decide) (by rfl) (by rfl) dX12_reach_187 rfl ?_
                              refine w_goto (pc' := 43) dX12_reach_190 rfl ?_
                              exact ih_43 _ (by omega) (i + 1) (updI g (σ0 8 i) (n + 1)) rfl (by omega) (by omega) (by intro y h0 h1; first | (rw [dgI_f (by omega) (by unfold liv; omega)]; exact hg y h0 h1) | (rw [dgI_t (by omega) ⟨by omega, by omega, by omega⟩]; have nn : n + 1 ≤ 5 := (by omega); have e1 : n + 1 - 1 = n := (by omega); have b1 := (hb (by omega)).1; have b2 := (hb (by omega)).2; have l2 := dgR_le (a := σ0 7 i) (b := σ0 8 i) hl; first | exact dgR_gt b1 b2 (dgR_gt b2 b1 hg hl (by omega) (by omega)) l2 (by omega) (by omega) y h0 h1 | exact dgR_gt b1 b2 (dgR_no b2 b1 nn hg (by omega)) l2 (by omega) (by omega) y h0 h1 | exact dgR_no b1 b2 nn (dgR_gt b2 b1 hg hl (by omega) (by omega)) (by omega) y h0 h1 | exact dgR_no b1 b2 nn (dgR_no b2 b1 nn hg (by omega)) (by omega) y h0 h1))
                            · skip
                              refine w_aload_n (pc' := 155) (i := 0) (by rfl) (by rfl) dX12_reach_154 rfl ?_
                              refine w_getS (pc' := 158) (q := 172) fg_X12_136 kd_133 sf_X12_53 gr_133_53 dX12_reach_155 rfl ?_
                              refine w_aload_n (pc' := 159) (i := 0) (by rfl) (by rfl) dX12_reach_158 rfl ?_
                              refine w_getS (pc' := 162) (q := 143) fg_X12_42 kd_133 sf_X12_15 gr_133_15 dX12_reach_159 rfl ?_
                              refine w_iload (pc' := 164) (by rfl) dX12_reach_162 rfl ?_
                              refine w_iald (pc' := 165) kd_143 (by omega) (by omega) dX12_reach_164 rfl ?_
                              show Wp _ _ _ _ _ _ [gI (σ 143 i), gR 172]
                              rw [(hq).rd (k := 143) (i := i) (.inr rfl)]
                              rw [hI.e143 (i := i) (by omega) (by omega)]
                              refine w_iald (pc' := 166) kd_172 (by omega) (by omega) dX12_reach_165 rfl ?_
                              show Wp _ _ _ _ _ _ [gI ((updI g (σ0 8 i) (n + 1)) (σ0 7 i))]
                              refine w_iload (pc' := 168) (by rfl) dX12_reach_166 rfl ?_
                              refine w_icmp_le (pc' := 171) (t := 187) dX12_reach_168 rfl rfl (fun c_168 => ?_) (fun c_168 => ?_)
                              · skip
                                refine v_iinc (pc' := 190) (x := i) (ls' := [gR 133, gI x, gI d, gI t, gI n, gI (i + 1)]) (by omega) (by decide) (by rfl) (by rfl) dX12_reach_187 rfl ?_
                                refine w_goto (pc' := 43) dX12_reach_190 rfl ?_
                                exact ih_43 _ (by omega) (i + 1) (updI g (σ0 8 i) (n + 1)) rfl (by omega) (by omega) (by intro y h0 h1; first | (rw [dgI_f (by omega) (by unfold liv; omega)]; exact hg y h0 h1) | (rw [dgI_t (by omega) ⟨by omega, by omega, by omega⟩]; have nn : n + 1 ≤ 5 := (by omega); have e1 : n + 1 - 1 = n := (by omega); have b1 := (hb (by omega)).1; have b2 := (hb (by omega)).2; have l2 := dgR_le (a := σ0 7 i) (b := σ0 8 i) hl; first | exact dgR_gt b1 b2 (dgR_gt b2 b1 hg hl (by omega) (by omega)) l2 (by omega) (by omega) y h0 h1 | exact dgR_gt b1 b2 (dgR_no b2 b1 nn hg (by omega)) l2 (by omega) (by omega) y h0 h1 | exact dgR_no b1 b2 nn (dgR_gt b2 b1 hg hl (by omega) (by omega)) (by omega) y h0 h1 | exact dgR_no b1 b2 nn (dgR_no b2 b1 nn hg (by omega)) (by omega) y h0 h1))
                              · skip
                                refine w_aload_n (pc' := 172) (i := 0) (by rfl) (by rfl) dX12_reach_171 rfl ?_
                                refine w_getS (pc' := 175) (q := 172) fg_X12_136 kd_133 sf_X12_53 gr_133_53 dX12_reach_172 rfl ?_
                                refine w_aload_n (pc' := 176) (i := 0) (by rfl) (by rfl) dX12_reach_175 rfl ?_
                                refine w_getS (pc' := 179) (q := 143) fg_X12_42 kd_133 sf_X12_15 gr_133_15 dX12_reach_176 rfl ?_
                                refine w_iload (pc' := 181) (by rfl) dX12_reach_179 rfl ?_
                                refine w_iald (pc' := 182) kd_143 (by omega) (by omega) dX12_reach_181 rfl ?_
                                show Wp _ _ _ _ _ _ [gI (σ 143 i), gR 172]
                                rw [(hq).rd (k := 143) (i := i) (.inr rfl)]
                                rw [hI.e143 (i := i) (by omega) (by omega)]
                                refine w_iload (pc' := 184) (by rfl) dX12_reach_182 rfl ?_
                                refine w_iconst (pc' := 185) (by decide) dX12_reach_184 rfl ?_
                                refine v_iadd (pc' := 186) (by omega) dX12_reach_185 rfl ?_
                                refine w_iast (pc' := 187) kd_172 (by omega) (by omega) dX12_reach_186 rfl ?_
                                refine Wp.heq (σ' := gUr σ 172 (updI (updI g (σ0 8 i) (n + 1)) (σ0 7 i) (n + 1))) gUp_row ?_
                                refine v_iinc (pc' := 190) (x := i) (ls' := [gR 133, gI x, gI d, gI t, gI n, gI (i + 1)]) (by omega) (by decide) (by rfl) (by rfl) dX12_reach_187 rfl ?_
                                refine w_goto (pc' := 43) dX12_reach_190 rfl ?_
                                exact ih_43 _ (by omega) (i + 1) (updI (updI g (σ0 8 i) (n + 1)) (σ0 7 i) (n + 1)) rfl (by omega) (by omega) (by intro y h0 h1; first | (rw [dgI_f (by omega) (by unfold liv; omega)]; exact hg y h0 h1) | (rw [dgI_t (by omega) ⟨by omega, by omega, by omega⟩]; have nn : n + 1 ≤ 5 := (by omega); have e1 : n + 1 - 1 = n := (by omega); have b1 := (hb (by omega)).1; have b2 := (hb (by omega)).2; have l2 := dgR_le (a := σ0 7 i) (b := σ0 8 i) hl; first | exact dgR_gt b1 b2 (dgR_gt b2 b1 hg hl (by omega) (by omega)) l2 (by omega) (by omega) y h0 h1 | exact dgR_gt b1 b2 (dgR_no b2 b1 nn hg (by omega)) l2 (by omega) (by omega) y h0 h1 | exact dgR_no b1 b2 nn (dgR_gt b2 b1 hg hl (by omega) (by omega)) (by omega) y h0 h1 | exact dgR_no b1 b2 nn (dgR_no b2 b1 nn hg (by omega)) (by omega) y h0 h1))
                      · skip
                        refine w_goto (pc' := 187) dX12_reach_84 rfl ?_
                        refine v_iinc (pc' := 190) (x := i) (ls' := [gR 133, gI x, gI d, gI t, gI n, gI (i + 1)]) (by omega) (by decide) (by rfl) (by rfl) dX12_reach_187 rfl ?_
                        refine w_goto (pc' := 43) dX12_reach_190 rfl ?_
                        exact ih_43 _ (by omega) (i + 1) g rfl (by omega) (by omega) (by intro y h0 h1; first | (rw [dgI_f (by omega) (by unfold liv; omega)]; exact hg y h0 h1) | (rw [dgI_t (by omega) ⟨by omega, by omega, by omega⟩]; have nn : n + 1 ≤ 5 := (by omega); have e1 : n + 1 - 1 = n := (by omega); have b1 := (hb (by omega)).1; have b2 := (hb (by omega)).2; have l2 := dgR_le (a := σ0 7 i) (b := σ0 8 i) hl; first | exact dgR_gt b1 b2 (dgR_gt b2 b1 hg hl (by omega) (by omega)) l2 (by omega) (by omega) y h0 h1 | exact dgR_gt b1 b2 (dgR_no b2 b1 nn hg (by omega)) l2 (by omega) (by omega) y h0 h1 | exact dgR_no b1 b2 nn (dgR_gt b2 b1 hg hl (by omega) (by omega)) (by omega) y h0 h1 | exact dgR_no b1 b2 nn (dgR_no b2 b1 nn hg (by omega)) (by omega) y h0 h1))
              exact hl_43 _ 0 f rfl (by omega) (by first | omega | exact hI.f.kin.2.1) (by exact hf)
        exact hl_34 _ 0 (updI e x 0) rfl (by omega) (by omega) (by intro y h0 h1; show _ = updI (fun _ => 5) x 0 y; unfold updI; split; rfl; exact hf0 y h0 (by omega))
      · skip
        refine w_aload_n (pc' := 11) (i := 0) (by rfl) (by rfl) dX12_reach_10 rfl ?_
        refine w_getS (pc' := 14) (q := 172) fg_X12_136 kd_133 sf_X12_53 gr_133_53 dX12_reach_11 rfl ?_
        refine w_iload (pc' := 16) (by rfl) dX12_reach_14 rfl ?_
        refine w_iconst (pc' := 17) (by decide) dX12_reach_16 rfl ?_
        refine w_iast (pc' := 18) kd_172 (by omega) (by omega) dX12_reach_17 rfl ?_
        refine Wp.heq (σ' := gUr σ 172 (updI e j 5)) gUp_row ?_
        refine v_iinc (pc' := 21) (x := j) (ls' := [gR 133, gI x, gI d, gI t, gI (j + 1), gX 1]) (by omega) (by decide) (by rfl) (by rfl) dX12_reach_18 rfl ?_
        refine w_goto (pc' := 3) dX12_reach_21 rfl ?_
        exact ih_3 _ (by omega) (j + 1) (updI e j 5) rfl (by omega) (by omega) (by intro y h0 h1; unfold updI; split; rfl; exact hf0 y h0 (by omega))
  refine Wp.heq (σ' := gUr σ 172 (σ 172)) gUr_id.symm ?_
  exact hl_3 _ 0 (σ 172) rfl (by omega) (by omega) (by intro y h0 h1; omega)
