/-! owns (gen/mod_owns.py) -/
abbrev alT (σ : gH) (f d i : Int) : Int := if σ 17 i = f ∧ σ 19 i ≤ d ∧ (σ 20 i = -1 ∨ d < σ 20 i) then σ 18 i else 0
def ALL (σ : gH) (f d : Int) : Int := sumI (fun i => alT σ f d i) (σ 15 6).toNat
theorem alT_in {σ : gH} (hI : Inv σ) {f d i : Int} (h0 : 0 ≤ i) (h1 : i < σ 15 6) : 0 ≤ alT σ f d i ∧ alT σ f d i ≤ 10000 := by
  have k := own_row hI h0 h1
  unfold alT
  split <;> omega
theorem alS_in {σ : gH} (hI : Inv σ) {f d i : Int} (h0 : 0 ≤ i) (h1 : i ≤ σ 15 6) : 0 ≤ sumI (fun i => alT σ f d i) i.toNat ∧ sumI (fun i => alT σ f d i) i.toNat ≤ 10000 * i := by
  constructor
  · exact sumI_nonneg fun j a b => (alT_in hI a (by omega)).1
  · have h2 : sumI (fun i => alT σ f d i) i.toNat ≤ sumI (fun _ => 10000) i.toNat := sumI_le fun j a b => (alT_in hI a (by omega)).2
    rw [sumI_const] at h2
    omega
theorem ALL_in {σ : gH} (hI : Inv σ) (f d : Int) : 0 ≤ ALL σ f d ∧ ALL σ f d ≤ 10000 := ⟨(alS_in hI (by have := hI.f.own.2.1; omega) (Int.le_refl _)).1, hI.ord.2.2.2 f d⟩
/-- whether a part more would be too much on some day -/
def XC (σ : gH) (f p a u : Int) : Int := if 10000 < p + ALL σ f a then 1 else anyI (fun i => σ 17 i = f ∧ a < σ 19 i ∧ (u = -1 ∨ σ 19 i < u) ∧ 10000 < p + ALL σ f (σ 19 i)) (σ 15 6)
theorem XC_01 (σ : gH) (f p a u : Int) : XC σ f p a u = 0 ∨ XC σ f p a u = 1 := by
  unfold XC
  split
  · exact Or.inr rfl
  · exact anyI_01
theorem XC_1 {σ : gH} {f p a u : Int} (h : 10000 < p + ALL σ f a) : XC σ f p a u = 1 := if_pos h
theorem XC_2 {σ : gH} {f p a u i : Int} (h0 : 0 ≤ i) (h1 : i < σ 15 6) (h : σ 17 i = f ∧ a < σ 19 i ∧ (u = -1 ∨ σ 19 i < u) ∧ 10000 < p + ALL σ f (σ 19 i)) : XC σ f p a u = 1 := by
  unfold XC
  split
  · rfl
  · exact anyI_1 h0 h1 h
theorem XC_0 {σ : gH} {f p a u : Int} (h : ¬ 10000 < p + ALL σ f a) (h2 : ∀ i, 0 ≤ i → i < σ 15 6 → ¬ (σ 17 i = f ∧ a < σ 19 i ∧ (u = -1 ∨ σ 19 i < u) ∧ 10000 < p + ALL σ f (σ 19 i))) : XC σ f p a u = 0 := by
  unfold XC
  rw [if_neg h]
  exact anyI_0 h2
theorem k_isTooMuch {σ : gH} (hI : Inv σ) (f p d : Int) (hp : 1 ≤ p ∧ p ≤ 10000) : Mt mX7_isTooMuch 1 [gR 14, gI f, gI p, gI d] σ (rE (gI (gb (10000 < p + ALL σ f d))) σ) := by
  refine Mt.walk (ls := [gR 14, gI f, gI p, gI d, gX 1, gX 1]) pn_X7 rfl (fun _ _ h => by cases h.1) (Nat.le_of_ble_eq_true rfl) rfl ?_
  have hn := hI.f.own.2.1
  have hn2 := hI.f.own.2.2.1
  have hs := hI.f.own.2.2.1
  refine w_iload_n (pc' := 1) (i := 2) (by rfl) (by rfl) dX7_isTooMuch_0 rfl ?_
  refine w_istore (pc' := 3) (ls' := [gR 14, gI f, gI p, gI d, gI p, gX 1]) (by decide) (by rfl) dX7_isTooMuch_1 rfl ?_
  refine w_iconst (pc' := 4) (by decide) dX7_isTooMuch_3 rfl ?_
  refine w_istore (pc' := 6) (ls' := [gR 14, gI f, gI p, gI d, gI p, gI 0]) (by decide) (by rfl) dX7_isTooMuch_4 rfl ?_
  have hl_6 : ∀ (mm : Nat) (i s : Int), (σ 15 6 - i).toNat = mm → (0 ≤ i) → (i ≤ σ 15 6) → (s = p + sumI (fun i => alT σ f d i) i.toNat) → Wp mX7_isTooMuch 1 (rE (gI (gb (10000 < p + ALL σ f d))) σ) σ 6 [gR 14, gI f, gI p, gI d, gI s, gI i] [] := by
    intro m_6
    induction m_6 using Nat.strongRecOn with
    | _ m_6 ih_6 =>
      intro i s hmeas_6 h0 h1 hv
      have hin := alS_in hI (f := f) (d := d) h0 h1
      have hrow := fun h : i < σ 15 6 => own_row hI h0 h
      refine w_iload (pc' := 8) (by rfl) dX7_isTooMuch_6 rfl ?_
      refine w_aload_n (pc' := 9) (i := 0) (by rfl) (by rfl) dX7_isTooMuch_8 rfl ?_
      refine w_getS (pc' := 12) (q := 15) fg_X7_14 kd_14 sf_X7_0 gr_14_0 dX7_isTooMuch_9 rfl ?_
      refine v_callVE (pc' := 15) (st' := [gI (σ 15 6), gI i]) (d' := 0) (av := []) mi_mX9_total lk_X7_53 rfl ci_X9 kd_15 rfl (Nat.le_of_ble_eq_true rfl) (Nat.le_of_ble_eq_true rfl) dX7_isTooMuch_12 rfl rfl (sp_total sp_15 σ) ?_
      refine w_icmp_ge (pc' := 18) (t := 64) dX7_isTooMuch_15 rfl rfl (fun c_15 => ?_) (fun c_15 => ?_)
      · skip
        refine w_iload (pc' := 66) (by rfl) dX7_isTooMuch_64 rfl ?_
        refine w_sipush (pc' := 69) (by decide) (by decide) dX7_isTooMuch_66 rfl ?_
        refine w_icmp_le (pc' := 72) (t := 76) dX7_isTooMuch_69 rfl rfl (fun c_69 => ?_) (fun c_69 => ?_)
        · skip
          refine w_iconst (pc' := 77) (by decide) dX7_isTooMuch_76 rfl ?_
          refine w_zreturn rfl (.inl rfl) dX7_isTooMuch_77 ?_
          have e : i = σ 15 6 := by omega
          have e2 : sumI (fun i => alT σ f d i) i.toNat = ALL σ f d := by rw [e]; rfl
          first
            | exact ⟨gbT (by omega), rfl⟩
            | exact ⟨gbF (by omega), rfl⟩
        · skip
          refine w_iconst (pc' := 73) (by decide) dX7_isTooMuch_72 rfl ?_
          refine w_goto (pc' := 77) dX7_isTooMuch_73 rfl ?_
          refine w_zreturn rfl (.inr rfl) dX7_isTooMuch_77 ?_
          have e : i = σ 15 6 := by omega
          have e2 : sumI (fun i => alT σ f d i) i.toNat = ALL σ f d := by rw [e]; rfl
          first
            | exact ⟨gbT (by omega), rfl⟩
            | exact ⟨gbF (by omega), rfl⟩
      · skip
        refine w_aload_n (pc' := 19) (i := 0) (by rfl) (by rfl) dX7_isTooMuch_18 rfl ?_
        refine w_getS (pc' := 22) (q := 15) fg_X7_14 kd_14 sf_X7_0 gr_14_0 dX7_isTooMuch_19 rfl ?_
        refine w_iload (pc' := 24) (by rfl) dX7_isTooMuch_22 rfl ?_
        refine v_callVE (pc' := 27) (st' := [gI (σ 17 i)]) (d' := 0) (av := [gI i]) mi_mX9_second lk_X7_65 rfl ci_X9 kd_15 rfl (Nat.le_of_ble_eq_true rfl) (Nat.le_of_ble_eq_true rfl) dX7_isTooMuch_24 rfl rfl (sp_second sp_15 σ (i := i) (by (first | omega | (have := hrow (by omega); omega))) (by (first | omega | (have := hrow (by omega); omega)))) ?_
        refine w_iload_n (pc' := 28) (i := 1) (by rfl) (by rfl) dX7_isTooMuch_27 rfl ?_
        refine w_icmp_ne (pc' := 31) (t := 58) dX7_isTooMuch_28 rfl rfl (fun c_28 => ?_) (fun c_28 => ?_)
        · skip
          refine v_iinc (pc' := 61) (x := i) (ls' := [gR 14, gI f, gI p, gI d, gI s, gI (i + 1)]) (by (first | omega | (have := hrow (by omega); omega))) (by decide) (by rfl) (by rfl) dX7_isTooMuch_58 rfl ?_
          refine w_goto (pc' := 6) dX7_isTooMuch_61 rfl ?_
          exact ih_6 _ (by omega) (i + 1) s rfl (by omega) (by omega) (by rw [sumI_s h0, hv]; unfold alT; first | (rw [if_neg (by omega)]; omega) | (rw [if_pos (by omega)]; omega))
        · skip
          refine w_aload_n (pc' := 32) (i := 0) (by rfl) (by rfl) dX7_isTooMuch_31 rfl ?_
          refine w_getS (pc' := 35) (q := 15) fg_X7_14 kd_14 sf_X7_0 gr_14_0 dX7_isTooMuch_32 rfl ?_
          refine w_iload (pc' := 37) (by rfl) dX7_isTooMuch_35 rfl ?_
          refine w_iload_n (pc' := 38) (i := 3) (by rfl) (by rfl) dX7_isTooMuch_37 rfl ?_
          refine v_callVE (pc' := 41) (st' := [gI (gb (0 ≤ i ∧ i < σ 15 6 ∧ σ 19 i ≤ d ∧ (σ 20 i = -1 ∨ d < σ 20 i)))]) (d' := 0) (av := [gI i, gI d]) mi_mX9_covers lk_X7_68 rfl ci_X9 kd_15 rfl (Nat.le_of_ble_eq_true rfl) (Nat.le_of_ble_eq_true rfl) dX7_isTooMuch_38 rfl rfl (sp_covers sp_15 σ hs i d) ?_
          refine v_if_eqB (pc' := 44) (t := 58) dX7_isTooMuch_41 rfl rfl (fun c_41 => ?_) (fun c_41 => ?_)
          · skip
            refine v_iinc (pc' := 61) (x := i) (ls' := [gR 14, gI f, gI p, gI d, gI s, gI (i + 1)]) (by (first | omega | (have := hrow (by omega); omega))) (by decide) (by rfl) (by rfl) dX7_isTooMuch_58 rfl ?_
            refine w_goto (pc' := 6) dX7_isTooMuch_61 rfl ?_
            exact ih_6 _ (by omega) (i + 1) s rfl (by omega) (by omega) (by rw [sumI_s h0, hv]; unfold alT; first | (rw [if_neg (by omega)]; omega) | (rw [if_pos (by omega)]; omega))
          · skip
            refine w_iload (pc' := 46) (by rfl) dX7_isTooMuch_44 rfl ?_
            refine w_aload_n (pc' := 47) (i := 0) (by rfl) (by rfl) dX7_isTooMuch_46 rfl ?_
            refine w_getS (pc' := 50) (q := 15) fg_X7_14 kd_14 sf_X7_0 gr_14_0 dX7_isTooMuch_47 rfl ?_
            refine w_iload (pc' := 52) (by rfl) dX7_isTooMuch_50 rfl ?_
            refine v_callVE (pc' := 55) (st' := [gI (σ 18 i), gI s]) (d' := 0) (av := [gI i]) mi_mX9_share lk_X7_72 rfl ci_X9 kd_15 rfl (Nat.le_of_ble_eq_true rfl) (Nat.le_of_ble_eq_true rfl) dX7_isTooMuch_52 rfl rfl (sp_share sp_15 σ (i := i) (by (first | omega | (have := hrow (by omega); omega))) (by (first | omega | (have := hrow (by omega); omega)))) ?_
            refine v_iadd (pc' := 56) (by (first | omega | (have := hrow (by omega); omega))) dX7_isTooMuch_55 rfl ?_
            refine w_istore (pc' := 58) (ls' := [gR 14, gI f, gI p, gI d, gI (s + (σ 18 i)), gI i]) (by decide) (by rfl) dX7_isTooMuch_56 rfl ?_
            refine v_iinc (pc' := 61) (x := i) (ls' := [gR 14, gI f, gI p, gI d, gI (s + (σ 18 i)), gI (i + 1)]) (by (first | omega | (have := hrow (by omega); omega))) (by decide) (by rfl) (by rfl) dX7_isTooMuch_58 rfl ?_
            refine w_goto (pc' := 6) dX7_isTooMuch_61 rfl ?_
            exact ih_6 _ (by omega) (i + 1) (s + (σ 18 i)) rfl (by omega) (by omega) (by rw [sumI_s h0, hv]; unfold alT; first | (rw [if_neg (by omega)]; omega) | (rw [if_pos (by omega)]; omega))
  exact hl_6 _ 0 p rfl (by omega) (by omega) (by show p = p + 0; omega)
theorem k_exceeds {σ : gH} (hI : Inv σ) (f p a u : Int) (hp : 1 ≤ p ∧ p ≤ 10000) : Mt mX7_exceedsWhole 2 [gR 14, gI f, gI p, gI a, gI u] σ (rE (gI (XC σ f p a u)) σ) := by
  refine Mt.walk (ls := [gR 14, gI f, gI p, gI a, gI u, gX 1, gX 1]) pn_X7 rfl (fun _ _ h => by cases h.1) (Nat.le_of_ble_eq_true rfl) rfl ?_
  have hn := hI.f.own.2.1
  have hn2 := hI.f.own.2.2.1
  have hs := hI.f.own.2.2.1
  refine w_aload_n (pc' := 1) (i := 0) (by rfl) (by rfl) dX7_exceedsWhole_0 rfl ?_
  refine w_iload_n (pc' := 2) (i := 1) (by rfl) (by rfl) dX7_exceedsWhole_1 rfl ?_
  refine w_iload_n (pc' := 3) (i := 2) (by rfl) (by rfl) dX7_exceedsWhole_2 rfl ?_
  refine w_iload_n (pc' := 4) (i := 3) (by rfl) (by rfl) dX7_exceedsWhole_3 rfl ?_
  refine v_callVE (pc' := 7) (st' := [gI (gb (10000 < p + ALL σ f a))]) (d' := 1) (av := [gI f, gI p, gI a]) mi_mX7_isTooMuch lk_X7_57 rfl ci_X7 kd_14 rfl (Nat.le_of_ble_eq_true rfl) (Nat.le_of_ble_eq_true rfl) dX7_exceedsWhole_4 rfl rfl (k_isTooMuch hI f p a (by omega)) ?_
  refine v_if_eqB (pc' := 10) (t := 12) dX7_exceedsWhole_7 rfl rfl (fun c_7 => ?_) (fun c_7 => ?_)
  · skip
    refine w_iconst (pc' := 13) (by decide) dX7_exceedsWhole_12 rfl ?_
    refine w_istore (pc' := 15) (ls' := [gR 14, gI f, gI p, gI a, gI u, gI 0, gX 1]) (by decide) (by rfl) dX7_exceedsWhole_13 rfl ?_
    have hl_15 : ∀ (mm : Nat) (i : Int), (σ 15 6 - i).toNat = mm → (0 ≤ i) → (i ≤ σ 15 6) → (∀ j, 0 ≤ j → j < i → ¬ (σ 17 j = f ∧ a < σ 19 j ∧ (u = -1 ∨ σ 19 j < u) ∧ 10000 < p + ALL σ f (σ 19 j))) → Wp mX7_exceedsWhole 2 (rE (gI (XC σ f p a u)) σ) σ 15 [gR 14, gI f, gI p, gI a, gI u, gI i, gX 1] [] := by
      intro m_15
      induction m_15 using Nat.strongRecOn with
      | _ m_15 ih_15 =>
        intro i hmeas_15 h0 h1 hz
        refine w_iload (pc' := 17) (by rfl) dX7_exceedsWhole_15 rfl ?_
        refine w_aload_n (pc' := 18) (i := 0) (by rfl) (by rfl) dX7_exceedsWhole_17 rfl ?_
        refine w_getS (pc' := 21) (q := 15) fg_X7_14 kd_14 sf_X7_0 gr_14_0 dX7_exceedsWhole_18 rfl ?_
        refine v_callVE (pc' := 24) (st' := [gI (σ 15 6), gI i]) (d' := 0) (av := []) mi_mX9_total lk_X7_53 rfl ci_X9 kd_15 rfl (Nat.le_of_ble_eq_true rfl) (Nat.le_of_ble_eq_true rfl) dX7_exceedsWhole_21 rfl rfl (sp_total sp_15 σ) ?_
        refine w_icmp_ge (pc' := 27) (t := 89) dX7_exceedsWhole_24 rfl rfl (fun c_24 => ?_) (fun c_24 => ?_)
        · skip
          refine w_iconst (pc' := 90) (by decide) dX7_exceedsWhole_89 rfl ?_
          refine w_zreturn rfl (.inl rfl) dX7_exceedsWhole_90 ?_
          exact ⟨congrArg gI (XC_0 c_7 (fun j x y => hz j x (by omega))).symm, rfl⟩
        · skip
          refine w_aload_n (pc' := 28) (i := 0) (by rfl) (by rfl) dX7_exceedsWhole_27 rfl ?_
          refine w_getS (pc' := 31) (q := 15) fg_X7_14 kd_14 sf_X7_0 gr_14_0 dX7_exceedsWhole_28 rfl ?_
          refine w_iload (pc' := 33) (by rfl) dX7_exceedsWhole_31 rfl ?_
          refine v_callVE (pc' := 36) (st' := [gI (σ 19 i)]) (d' := 0) (av := [gI i]) mi_mX9_start lk_X7_61 rfl ci_X9 kd_15 rfl (Nat.le_of_ble_eq_true rfl) (Nat.le_of_ble_eq_true rfl) dX7_exceedsWhole_33 rfl rfl (sp_start sp_15 σ (i := i) (by omega) (by omega)) ?_
          refine w_istore (pc' := 38) (ls' := [gR 14, gI f, gI p, gI a, gI u, gI i, gI (σ 19 i)]) (by decide) (by rfl) dX7_exceedsWhole_36 rfl ?_
          refine w_aload_n (pc' := 39) (i := 0) (by rfl) (by rfl) dX7_exceedsWhole_38 rfl ?_
          refine w_getS (pc' := 42) (q := 15) fg_X7_14 kd_14 sf_X7_0 gr_14_0 dX7_exceedsWhole_39 rfl ?_
          refine w_iload (pc' := 44) (by rfl) dX7_exceedsWhole_42 rfl ?_
          refine v_callVE (pc' := 47) (st' := [gI (σ 17 i)]) (d' := 0) (av := [gI i]) mi_mX9_second lk_X7_65 rfl ci_X9 kd_15 rfl (Nat.le_of_ble_eq_true rfl) (Nat.le_of_ble_eq_true rfl) dX7_exceedsWhole_44 rfl rfl (sp_second sp_15 σ (i := i) (by omega) (by omega)) ?_
          refine w_iload_n (pc' := 48) (i := 1) (by rfl) (by rfl) dX7_exceedsWhole_47 rfl ?_
          refine w_icmp_ne (pc' := 51) (t := 83) dX7_exceedsWhole_48 rfl rfl (fun c_48 => ?_) (fun c_48 => ?_)
          · skip
            refine v_iinc (pc' := 86) (x := i) (ls' := [gR 14, gI f, gI p, gI a, gI u, gI (i + 1), gI (σ 19 i)]) (by omega) (by decide) (by rfl) (by rfl) dX7_exceedsWhole_83 rfl ?_
            refine w_goto (pc' := 15) dX7_exceedsWhole_86 rfl ?_
            refine Wp.lose (ls' := [gR 14, gI f, gI p, gI a, gI u, gI (i + 1), gX 1]) ⟨.inr rfl, ⟨.inr rfl, ⟨.inr rfl, ⟨.inr rfl, ⟨.inr rfl, ⟨.inr rfl, ⟨.inl rfl, trivial⟩⟩⟩⟩⟩⟩⟩ ?_
            exact ih_15 _ (by omega) (i + 1) rfl (by omega) (by omega) (by intro j a b; by_cases e : j = i; (rw [e]; exact (show ¬ _ by omega)); exact hz j a (by omega))
          · skip
            refine w_iload (pc' := 53) (by rfl) dX7_exceedsWhole_51 rfl ?_
            refine w_iload_n (pc' := 54) (i := 3) (by rfl) (by rfl) dX7_exceedsWhole_53 rfl ?_
            refine w_icmp_le (pc' := 57) (t := 83) dX7_exceedsWhole_54 rfl rfl (fun c_54 => ?_) (fun c_54 => ?_)
            · skip
              refine v_iinc (pc' := 86) (x := i) (ls' := [gR 14, gI f, gI p, gI a, gI u, gI (i + 1), gI (σ 19 i)]) (by omega) (by decide) (by rfl) (by rfl) dX7_exceedsWhole_83 rfl ?_
              refine w_goto (pc' := 15) dX7_exceedsWhole_86 rfl ?_
              refine Wp.lose (ls' := [gR 14, gI f, gI p, gI a, gI u, gI (i + 1), gX 1]) ⟨.inr rfl, ⟨.inr rfl, ⟨.inr rfl, ⟨.inr rfl, ⟨.inr rfl, ⟨.inr rfl, ⟨.inl rfl, trivial⟩⟩⟩⟩⟩⟩⟩ ?_
              exact ih_15 _ (by omega) (i + 1) rfl (by omega) (by omega) (by intro j a b; by_cases e : j = i; (rw [e]; exact (show ¬ _ by omega)); exact hz j a (by omega))
            · skip
              refine w_iload (pc' := 59) (by rfl) dX7_exceedsWhole_57 rfl ?_
              refine w_iconst (pc' := 60) (by decide) dX7_exceedsWhole_59 rfl ?_
              refine w_icmp_eq (pc' := 63) (t := 70) dX7_exceedsWhole_60 rfl rfl (fun c_60 => ?_) (fun c_60 => ?_)
              · skip
                refine w_aload_n (pc' := 71) (i := 0) (by rfl) (by rfl) dX7_exceedsWhole_70 rfl ?_
                refine w_iload_n (pc' := 72) (i := 1) (by rfl) (by rfl) dX7_exceedsWhole_71 rfl ?_
                refine w_iload_n (pc' := 73) (i := 2) (by rfl) (by rfl) dX7_exceedsWhole_72 rfl ?_
                refine w_iload (pc' := 75) (by rfl) dX7_exceedsWhole_73 rfl ?_
                refine v_callVE (pc' := 78) (st' := [gI (gb (10000 < p + ALL σ f (σ 19 i)))]) (d' := 1) (av := [gI f, gI p, gI (σ 19 i)]) mi_mX7_isTooMuch lk_X7_57 rfl ci_X7 kd_14 rfl (Nat.le_of_ble_eq_true rfl) (Nat.le_of_ble_eq_true rfl) dX7_exceedsWhole_75 rfl rfl (k_isTooMuch hI f p (σ 19 i) (by omega)) ?_
                refine v_if_eqB (pc' := 81) (t := 83) dX7_exceedsWhole_78 rfl rfl (fun c_78 => ?_) (fun c_78 => ?_)
                · skip
                  refine v_iinc (pc' := 86) (x := i) (ls' := [gR 14, gI f, gI p, gI a, gI u, gI (i + 1), gI (σ 19 i)]) (by omega) (by decide) (by rfl) (by rfl) dX7_exceedsWhole_83 rfl ?_
                  refine w_goto (pc' := 15) dX7_exceedsWhole_86 rfl ?_
                  refine Wp.lose (ls' := [gR 14, gI f, gI p, gI a, gI u, gI (i + 1), gX 1]) ⟨.inr rfl, ⟨.inr rfl, ⟨.inr rfl, ⟨.inr rfl, ⟨.inr rfl, ⟨.inr rfl, ⟨.inl rfl, trivial⟩⟩⟩⟩⟩⟩⟩ ?_
                  exact ih_15 _ (by omega) (i + 1) rfl (by omega) (by omega) (by intro j a b; by_cases e : j = i; (rw [e]; exact (show ¬ _ by omega)); exact hz j a (by omega))
                · skip
                  refine w_iconst (pc' := 82) (by decide) dX7_exceedsWhole_81 rfl ?_
                  refine w_zreturn rfl (.inr rfl) dX7_exceedsWhole_82 ?_
                  exact ⟨congrArg gI (XC_2 h0 (by omega) ⟨by omega, by omega, by omega, c_78⟩).symm, rfl⟩
              · skip
                refine w_iload (pc' := 65) (by rfl) dX7_exceedsWhole_63 rfl ?_
                refine w_iload (pc' := 67) (by rfl) dX7_exceedsWhole_65 rfl ?_
                refine w_icmp_ge (pc' := 70) (t := 83) dX7_exceedsWhole_67 rfl rfl (fun c_67 => ?_) (fun c_67 => ?_)
                · skip
                  refine v_iinc (pc' := 86) (x := i) (ls' := [gR 14, gI f, gI p, gI a, gI u, gI (i + 1), gI (σ 19 i)]) (by omega) (by decide) (by rfl) (by rfl) dX7_exceedsWhole_83 rfl ?_
                  refine w_goto (pc' := 15) dX7_exceedsWhole_86 rfl ?_
                  refine Wp.lose (ls' := [gR 14, gI f, gI p, gI a, gI u, gI (i + 1), gX 1]) ⟨.inr rfl, ⟨.inr rfl, ⟨.inr rfl, ⟨.inr rfl, ⟨.inr rfl, ⟨.inr rfl, ⟨.inl rfl, trivial⟩⟩⟩⟩⟩⟩⟩ ?_
                  exact ih_15 _ (by omega) (i + 1) rfl (by omega) (by omega) (by intro j a b; by_cases e : j = i; (rw [e]; exact (show ¬ _ by omega)); exact hz j a (by omega))
                · skip
                  refine w_aload_n (pc' := 71) (i := 0) (by rfl) (by rfl) dX7_exceedsWhole_70 rfl ?_
                  refine w_iload_n (pc' := 72) (i := 1) (by rfl) (by rfl) dX7_exceedsWhole_71 rfl ?_
                  refine w_iload_n (pc' := 73) (i := 2) (by rfl) (by rfl) dX7_exceedsWhole_72 rfl ?_
                  refine w_iload (pc' := 75) (by rfl) dX7_exceedsWhole_73 rfl ?_
                  refine v_callVE (pc' := 78) (st' := [gI (gb (10000 < p + ALL σ f (σ 19 i)))]) (d' := 1) (av := [gI f, gI p, gI (σ 19 i)]) mi_mX7_isTooMuch lk_X7_57 rfl ci_X7 kd_14 rfl (Nat.le_of_ble_eq_true rfl) (Nat.le_of_ble_eq_true rfl) dX7_exceedsWhole_75 rfl rfl (k_isTooMuch hI f p (σ 19 i) (by omega)) ?_
                  refine v_if_eqB (pc' := 81) (t := 83) dX7_exceedsWhole_78 rfl rfl (fun c_78 => ?_) (fun c_78 => ?_)
                  · skip
                    refine v_iinc (pc' := 86) (x := i) (ls' := [gR 14, gI f, gI p, gI a, gI u, gI (i + 1), gI (σ 19 i)]) (by omega) (by decide) (by rfl) (by rfl) dX7_exceedsWhole_83 rfl ?_
                    refine w_goto (pc' := 15) dX7_exceedsWhole_86 rfl ?_
                    refine Wp.lose (ls' := [gR 14, gI f, gI p, gI a, gI u, gI (i + 1), gX 1]) ⟨.inr rfl, ⟨.inr rfl, ⟨.inr rfl, ⟨.inr rfl, ⟨.inr rfl, ⟨.inr rfl, ⟨.inl rfl, trivial⟩⟩⟩⟩⟩⟩⟩ ?_
                    exact ih_15 _ (by omega) (i + 1) rfl (by omega) (by omega) (by intro j a b; by_cases e : j = i; (rw [e]; exact (show ¬ _ by omega)); exact hz j a (by omega))
                  · skip
                    refine w_iconst (pc' := 82) (by decide) dX7_exceedsWhole_81 rfl ?_
                    refine w_zreturn rfl (.inr rfl) dX7_exceedsWhole_82 ?_
                    exact ⟨congrArg gI (XC_2 h0 (by omega) ⟨by omega, by omega, by omega, c_78⟩).symm, rfl⟩
    exact hl_15 _ 0 rfl (by omega) (by omega) (by intro j a b; omega)
  · skip
    refine w_iconst (pc' := 11) (by decide) dX7_exceedsWhole_10 rfl ?_
    refine w_zreturn rfl (.inr rfl) dX7_exceedsWhole_11 ?_
    exact ⟨congrArg gI (XC_1 c_7).symm, rfl⟩
theorem k_behind (σ : gH) (r ow f : Int) (hr : 0 ≤ r ∧ r < 200) : Mt mX7_comesBehind 1 [gR 14, gI r, gI ow, gI f] σ (rE (gI (gb (ow < σ 16 r ∨ σ 16 r = ow ∧ f < σ 17 r))) σ) := by
  refine Mt.walk (ls := [gR 14, gI r, gI ow, gI f, gX 1]) pn_X7 rfl (fun _ _ h => by cases h.1) (Nat.le_of_ble_eq_true rfl) rfl ?_
  refine w_aload_n (pc' := 1) (i := 0) (by rfl) (by rfl) dX7_comesBehind_0 rfl ?_
  refine w_getS (pc' := 4) (q := 15) fg_X7_14 kd_14 sf_X7_0 gr_14_0 dX7_comesBehind_1 rfl ?_
  refine w_iload_n (pc' := 5) (i := 1) (by rfl) (by rfl) dX7_comesBehind_4 rfl ?_
  refine v_callVE (pc' := 8) (st' := [gI (σ 16 r)]) (d' := 0) (av := [gI r]) mi_mX9_first lk_X7_82 rfl ci_X9 kd_15 rfl (Nat.le_of_ble_eq_true rfl) (Nat.le_of_ble_eq_true rfl) dX7_comesBehind_5 rfl rfl (sp_first sp_15 σ (i := r) (by omega) (by omega)) ?_
  refine w_istore (pc' := 10) (ls' := [gR 14, gI r, gI ow, gI f, gI (σ 16 r)]) (by decide) (by rfl) dX7_comesBehind_8 rfl ?_
  refine w_iload (pc' := 12) (by rfl) dX7_comesBehind_10 rfl ?_
  refine w_iload_n (pc' := 13) (i := 2) (by rfl) (by rfl) dX7_comesBehind_12 rfl ?_
  refine w_icmp_gt (pc' := 16) (t := 34) dX7_comesBehind_13 rfl rfl (fun c_13 => ?_) (fun c_13 => ?_)
  · skip
    refine w_iconst (pc' := 35) (by decide) dX7_comesBehind_34 rfl ?_
    refine w_goto (pc' := 39) dX7_comesBehind_35 rfl ?_
    refine w_zreturn rfl (.inr rfl) dX7_comesBehind_39 ?_
    first | (exfalso; omega) | exact ⟨gbT (by omega), rfl⟩ | exact ⟨gbF (by omega), rfl⟩
  · skip
    refine w_iload (pc' := 18) (by rfl) dX7_comesBehind_16 rfl ?_
    refine w_iload_n (pc' := 19) (i := 2) (by rfl) (by rfl) dX7_comesBehind_18 rfl ?_
    refine w_icmp_ne (pc' := 22) (t := 38) dX7_comesBehind_19 rfl rfl (fun c_19 => ?_) (fun c_19 => ?_)
    · skip
      refine w_iconst (pc' := 39) (by decide) dX7_comesBehind_38 rfl ?_
      refine w_zreturn rfl (.inl rfl) dX7_comesBehind_39 ?_
      first | (exfalso; omega) | exact ⟨gbT (by omega), rfl⟩ | exact ⟨gbF (by omega), rfl⟩
    · skip
      refine w_aload_n (pc' := 23) (i := 0) (by rfl) (by rfl) dX7_comesBehind_22 rfl ?_
      refine w_getS (pc' := 26) (q := 15) fg_X7_14 kd_14 sf_X7_0 gr_14_0 dX7_comesBehind_23 rfl ?_
      refine w_iload_n (pc' := 27) (i := 1) (by rfl) (by rfl) dX7_comesBehind_26 rfl ?_
      refine v_callVE (pc' := 30) (st' := [gI (σ 17 r)]) (d' := 0) (av := [gI r]) mi_mX9_second lk_X7_65 rfl ci_X9 kd_15 rfl (Nat.le_of_ble_eq_true rfl) (Nat.le_of_ble_eq_true rfl) dX7_comesBehind_27 rfl rfl (sp_second sp_15 σ (i := r) (by omega) (by omega)) ?_
      refine w_iload_n (pc' := 31) (i := 3) (by rfl) (by rfl) dX7_comesBehind_30 rfl ?_
      refine w_icmp_le (pc' := 34) (t := 38) dX7_comesBehind_31 rfl rfl (fun c_31 => ?_) (fun c_31 => ?_)
      · skip
        refine w_iconst (pc' := 39) (by decide) dX7_comesBehind_38 rfl ?_
        refine w_zreturn rfl (.inl rfl) dX7_comesBehind_39 ?_
        first | (exfalso; omega) | exact ⟨gbT (by omega), rfl⟩ | exact ⟨gbF (by omega), rfl⟩
      · skip
        refine w_iconst (pc' := 35) (by decide) dX7_comesBehind_34 rfl ?_
        refine w_goto (pc' := 39) dX7_comesBehind_35 rfl ?_
        refine w_zreturn rfl (.inr rfl) dX7_comesBehind_39 ?_
        first | (exfalso; omega) | exact ⟨gbT (by omega), rfl⟩ | exact ⟨gbF (by omega), rfl⟩
/-- the row n put in at q among the first n of O -/
def isIns (n q : Int) (O O' : Int → Int) : Prop := 0 ≤ q ∧ q ≤ n ∧ (∀ i, 0 ≤ i → i < q → O' i = O i) ∧ O' q = n ∧ ∀ i, q ≤ i → i < n → O' (i + 1) = O i
abbrev behP (σ : gH) (x f r : Int) : Prop := x < σ 16 r ∨ (σ 16 r = x ∧ f < σ 17 r)
theorem k_beh2 {σ : gH} (H : gH) (e1 : ∀ r, r < σ 15 6 → H 16 r = σ 16 r) (e2 : ∀ r, r < σ 15 6 → H 17 r = σ 17 r) (r x f : Int) (h0 : 0 ≤ r ∧ r < 200) (h1 : r < σ 15 6) : Mt mX7_comesBehind 1 [gR 14, gI r, gI x, gI f] H (rE (gI (gb (behP σ x f r))) H) := by
  have k := k_behind H r x f h0
  rw [e1 r h1, e2 r h1] at k
  exact k
set_option maxHeartbeats 1000000 in
theorem k_ownAdd {σ : gH} (hI : Inv σ) (x f p a u t : Int) (hlt : σ 15 6 < 200) : Mt mX7_add 2 [gR 14, gI x, gI f, gI p, gI a, gI u, gI t] σ (fun v σ' => v = gI (σ 15 6) ∧ ∃ O q, isIns (σ 15 6) q (σ 22) O ∧ (∀ i, q ≤ i → i < σ 15 6 → behP σ x f (σ 22 i)) ∧ (0 < q → ¬ behP σ x f (σ 22 (q - 1))) ∧ σ' = gUr (gUp (gUp (gUp (gUp (gUp (gUp (gUp σ 16 (σ 15 6) x) 17 (σ 15 6) f) 18 (σ 15 6) p) 19 (σ 15 6) a) 20 (σ 15 6) u) 21 (σ 15 6) t) 15 6 (σ 15 6 + 1)) 22 O) := by
  refine Mt.walk (ls := [gR 14, gI x, gI f, gI p, gI a, gI u, gI t, gX 1, gX 1]) pn_X7 rfl (fun _ _ h => by cases h.1) (Nat.le_of_ble_eq_true rfl) rfl ?_
  have hn := hI.f.own.2.1
  have hn2 := hI.f.own.2.2.1
  have hs := hI.f.own.2.2.1
  refine w_aload_n (pc' := 1) (i := 0) (by rfl) (by rfl) dX7_add_0 rfl ?_
  refine w_getS (pc' := 4) (q := 15) fg_X7_14 kd_14 sf_X7_0 gr_14_0 dX7_add_1 rfl ?_
  refine w_iload_n (pc' := 5) (i := 1) (by rfl) (by rfl) dX7_add_4 rfl ?_
  refine w_iload_n (pc' := 6) (i := 2) (by rfl) (by rfl) dX7_add_5 rfl ?_
  refine w_iload_n (pc' := 7) (i := 3) (by rfl) (by rfl) dX7_add_6 rfl ?_
  refine w_iload (pc' := 9) (by rfl) dX7_add_7 rfl ?_
  refine w_iload (pc' := 11) (by rfl) dX7_add_9 rfl ?_
  refine w_iload (pc' := 13) (by rfl) dX7_add_11 rfl ?_
  refine v_callVE (pc' := 16) (st' := [gI (σ 15 6)]) (d' := 0) (av := [gI x, gI f, gI p, gI a, gI u, gI t]) mi_mX9_add lk_X7_75 rfl ci_X9 kd_15 rfl (Nat.le_of_ble_eq_true rfl) (Nat.le_of_ble_eq_true rfl) dX7_add_13 rfl rfl (sp15_addT σ x f p a u t ⟨by omega, by omega⟩) ?_
  refine w_istore (pc' := 18) (ls' := [gR 14, gI x, gI f, gI p, gI a, gI u, gI t, gI (σ 15 6), gX 1]) (by decide) (by rfl) dX7_add_16 rfl ?_
  refine w_iload (pc' := 20) (by rfl) dX7_add_18 rfl ?_
  refine w_if_lt (pc' := 23) (t := 31) dX7_add_20 rfl rfl (fun c_20 => ?_) (fun c_20 => ?_)
  · skip
    refine w_iload (pc' := 33) (by rfl) dX7_add_31 rfl ?_
    refine v_ireturn rfl dX7_add_33 ?_
    first
      | (exfalso; omega)
      | (refine ⟨rfl, _, q, ⟨h0, h1, fun i a b => ?_, updI_eq, fun i a b => ?_⟩, fun i a b => (hhi i a b).2, fun h => ?_, rfl⟩
         · rw [updI_ne (by omega)]; exact hlo i a b
         · rw [updI_ne (by omega)]; exact (hhi i a b).1
         · first
           | (exfalso; omega)
           | (rw [← ho2 h]; assumption))
  · skip
    refine w_iload (pc' := 25) (by rfl) dX7_add_23 rfl ?_
    refine w_sipush (pc' := 28) (by decide) (by decide) dX7_add_25 rfl ?_
    refine w_icmp_lt (pc' := 31) (t := 34) dX7_add_28 rfl rfl (fun c_28 => ?_) (fun c_28 => ?_)
    · skip
      refine w_iload (pc' := 36) (by rfl) dX7_add_34 rfl ?_
      refine w_istore (pc' := 38) (ls' := [gR 14, gI x, gI f, gI p, gI a, gI u, gI t, gI (σ 15 6), gI (σ 15 6)]) (by decide) (by rfl) dX7_add_36 rfl ?_
      have hl_38 : ∀ (mm : Nat) (q : Int) (O : Int → Int), q.toNat = mm → (0 ≤ q) → (q ≤ σ 15 6) → (∀ i, 0 ≤ i → i < q → O i = σ 22 i) → (∀ i, q ≤ i → i < σ 15 6 → O (i + 1) = σ 22 i ∧ behP σ x f (σ 22 i)) → Wp mX7_add 2 (fun v σ' => v = gI (σ 15 6) ∧ ∃ O q, isIns (σ 15 6) q (σ 22) O ∧ (∀ i, q ≤ i → i < σ 15 6 → behP σ x f (σ 22 i)) ∧ (0 < q → ¬ behP σ x f (σ 22 (q - 1))) ∧ σ' = gUr (gUp (gUp (gUp (gUp (gUp (gUp (gUp σ 16 (σ 15 6) x) 17 (σ 15 6) f) 18 (σ 15 6) p) 19 (σ 15 6) a) 20 (σ 15 6) u) 21 (σ 15 6) t) 15 6 (σ 15 6 + 1)) 22 O) (gUr (gUp (gUp (gUp (gUp (gUp (gUp (gUp σ 16 (σ 15 6) x) 17 (σ 15 6) f) 18 (σ 15 6) p) 19 (σ 15 6) a) 20 (σ 15 6) u) 21 (σ 15 6) t) 15 6 (σ 15 6 + 1)) 22 O) 38 [gR 14, gI x, gI f, gI p, gI a, gI u, gI t, gI (σ 15 6), gI q] [] := by
        intro m_38
        induction m_38 using Nat.strongRecOn with
        | _ m_38 ih_38 =>
          intro q O hmeas_38 h0 h1 hlo hhi
          have ho : 0 < q → 0 ≤ O (q - 1) ∧ O (q - 1) < σ 15 6 := fun h => by
            rw [hlo (q - 1) (by omega) (by omega)]
            exact hI.ord.1 (q - 1) (by omega) (by omega)
          have ho2 : 0 < q → O (q - 1) = σ 22 (q - 1) := fun h => hlo (q - 1) (by omega) (by omega)
          refine w_iload (pc' := 40) (by rfl) dX7_add_38 rfl ?_
          refine w_if_le (pc' := 43) (t := 83) dX7_add_40 rfl rfl (fun c_40 => ?_) (fun c_40 => ?_)
          · skip
            refine w_aload_n (pc' := 84) (i := 0) (by rfl) (by rfl) dX7_add_83 rfl ?_
            refine w_getS (pc' := 87) (q := 22) fg_X7_20 kd_14 sf_X7_1 gr_14_1 dX7_add_84 rfl ?_
            refine w_iload (pc' := 89) (by rfl) dX7_add_87 rfl ?_
            refine w_iload (pc' := 91) (by rfl) dX7_add_89 rfl ?_
            refine w_iast (pc' := 92) kd_22 (by omega) (by omega) dX7_add_91 rfl ?_
            refine Wp.heq (σ' := gUr (gUp (gUp (gUp (gUp (gUp (gUp (gUp σ 16 (σ 15 6) x) 17 (σ 15 6) f) 18 (σ 15 6) p) 19 (σ 15 6) a) 20 (σ 15 6) u) 21 (σ 15 6) t) 15 6 (σ 15 6 + 1)) 22 (updI O q (σ 15 6))) gUp_row ?_
            refine w_iload (pc' := 94) (by rfl) dX7_add_92 rfl ?_
            refine v_ireturn rfl dX7_add_94 ?_
            first
              | (exfalso; omega)
              | (refine ⟨rfl, _, q, ⟨h0, h1, fun i a b => ?_, updI_eq, fun i a b => ?_⟩, fun i a b => (hhi i a b).2, fun h => ?_, rfl⟩
                 · rw [updI_ne (by omega)]; exact hlo i a b
                 · rw [updI_ne (by omega)]; exact (hhi i a b).1
                 · first
                   | (exfalso; omega)
                   | (rw [← ho2 h]; assumption))
          · skip
            refine w_aload_n (pc' := 44) (i := 0) (by rfl) (by rfl) dX7_add_43 rfl ?_
            refine w_aload_n (pc' := 45) (i := 0) (by rfl) (by rfl) dX7_add_44 rfl ?_
            refine w_getS (pc' := 48) (q := 22) fg_X7_20 kd_14 sf_X7_1 gr_14_1 dX7_add_45 rfl ?_
            refine w_iload (pc' := 50) (by rfl) dX7_add_48 rfl ?_
            refine w_iconst (pc' := 51) (by decide) dX7_add_50 rfl ?_
            refine v_isub (pc' := 52) (by omega) dX7_add_51 rfl ?_
            refine w_iald (pc' := 53) kd_22 (by omega) (by omega) dX7_add_52 rfl ?_
            show Wp _ _ _ _ _ _ [gI (O (q - 1)), gR 14]
            refine w_iload_n (pc' := 54) (i := 1) (by rfl) (by rfl) dX7_add_53 rfl ?_
            refine w_iload_n (pc' := 55) (i := 2) (by rfl) (by rfl) dX7_add_54 rfl ?_
            refine v_callVE (pc' := 58) (st' := [gI (gb (behP σ x f (O (q - 1))))]) (d' := 1) (av := [gI (O (q - 1)), gI x, gI f]) mi_mX7_comesBehind lk_X7_79 rfl ci_X7 kd_14 rfl (Nat.le_of_ble_eq_true rfl) (Nat.le_of_ble_eq_true rfl) dX7_add_55 rfl rfl (k_beh2 (σ := σ) (gUr (gUp (gUp (gUp (gUp (gUp (gUp (gUp σ 16 (σ 15 6) x) 17 (σ 15 6) f) 18 (σ 15 6) p) 19 (σ 15 6) a) 20 (σ 15 6) u) 21 (σ 15 6) t) 15 6 (σ 15 6 + 1)) 22 O) (by exact fun r hr => if_neg (show ¬ r = σ 15 6 by omega)) (by exact fun r hr => if_neg (show ¬ r = σ 15 6 by omega)) (O (q - 1)) x f (by omega) (by omega)) ?_
            refine v_if_eqB (pc' := 61) (t := 83) dX7_add_58 rfl rfl (fun c_58 => ?_) (fun c_58 => ?_)
            · skip
              refine w_aload_n (pc' := 84) (i := 0) (by rfl) (by rfl) dX7_add_83 rfl ?_
              refine w_getS (pc' := 87) (q := 22) fg_X7_20 kd_14 sf_X7_1 gr_14_1 dX7_add_84 rfl ?_
              refine w_iload (pc' := 89) (by rfl) dX7_add_87 rfl ?_
              refine w_iload (pc' := 91) (by rfl) dX7_add_89 rfl ?_
              refine w_iast (pc' := 92) kd_22 (by omega) (by omega) dX7_add_91 rfl ?_
              refine Wp.heq (σ' := gUr (gUp (gUp (gUp (gUp (gUp (gUp (gUp σ 16 (σ 15 6) x) 17 (σ 15 6) f) 18 (σ 15 6) p) 19 (σ 15 6) a) 20 (σ 15 6) u) 21 (σ 15 6) t) 15 6 (σ 15 6 + 1)) 22 (updI O q (σ 15 6))) gUp_row ?_
              refine w_iload (pc' := 94) (by rfl) dX7_add_92 rfl ?_
              refine v_ireturn rfl dX7_add_94 ?_
              first
                | (exfalso; omega)
                | (refine ⟨rfl, _, q, ⟨h0, h1, fun i a b => ?_, updI_eq, fun i a b => ?_⟩, fun i a b => (hhi i a b).2, fun h => ?_, rfl⟩
                   · rw [updI_ne (by omega)]; exact hlo i a b
                   · rw [updI_ne (by omega)]; exact (hhi i a b).1
                   · first
                     | (exfalso; omega)
                     | (rw [← ho2 h]; assumption))
            · skip
              refine w_aload_n (pc' := 62) (i := 0) (by rfl) (by rfl) dX7_add_61 rfl ?_
              refine w_getS (pc' := 65) (q := 22) fg_X7_20 kd_14 sf_X7_1 gr_14_1 dX7_add_62 rfl ?_
              refine w_iload (pc' := 67) (by rfl) dX7_add_65 rfl ?_
              refine w_aload_n (pc' := 68) (i := 0) (by rfl) (by rfl) dX7_add_67 rfl ?_
              refine w_getS (pc' := 71) (q := 22) fg_X7_20 kd_14 sf_X7_1 gr_14_1 dX7_add_68 rfl ?_
              refine w_iload (pc' := 73) (by rfl) dX7_add_71 rfl ?_
              refine w_iconst (pc' := 74) (by decide) dX7_add_73 rfl ?_
              refine v_isub (pc' := 75) (by omega) dX7_add_74 rfl ?_
              refine w_iald (pc' := 76) kd_22 (by omega) (by omega) dX7_add_75 rfl ?_
              show Wp _ _ _ _ _ _ [gI (O (q - 1)), gI q, gR 22]
              refine w_iast (pc' := 77) kd_22 (by omega) (by omega) dX7_add_76 rfl ?_
              refine Wp.heq (σ' := gUr (gUp (gUp (gUp (gUp (gUp (gUp (gUp σ 16 (σ 15 6) x) 17 (σ 15 6) f) 18 (σ 15 6) p) 19 (σ 15 6) a) 20 (σ 15 6) u) 21 (σ 15 6) t) 15 6 (σ 15 6 + 1)) 22 (updI O q (O (q - 1)))) gUp_row ?_
              refine v_iinc (pc' := 80) (x := q) (ls' := [gR 14, gI x, gI f, gI p, gI a, gI u, gI t, gI (σ 15 6), gI (q + (-1))]) (by omega) (by decide) (by rfl) (by rfl) dX7_add_77 rfl ?_
              refine w_goto (pc' := 38) dX7_add_80 rfl ?_
              exact ih_38 _ (by omega) (q + (-1)) (updI O q (O (q - 1))) rfl (by omega) (by omega) (by intro i a b; rw [updI_ne (by omega)]; exact hlo i a (by omega)) (by intro i a b; by_cases e : i = q + -1; (rw [e, show q + -1 + 1 = q by omega, updI_eq, ho2 (by omega), show q - 1 = q + -1 by omega]; exact ⟨rfl, by rw [show q + -1 = q - 1 by omega, ← ho2 (by omega)]; exact c_58⟩); (rw [updI_ne (by omega)]; exact hhi i (by omega) b))
      refine Wp.heq (σ' := gUr (gUp (gUp (gUp (gUp (gUp (gUp (gUp σ 16 (σ 15 6) x) 17 (σ 15 6) f) 18 (σ 15 6) p) 19 (σ 15 6) a) 20 (σ 15 6) u) 21 (σ 15 6) t) 15 6 (σ 15 6 + 1)) 22 (σ 22)) (gUr_id (σ := gUp (gUp (gUp (gUp (gUp (gUp (gUp σ 16 (σ 15 6) x) 17 (σ 15 6) f) 18 (σ 15 6) p) 19 (σ 15 6) a) 20 (σ 15 6) u) 21 (σ 15 6) t) 15 6 (σ 15 6 + 1)) (k := 22)).symm ?_
      exact hl_38 _ (σ 15 6) (σ 22) rfl (by omega) (by omega) (by intro i a b; rfl) (by intro i a b; omega)
    · skip
      refine w_iload (pc' := 33) (by rfl) dX7_add_31 rfl ?_
      refine v_ireturn rfl dX7_add_33 ?_
      first
        | (exfalso; omega)
        | (refine ⟨rfl, _, q, ⟨h0, h1, fun i a b => ?_, updI_eq, fun i a b => ?_⟩, fun i a b => (hhi i a b).2, fun h => ?_, rfl⟩
           · rw [updI_ne (by omega)]; exact hlo i a b
           · rw [updI_ne (by omega)]; exact (hhi i a b).1
           · first
             | (exfalso; omega)
             | (rw [← ho2 h]; assumption))
theorem k_ownFull {σ : gH} (hI : Inv σ) (x f p a u t : Int) (hlt : ¬ σ 15 6 < 200) : Mt mX7_add 2 [gR 14, gI x, gI f, gI p, gI a, gI u, gI t] σ (rE (gI (-5)) σ) := by
  refine Mt.walk (ls := [gR 14, gI x, gI f, gI p, gI a, gI u, gI t, gX 1, gX 1]) pn_X7 rfl (fun _ _ h => by cases h.1) (Nat.le_of_ble_eq_true rfl) rfl ?_
  have hn := hI.f.own.2.1
  have hn2 := hI.f.own.2.2.1
  have hs := hI.f.own.2.2.1
  refine w_aload_n (pc' := 1) (i := 0) (by rfl) (by rfl) dX7_add_0 rfl ?_
  refine w_getS (pc' := 4) (q := 15) fg_X7_14 kd_14 sf_X7_0 gr_14_0 dX7_add_1 rfl ?_
  refine w_iload_n (pc' := 5) (i := 1) (by rfl) (by rfl) dX7_add_4 rfl ?_
  refine w_iload_n (pc' := 6) (i := 2) (by rfl) (by rfl) dX7_add_5 rfl ?_
  refine w_iload_n (pc' := 7) (i := 3) (by rfl) (by rfl) dX7_add_6 rfl ?_
  refine w_iload (pc' := 9) (by rfl) dX7_add_7 rfl ?_
  refine w_iload (pc' := 11) (by rfl) dX7_add_9 rfl ?_
  refine w_iload (pc' := 13) (by rfl) dX7_add_11 rfl ?_
  refine v_callVE (pc' := 16) (st' := [gI (-5)]) (d' := 0) (av := [gI x, gI f, gI p, gI a, gI u, gI t]) mi_mX9_add lk_X7_75 rfl ci_X9 kd_15 rfl (Nat.le_of_ble_eq_true rfl) (Nat.le_of_ble_eq_true rfl) dX7_add_13 rfl rfl (sp15_addF σ x f p a u t (by omega)) ?_
  refine w_istore (pc' := 18) (ls' := [gR 14, gI x, gI f, gI p, gI a, gI u, gI t, gI (-5), gX 1]) (by decide) (by rfl) dX7_add_16 rfl ?_
  refine w_iload (pc' := 20) (by rfl) dX7_add_18 rfl ?_
  refine w_if_lt (pc' := 23) (t := 31) dX7_add_20 rfl rfl (fun c_20 => ?_) (fun c_20 => ?_)
  · skip
    refine w_iload (pc' := 33) (by rfl) dX7_add_31 rfl ?_
    refine v_ireturn rfl dX7_add_33 ?_
    first | (exfalso; omega) | exact ⟨rfl, rfl⟩
  · skip
    exact absurd c_20 (by decide)
