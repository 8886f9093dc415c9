/-! the law from its entry (written by wip/whole/gen/mod_start.py) -/
/-- the two systems agree, call by call -/
def Agree (Inv : gH → Prop) : Prop :=
  (∀ a0 : Int, gi32 a0 → ∀ a1 : Int, gi32 a1 → ∀ a2 : Int, gi32 a2 → ∀ a3 : Int, gi32 a3 → ∀ a4 : Int, gi32 a4 → CI Inv mX11_feed mX12_feed [gI a0, gI a1, gI a2, gI a3, gI a4]) ∧
  (∀ a0 : Int, gi32 a0 → CI Inv mX11_end mX12_end [gI a0]) ∧
  (∀ a0 : Int, gi32 a0 → CI Inv mX11_next mX12_next [gI a0]) ∧
  (∀ a0 : Int, gi32 a0 → CI Inv mX11_party mX12_party [gI a0]) ∧
  (∀ a0 : Int, gi32 a0 → ∀ a1 : Int, gi32 a1 → ∀ a2 : Int, gi32 a2 → ∀ a3 : Int, gi32 a3 → ∀ a4 : Int, gi32 a4 → CI Inv mX11_owns mX12_owns [gI a0, gI a1, gI a2, gI a3, gI a4]) ∧
  (∀ a0 : Int, gi32 a0 → ∀ a1 : Int, gi32 a1 → ∀ a2 : Int, gi32 a2 → ∀ a3 : Int, gi32 a3 → CI Inv mX11_kin mX12_kin [gI a0, gI a1, gI a2, gI a3]) ∧
  (∀ a0 : Int, gi32 a0 → ∀ a1 : Int, gi32 a1 → ∀ a2 : Int, gi32 a2 → ∀ a3 : Int, gi32 a3 → CI Inv mX11_post mX12_post [gI a0, gI a1, gI a2, gI a3]) ∧
  (∀ a0 : Int, gi32 a0 → ∀ a1 : Int, gi32 a1 → ∀ a2 : Int, gi32 a2 → ∀ a3 : Int, gi32 a3 → ∀ a4 : Int, gi32 a4 → (a4 = 0 ∨ a4 = 1) → ∀ a5 : Int, gi32 a5 → ∀ a6 : Int, gi32 a6 → CI Inv mX11_gift mX12_gift [gI a0, gI a1, gI a2, gI a3, gI a4, gI a5, gI a6]) ∧
  (∀ a0 : Int, gi32 a0 → ∀ a1 : Int, gi32 a1 → ∀ a2 : Int, gi32 a2 → CI Inv mX11_worth mX12_worth [gI a0, gI a1, gI a2]) ∧
  (∀ a0 : Int, gi32 a0 → ∀ a1 : Int, gi32 a1 → CI Inv mX11_back mX12_back [gI a0, gI a1]) ∧
  (∀ a0 : Int, gi32 a0 → CI Inv mX11_tell mX12_tell [gI a0]) ∧
  (∀ a0 : Int, gi32 a0 → CI Inv mX11_law mX12_law [gI a0]) ∧
  (CI Inv mX11_fault mX12_fault []) ∧
  (∀ a0 : Int, gi32 a0 → ∀ a1 : Int, gi32 a1 → ∀ a2 : Int, gi32 a2 → ∀ a3 : Int, gi32 a3 → CJ Inv mX11_part mX12_part [gI a0, gI a1, gI a2, gI a3]) ∧
  (∀ a0 : Int, gi32 a0 → ∀ a1 : Int, gi32 a1 → ∀ a2 : Int, gi32 a2 → ∀ a3 : Int, gi32 a3 → CI Inv mX11_chain mX12_chain [gI a0, gI a1, gI a2, gI a3]) ∧
  (∀ a0 : Int, gi32 a0 → CX Inv (fun y => gI y) mL_octet [(0, 9, 12, 13)] mX12_octet [gI a0]) ∧
  (∀ a0 : Int, gi32 a0 → ∀ a1 : Int, gi32 a1 → ∀ a2 : Int, gi32 a2 → CI Inv mX11_head mX12_head [gI a0, gI a1, gI a2]) ∧
  (∀ a0 : Int, gi32 a0 → ∀ a1 : Int, gi32 a1 → ∀ a2 : Int, gi32 a2 → ∀ a3 : Int, gi32 a3 → CI Inv mX11_degree mX12_degree [gI a0, gI a1, gI a2, gI a3]) ∧
  (∀ a0 : Int, gi32 a0 → ∀ a1 : Int, gi32 a1 → ∀ a2 : Int, gi32 a2 → CX Inv (fun y => gI y) mL_judged [(0, 12, 15, 13)] mX12_judged [gI a0, gI a1, gI a2]) ∧
  (∀ a0 : Int, gi32 a0 → CI Inv mX11_member mX12_member [gI a0]) ∧
  (∀ a0 : Int, gi32 a0 → ∀ a1 : Int, gi32 a1 → CI Inv mX11_matter mX12_matter [gI a0, gI a1]) ∧
  (∀ a0 : Int, gi32 a0 → ∀ a1 : Int, gi32 a1 → ∀ a2 : Int, gi32 a2 → CI Inv mX11_sits mX12_sits [gI a0, gI a1, gI a2]) ∧
  (∀ a0 : Int, gi32 a0 → ∀ a1 : Int, gi32 a1 → CI Inv mX11_quorum mX12_quorum [gI a0, gI a1]) ∧
  (∀ a0 : Int, gi32 a0 → ∀ a1 : Int, gi32 a1 → ∀ a2 : Int, gi32 a2 → CI Inv mX11_entry mX12_entry [gI a0, gI a1, gI a2]) ∧
  (∀ a0 : Int, gi32 a0 → CI Inv mX11_joined mX12_joined [gI a0]) ∧
  (∀ a0 : Int, gi32 a0 → ∀ a1 : Int, gi32 a1 → ∀ a2 : Int, gi32 a2 → CX Inv (fun y => gI y) mL_entered [(0, 12, 15, 13)] mX12_entered [gI a0, gI a1, gI a2]) ∧
  (∀ a0 : Int, gi32 a0 → ∀ a1 : Int, gi32 a1 → ∀ a2 : Int, gi32 a2 → (a2 = 0 ∨ a2 = 1) → CI Inv mX11_vote mX12_vote [gI a0, gI a1, gI a2]) ∧
  (∀ a0 : Int, gi32 a0 → ∀ a1 : Int, gi32 a1 → CI Inv mX11_links mX12_links [gI a0, gI a1]) ∧
  (∀ a0 : Int, gi32 a0 → ∀ a1 : Int, gi32 a1 → CX Inv (fun y => gJ y) mL_chance [(0, 9, 12, 13)] mX12_chance [gI a0, gI a1]) ∧
  (∀ a0 : Int, gi32 a0 → ∀ a1 : Int, gi32 a1 → ∀ a2 : Int, gi32 a2 → CI Inv mX11_asked mX12_asked [gI a0, gI a1, gI a2]) ∧
  (∀ a0 : Int, gi32 a0 → CI Inv mX11_count mX12_count [gI a0])
set_option maxRecDepth 100000 in
theorem law_loop (Inv : gH → Prop) (hA : Agree Inv) {xs : List Int} (hxs : ∀ j, gi32 (xs.getD j 0)) (hL : xs.length ≤ 4096) : ∀ (n : Nat) (i : Int) (σ : gH), 0 ≤ i → i ≤ xs.length → (xs.length : Int) < i + 8 * n + 8 → gGr σ → Inv σ → gWp (mLaw xs) 100 n (6 * n) (fun v _ _ => v = gI 1) gL σ 23 [gX 2, gR 0, gR 133, gR 208, gI i, gX 1, gX 1, gX 1] [] := by
  intro n
  induction n with
  | zero =>
    intro i σ h0 h1 h2 hg hI
    refine wg_iload (pc' := 25) (by rfl) dL_law_23 rfl ?_
    refine wg_aloadX_n (n := 2) (pc' := 26) (i := 0) (by rfl) (by decide) (by rfl) dL_law_25 rfl ?_
    refine wg_slen (pc' := 27) (xs := xs) rfl ⟨by omega, by omega⟩ dL_law_26 rfl ?_
    refine wg_bipush (pc' := 29) (by decide) (by decide) dL_law_27 rfl ?_
    refine wg_isub (pc' := 30) dL_law_29 rfl ?_
    rw [w32_id (show gi32 ((xs.length : Int) - 8) from ⟨by omega, by omega⟩)]
    refine wg_icmp_gt (pc' := 33) (t := 1709) dL_law_30 rfl rfl (fun _ => ?_) (fun c => absurd (show (xs.length : Int) - 8 < i by omega) c)
    refine wg_iconst (pc' := 1710) (by decide) dL_law_1709 rfl ?_
    exact wg_zreturn rfl (Or.inr rfl) dL_law_1710 rfl
  | succ n ih =>
    intro i σ h0 h1 h2 hg hI
    refine wg_iload (pc' := 25) (by rfl) dL_law_23 rfl ?_
    refine wg_aloadX_n (n := 2) (pc' := 26) (i := 0) (by rfl) (by decide) (by rfl) dL_law_25 rfl ?_
    refine wg_slen (pc' := 27) (xs := xs) rfl ⟨by omega, by omega⟩ dL_law_26 rfl ?_
    refine wg_bipush (pc' := 29) (by decide) (by decide) dL_law_27 rfl ?_
    refine wg_isub (pc' := 30) dL_law_29 rfl ?_
    rw [w32_id (show gi32 ((xs.length : Int) - 8) from ⟨by omega, by omega⟩)]
    refine wg_icmp_gt (pc' := 33) (t := 1709) dL_law_30 rfl rfl (fun _ => ?_) (fun c_30 => ?_)
    · refine wg_iconst (pc' := 1710) (by decide) dL_law_1709 rfl ?_
      exact wg_zreturn rfl (Or.inr rfl) dL_law_1710 rfl
    have h8 : i + 8 ≤ xs.length := by omega
    have hend : ∀ σ2, gGr σ2 → Inv σ2 → ∀ u1 u2 u3, gWp (mLaw xs) 100 n (6 * n) (fun v _ _ => v = gI 1) gL σ2 1703 [gX 2, gR 0, gR 133, gR 208, gI i, u1, u2, u3] [] := by
      intro σ2 hg2 hI2 u1 u2 u3
      refine gWp.lose (ls' := [gX 2, gR 0, gR 133, gR 208, gI i, gX 1, gX 1, gX 1]) rfl (fun j v hj => ?_) ?_
      · match j, hj with
        | 0, hj => exact Or.inr hj
        | 1, hj => exact Or.inr hj
        | 2, hj => exact Or.inr hj
        | 3, hj => exact Or.inr hj
        | 4, hj => exact Or.inr hj
        | 5, hj => exact Or.inl (Option.some.inj hj).symm
        | 6, hj => exact Or.inl (Option.some.inj hj).symm
        | 7, hj => exact Or.inl (Option.some.inj hj).symm
        | j + 8, hj => simp at hj
      refine t_iinc (x := i) (pc' := 1706) (ls' := [gX 2, gR 0, gR 133, gR 208, gI (i + 8), gX 1, gX 1, gX 1]) ⟨by omega, by omega⟩ (Nat.le_of_ble_eq_true rfl) (by rfl) (by rfl) dL_law_1703 rfl ?_
      refine wg_goto (pc' := 23) dL_law_1706 rfl ?_
      exact ih (i + 8) σ2 (by omega) (by omega) (by omega) hg2 hI2
    refine wg_aloadX_n (n := 2) (pc' := 34) (i := 0) (by rfl) (by decide) (by rfl) dL_law_33 rfl ?_
    refine wg_iload (pc' := 36) (by rfl) dL_law_34 rfl ?_
    refine wg_sld (pc' := 37) (xs := xs) rfl h0 (by omega) dL_law_36 rfl (fun _ => ?_)
    refine wg_bipush (pc' := 39) (by decide) (by decide) dL_law_37 rfl ?_
    refine wg_iand (pc' := 40) dL_law_39 rfl ?_
    have hb := gband31 (xs.getD i.toNat 0)
    generalize gB32 (fun a b => a &&& b) (xs.getD i.toNat 0) 31 = z at hb ⊢
    refine gWp.budget (mc := 1 + n) (ms := 6 + 6 * n) (by omega) (by omega) ?_
    by_cases hz : z = 31
    · subst hz
      refine wg_tableOut (pc' := 1703) dL_law_40 (Or.inr (by decide)) rfl ?_
      exact gWp.budget (by omega) (by omega) (hend σ hg hI _ _ _)
    rcases (show z = 0 ∨ z = 1 ∨ z = 2 ∨ z = 3 ∨ z = 4 ∨ z = 5 ∨ z = 6 ∨ z = 7 ∨ z = 8 ∨ z = 9 ∨ z = 10 ∨ z = 11 ∨ z = 12 ∨ z = 13 ∨ z = 14 ∨ z = 15 ∨ z = 16 ∨ z = 17 ∨ z = 18 ∨ z = 19 ∨ z = 20 ∨ z = 21 ∨ z = 22 ∨ z = 23 ∨ z = 24 ∨ z = 25 ∨ z = 26 ∨ z = 27 ∨ z = 28 ∨ z = 29 ∨ z = 30 by omega) with rfl | rfl | rfl | rfl | rfl | rfl | rfl | rfl | rfl | rfl | rfl | rfl | rfl | rfl | rfl | rfl | rfl | rfl | rfl | rfl | rfl | rfl | rfl | rfl | rfl | rfl | rfl | rfl | rfl | rfl | rfl
    · exact wg_tableIn (pc' := 180) (off := 140) dL_law_40 (by decide) (by decide) rfl rfl (law_0 Inv hxs h0 h8 hL hg hI hA.1 hend)
    · exact wg_tableIn (pc' := 253) (off := 213) dL_law_40 (by decide) (by decide) rfl rfl (law_1 Inv hxs h0 h8 hL hg hI hA.2.1 hend)
    · exact wg_tableIn (pc' := 278) (off := 238) dL_law_40 (by decide) (by decide) rfl rfl (law_2 Inv hxs h0 h8 hL hg hI hA.2.2.1 hend)
    · exact wg_tableIn (pc' := 303) (off := 263) dL_law_40 (by decide) (by decide) rfl rfl (law_3 Inv hxs h0 h8 hL hg hI hA.2.2.2.1 hend)
    · exact wg_tableIn (pc' := 328) (off := 288) dL_law_40 (by decide) (by decide) rfl rfl (law_4 Inv hxs h0 h8 hL hg hI hA.2.2.2.2.1 hend)
    · exact wg_tableIn (pc' := 401) (off := 361) dL_law_40 (by decide) (by decide) rfl rfl (law_5 Inv hxs h0 h8 hL hg hI hA.2.2.2.2.2.1 hend)
    · exact wg_tableIn (pc' := 462) (off := 422) dL_law_40 (by decide) (by decide) rfl rfl (law_6 Inv hxs h0 h8 hL hg hI hA.2.2.2.2.2.2.1 hend)
    · exact wg_tableIn (pc' := 523) (off := 483) dL_law_40 (by decide) (by decide) rfl rfl (law_7 Inv hxs h0 h8 hL hg hI hA.2.2.2.2.2.2.2.1 hend)
    · exact wg_tableIn (pc' := 640) (off := 600) dL_law_40 (by decide) (by decide) rfl rfl (law_8 Inv hxs h0 h8 hL hg hI hA.2.2.2.2.2.2.2.2.1 hend)
    · exact wg_tableIn (pc' := 689) (off := 649) dL_law_40 (by decide) (by decide) rfl rfl (law_9 Inv hxs h0 h8 hL hg hI hA.2.2.2.2.2.2.2.2.2.1 hend)
    · exact wg_tableIn (pc' := 726) (off := 686) dL_law_40 (by decide) (by decide) rfl rfl (law_10 Inv hxs h0 h8 hL hg hI hA.2.2.2.2.2.2.2.2.2.2.1 hend)
    · exact wg_tableIn (pc' := 751) (off := 711) dL_law_40 (by decide) (by decide) rfl rfl (law_11 Inv hxs h0 h8 hL hg hI hA.2.2.2.2.2.2.2.2.2.2.2.1 hend)
    · exact wg_tableIn (pc' := 776) (off := 736) dL_law_40 (by decide) (by decide) rfl rfl (law_12 Inv hxs h0 h8 hL hg hI hA.2.2.2.2.2.2.2.2.2.2.2.2.1 hend)
    · exact wg_tableIn (pc' := 789) (off := 749) dL_law_40 (by decide) (by decide) rfl rfl (law_13 Inv hxs h0 h8 hL hg hI hA.2.2.2.2.2.2.2.2.2.2.2.2.2.1 hend)
    · exact wg_tableIn (pc' := 851) (off := 811) dL_law_40 (by decide) (by decide) rfl rfl (law_14 Inv hxs h0 h8 hL hg hI hA.2.2.2.2.2.2.2.2.2.2.2.2.2.2.1 hend)
    · exact wg_tableIn (pc' := 912) (off := 872) dL_law_40 (by decide) (by decide) rfl rfl (law_15 Inv hxs h0 h8 hL hg hI hA.2.2.2.2.2.2.2.2.2.2.2.2.2.2.2.1 hend)
    · exact wg_tableIn (pc' := 968) (off := 928) dL_law_40 (by decide) (by decide) rfl rfl (law_16 Inv hxs h0 h8 hL hg hI hA.2.2.2.2.2.2.2.2.2.2.2.2.2.2.2.2.1 hend)
    · exact wg_tableIn (pc' := 1017) (off := 977) dL_law_40 (by decide) (by decide) rfl rfl (law_17 Inv hxs h0 h8 hL hg hI hA.2.2.2.2.2.2.2.2.2.2.2.2.2.2.2.2.2.1 hend)
    · exact wg_tableIn (pc' := 1078) (off := 1038) dL_law_40 (by decide) (by decide) rfl rfl (law_18 Inv hxs h0 h8 hL hg hI hA.2.2.2.2.2.2.2.2.2.2.2.2.2.2.2.2.2.2.1 hend)
    · exact wg_tableIn (pc' := 1158) (off := 1118) dL_law_40 (by decide) (by decide) rfl rfl (law_19 Inv hxs h0 h8 hL hg hI hA.2.2.2.2.2.2.2.2.2.2.2.2.2.2.2.2.2.2.2.1 hend)
    · exact wg_tableIn (pc' := 1183) (off := 1143) dL_law_40 (by decide) (by decide) rfl rfl (law_20 Inv hxs h0 h8 hL hg hI hA.2.2.2.2.2.2.2.2.2.2.2.2.2.2.2.2.2.2.2.2.1 hend)
    · exact wg_tableIn (pc' := 1220) (off := 1180) dL_law_40 (by decide) (by decide) rfl rfl (law_21 Inv hxs h0 h8 hL hg hI hA.2.2.2.2.2.2.2.2.2.2.2.2.2.2.2.2.2.2.2.2.2.1 hend)
    · exact wg_tableIn (pc' := 1269) (off := 1229) dL_law_40 (by decide) (by decide) rfl rfl (law_22 Inv hxs h0 h8 hL hg hI hA.2.2.2.2.2.2.2.2.2.2.2.2.2.2.2.2.2.2.2.2.2.2.1 hend)
    · exact wg_tableIn (pc' := 1306) (off := 1266) dL_law_40 (by decide) (by decide) rfl rfl (law_23 Inv hxs h0 h8 hL hg hI hA.2.2.2.2.2.2.2.2.2.2.2.2.2.2.2.2.2.2.2.2.2.2.2.1 hend)
    · exact wg_tableIn (pc' := 1355) (off := 1315) dL_law_40 (by decide) (by decide) rfl rfl (law_24 Inv hxs h0 h8 hL hg hI hA.2.2.2.2.2.2.2.2.2.2.2.2.2.2.2.2.2.2.2.2.2.2.2.2.1 hend)
    · exact wg_tableIn (pc' := 1380) (off := 1340) dL_law_40 (by decide) (by decide) rfl rfl (law_25 Inv hxs h0 h8 hL hg hI hA.2.2.2.2.2.2.2.2.2.2.2.2.2.2.2.2.2.2.2.2.2.2.2.2.2.1 hend)
    · exact wg_tableIn (pc' := 1460) (off := 1420) dL_law_40 (by decide) (by decide) rfl rfl (law_26 Inv hxs h0 h8 hL hg hI hA.2.2.2.2.2.2.2.2.2.2.2.2.2.2.2.2.2.2.2.2.2.2.2.2.2.2.1 hend)
    · exact wg_tableIn (pc' := 1525) (off := 1485) dL_law_40 (by decide) (by decide) rfl rfl (law_27 Inv hxs h0 h8 hL hg hI hA.2.2.2.2.2.2.2.2.2.2.2.2.2.2.2.2.2.2.2.2.2.2.2.2.2.2.2.1 hend)
    · exact wg_tableIn (pc' := 1562) (off := 1522) dL_law_40 (by decide) (by decide) rfl rfl (law_28 Inv hxs h0 h8 hL hg hI hA.2.2.2.2.2.2.2.2.2.2.2.2.2.2.2.2.2.2.2.2.2.2.2.2.2.2.2.2.1 hend)
    · exact wg_tableIn (pc' := 1629) (off := 1589) dL_law_40 (by decide) (by decide) rfl rfl (law_29 Inv hxs h0 h8 hL hg hI hA.2.2.2.2.2.2.2.2.2.2.2.2.2.2.2.2.2.2.2.2.2.2.2.2.2.2.2.2.2.1 hend)
    · exact wg_tableIn (pc' := 1678) (off := 1638) dL_law_40 (by decide) (by decide) rfl rfl (law_30 Inv hxs h0 h8 hL hg hI hA.2.2.2.2.2.2.2.2.2.2.2.2.2.2.2.2.2.2.2.2.2.2.2.2.2.2.2.2.2.2 hend)
theorem ex_cast : Cond.castable gEx gEx ∈ tables_1 := (List.mem_append_right _ (List.mem_append_right _ (List.mem_append_right _ (List.mem_append_right _ (List.mem_append_right _ (List.mem_append_left _ (List.mem_of_getElem? (i := 219) (by decide +kernel))))))))
theorem ex_cl : Cond.classLink RL 13 gEx ∈ gG := gG_6 212 (by decide +kernel) (by decide +kernel)
theorem pn_L : plainName RL = true := by decide +kernel
set_option maxRecDepth 100000 in
theorem wr_octet {σ : gH} {a0 k r : Int} {J0 : gH → Prop} (hk : k = 0 ∨ k = 1) (hM : gMx mX11_octet 30 1 6 [gR 0, gI a0] gL σ (fun v L' σ1 => (k = 0 ∧ L' = gL ∧ v = gI r ∧ J0 σ1)) (fun L' σ1 => k = 1 ∧ L' = gL ∧ J0 σ1)) :
    gMtW mL_octet [(0, 9, 12, 13)] 31 1 6 [gR 0, gI a0, gR 208] gL σ (fun v L' σ1 => L' = gL ∧ v = gI k ∧ (k = 0 → σ1 208 0 = r) ∧ ∃ σ0, J0 σ0 ∧ (σ1 = σ0 ∨ σ1 = gUp σ0 208 0 r)) := by
  refine gMtW.of pn_L (by decide +kernel) rfl (fun k L σ h => by cases h.2.1) (Nat.le_of_ble_eq_true rfl) ?_
  show gWp _ _ _ _ _ _ _ _ [gR 0, gI a0, gR 208, gX 1] []
  refine wg_aload_n (pc' := 1) (i := 2) (by rfl) (by rfl) dL_octet_0 rfl ?_
  refine wg_iconst (pc' := 2) (by decide) dL_octet_1 rfl ?_
  refine wg_aload_n (pc' := 3) (i := 0) (by rfl) (by rfl) dL_octet_2 rfl ?_
  refine wg_iload_n (pc' := 4) (i := 1) (by rfl) (by rfl) dL_octet_3 rfl ?_
  refine wg_callVX (mc := 0) (ms := 0) (n := 1) (av := [gI a0]) (s0 := 0) (e0 := 9) (h0 := 12) (ct := 13) (fi := 3) (hp' := 13) mi_mX11_octet lk_L_7 rfl ci_X11 kd_0 rfl (Nat.le_of_ble_eq_true rfl) (by decide) dL_octet_4 (by decide +kernel) (by decide) (by decide) ex_cl ex_cast (Or.inl ⟨_, dL_octet_12, rfl, rfl⟩) (by decide) hM (fun v L' σ1 q => ?_) (fun L' σ1 q => ?_)
  · obtain ⟨rfl, rfl, rfl, hJ⟩ := q
    show gWp _ _ _ _ _ _ _ 7 [gR 0, gI a0, gR 208, gX 1] [gI r, gI 0, gR 208]
    refine wg_i2l (pc' := 8) dL_octet_7 rfl ?_
    refine wg_last (pc' := 9) kd_208 (by decide) (by decide) dL_octet_8 rfl ?_
    refine wg_goto (pc' := 15) dL_octet_9 rfl ?_
    refine wg_iconst (pc' := 16) (by decide) dL_octet_15 rfl ?_
    exact wg_ireturn rfl dL_octet_16 ⟨rfl, rfl, fun _ => by simp [gUp, gUr], σ1, hJ, Or.inr rfl⟩
  · obtain ⟨rfl, rfl, hJ⟩ := q
    refine wg_iconst (pc' := 14) (by decide) dL_octet_13 rfl ?_
    exact wg_ireturn rfl dL_octet_14 ⟨rfl, rfl, fun h => absurd h (by decide), σ1, hJ, Or.inl rfl⟩
set_option maxRecDepth 100000 in
theorem wr_judged {σ : gH} {a0 a1 a2 k r : Int} {J0 : gH → Prop} (hk : k = 0 ∨ k = 1) (hM : gMx mX11_judged 30 1 6 [gR 0, gI a0, gI a1, gI a2] gL σ (fun v L' σ1 => (k = 0 ∧ L' = gL ∧ v = gI r ∧ J0 σ1)) (fun L' σ1 => k = 1 ∧ L' = gL ∧ J0 σ1)) :
    gMtW mL_judged [(0, 12, 15, 13)] 31 1 6 [gR 0, gI a0, gI a1, gI a2, gR 208] gL σ (fun v L' σ1 => L' = gL ∧ v = gI k ∧ (k = 0 → σ1 208 0 = r) ∧ ∃ σ0, J0 σ0 ∧ (σ1 = σ0 ∨ σ1 = gUp σ0 208 0 r)) := by
  refine gMtW.of pn_L (by decide +kernel) rfl (fun k L σ h => by cases h.2.1) (Nat.le_of_ble_eq_true rfl) ?_
  show gWp _ _ _ _ _ _ _ _ [gR 0, gI a0, gI a1, gI a2, gR 208, gX 1] []
  refine wg_aload (pc' := 2) (by rfl) dL_judged_0 rfl ?_
  refine wg_iconst (pc' := 3) (by decide) dL_judged_2 rfl ?_
  refine wg_aload_n (pc' := 4) (i := 0) (by rfl) (by rfl) dL_judged_3 rfl ?_
  refine wg_iload_n (pc' := 5) (i := 1) (by rfl) (by rfl) dL_judged_4 rfl ?_
  refine wg_iload_n (pc' := 6) (i := 2) (by rfl) (by rfl) dL_judged_5 rfl ?_
  refine wg_iload_n (pc' := 7) (i := 3) (by rfl) (by rfl) dL_judged_6 rfl ?_
  refine wg_callVX (mc := 0) (ms := 0) (n := 3) (av := [gI a0, gI a1, gI a2]) (s0 := 0) (e0 := 12) (h0 := 15) (ct := 13) (fi := 5) (hp' := 17) mi_mX11_judged lk_L_15 rfl ci_X11 kd_0 rfl (Nat.le_of_ble_eq_true rfl) (by decide) dL_judged_7 (by decide +kernel) (by decide) (by decide) ex_cl ex_cast (Or.inr ⟨dL_judged_15, rfl⟩) (by decide) hM (fun v L' σ1 q => ?_) (fun L' σ1 q => ?_)
  · obtain ⟨rfl, rfl, rfl, hJ⟩ := q
    show gWp _ _ _ _ _ _ _ 10 [gR 0, gI a0, gI a1, gI a2, gR 208, gX 1] [gI r, gI 0, gR 208]
    refine wg_i2l (pc' := 11) dL_judged_10 rfl ?_
    refine wg_last (pc' := 12) kd_208 (by decide) (by decide) dL_judged_11 rfl ?_
    refine wg_goto (pc' := 19) dL_judged_12 rfl ?_
    refine wg_iconst (pc' := 20) (by decide) dL_judged_19 rfl ?_
    exact wg_ireturn rfl dL_judged_20 ⟨rfl, rfl, fun _ => by simp [gUp, gUr], σ1, hJ, Or.inr rfl⟩
  · obtain ⟨rfl, rfl, hJ⟩ := q
    refine wg_iconst (pc' := 18) (by decide) dL_judged_17 rfl ?_
    exact wg_ireturn rfl dL_judged_18 ⟨rfl, rfl, fun h => absurd h (by decide), σ1, hJ, Or.inl rfl⟩
set_option maxRecDepth 100000 in
theorem wr_entered {σ : gH} {a0 a1 a2 k r : Int} {J0 : gH → Prop} (hk : k = 0 ∨ k = 1) (hM : gMx mX11_entered 30 1 6 [gR 0, gI a0, gI a1, gI a2] gL σ (fun v L' σ1 => (k = 0 ∧ L' = gL ∧ v = gI r ∧ J0 σ1)) (fun L' σ1 => k = 1 ∧ L' = gL ∧ J0 σ1)) :
    gMtW mL_entered [(0, 12, 15, 13)] 31 1 6 [gR 0, gI a0, gI a1, gI a2, gR 208] gL σ (fun v L' σ1 => L' = gL ∧ v = gI k ∧ (k = 0 → σ1 208 0 = r) ∧ ∃ σ0, J0 σ0 ∧ (σ1 = σ0 ∨ σ1 = gUp σ0 208 0 r)) := by
  refine gMtW.of pn_L (by decide +kernel) rfl (fun k L σ h => by cases h.2.1) (Nat.le_of_ble_eq_true rfl) ?_
  show gWp _ _ _ _ _ _ _ _ [gR 0, gI a0, gI a1, gI a2, gR 208, gX 1] []
  refine wg_aload (pc' := 2) (by rfl) dL_entered_0 rfl ?_
  refine wg_iconst (pc' := 3) (by decide) dL_entered_2 rfl ?_
  refine wg_aload_n (pc' := 4) (i := 0) (by rfl) (by rfl) dL_entered_3 rfl ?_
  refine wg_iload_n (pc' := 5) (i := 1) (by rfl) (by rfl) dL_entered_4 rfl ?_
  refine wg_iload_n (pc' := 6) (i := 2) (by rfl) (by rfl) dL_entered_5 rfl ?_
  refine wg_iload_n (pc' := 7) (i := 3) (by rfl) (by rfl) dL_entered_6 rfl ?_
  refine wg_callVX (mc := 0) (ms := 0) (n := 3) (av := [gI a0, gI a1, gI a2]) (s0 := 0) (e0 := 12) (h0 := 15) (ct := 13) (fi := 5) (hp' := 17) mi_mX11_entered lk_L_19 rfl ci_X11 kd_0 rfl (Nat.le_of_ble_eq_true rfl) (by decide) dL_entered_7 (by decide +kernel) (by decide) (by decide) ex_cl ex_cast (Or.inr ⟨dL_entered_15, rfl⟩) (by decide) hM (fun v L' σ1 q => ?_) (fun L' σ1 q => ?_)
  · obtain ⟨rfl, rfl, rfl, hJ⟩ := q
    show gWp _ _ _ _ _ _ _ 10 [gR 0, gI a0, gI a1, gI a2, gR 208, gX 1] [gI r, gI 0, gR 208]
    refine wg_i2l (pc' := 11) dL_entered_10 rfl ?_
    refine wg_last (pc' := 12) kd_208 (by decide) (by decide) dL_entered_11 rfl ?_
    refine wg_goto (pc' := 19) dL_entered_12 rfl ?_
    refine wg_iconst (pc' := 20) (by decide) dL_entered_19 rfl ?_
    exact wg_ireturn rfl dL_entered_20 ⟨rfl, rfl, fun _ => by simp [gUp, gUr], σ1, hJ, Or.inr rfl⟩
  · obtain ⟨rfl, rfl, hJ⟩ := q
    refine wg_iconst (pc' := 18) (by decide) dL_entered_17 rfl ?_
    exact wg_ireturn rfl dL_entered_18 ⟨rfl, rfl, fun h => absurd h (by decide), σ1, hJ, Or.inl rfl⟩
set_option maxRecDepth 100000 in
theorem wr_chance {σ : gH} {a0 a1 k r : Int} {J0 : gH → Prop} (hk : k = 0 ∨ k = 1) (hM : gMx mX11_chance 30 1 6 [gR 0, gI a0, gI a1] gL σ (fun v L' σ1 => (k = 0 ∧ L' = gL ∧ v = gJ r ∧ J0 σ1)) (fun L' σ1 => k = 1 ∧ L' = gL ∧ J0 σ1)) :
    gMtW mL_chance [(0, 9, 12, 13)] 31 1 6 [gR 0, gI a0, gI a1, gR 208] gL σ (fun v L' σ1 => L' = gL ∧ v = gI k ∧ (k = 0 → σ1 208 0 = r) ∧ ∃ σ0, J0 σ0 ∧ (σ1 = σ0 ∨ σ1 = gUp σ0 208 0 r)) := by
  refine gMtW.of pn_L (by decide +kernel) rfl (fun k L σ h => by cases h.2.1) (Nat.le_of_ble_eq_true rfl) ?_
  show gWp _ _ _ _ _ _ _ _ [gR 0, gI a0, gI a1, gR 208, gX 1] []
  refine wg_aload_n (pc' := 1) (i := 3) (by rfl) (by rfl) dL_chance_0 rfl ?_
  refine wg_iconst (pc' := 2) (by decide) dL_chance_1 rfl ?_
  refine wg_aload_n (pc' := 3) (i := 0) (by rfl) (by rfl) dL_chance_2 rfl ?_
  refine wg_iload_n (pc' := 4) (i := 1) (by rfl) (by rfl) dL_chance_3 rfl ?_
  refine wg_iload_n (pc' := 5) (i := 2) (by rfl) (by rfl) dL_chance_4 rfl ?_
  refine wg_callVX (mc := 0) (ms := 0) (n := 2) (av := [gI a0, gI a1]) (s0 := 0) (e0 := 9) (h0 := 12) (ct := 13) (fi := 4) (hp' := 14) mi_mX11_chance lk_L_22 rfl ci_X11 kd_0 rfl (Nat.le_of_ble_eq_true rfl) (by decide) dL_chance_5 (by decide +kernel) (by decide) (by decide) ex_cl ex_cast (Or.inr ⟨dL_chance_12, rfl⟩) (by decide) hM (fun v L' σ1 q => ?_) (fun L' σ1 q => ?_)
  · obtain ⟨rfl, rfl, rfl, hJ⟩ := q
    show gWp _ _ _ _ _ _ _ 8 [gR 0, gI a0, gI a1, gR 208, gX 1] [gJ r, gI 0, gR 208]
    refine wg_last (pc' := 9) kd_208 (by decide) (by decide) dL_chance_8 rfl ?_
    refine wg_goto (pc' := 16) dL_chance_9 rfl ?_
    refine wg_iconst (pc' := 17) (by decide) dL_chance_16 rfl ?_
    exact wg_ireturn rfl dL_chance_17 ⟨rfl, rfl, fun _ => by simp [gUp, gUr], σ1, hJ, Or.inr rfl⟩
  · obtain ⟨rfl, rfl, hJ⟩ := q
    refine wg_iconst (pc' := 15) (by decide) dL_chance_14 rfl ?_
    exact wg_ireturn rfl dL_chance_15 ⟨rfl, rfl, fun h => absurd h (by decide), σ1, hJ, Or.inl rfl⟩
