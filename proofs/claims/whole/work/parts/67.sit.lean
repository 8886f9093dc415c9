/-! who sits: the class (gen/mod_sit.py) -/
theorem post_row {σ : gH} (hI : Inv σ) {r : Int} (h0 : 0 ≤ r) (h1 : r < σ 34 6) : (0 ≤ σ 35 r ∧ σ 35 r < σ 3 2) ∧ (0 ≤ σ 36 r ∧ σ 36 r < σ 3 2) := by
  have k := (hI.f.post.2.2.2 r h0 h1).2.2.2.2.2
  unfold isPe isHo isP at k
  omega
/-- row i is a post of p in group h that counts on day d as of t, o days afterwards too -/
abbrev poP (σ : gH) (p h d t o i : Int) : Prop := σ 35 i = p ∧ σ 40 i ≤ t ∧ σ 38 i ≤ d ∧ (σ 39 i = -1 ∨ d - o ≤ σ 39 i) ∧ HD (AR σ d t) (σ 36 i) = h
noncomputable def POS (σ : gH) (p h d t o : Int) : Int := fstI (poP σ p h d t o) (σ 34 6).toNat
set_option maxHeartbeats 4000000 in
theorem k_hasPost {σ0 σ : gH} (hI : Inv σ0) (hq : QC σ0 σ) (p h d t o : Int) (hD : 0 ≤ d ∧ d ≤ 9999) (hO : 0 ≤ o ∧ o ≤ 10000) : Mt mX3_hasPost 5 [gR 110, gI p, gI h, gI d, gI t, gI o] σ (fun v σ' => v = gI (gb (POS σ0 p h d t o ≠ -1)) ∧ QC σ0 σ' ∧ Kp 34 σ σ') := by
  refine Mt.walk (ls := [gR 110, gI p, gI h, gI d, gI t, gI o, gX 1]) pn_X3 rfl (fun _ _ h => by cases h.1) (Nat.le_of_ble_eq_true rfl) rfl ?_
  have hp := hI.f.hp
  have hs0 := hI.f.post.2.1
  have hs1 := hI.f.post.2.2.1
  refine w_iconst (pc' := 1) (by decide) dX3_hasPost_0 rfl ?_
  refine w_istore (pc' := 3) (ls' := [gR 110, gI p, gI h, gI d, gI t, gI o, gI 0]) (by decide) (by rfl) dX3_hasPost_1 rfl ?_
  have hl_3 : ∀ (mm : Nat) (i : Int) (σv : gH), (σ0 34 6 - i).toNat = mm → (0 ≤ i) → (i ≤ σ0 34 6) → (fstI (poP σ0 p h d t o) i.toNat = -1) → (QC σ0 σv) → (Kp 34 σ σv) → Wp mX3_hasPost 5 (fun v σ' => v = gI (gb (POS σ0 p h d t o ≠ -1)) ∧ QC σ0 σ' ∧ Kp 34 σ σ') σv 3 [gR 110, gI p, gI h, gI d, gI t, gI o, gI i] [] := by
    intro m_3
    induction m_3 using Nat.strongRecOn with
    | _ m_3 ih_3 =>
      intro i σv hmeas_3 i0 i1 ha hqv hkv
      have hrow := fun h : i < σ0 34 6 => post_row hI i0 h
      have es := fstI_s (P := poP σ0 p h d t o) i0
      refine w_iload (pc' := 5) (by rfl) dX3_hasPost_3 rfl ?_
      refine w_aload_n (pc' := 6) (i := 0) (by rfl) (by rfl) dX3_hasPost_5 rfl ?_
      refine w_getS (pc' := 9) (q := 34) fg_X3_27 kd_110 sf_X3_3 gr_110_3 dX3_hasPost_6 rfl ?_
      refine v_callVE (pc' := 12) (st' := [gI (σ0 34 6), gI i]) (d' := 0) (av := []) mi_mX9_total lk_X3_162 rfl ci_X9 kd_34 rfl (Nat.le_of_ble_eq_true rfl) (Nat.le_of_ble_eq_true rfl) dX3_hasPost_9 rfl rfl (hmP (F := fun z => gI (z 34 6)) (hqv.1) (fun _ => rfl) (sp_total sp_34 σv)) ?_
      refine w_icmp_ge (pc' := 15) (t := 115) dX3_hasPost_12 rfl rfl (fun c_12 => ?_) (fun c_12 => ?_)
      · skip
        refine w_iconst (pc' := 116) (by decide) dX3_hasPost_115 rfl ?_
        refine w_zreturn rfl (.inl rfl) dX3_hasPost_116 ?_
        exact ⟨gbF (fun x => x (by unfold POS; rw [show σ0 34 6 = i by omega]; exact ha)), hqv, hkv⟩
      · skip
        refine w_aload_n (pc' := 16) (i := 0) (by rfl) (by rfl) dX3_hasPost_15 rfl ?_
        refine w_getS (pc' := 19) (q := 34) fg_X3_27 kd_110 sf_X3_3 gr_110_3 dX3_hasPost_16 rfl ?_
        refine w_iload (pc' := 21) (by rfl) dX3_hasPost_19 rfl ?_
        refine v_callVE (pc' := 24) (st' := [gI (σ0 35 i)]) (d' := 0) (av := [gI i]) mi_mX9_first lk_X3_165 rfl ci_X9 kd_34 rfl (Nat.le_of_ble_eq_true rfl) (Nat.le_of_ble_eq_true rfl) dX3_hasPost_21 rfl rfl (hmP (F := fun z => gI (z 35 i)) (hqv.1) (fun _ => rfl) (sp_first sp_34 σv (i := i) (by (first | omega | (have := hrow (by omega); omega))) (by (first | omega | (have := hrow (by omega); omega))))) ?_
        refine w_iload_n (pc' := 25) (i := 1) (by rfl) (by rfl) dX3_hasPost_24 rfl ?_
        refine w_icmp_ne (pc' := 28) (t := 109) dX3_hasPost_25 rfl rfl (fun c_25 => ?_) (fun c_25 => ?_)
        · skip
          refine v_iinc (pc' := 112) (x := i) (ls' := [gR 110, gI p, gI h, gI d, gI t, gI o, gI (i + 1)]) (by (first | omega | (have := hrow (by omega); omega))) (by decide) (by rfl) (by rfl) dX3_hasPost_109 rfl ?_
          refine w_goto (pc' := 3) dX3_hasPost_112 rfl ?_
          exact ih_3 _ (by omega) (i + 1) σv rfl (by omega) (by omega) (by rw [es, if_neg (by omega), if_neg (by intro x; have := hrow (by omega); omega)]) (by first | exact hqv | exact hq_100) (by first | exact hkv | exact hkv.trans hk_100)
        · skip
          refine w_aload_n (pc' := 29) (i := 0) (by rfl) (by rfl) dX3_hasPost_28 rfl ?_
          refine w_getS (pc' := 32) (q := 34) fg_X3_27 kd_110 sf_X3_3 gr_110_3 dX3_hasPost_29 rfl ?_
          refine w_iload (pc' := 34) (by rfl) dX3_hasPost_32 rfl ?_
          refine w_iload (pc' := 36) (by rfl) dX3_hasPost_34 rfl ?_
          refine v_callVE (pc' := 39) (st' := [gI (gb (0 ≤ i ∧ i < σ0 34 6 ∧ σ0 40 i ≤ t))]) (d' := 0) (av := [gI i, gI t]) mi_mX9_isKnown lk_X3_168 rfl ci_X9 kd_34 rfl (Nat.le_of_ble_eq_true rfl) (Nat.le_of_ble_eq_true rfl) dX3_hasPost_36 rfl rfl (hmP (F := fun z => gI (gb (0 ≤ i ∧ i < z 34 6 ∧ z 40 i ≤ t))) (hqv.1) (fun _ => rfl) (sp_isKnown sp_34 σv (hm_FA (hqv.1) hI.1).1.post.2.2.1 i t)) ?_
          refine v_if_eqB (pc' := 42) (t := 109) dX3_hasPost_39 rfl rfl (fun c_39 => ?_) (fun c_39 => ?_)
          · skip
            refine v_iinc (pc' := 112) (x := i) (ls' := [gR 110, gI p, gI h, gI d, gI t, gI o, gI (i + 1)]) (by (first | omega | (have := hrow (by omega); omega))) (by decide) (by rfl) (by rfl) dX3_hasPost_109 rfl ?_
            refine w_goto (pc' := 3) dX3_hasPost_112 rfl ?_
            exact ih_3 _ (by omega) (i + 1) σv rfl (by omega) (by omega) (by rw [es, if_neg (by omega), if_neg (by intro x; have := hrow (by omega); omega)]) (by first | exact hqv | exact hq_100) (by first | exact hkv | exact hkv.trans hk_100)
          · skip
            refine w_aload_n (pc' := 43) (i := 0) (by rfl) (by rfl) dX3_hasPost_42 rfl ?_
            refine w_getS (pc' := 46) (q := 34) fg_X3_27 kd_110 sf_X3_3 gr_110_3 dX3_hasPost_43 rfl ?_
            refine w_iload (pc' := 48) (by rfl) dX3_hasPost_46 rfl ?_
            refine v_callVE (pc' := 51) (st' := [gI (σ0 38 i)]) (d' := 0) (av := [gI i]) mi_mX9_start lk_X3_169 rfl ci_X9 kd_34 rfl (Nat.le_of_ble_eq_true rfl) (Nat.le_of_ble_eq_true rfl) dX3_hasPost_48 rfl rfl (hmP (F := fun z => gI (z 38 i)) (hqv.1) (fun _ => rfl) (sp_start sp_34 σv (i := i) (by (first | omega | (have := hrow (by omega); omega))) (by (first | omega | (have := hrow (by omega); omega))))) ?_
            refine w_iload_n (pc' := 52) (i := 3) (by rfl) (by rfl) dX3_hasPost_51 rfl ?_
            refine w_icmp_gt (pc' := 55) (t := 109) dX3_hasPost_52 rfl rfl (fun c_52 => ?_) (fun c_52 => ?_)
            · skip
              refine v_iinc (pc' := 112) (x := i) (ls' := [gR 110, gI p, gI h, gI d, gI t, gI o, gI (i + 1)]) (by (first | omega | (have := hrow (by omega); omega))) (by decide) (by rfl) (by rfl) dX3_hasPost_109 rfl ?_
              refine w_goto (pc' := 3) dX3_hasPost_112 rfl ?_
              exact ih_3 _ (by omega) (i + 1) σv rfl (by omega) (by omega) (by rw [es, if_neg (by omega), if_neg (by intro x; have := hrow (by omega); omega)]) (by first | exact hqv | exact hq_100) (by first | exact hkv | exact hkv.trans hk_100)
            · skip
              refine w_aload_n (pc' := 56) (i := 0) (by rfl) (by rfl) dX3_hasPost_55 rfl ?_
              refine w_getS (pc' := 59) (q := 34) fg_X3_27 kd_110 sf_X3_3 gr_110_3 dX3_hasPost_56 rfl ?_
              refine w_iload (pc' := 61) (by rfl) dX3_hasPost_59 rfl ?_
              refine v_callVE (pc' := 64) (st' := [gI (σ0 39 i)]) (d' := 0) (av := [gI i]) mi_mX9_stop lk_X3_172 rfl ci_X9 kd_34 rfl (Nat.le_of_ble_eq_true rfl) (Nat.le_of_ble_eq_true rfl) dX3_hasPost_61 rfl rfl (hmP (F := fun z => gI (z 39 i)) (hqv.1) (fun _ => rfl) (sp_stop sp_34 σv (i := i) (by (first | omega | (have := hrow (by omega); omega))) (by (first | omega | (have := hrow (by omega); omega))))) ?_
              refine w_iconst (pc' := 65) (by decide) dX3_hasPost_64 rfl ?_
              refine w_icmp_eq (pc' := 68) (t := 84) dX3_hasPost_65 rfl rfl (fun c_65 => ?_) (fun c_65 => ?_)
              · skip
                refine w_aload_n (pc' := 85) (i := 0) (by rfl) (by rfl) dX3_hasPost_84 rfl ?_
                refine w_getS (pc' := 88) (q := 14) fg_X3_19 kd_110 sf_X3_1 gr_110_1 dX3_hasPost_85 rfl ?_
                refine w_aload_n (pc' := 89) (i := 0) (by rfl) (by rfl) dX3_hasPost_88 rfl ?_
                refine w_getS (pc' := 92) (q := 34) fg_X3_27 kd_110 sf_X3_3 gr_110_3 dX3_hasPost_89 rfl ?_
                refine w_iload (pc' := 94) (by rfl) dX3_hasPost_92 rfl ?_
                refine v_callVE (pc' := 97) (st' := [gI (σ0 36 i), gR 14]) (d' := 0) (av := [gI i]) mi_mX9_second lk_X3_175 rfl ci_X9 kd_34 rfl (Nat.le_of_ble_eq_true rfl) (Nat.le_of_ble_eq_true rfl) dX3_hasPost_94 rfl rfl (hmP (F := fun z => gI (z 36 i)) (hqv.1) (fun _ => rfl) (sp_second sp_34 σv (i := i) (by (first | omega | (have := hrow (by omega); omega))) (by (first | omega | (have := hrow (by omega); omega))))) ?_
                refine w_iload_n (pc' := 98) (i := 3) (by rfl) (by rfl) dX3_hasPost_97 rfl ?_
                refine w_iload (pc' := 100) (by rfl) dX3_hasPost_98 rfl ?_
                refine w_callV (pc' := 103) (d' := 3) (av := [gI (σ0 36 i), gI d, gI t]) mi_mX7_headOf lk_X3_134 rfl ci_X7 kd_14 rfl (Nat.le_of_ble_eq_true rfl) (Nat.le_of_ble_eq_true rfl) dX3_hasPost_100 rfl (k_headOf hI hqv (σ0 36 i) d t (by (first | omega | (have := hrow (by omega); omega)))) (fun v_100 σ100 q_100 => ?_)
                obtain ⟨rfl, hq_100, hk_100⟩ := q_100
                show Wp _ _ _ _ _ _ [gI (HD (AR σ0 d t) (σ0 36 i))]
                refine w_iload_n (pc' := 104) (i := 2) (by rfl) (by rfl) dX3_hasPost_103 rfl ?_
                refine w_icmp_ne (pc' := 107) (t := 109) dX3_hasPost_104 rfl rfl (fun c_104 => ?_) (fun c_104 => ?_)
                · skip
                  refine v_iinc (pc' := 112) (x := i) (ls' := [gR 110, gI p, gI h, gI d, gI t, gI o, gI (i + 1)]) (by (first | omega | (have := hrow (by omega); omega))) (by decide) (by rfl) (by rfl) dX3_hasPost_109 rfl ?_
                  refine w_goto (pc' := 3) dX3_hasPost_112 rfl ?_
                  exact ih_3 _ (by omega) (i + 1) σ100 rfl (by omega) (by omega) (by rw [es, if_neg (by omega), if_neg (by intro x; have := hrow (by omega); omega)]) (by first | exact hqv | exact hq_100) (by first | exact hkv | exact hkv.trans hk_100)
                · skip
                  refine w_iconst (pc' := 108) (by decide) dX3_hasPost_107 rfl ?_
                  refine w_zreturn rfl (.inr rfl) dX3_hasPost_108 ?_
                  have e1 : fstI (poP σ0 p h d t o) (i + 1).toNat = i := by rw [es, if_neg (by omega), if_pos (by refine ⟨?_, ?_, ?_, ?_, ?_⟩ <;> omega)]
                  have e2 : POS σ0 p h d t o = i := (fstI_keep (by rw [e1]; omega) _ (by omega)).trans e1
                  exact ⟨gbT (by rw [e2]; omega), hq_100, hkv.trans hk_100⟩
              · skip
                refine w_aload_n (pc' := 69) (i := 0) (by rfl) (by rfl) dX3_hasPost_68 rfl ?_
                refine w_getS (pc' := 72) (q := 34) fg_X3_27 kd_110 sf_X3_3 gr_110_3 dX3_hasPost_69 rfl ?_
                refine w_iload (pc' := 74) (by rfl) dX3_hasPost_72 rfl ?_
                refine v_callVE (pc' := 77) (st' := [gI (σ0 39 i)]) (d' := 0) (av := [gI i]) mi_mX9_stop lk_X3_172 rfl ci_X9 kd_34 rfl (Nat.le_of_ble_eq_true rfl) (Nat.le_of_ble_eq_true rfl) dX3_hasPost_74 rfl rfl (hmP (F := fun z => gI (z 39 i)) (hqv.1) (fun _ => rfl) (sp_stop sp_34 σv (i := i) (by (first | omega | (have := hrow (by omega); omega))) (by (first | omega | (have := hrow (by omega); omega))))) ?_
                refine w_iload_n (pc' := 78) (i := 3) (by rfl) (by rfl) dX3_hasPost_77 rfl ?_
                refine w_iload (pc' := 80) (by rfl) dX3_hasPost_78 rfl ?_
                refine v_isub (pc' := 81) (by (first | omega | (have := hrow (by omega); omega))) dX3_hasPost_80 rfl ?_
                refine w_icmp_lt (pc' := 84) (t := 109) dX3_hasPost_81 rfl rfl (fun c_81 => ?_) (fun c_81 => ?_)
                · skip
                  refine v_iinc (pc' := 112) (x := i) (ls' := [gR 110, gI p, gI h, gI d, gI t, gI o, gI (i + 1)]) (by (first | omega | (have := hrow (by omega); omega))) (by decide) (by rfl) (by rfl) dX3_hasPost_109 rfl ?_
                  refine w_goto (pc' := 3) dX3_hasPost_112 rfl ?_
                  exact ih_3 _ (by omega) (i + 1) σv rfl (by omega) (by omega) (by rw [es, if_neg (by omega), if_neg (by intro x; have := hrow (by omega); omega)]) (by first | exact hqv | exact hq_100) (by first | exact hkv | exact hkv.trans hk_100)
                · skip
                  refine w_aload_n (pc' := 85) (i := 0) (by rfl) (by rfl) dX3_hasPost_84 rfl ?_
                  refine w_getS (pc' := 88) (q := 14) fg_X3_19 kd_110 sf_X3_1 gr_110_1 dX3_hasPost_85 rfl ?_
                  refine w_aload_n (pc' := 89) (i := 0) (by rfl) (by rfl) dX3_hasPost_88 rfl ?_
                  refine w_getS (pc' := 92) (q := 34) fg_X3_27 kd_110 sf_X3_3 gr_110_3 dX3_hasPost_89 rfl ?_
                  refine w_iload (pc' := 94) (by rfl) dX3_hasPost_92 rfl ?_
                  refine v_callVE (pc' := 97) (st' := [gI (σ0 36 i), gR 14]) (d' := 0) (av := [gI i]) mi_mX9_second lk_X3_175 rfl ci_X9 kd_34 rfl (Nat.le_of_ble_eq_true rfl) (Nat.le_of_ble_eq_true rfl) dX3_hasPost_94 rfl rfl (hmP (F := fun z => gI (z 36 i)) (hqv.1) (fun _ => rfl) (sp_second sp_34 σv (i := i) (by (first | omega | (have := hrow (by omega); omega))) (by (first | omega | (have := hrow (by omega); omega))))) ?_
                  refine w_iload_n (pc' := 98) (i := 3) (by rfl) (by rfl) dX3_hasPost_97 rfl ?_
                  refine w_iload (pc' := 100) (by rfl) dX3_hasPost_98 rfl ?_
                  refine w_callV (pc' := 103) (d' := 3) (av := [gI (σ0 36 i), gI d, gI t]) mi_mX7_headOf lk_X3_134 rfl ci_X7 kd_14 rfl (Nat.le_of_ble_eq_true rfl) (Nat.le_of_ble_eq_true rfl) dX3_hasPost_100 rfl (k_headOf hI hqv (σ0 36 i) d t (by (first | omega | (have := hrow (by omega); omega)))) (fun v_100 σ100 q_100 => ?_)
                  obtain ⟨rfl, hq_100, hk_100⟩ := q_100
                  show Wp _ _ _ _ _ _ [gI (HD (AR σ0 d t) (σ0 36 i))]
                  refine w_iload_n (pc' := 104) (i := 2) (by rfl) (by rfl) dX3_hasPost_103 rfl ?_
                  refine w_icmp_ne (pc' := 107) (t := 109) dX3_hasPost_104 rfl rfl (fun c_104 => ?_) (fun c_104 => ?_)
                  · skip
                    refine v_iinc (pc' := 112) (x := i) (ls' := [gR 110, gI p, gI h, gI d, gI t, gI o, gI (i + 1)]) (by (first | omega | (have := hrow (by omega); omega))) (by decide) (by rfl) (by rfl) dX3_hasPost_109 rfl ?_
                    refine w_goto (pc' := 3) dX3_hasPost_112 rfl ?_
                    exact ih_3 _ (by omega) (i + 1) σ100 rfl (by omega) (by omega) (by rw [es, if_neg (by omega), if_neg (by intro x; have := hrow (by omega); omega)]) (by first | exact hqv | exact hq_100) (by first | exact hkv | exact hkv.trans hk_100)
                  · skip
                    refine w_iconst (pc' := 108) (by decide) dX3_hasPost_107 rfl ?_
                    refine w_zreturn rfl (.inr rfl) dX3_hasPost_108 ?_
                    have e1 : fstI (poP σ0 p h d t o) (i + 1).toNat = i := by rw [es, if_neg (by omega), if_pos (by refine ⟨?_, ?_, ?_, ?_, ?_⟩ <;> omega)]
                    have e2 : POS σ0 p h d t o = i := (fstI_keep (by rw [e1]; omega) _ (by omega)).trans e1
                    exact ⟨gbT (by rw [e2]; omega), hq_100, hkv.trans hk_100⟩
  exact hl_3 _ 0 σ rfl (by omega) (by omega) (by rfl) (by exact hq) (by exact Kp.refl)
abbrev SHR (σ : gH) (x f d t : Int) : Int := if x = f then 10000 else cutP (w64 (pS (AR σ d t) 4 (fun u => decide (u = x)) x f))
/-- the greatest share in f of those of the first n who are near enough to p -/
def gkI (σ : gH) (p f d t y : Int) : Nat → Int
  | 0 => 0
  | n + 1 => if (n : Int) ≠ p ∧ σ 4 n = 0 ∧ DG σ p d t n ≤ y then (if gkI σ p f d t y n < SHR σ n f d t then SHR σ n f d t else gkI σ p f d t y n) else gkI σ p f d t y n
theorem gkI_s {σ : gH} {p f d t y i : Int} (h : 0 ≤ i) : gkI σ p f d t y (i + 1).toNat = if i ≠ p ∧ σ 4 i = 0 ∧ DG σ p d t i ≤ y then (if gkI σ p f d t y i.toNat < SHR σ i f d t then SHR σ i f d t else gkI σ p f d t y i.toNat) else gkI σ p f d t y i.toNat := by
  have e : (i + 1).toNat = i.toNat + 1 := by omega
  have e2 : ((i.toNat : Nat) : Int) = i := Int.toNat_of_nonneg h
  rw [e]
  show (if (i.toNat : Int) ≠ p ∧ σ 4 (i.toNat : Int) = 0 ∧ DG σ p d t (i.toNat : Int) ≤ y then (if gkI σ p f d t y i.toNat < SHR σ (i.toNat : Int) f d t then SHR σ (i.toNat : Int) f d t else gkI σ p f d t y i.toNat) else gkI σ p f d t y i.toNat) = _
  rw [e2]
theorem k_greatestOfKin {σ0 σ : gH} (hI : Inv σ0) (hq : QC σ0 σ) (p f d t y : Int) (hP : 0 ≤ p ∧ p < σ0 3 2) (hF : 0 ≤ f ∧ f < σ0 3 2) (hD : 0 ≤ d ∧ d ≤ 9999) : Mt mX3_greatestOfKin 8 [gR 110, gI p, gI f, gI d, gI t, gI y] σ (fun v σ' => v = gI (gkI σ0 p f d t y (σ0 3 2).toNat) ∧ QC σ0 σ' ∧ Kp 34 σ σ') := by
  refine Mt.walk (ls := [gR 110, gI p, gI f, gI d, gI t, gI y, gX 1, gX 1]) pn_X3 rfl (fun _ _ h => by cases h.1) (Nat.le_of_ble_eq_true rfl) rfl ?_
  have hp := hI.f.hp
  have hp0 := hI.f.party.2.1
  refine w_iconst (pc' := 1) (by decide) dX3_greatestOfKin_0 rfl ?_
  refine w_istore (pc' := 3) (ls' := [gR 110, gI p, gI f, gI d, gI t, gI y, gI 0, gX 1]) (by decide) (by rfl) dX3_greatestOfKin_1 rfl ?_
  refine w_iconst (pc' := 4) (by decide) dX3_greatestOfKin_3 rfl ?_
  refine w_istore (pc' := 6) (ls' := [gR 110, gI p, gI f, gI d, gI t, gI y, gI 0, gI 0]) (by decide) (by rfl) dX3_greatestOfKin_4 rfl ?_
  have hl_6 : ∀ (mm : Nat) (i a : Int) (σv : gH), (σ0 3 2 - i).toNat = mm → (0 ≤ i) → (i ≤ σ0 3 2) → (a = gkI σ0 p f d t y i.toNat) → (QC σ0 σv) → (Kp 34 σ σv) → Wp mX3_greatestOfKin 8 (fun v σ' => v = gI (gkI σ0 p f d t y (σ0 3 2).toNat) ∧ QC σ0 σ' ∧ Kp 34 σ σ') σv 6 [gR 110, gI p, gI f, gI d, gI t, gI y, gI a, gI i] [] := by
    intro m_6
    induction m_6 using Nat.strongRecOn with
    | _ m_6 ih_6 =>
      intro i a σv hmeas_6 i0 i1 ha hqv hkv
      have es := gkI_s (σ := σ0) (p := p) (f := f) (d := d) (t := t) (y := y) i0
      refine w_iload (pc' := 8) (by rfl) dX3_greatestOfKin_6 rfl ?_
      refine w_aload_n (pc' := 9) (i := 0) (by rfl) (by rfl) dX3_greatestOfKin_8 rfl ?_
      refine w_getS (pc' := 12) (q := 3) fg_X3_15 kd_110 sf_X3_0 gr_110_0 dX3_greatestOfKin_9 rfl ?_
      refine v_callVE (pc' := 15) (st' := [gI (σ0 3 2), gI i]) (d' := 0) (av := []) mi_mX8_total lk_X3_178 rfl ci_X8 kd_3 rfl (Nat.le_of_ble_eq_true rfl) (Nat.le_of_ble_eq_true rfl) dX3_greatestOfKin_12 rfl rfl (hmP (F := fun z => gI (z 3 2)) (hqv.1) (fun _ => rfl) (k_pTotal σv)) ?_
      refine w_icmp_ge (pc' := 18) (t := 80) dX3_greatestOfKin_15 rfl rfl (fun c_15 => ?_) (fun c_15 => ?_)
      · skip
        refine w_iload (pc' := 82) (by rfl) dX3_greatestOfKin_80 rfl ?_
        refine v_ireturn rfl dX3_greatestOfKin_82 ?_
        exact ⟨by rw [ha, show i = σ0 3 2 by omega], hqv, hkv⟩
      · skip
        refine w_iload (pc' := 20) (by rfl) dX3_greatestOfKin_18 rfl ?_
        refine w_iload_n (pc' := 21) (i := 1) (by rfl) (by rfl) dX3_greatestOfKin_20 rfl ?_
        refine w_icmp_eq (pc' := 24) (t := 74) dX3_greatestOfKin_21 rfl rfl (fun c_21 => ?_) (fun c_21 => ?_)
        · skip
          refine v_iinc (pc' := 77) (x := i) (ls' := [gR 110, gI p, gI f, gI d, gI t, gI y, gI a, gI (i + 1)]) (by omega) (by decide) (by rfl) (by rfl) dX3_greatestOfKin_74 rfl ?_
          refine w_goto (pc' := 6) dX3_greatestOfKin_77 rfl ?_
          exact ih_6 _ (by omega) (i + 1) a σv rfl (by omega) (by omega) (by first | exact Eq.symm (es.trans ((if_neg (by omega)).trans ha.symm)) | exact Eq.symm (es.trans ((if_pos (by omega)).trans (by rw [ha])))) (by first | exact hqv | exact hq_66 | exact hq_46) (by first | exact hkv | exact (hkv.trans hk_46).trans hk_66 | exact hkv.trans hk_46)
        · skip
          refine w_aload_n (pc' := 25) (i := 0) (by rfl) (by rfl) dX3_greatestOfKin_24 rfl ?_
          refine w_getS (pc' := 28) (q := 3) fg_X3_15 kd_110 sf_X3_0 gr_110_0 dX3_greatestOfKin_25 rfl ?_
          refine w_iload (pc' := 30) (by rfl) dX3_greatestOfKin_28 rfl ?_
          refine v_callVE (pc' := 33) (st' := [gI (gb ((0 ≤ i ∧ i < (σ0 3 2)) ∧ (σ0 4 i) = 0))]) (d' := 1) (av := [gI i]) mi_mX8_isPerson lk_X3_103 rfl ci_X8 kd_3 rfl (Nat.le_of_ble_eq_true rfl) (Nat.le_of_ble_eq_true rfl) dX3_greatestOfKin_30 rfl rfl (hmP (F := fun z => gI (gb ((0 ≤ i ∧ i < (z 3 2)) ∧ (z 4 i) = 0))) (hqv.1) (fun _ => rfl) (pa_isPerson σv (hm_FA (hqv.1) hI.1).1.hp i)) ?_
          refine v_if_eqB (pc' := 36) (t := 74) dX3_greatestOfKin_33 rfl rfl (fun c_33 => ?_) (fun c_33 => ?_)
          · skip
            refine v_iinc (pc' := 77) (x := i) (ls' := [gR 110, gI p, gI f, gI d, gI t, gI y, gI a, gI (i + 1)]) (by omega) (by decide) (by rfl) (by rfl) dX3_greatestOfKin_74 rfl ?_
            refine w_goto (pc' := 6) dX3_greatestOfKin_77 rfl ?_
            exact ih_6 _ (by omega) (i + 1) a σv rfl (by omega) (by omega) (by first | exact Eq.symm (es.trans ((if_neg (by omega)).trans ha.symm)) | exact Eq.symm (es.trans ((if_pos (by omega)).trans (by rw [ha])))) (by first | exact hqv | exact hq_66 | exact hq_46) (by first | exact hkv | exact (hkv.trans hk_46).trans hk_66 | exact hkv.trans hk_46)
          · skip
            refine w_aload_n (pc' := 37) (i := 0) (by rfl) (by rfl) dX3_greatestOfKin_36 rfl ?_
            refine w_getS (pc' := 40) (q := 3) fg_X3_15 kd_110 sf_X3_0 gr_110_0 dX3_greatestOfKin_37 rfl ?_
            refine w_iload_n (pc' := 41) (i := 1) (by rfl) (by rfl) dX3_greatestOfKin_40 rfl ?_
            refine w_iload (pc' := 43) (by rfl) dX3_greatestOfKin_41 rfl ?_
            refine w_iload_n (pc' := 44) (i := 3) (by rfl) (by rfl) dX3_greatestOfKin_43 rfl ?_
            refine w_iload (pc' := 46) (by rfl) dX3_greatestOfKin_44 rfl ?_
            refine w_callV (pc' := 49) (d' := 2) (av := [gI p, gI i, gI d, gI t]) mi_mX8_degreeOf lk_X3_108 rfl ci_X8 kd_3 rfl (Nat.le_of_ble_eq_true rfl) (Nat.le_of_ble_eq_true rfl) dX3_greatestOfKin_46 rfl (k_degreeOf hI hqv p i d t (by omega) (by omega)) (fun v_46 σ46 q_46 => ?_)
            obtain ⟨rfl, hq_46, hk_46⟩ := q_46
            show Wp _ _ _ _ _ _ [gI (DG σ0 p d t i)]
            refine w_iload (pc' := 51) (by rfl) dX3_greatestOfKin_49 rfl ?_
            refine w_icmp_gt (pc' := 54) (t := 74) dX3_greatestOfKin_51 rfl rfl (fun c_51 => ?_) (fun c_51 => ?_)
            · skip
              refine v_iinc (pc' := 77) (x := i) (ls' := [gR 110, gI p, gI f, gI d, gI t, gI y, gI a, gI (i + 1)]) (by omega) (by decide) (by rfl) (by rfl) dX3_greatestOfKin_74 rfl ?_
              refine w_goto (pc' := 6) dX3_greatestOfKin_77 rfl ?_
              exact ih_6 _ (by omega) (i + 1) a σ46 rfl (by omega) (by omega) (by first | exact Eq.symm (es.trans ((if_neg (by omega)).trans ha.symm)) | exact Eq.symm (es.trans ((if_pos (by omega)).trans (by rw [ha])))) (by first | exact hqv | exact hq_66 | exact hq_46) (by first | exact hkv | exact (hkv.trans hk_46).trans hk_66 | exact hkv.trans hk_46)
            · skip
              refine w_iload (pc' := 56) (by rfl) dX3_greatestOfKin_54 rfl ?_
              refine w_aload_n (pc' := 57) (i := 0) (by rfl) (by rfl) dX3_greatestOfKin_56 rfl ?_
              refine w_getS (pc' := 60) (q := 30) fg_X3_23 kd_110 sf_X3_2 gr_110_2 dX3_greatestOfKin_57 rfl ?_
              refine w_iload (pc' := 62) (by rfl) dX3_greatestOfKin_60 rfl ?_
              refine w_iload_n (pc' := 63) (i := 2) (by rfl) (by rfl) dX3_greatestOfKin_62 rfl ?_
              refine w_iload_n (pc' := 64) (i := 3) (by rfl) (by rfl) dX3_greatestOfKin_63 rfl ?_
              refine w_iload (pc' := 66) (by rfl) dX3_greatestOfKin_64 rfl ?_
              refine w_callV (pc' := 69) (d' := 7) (av := [gI i, gI f, gI d, gI t]) mi_mX0_cutPartOf lk_X3_153 rfl ci_X0 kd_30 rfl (Nat.le_of_ble_eq_true rfl) (Nat.le_of_ble_eq_true rfl) dX3_greatestOfKin_66 rfl (k_cutPartOf hI hq_46 i f d t ⟨by omega, by omega⟩ ⟨by omega, by omega⟩) (fun v_66 σ66 q_66 => ?_)
              obtain ⟨rfl, hq_66, hk_66⟩ := q_66
              show Wp _ _ _ _ _ _ [gI (SHR σ0 i f d t), gI a]
              refine w_imax (pc' := 72) lk_X3_179 (Nat.le_of_ble_eq_true rfl) (Nat.le_of_ble_eq_true rfl) dX3_greatestOfKin_69 rfl ?_
              refine w_istore (pc' := 74) (ls' := [gR 110, gI p, gI f, gI d, gI t, gI y, gI (if a < (SHR σ0 i f d t) then (SHR σ0 i f d t) else a), gI i]) (by decide) (by rfl) dX3_greatestOfKin_72 rfl ?_
              refine v_iinc (pc' := 77) (x := i) (ls' := [gR 110, gI p, gI f, gI d, gI t, gI y, gI (if a < (SHR σ0 i f d t) then (SHR σ0 i f d t) else a), gI (i + 1)]) (by omega) (by decide) (by rfl) (by rfl) dX3_greatestOfKin_74 rfl ?_
              refine w_goto (pc' := 6) dX3_greatestOfKin_77 rfl ?_
              exact ih_6 _ (by omega) (i + 1) (if a < (SHR σ0 i f d t) then (SHR σ0 i f d t) else a) σ66 rfl (by omega) (by omega) (by first | exact Eq.symm (es.trans ((if_neg (by omega)).trans ha.symm)) | exact Eq.symm (es.trans ((if_pos (by omega)).trans (by rw [ha])))) (by first | exact hqv | exact hq_66 | exact hq_46) (by first | exact hkv | exact (hkv.trans hk_46).trans hk_66 | exact hkv.trans hk_46)
  exact hl_6 _ 0 0 σ rfl (by omega) (by omega) (by rfl) (by exact hq) (by exact Kp.refl)
