/-! what must be told by when (gen/mod_judge.py) -/
theorem dgI_pos {a b kn fr un : Int → Int} {d t n : Int} {f : Int → Int} {y : Int} (hn : 1 ≤ n) (h : 0 < f y) : ∀ i : Nat, 0 < dgI a b kn fr un d t n f i y
  | 0 => h
  | i + 1 => by
    have st : ∀ (g : Int → Int) (p q : Int), 0 < g y → 0 < dgR g p q n y := by
      intro g p q hg
      unfold dgR
      split
      · unfold updI
        split
        · omega
        · exact hg
      · exact hg
    show 0 < (if liv kn fr un d t i then dgR (dgR (dgI a b kn fr un d t n f i) (a i) (b i) n) (b i) (a i) n else dgI a b kn fr un d t n f i) y
    split
    · exact st _ _ _ (st _ _ _ (dgI_pos hn h i))
    · exact dgI_pos hn h i
theorem dgN_pos {m : Int} {a b kn fr un : Int → Int} {x d t y : Int} (hy : y ≠ x) : ∀ n : Nat, 0 < dgN m a b kn fr un x d t n y
  | 0 => by
    show 0 < updI (fun _ => 5) x 0 y
    rw [updI_ne hy]
    show (0 : Int) < 5
    omega
  | n + 1 => dgI_pos (by omega) (dgN_pos hy n) _
theorem DG_pos {σ : gH} {x d t y : Int} (hy : y ≠ x) : 0 < DG σ x d t y := dgN_pos hy 4
/-- the first of the first n that is so, NONE if none is -/
def fstI (P : Int → Prop) [DecidablePred P] : Nat → Int
  | 0 => -1
  | n + 1 => if fstI P n ≠ -1 then fstI P n else if P n then n else -1
theorem fstI_s {P : Int → Prop} [DecidablePred P] {i : Int} (h : 0 ≤ i) : fstI P (i + 1).toNat = if fstI P i.toNat ≠ -1 then fstI P i.toNat else if P i then i else -1 := by
  have e : (i + 1).toNat = i.toNat + 1 := by omega
  have e2 : ((i.toNat : Nat) : Int) = i := Int.toNat_of_nonneg h
  rw [e]
  show (if fstI P i.toNat ≠ -1 then fstI P i.toNat else if P (i.toNat : Int) then (i.toNat : Int) else -1) = _
  rw [e2]
theorem fstI_in {P : Int → Prop} [DecidablePred P] : ∀ n : Nat, -1 ≤ fstI P n ∧ fstI P n < n
  | 0 => ⟨by show (-1 : Int) ≤ -1; omega, by show (-1 : Int) < 0; omega⟩
  | n + 1 => by
    have ih := fstI_in (P := P) n
    show -1 ≤ (if fstI P n ≠ -1 then fstI P n else if P n then (n : Int) else -1) ∧ (if fstI P n ≠ -1 then fstI P n else if P n then (n : Int) else -1) < ((n + 1 : Nat) : Int)
    split
    · omega
    · split <;> omega
theorem fstI_keep {P : Int → Prop} [DecidablePred P] {n : Nat} (h : fstI P n ≠ -1) : ∀ m : Nat, n ≤ m → fstI P m = fstI P n
  | 0, hm => by have : n = 0 := by omega
                subst this; rfl
  | m + 1, hm => by
    by_cases e : n = m + 1
    · subst e; rfl
    · have ih := fstI_keep h m (by omega)
      show (if fstI P m ≠ -1 then fstI P m else if P m then (m : Int) else -1) = _
      rw [if_pos (by rw [ih]; exact h), ih]
/-- what the atoms say of a gift, under the reference's codes -/
noncomputable def FJ (σ : gH) (g t l b : Int) : Int → Int := fun p => if p = 4 then σ 46 g else if p = 5 then (if σ 4 (σ 42 g) = 0 ∧ DG σ (σ 43 g) (σ 45 g) t (σ 42 g) ≤ NU σ l 0 then 1 else 0) else if p = 6 then b else if p = 7 then LEAST σ g t else if p = 8 then MOST σ g t else if p = 9 then SUMV σ (σ 43 g) (σ 42 g) (σ 45 g) t l else if p = 10 then CNTV σ (σ 43 g) (σ 42 g) (σ 45 g) t l else if p = σ 44 g then 1 else 0
def bkv (σ : gH) (g t l k : Int) : Int := gb (BACK σ g t ≠ -1 ∧ BACK σ g t ≤ σ 45 g + WI σ l k)
abbrev jP (σ : gH) (g t l k : Int) : Prop := HM σ l k (FJ σ g t l (bkv σ g t l k)) ≠ 0
noncomputable def RULE (σ : gH) (g t : Int) : Int := fstI (fun k => jP σ g t (LI σ (σ 45 g) t) k) (TE σ (LI σ (σ 45 g) t)).toNat
noncomputable def DUE (σ : gH) (g t : Int) : Int := if RULE σ g t = -1 then -1 else σ 45 g + WI σ (LI σ (σ 45 g) t) (RULE σ g t)
/-- any row that says the same under the codes of the tells -/
theorem HM_FJ {σ : gH} {c : Nat} {l r g t b : Int} {F : Int → Int} (h : LWR σ c l) (h0 : 0 ≤ r) (h1 : r < 8) (hF : ∀ p, 0 ≤ p → p ≤ 10 → F p = FJ σ g t l b p) : HM σ l r F = HM σ l r (FJ σ g t l b) := HM_congr h h0 (by omega) fun m hm _ => by
  unfold isAtm at hm
  rw [if_pos h1] at hm
  refine hF _ ?_ ?_
  · unfold rnM; (repeat' split) <;> omega
  · unfold rnM; (repeat' split) <;> omega
theorem FJ_01 {σ : gH} (hI : Inv σ) {g t l b m : Int} (h0 : 0 ≤ g) (h1 : g < σ 41 11) (hb : b = 0 ∨ b = 1) (hm : 0 ≤ m ∧ m ≤ 10) (hn : ¬ isMeas m) : FJ σ g t l b (rnM m) = 0 ∨ FJ σ g t l b (rnM m) = 1 := by
  have r := gift_row hI h0 h1
  have e : rnM m = 0 ∨ rnM m = 1 ∨ rnM m = 2 ∨ rnM m = 3 ∨ rnM m = 4 ∨ rnM m = 5 ∨ rnM m = 6 := by
    unfold rnM
    (repeat' split) <;> omega
  unfold FJ
  rcases e with e | e | e | e | e | e | e <;> rw [e] <;> simp
  · omega
  · omega
  · omega
  · omega
  · exact r.2.2.2.2.2.1
  · omega
  · exact hb
set_option maxHeartbeats 4000000 in
theorem k_decide {σ0 σ : gH} (hI : Inv σ0) (hq : QC σ0 σ) (g t : Int) (hg : 0 ≤ g ∧ g < σ0 41 11) {l : Int} (hl : LI σ0 (σ0 45 g) t = l) : Mt mX3_decide 5 [gR 110, gI g, gI t] σ (fun v σ' => v = gX 1 ∧ QC σ0 σ' ∧ Kp 112 σ σ' ∧ σ' 110 7 = RULE σ0 g t ∧ σ' 110 8 = DUE σ0 g t ∧ σ' 111 9 = SUMV σ0 (σ0 43 g) (σ0 42 g) (σ0 45 g) t l ∧ σ' 111 10 = CNTV σ0 (σ0 43 g) (σ0 42 g) (σ0 45 g) t l) := by
  refine Mt.walk (ls := [gR 110, gI g, gI t, gX 1, gX 1, gX 1, gX 1, gX 1, gX 1, gX 1, gX 1]) pn_X3 rfl (fun _ _ h => by cases h.1) (Nat.le_of_ble_eq_true rfl) rfl ?_
  have hp60 := hI.f.hp
  have hrow := gift_row hI hg.1 hg.2
  refine w_aload_n (pc' := 1) (i := 0) (by rfl) (by rfl) dX3_decide_0 rfl ?_
  refine w_getS (pc' := 4) (q := 41) fg_X3_31 kd_110 sf_X3_4 gr_110_4 dX3_decide_1 rfl ?_
  refine w_iload_n (pc' := 5) (i := 1) (by rfl) (by rfl) dX3_decide_4 rfl ?_
  refine v_callVE (pc' := 8) (st' := [gI (σ0 45 g)]) (d' := 1) (av := [gI g]) mi_mX2_dayOf lk_X3_74 rfl ci_X2 kd_41 rfl (Nat.le_of_ble_eq_true rfl) (Nat.le_of_ble_eq_true rfl) dX3_decide_5 rfl rfl (hmP (F := fun z => gI (z 45 g)) (hq.1) (fun _ => rfl) (gi_dayOf σ (hm_FA (hq.1) hI.1).1.hz g (gr_n (hq.1) ⟨by omega, by omega⟩))) ?_
  refine w_istore_n (pc' := 9) (i := 3) (ls' := [gR 110, gI g, gI t, gI (σ0 45 g), gX 1, gX 1, gX 1, gX 1, gX 1, gX 1, gX 1]) (by rfl) (by decide) (by rfl) dX3_decide_8 rfl ?_
  refine w_aload_n (pc' := 10) (i := 0) (by rfl) (by rfl) dX3_decide_9 rfl ?_
  refine w_getS (pc' := 13) (q := 41) fg_X3_31 kd_110 sf_X3_4 gr_110_4 dX3_decide_10 rfl ?_
  refine w_iload_n (pc' := 14) (i := 1) (by rfl) (by rfl) dX3_decide_13 rfl ?_
  refine v_callVE (pc' := 17) (st' := [gI (σ0 43 g)]) (d' := 1) (av := [gI g]) mi_mX2_receiver lk_X3_64 rfl ci_X2 kd_41 rfl (Nat.le_of_ble_eq_true rfl) (Nat.le_of_ble_eq_true rfl) dX3_decide_14 rfl rfl (hmP (F := fun z => gI (z 43 g)) (hq.1) (fun _ => rfl) (gi_receiver σ (hm_FA (hq.1) hI.1).1.hz g (gr_n (hq.1) ⟨by omega, by omega⟩))) ?_
  refine w_istore (pc' := 19) (ls' := [gR 110, gI g, gI t, gI (σ0 45 g), gI (σ0 43 g), gX 1, gX 1, gX 1, gX 1, gX 1, gX 1]) (by decide) (by rfl) dX3_decide_17 rfl ?_
  refine w_aload_n (pc' := 20) (i := 0) (by rfl) (by rfl) dX3_decide_19 rfl ?_
  refine w_getS (pc' := 23) (q := 41) fg_X3_31 kd_110 sf_X3_4 gr_110_4 dX3_decide_20 rfl ?_
  refine w_iload_n (pc' := 24) (i := 1) (by rfl) (by rfl) dX3_decide_23 rfl ?_
  refine v_callVE (pc' := 27) (st' := [gI (σ0 42 g)]) (d' := 1) (av := [gI g]) mi_mX2_giver lk_X3_77 rfl ci_X2 kd_41 rfl (Nat.le_of_ble_eq_true rfl) (Nat.le_of_ble_eq_true rfl) dX3_decide_24 rfl rfl (hmP (F := fun z => gI (z 42 g)) (hq.1) (fun _ => rfl) (gi_giver σ (hm_FA (hq.1) hI.1).1.hz g (gr_n (hq.1) ⟨by omega, by omega⟩))) ?_
  refine w_istore (pc' := 29) (ls' := [gR 110, gI g, gI t, gI (σ0 45 g), gI (σ0 43 g), gI (σ0 42 g), gX 1, gX 1, gX 1, gX 1, gX 1]) (by decide) (by rfl) dX3_decide_27 rfl ?_
  refine w_aload_n (pc' := 30) (i := 0) (by rfl) (by rfl) dX3_decide_29 rfl ?_
  refine w_getS (pc' := 33) (q := 57) fg_X3_35 kd_110 sf_X3_5 gr_110_5 dX3_decide_30 rfl ?_
  refine w_iload_n (pc' := 34) (i := 3) (by rfl) (by rfl) dX3_decide_33 rfl ?_
  refine w_iload_n (pc' := 35) (i := 2) (by rfl) (by rfl) dX3_decide_34 rfl ?_
  refine w_callV (pc' := 38) (d' := 1) (av := [gI (σ0 45 g), gI t]) mi_mX5_inForce lk_X3_80 rfl ci_X5 kd_57 rfl (Nat.le_of_ble_eq_true rfl) (Nat.le_of_ble_eq_true rfl) dX3_decide_35 rfl (k_inForce hI hq (σ0 45 g) t) (fun v_35 σ q_35 => ?_)
  obtain ⟨c, rfl, rfl, hL, hc⟩ := q_35
  rw [hl] at hL
  show Wp _ _ _ _ _ _ [gR c]
  refine w_astore (pc' := 40) (ls' := [gR 110, gI g, gI t, gI (σ0 45 g), gI (σ0 43 g), gI (σ0 42 g), gR c, gX 1, gX 1, gX 1, gX 1]) (by decide) (by rfl) dX3_decide_38 rfl ?_
  refine w_aload_n (pc' := 41) (i := 0) (by rfl) (by rfl) dX3_decide_40 rfl ?_
  refine w_getS (pc' := 44) (q := 111) fg_X3_9 kd_110 sf_X3_6 gr_110_6 dX3_decide_41 rfl ?_
  refine w_iconst (pc' := 45) (by decide) dX3_decide_44 rfl ?_
  refine v_callSE (pc' := 48) (st' := []) (d' := 0) (av := [gR 111, gI 0]) ms_mJ7_fill_53178 st_mJ7_fill_53178 lk_X3_86 rfl rfl (Nat.le_of_ble_eq_true rfl) (Nat.le_of_ble_eq_true rfl) dX3_decide_45 rfl rfl (k_fillI (x := 111) (n := 14) kd_111 (by decide) σ 0) ?_
  refine w_aload_n (pc' := 49) (i := 0) (by rfl) (by rfl) dX3_decide_48 rfl ?_
  refine w_iload (pc' := 51) (by rfl) dX3_decide_49 rfl ?_
  refine w_iload (pc' := 53) (by rfl) dX3_decide_51 rfl ?_
  refine w_iload_n (pc' := 54) (i := 3) (by rfl) (by rfl) dX3_decide_53 rfl ?_
  refine w_iload_n (pc' := 55) (i := 2) (by rfl) (by rfl) dX3_decide_54 rfl ?_
  refine w_aload (pc' := 57) (by rfl) dX3_decide_55 rfl ?_
  refine w_callV (pc' := 60) (d' := 4) (av := [gI (σ0 43 g), gI (σ0 42 g), gI (σ0 45 g), gI t, gR c]) mi_mX3_weigh lk_X3_92 rfl ci_X3 kd_110 rfl (Nat.le_of_ble_eq_true rfl) (Nat.le_of_ble_eq_true rfl) dX3_decide_57 rfl (k_weigh hI (QC.ur (k := 111) (f := (fillF (σ 111) 14 0)) hq (hm_nfC 111 (by decide)) (fun h => h)) hL (σ0 43 g) (σ0 42 g) (σ0 45 g) t (by omega) (by omega) (by omega)) (fun v_57 σ_57 q_57 => ?_)
  obtain ⟨rfl, σ57, hq_57, hk_57, rfl⟩ := q_57
  show Wp _ _ _ _ _ _ []
  refine w_aload_n (pc' := 61) (i := 0) (by rfl) (by rfl) dX3_decide_60 rfl ?_
  refine w_getS (pc' := 64) (q := 41) fg_X3_31 kd_110 sf_X3_4 gr_110_4 dX3_decide_61 rfl ?_
  refine w_iload_n (pc' := 65) (i := 1) (by rfl) (by rfl) dX3_decide_64 rfl ?_
  refine v_callVE (pc' := 68) (st' := [gI (σ0 44 g)]) (d' := 1) (av := [gI g]) mi_mX2_sortOf lk_X3_96 rfl ci_X2 kd_41 rfl (Nat.le_of_ble_eq_true rfl) (Nat.le_of_ble_eq_true rfl) dX3_decide_65 rfl rfl (hmP (F := fun z => gI (z 44 g)) (((hm_up (k := 111) (i := 10) (v := (CNTV σ0 (σ0 43 g) (σ0 42 g) (σ0 45 g) t l)) (hm_nfC 111 (by decide) _)).trans ((hm_up (k := 111) (i := 9) (v := (SUMV σ0 (σ0 43 g) (σ0 42 g) (σ0 45 g) t l)) (hm_nfC 111 (by decide) _)).trans hq_57.1))) (fun _ => rfl) (gi_sortOf (gUp (gUp σ57 111 9 (SUMV σ0 (σ0 43 g) (σ0 42 g) (σ0 45 g) t l)) 111 10 (CNTV σ0 (σ0 43 g) (σ0 42 g) (σ0 45 g) t l)) (hm_FA (((hm_up (k := 111) (i := 10) (v := (CNTV σ0 (σ0 43 g) (σ0 42 g) (σ0 45 g) t l)) (hm_nfC 111 (by decide) _)).trans ((hm_up (k := 111) (i := 9) (v := (SUMV σ0 (σ0 43 g) (σ0 42 g) (σ0 45 g) t l)) (hm_nfC 111 (by decide) _)).trans hq_57.1))) hI.1).1.hz g (gr_n (((hm_up (k := 111) (i := 10) (v := (CNTV σ0 (σ0 43 g) (σ0 42 g) (σ0 45 g) t l)) (hm_nfC 111 (by decide) _)).trans ((hm_up (k := 111) (i := 9) (v := (SUMV σ0 (σ0 43 g) (σ0 42 g) (σ0 45 g) t l)) (hm_nfC 111 (by decide) _)).trans hq_57.1))) ⟨by omega, by omega⟩))) ?_
  refine w_istore (pc' := 70) (ls' := [gR 110, gI g, gI t, gI (σ0 45 g), gI (σ0 43 g), gI (σ0 42 g), gR c, gI (σ0 44 g), gX 1, gX 1, gX 1]) (by decide) (by rfl) dX3_decide_68 rfl ?_
  refine w_iload (pc' := 72) (by rfl) dX3_decide_70 rfl ?_
  refine w_if_lt (pc' := 75) (t := 89) dX3_decide_72 rfl rfl (fun c_72 => ?_) (fun c_72 => ?_)
  · skip
    exfalso; omega
  · skip
    refine w_iload (pc' := 77) (by rfl) dX3_decide_75 rfl ?_
    refine w_iconst (pc' := 78) (by decide) dX3_decide_77 rfl ?_
    refine w_icmp_ge (pc' := 81) (t := 89) dX3_decide_78 rfl rfl (fun c_78 => ?_) (fun c_78 => ?_)
    · skip
      exfalso; omega
    · skip
      refine w_aload_n (pc' := 82) (i := 0) (by rfl) (by rfl) dX3_decide_81 rfl ?_
      refine w_getS (pc' := 85) (q := 111) fg_X3_9 kd_110 sf_X3_6 gr_110_6 dX3_decide_82 rfl ?_
      refine w_iload (pc' := 87) (by rfl) dX3_decide_85 rfl ?_
      refine w_iconst (pc' := 88) (by decide) dX3_decide_87 rfl ?_
      refine w_iast (pc' := 89) kd_111 (by omega) (by omega) dX3_decide_88 rfl ?_
      refine w_aload_n (pc' := 90) (i := 0) (by rfl) (by rfl) dX3_decide_89 rfl ?_
      refine w_getS (pc' := 93) (q := 111) fg_X3_9 kd_110 sf_X3_6 gr_110_6 dX3_decide_90 rfl ?_
      refine w_iconst (pc' := 94) (by decide) dX3_decide_93 rfl ?_
      refine w_aload_n (pc' := 95) (i := 0) (by rfl) (by rfl) dX3_decide_94 rfl ?_
      refine w_getS (pc' := 98) (q := 41) fg_X3_31 kd_110 sf_X3_4 gr_110_4 dX3_decide_95 rfl ?_
      refine w_iload_n (pc' := 99) (i := 1) (by rfl) (by rfl) dX3_decide_98 rfl ?_
      refine v_callVE (pc' := 102) (st' := [gI (gb ((0 ≤ g ∧ g < σ0 41 11) ∧ σ0 46 g ≠ 0)), gI 4, gR 111]) (d' := 1) (av := [gI g]) mi_mX2_isForeign lk_X3_99 rfl ci_X2 kd_41 rfl (Nat.le_of_ble_eq_true rfl) (Nat.le_of_ble_eq_true rfl) dX3_decide_99 rfl rfl (hmP (F := fun z => gI (gb ((0 ≤ g ∧ g < z 41 11) ∧ z 46 g ≠ 0))) (((hm_up (k := 111) (i := (σ0 44 g)) (v := 1) (hm_nfC 111 (by decide) _)).trans ((hm_up (k := 111) (i := 10) (v := (CNTV σ0 (σ0 43 g) (σ0 42 g) (σ0 45 g) t l)) (hm_nfC 111 (by decide) _)).trans ((hm_up (k := 111) (i := 9) (v := (SUMV σ0 (σ0 43 g) (σ0 42 g) (σ0 45 g) t l)) (hm_nfC 111 (by decide) _)).trans hq_57.1)))) (fun _ => rfl) (g_isForeign (gUp (gUp (gUp σ57 111 9 (SUMV σ0 (σ0 43 g) (σ0 42 g) (σ0 45 g) t l)) 111 10 (CNTV σ0 (σ0 43 g) (σ0 42 g) (σ0 45 g) t l)) 111 (σ0 44 g) 1) (hm_FA (((hm_up (k := 111) (i := (σ0 44 g)) (v := 1) (hm_nfC 111 (by decide) _)).trans ((hm_up (k := 111) (i := 10) (v := (CNTV σ0 (σ0 43 g) (σ0 42 g) (σ0 45 g) t l)) (hm_nfC 111 (by decide) _)).trans ((hm_up (k := 111) (i := 9) (v := (SUMV σ0 (σ0 43 g) (σ0 42 g) (σ0 45 g) t l)) (hm_nfC 111 (by decide) _)).trans hq_57.1)))) hI.1).1.hz g)) ?_
      have hj_110 : Wp mX3_decide 5 (fun v σ' => v = gX 1 ∧ QC σ0 σ' ∧ Kp 112 σ σ' ∧ σ' 110 7 = RULE σ0 g t ∧ σ' 110 8 = DUE σ0 g t ∧ σ' 111 9 = SUMV σ0 (σ0 43 g) (σ0 42 g) (σ0 45 g) t l ∧ σ' 111 10 = CNTV σ0 (σ0 43 g) (σ0 42 g) (σ0 45 g) t l) (gUp (gUp (gUp σ57 111 9 (SUMV σ0 (σ0 43 g) (σ0 42 g) (σ0 45 g) t l)) 111 10 (CNTV σ0 (σ0 43 g) (σ0 42 g) (σ0 45 g) t l)) 111 (σ0 44 g) 1) 110 [gR 110, gI g, gI t, gI (σ0 45 g), gI (σ0 43 g), gI (σ0 42 g), gR c, gI (σ0 44 g), gX 1, gX 1, gX 1] [gI (gb ((0 ≤ g ∧ g < σ0 41 11) ∧ σ0 46 g ≠ 0)), gI 4, gR 111] := by
        refine w_iast (pc' := 111) kd_111 (by omega) (by omega) dX3_decide_110 rfl ?_
        have hj_149 : ∀ (σj : gH), QC σ0 σj → Kp 34 (gUp (gUp (gUp (gUp σ57 111 9 (SUMV σ0 (σ0 43 g) (σ0 42 g) (σ0 45 g) t l)) 111 10 (CNTV σ0 (σ0 43 g) (σ0 42 g) (σ0 45 g) t l)) 111 (σ0 44 g) 1) 111 4 (gb ((0 ≤ g ∧ g < σ0 41 11) ∧ σ0 46 g ≠ 0))) σj → Wp mX3_decide 5 (fun v σ' => v = gX 1 ∧ QC σ0 σ' ∧ Kp 112 σ σ' ∧ σ' 110 7 = RULE σ0 g t ∧ σ' 110 8 = DUE σ0 g t ∧ σ' 111 9 = SUMV σ0 (σ0 43 g) (σ0 42 g) (σ0 45 g) t l ∧ σ' 111 10 = CNTV σ0 (σ0 43 g) (σ0 42 g) (σ0 45 g) t l) σj 149 [gR 110, gI g, gI t, gI (σ0 45 g), gI (σ0 43 g), gI (σ0 42 g), gR c, gI (σ0 44 g), gX 1, gX 1, gX 1] [gI (gb (σ0 4 (σ0 42 g) = 0 ∧ DG σ0 (σ0 43 g) (σ0 45 g) t (σ0 42 g) ≤ NU σ0 l 0))] := by
          intro σj hqj hkj
          refine w_istore (pc' := 151) (ls' := [gR 110, gI g, gI t, gI (σ0 45 g), gI (σ0 43 g), gI (σ0 42 g), gR c, gI (σ0 44 g), gI (gb (σ0 4 (σ0 42 g) = 0 ∧ DG σ0 (σ0 43 g) (σ0 45 g) t (σ0 42 g) ≤ NU σ0 l 0)), gX 1, gX 1]) (by decide) (by rfl) dX3_decide_149 rfl ?_
          refine w_aload_n (pc' := 152) (i := 0) (by rfl) (by rfl) dX3_decide_151 rfl ?_
          refine w_getS (pc' := 155) (q := 111) fg_X3_9 kd_110 sf_X3_6 gr_110_6 dX3_decide_152 rfl ?_
          refine w_bipush (pc' := 157) (by decide) (by decide) dX3_decide_155 rfl ?_
          refine w_iload (pc' := 159) (by rfl) dX3_decide_157 rfl ?_
          have hj_167 : Wp mX3_decide 5 (fun v σ' => v = gX 1 ∧ QC σ0 σ' ∧ Kp 112 σ σ' ∧ σ' 110 7 = RULE σ0 g t ∧ σ' 110 8 = DUE σ0 g t ∧ σ' 111 9 = SUMV σ0 (σ0 43 g) (σ0 42 g) (σ0 45 g) t l ∧ σ' 111 10 = CNTV σ0 (σ0 43 g) (σ0 42 g) (σ0 45 g) t l) σj 167 [gR 110, gI g, gI t, gI (σ0 45 g), gI (σ0 43 g), gI (σ0 42 g), gR c, gI (σ0 44 g), gI (gb (σ0 4 (σ0 42 g) = 0 ∧ DG σ0 (σ0 43 g) (σ0 45 g) t (σ0 42 g) ≤ NU σ0 l 0)), gX 1, gX 1] [gI (gb (σ0 4 (σ0 42 g) = 0 ∧ DG σ0 (σ0 43 g) (σ0 45 g) t (σ0 42 g) ≤ NU σ0 l 0)), gI 8, gR 111] := by
            refine w_iast (pc' := 168) kd_111 (by omega) (by omega) dX3_decide_167 rfl ?_
            refine w_aload_n (pc' := 169) (i := 0) (by rfl) (by rfl) dX3_decide_168 rfl ?_
            refine w_getS (pc' := 172) (q := 111) fg_X3_9 kd_110 sf_X3_6 gr_110_6 dX3_decide_169 rfl ?_
            refine w_bipush (pc' := 174) (by decide) (by decide) dX3_decide_172 rfl ?_
            refine w_aload_n (pc' := 175) (i := 0) (by rfl) (by rfl) dX3_decide_174 rfl ?_
            refine w_getS (pc' := 178) (q := 41) fg_X3_31 kd_110 sf_X3_4 gr_110_4 dX3_decide_175 rfl ?_
            refine w_iload_n (pc' := 179) (i := 1) (by rfl) (by rfl) dX3_decide_178 rfl ?_
            refine w_iload_n (pc' := 180) (i := 2) (by rfl) (by rfl) dX3_decide_179 rfl ?_
            refine v_callVE (pc' := 183) (st' := [gI (LEAST σ0 g t), gI 6, gR 111]) (d' := 2) (av := [gI g, gI t]) mi_mX2_leastOf lk_X3_71 rfl ci_X2 kd_41 rfl (Nat.le_of_ble_eq_true rfl) (Nat.le_of_ble_eq_true rfl) dX3_decide_180 rfl rfl (hmP (F := fun z => gI (LEAST z g t)) (((hm_up (k := 111) (i := 8) (v := (gb (σ0 4 (σ0 42 g) = 0 ∧ DG σ0 (σ0 43 g) (σ0 45 g) t (σ0 42 g) ≤ NU σ0 l 0))) (hm_nfC 111 (by decide) _)).trans hqj.1)) (fun _ => rfl) (g_leastOf (gUp σj 111 8 (gb (σ0 4 (σ0 42 g) = 0 ∧ DG σ0 (σ0 43 g) (σ0 45 g) t (σ0 42 g) ≤ NU σ0 l 0))) (hm_FA (((hm_up (k := 111) (i := 8) (v := (gb (σ0 4 (σ0 42 g) = 0 ∧ DG σ0 (σ0 43 g) (σ0 45 g) t (σ0 42 g) ≤ NU σ0 l 0))) (hm_nfC 111 (by decide) _)).trans hqj.1)) hI.1).1.hz g t (gr_n (((hm_up (k := 111) (i := 8) (v := (gb (σ0 4 (σ0 42 g) = 0 ∧ DG σ0 (σ0 43 g) (σ0 45 g) t (σ0 42 g) ≤ NU σ0 l 0))) (hm_nfC 111 (by decide) _)).trans hqj.1)) ⟨by omega, by omega⟩))) ?_
            refine w_iast (pc' := 184) kd_111 (by omega) (by omega) dX3_decide_183 rfl ?_
            refine w_aload_n (pc' := 185) (i := 0) (by rfl) (by rfl) dX3_decide_184 rfl ?_
            refine w_getS (pc' := 188) (q := 111) fg_X3_9 kd_110 sf_X3_6 gr_110_6 dX3_decide_185 rfl ?_
            refine w_bipush (pc' := 190) (by decide) (by decide) dX3_decide_188 rfl ?_
            refine w_aload_n (pc' := 191) (i := 0) (by rfl) (by rfl) dX3_decide_190 rfl ?_
            refine w_getS (pc' := 194) (q := 41) fg_X3_31 kd_110 sf_X3_4 gr_110_4 dX3_decide_191 rfl ?_
            refine w_iload_n (pc' := 195) (i := 1) (by rfl) (by rfl) dX3_decide_194 rfl ?_
            refine w_iload_n (pc' := 196) (i := 2) (by rfl) (by rfl) dX3_decide_195 rfl ?_
            refine v_callVE (pc' := 199) (st' := [gI (MOST σ0 g t), gI 7, gR 111]) (d' := 2) (av := [gI g, gI t]) mi_mX2_mostOf lk_X3_117 rfl ci_X2 kd_41 rfl (Nat.le_of_ble_eq_true rfl) (Nat.le_of_ble_eq_true rfl) dX3_decide_196 rfl rfl (hmP (F := fun z => gI (MOST z g t)) (((hm_up (k := 111) (i := 6) (v := (LEAST σ0 g t)) (hm_nfC 111 (by decide) _)).trans ((hm_up (k := 111) (i := 8) (v := (gb (σ0 4 (σ0 42 g) = 0 ∧ DG σ0 (σ0 43 g) (σ0 45 g) t (σ0 42 g) ≤ NU σ0 l 0))) (hm_nfC 111 (by decide) _)).trans hqj.1))) (fun _ => rfl) (g_mostOf (gUp (gUp σj 111 8 (gb (σ0 4 (σ0 42 g) = 0 ∧ DG σ0 (σ0 43 g) (σ0 45 g) t (σ0 42 g) ≤ NU σ0 l 0))) 111 6 (LEAST σ0 g t)) (hm_FA (((hm_up (k := 111) (i := 6) (v := (LEAST σ0 g t)) (hm_nfC 111 (by decide) _)).trans ((hm_up (k := 111) (i := 8) (v := (gb (σ0 4 (σ0 42 g) = 0 ∧ DG σ0 (σ0 43 g) (σ0 45 g) t (σ0 42 g) ≤ NU σ0 l 0))) (hm_nfC 111 (by decide) _)).trans hqj.1))) hI.1).1.hz g t (gr_n (((hm_up (k := 111) (i := 6) (v := (LEAST σ0 g t)) (hm_nfC 111 (by decide) _)).trans ((hm_up (k := 111) (i := 8) (v := (gb (σ0 4 (σ0 42 g) = 0 ∧ DG σ0 (σ0 43 g) (σ0 45 g) t (σ0 42 g) ≤ NU σ0 l 0))) (hm_nfC 111 (by decide) _)).trans hqj.1))) ⟨by omega, by omega⟩))) ?_
            refine w_iast (pc' := 200) kd_111 (by omega) (by omega) dX3_decide_199 rfl ?_
            refine w_aload_n (pc' := 201) (i := 0) (by rfl) (by rfl) dX3_decide_200 rfl ?_
            refine w_iconst (pc' := 202) (by decide) dX3_decide_201 rfl ?_
            refine v_putI (pc' := 205) (ji := 7) rfl fp_X3_47 kd_110 sf_X3_7 dX3_decide_202 rfl ?_
            refine w_aload_n (pc' := 206) (i := 0) (by rfl) (by rfl) dX3_decide_205 rfl ?_
            refine w_iconst (pc' := 207) (by decide) dX3_decide_206 rfl ?_
            refine v_putI (pc' := 210) (ji := 8) rfl fp_X3_51 kd_110 sf_X3_8 dX3_decide_207 rfl ?_
            refine w_iconst (pc' := 211) (by decide) dX3_decide_210 rfl ?_
            refine w_istore (pc' := 213) (ls' := [gR 110, gI g, gI t, gI (σ0 45 g), gI (σ0 43 g), gI (σ0 42 g), gR c, gI (σ0 44 g), gI (gb (σ0 4 (σ0 42 g) = 0 ∧ DG σ0 (σ0 43 g) (σ0 45 g) t (σ0 42 g) ≤ NU σ0 l 0)), gI 0, gX 1]) (by decide) (by rfl) dX3_decide_211 rfl ?_
            have hte0 := hL.num.2.2.2.2.2.1.2
            have hfor : gb ((0 ≤ g ∧ g < σ0 41 11) ∧ σ0 46 g ≠ 0) = σ0 46 g := by
              have x := (gift_row hI hg.1 hg.2).2.2.2.2.2.1
              unfold gb
              by_cases c : σ0 46 g = 0
              · rw [if_neg (fun y => y.2 c), c]
              · rw [if_pos ⟨hg, c⟩]; omega
            have hj : ∀ m, σj 111 m = if m = 4 then gb ((0 ≤ g ∧ g < σ0 41 11) ∧ σ0 46 g ≠ 0) else if m = σ0 44 g then 1 else if m = 10 then CNTV σ0 (σ0 43 g) (σ0 42 g) (σ0 45 g) t l else if m = 9 then SUMV σ0 (σ0 43 g) (σ0 42 g) (σ0 45 g) t l else fillF (σ 111) 14 0 m := fun m => by
              rw [hkj 111 (by decide)]
              show (if m = 4 then gb ((0 ≤ g ∧ g < σ0 41 11) ∧ σ0 46 g ≠ 0) else if m = σ0 44 g then 1 else if m = 10 then CNTV σ0 (σ0 43 g) (σ0 42 g) (σ0 45 g) t l else if m = 9 then SUMV σ0 (σ0 43 g) (σ0 42 g) (σ0 45 g) t l else σ57 111 m) = _
              rw [hk_57 111 (by decide)]
              rfl
            have hval : ∀ ru du m b : Int, (b = 0 ∨ b = 1) → (0 ≤ m ∧ m ≤ 10) → (gUp (gUp (gUp (gUp (gUp (gUp σj 111 8 (gb (σ0 4 (σ0 42 g) = 0 ∧ DG σ0 (σ0 43 g) (σ0 45 g) t (σ0 42 g) ≤ NU σ0 l 0))) 111 6 (LEAST σ0 g t)) 111 7 (MOST σ0 g t)) 110 7 ru) 110 8 du) 111 5 b) 111 m = FJ σ0 g t l b (rnM m) ∧ (¬ isMeas m → (gUp (gUp (gUp (gUp (gUp (gUp σj 111 8 (gb (σ0 4 (σ0 42 g) = 0 ∧ DG σ0 (σ0 43 g) (σ0 45 g) t (σ0 42 g) ≤ NU σ0 l 0))) 111 6 (LEAST σ0 g t)) 111 7 (MOST σ0 g t)) 110 7 ru) 110 8 du) 111 5 b) 111 m = 0 ∨ (gUp (gUp (gUp (gUp (gUp (gUp σj 111 8 (gb (σ0 4 (σ0 42 g) = 0 ∧ DG σ0 (σ0 43 g) (σ0 45 g) t (σ0 42 g) ≤ NU σ0 l 0))) 111 6 (LEAST σ0 g t)) 111 7 (MOST σ0 g t)) 110 7 ru) 110 8 du) 111 5 b) 111 m = 1) := by
              intro ru du m b hb hm
              have e : (gUp (gUp (gUp (gUp (gUp (gUp σj 111 8 (gb (σ0 4 (σ0 42 g) = 0 ∧ DG σ0 (σ0 43 g) (σ0 45 g) t (σ0 42 g) ≤ NU σ0 l 0))) 111 6 (LEAST σ0 g t)) 111 7 (MOST σ0 g t)) 110 7 ru) 110 8 du) 111 5 b) 111 m = FJ σ0 g t l b (rnM m) := by
                show (if m = 5 then b else (if m = 7 then MOST σ0 g t else (if m = 6 then LEAST σ0 g t else (if m = 8 then gb (σ0 4 (σ0 42 g) = 0 ∧ DG σ0 (σ0 43 g) (σ0 45 g) t (σ0 42 g) ≤ NU σ0 l 0) else (σj 111 m))))) = _
                rw [hj, hfor]
                have r := (gift_row hI hg.1 hg.2).2.2.2.1
                rcases (show m = 0 ∨ m = 1 ∨ m = 2 ∨ m = 3 ∨ m = 4 ∨ m = 5 ∨ m = 6 ∨ m = 7 ∨ m = 8 ∨ m = 9 ∨ m = 10 by omega) with rfl | rfl | rfl | rfl | rfl | rfl | rfl | rfl | rfl | rfl | rfl
                all_goals simp [FJ, rnM, fillF, gb]
                all_goals (try omega)
              rw [e]
              exact ⟨rfl, fun hn => FJ_01 hI hg.1 hg.2 hb hm hn⟩
            have hl_213 : ∀ (mm : Nat) (k ru du bk : Int), (TE σ0 l - k).toNat = mm → (0 ≤ k) → (k ≤ TE σ0 l) → (ru = fstI (fun k => jP σ0 g t l k) k.toNat) → (du = if ru = -1 then -1 else σ0 45 g + WI σ0 l ru) → Wp mX3_decide 5 (fun v σ' => v = gX 1 ∧ QC σ0 σ' ∧ Kp 112 σ σ' ∧ σ' 110 7 = RULE σ0 g t ∧ σ' 110 8 = DUE σ0 g t ∧ σ' 111 9 = SUMV σ0 (σ0 43 g) (σ0 42 g) (σ0 45 g) t l ∧ σ' 111 10 = CNTV σ0 (σ0 43 g) (σ0 42 g) (σ0 45 g) t l) (gUp (gUp (gUp (gUp (gUp (gUp σj 111 8 (gb (σ0 4 (σ0 42 g) = 0 ∧ DG σ0 (σ0 43 g) (σ0 45 g) t (σ0 42 g) ≤ NU σ0 l 0))) 111 6 (LEAST σ0 g t)) 111 7 (MOST σ0 g t)) 110 7 ru) 110 8 du) 111 5 bk) 213 [gR 110, gI g, gI t, gI (σ0 45 g), gI (σ0 43 g), gI (σ0 42 g), gR c, gI (σ0 44 g), gI (gb (σ0 4 (σ0 42 g) = 0 ∧ DG σ0 (σ0 43 g) (σ0 45 g) t (σ0 42 g) ≤ NU σ0 l 0)), gI k, gX 1] [] := by
              intro m_213
              induction m_213 using Nat.strongRecOn with
              | _ m_213 ih_213 =>
                intro k ru du bk hmeas_213 h0 h1 hru hdu
                have hte := hL.num.2.2.2.2.2.1.2.2
                have hri := fstI_in (P := (fun k => jP σ0 g t l k)) k.toNat
                rw [← hru] at hri
                have hwk := fun h : k < TE σ0 l => (hL.within h0 h).2
                have hvv : k < TE σ0 l → ∀ m, isAtm k m → (gUp (gUp (gUp (gUp (gUp (gUp σj 111 8 (gb (σ0 4 (σ0 42 g) = 0 ∧ DG σ0 (σ0 43 g) (σ0 45 g) t (σ0 42 g) ≤ NU σ0 l 0))) 111 6 (LEAST σ0 g t)) 111 7 (MOST σ0 g t)) 110 7 ru) 110 8 du) 111 5 (bkv σ0 g t l k)) 111 m = FJ σ0 g t l (bkv σ0 g t l k) (rnM m) ∧ (¬ isMeas m → (gUp (gUp (gUp (gUp (gUp (gUp σj 111 8 (gb (σ0 4 (σ0 42 g) = 0 ∧ DG σ0 (σ0 43 g) (σ0 45 g) t (σ0 42 g) ≤ NU σ0 l 0))) 111 6 (LEAST σ0 g t)) 111 7 (MOST σ0 g t)) 110 7 ru) 110 8 du) 111 5 (bkv σ0 g t l k)) 111 m = 0 ∨ (gUp (gUp (gUp (gUp (gUp (gUp σj 111 8 (gb (σ0 4 (σ0 42 g) = 0 ∧ DG σ0 (σ0 43 g) (σ0 45 g) t (σ0 42 g) ≤ NU σ0 l 0))) 111 6 (LEAST σ0 g t)) 111 7 (MOST σ0 g t)) 110 7 ru) 110 8 du) 111 5 (bkv σ0 g t l k)) 111 m = 1) := fun hlt m hm => hval ru du m _ (gb_01 _) (by unfold isAtm at hm; rw [if_pos (by omega)] at hm; exact hm)
                refine w_iload (pc' := 215) (by rfl) dX3_decide_213 rfl ?_
                refine w_aload (pc' := 217) (by rfl) dX3_decide_215 rfl ?_
                refine v_callVE (pc' := 220) (st' := [gI (TE σ0 l), gI k]) (d' := 0) (av := []) mi_mX4_totalTells lk_X3_120 rfl ci_X4 hL.is.1.1 rfl (Nat.le_of_ble_eq_true rfl) (Nat.le_of_ble_eq_true rfl) dX3_decide_217 rfl rfl (k_tellsL hL (((hm_up (k := 111) (i := 5) (v := bk) (hm_nfC 111 (by decide) _)).trans ((hm_up (k := 110) (i := 8) (v := du) (hm_nfC 110 (by decide) _)).trans ((hm_up (k := 110) (i := 7) (v := ru) (hm_nfC 110 (by decide) _)).trans ((hm_up (k := 111) (i := 7) (v := (MOST σ0 g t)) (hm_nfC 111 (by decide) _)).trans ((hm_up (k := 111) (i := 6) (v := (LEAST σ0 g t)) (hm_nfC 111 (by decide) _)).trans ((hm_up (k := 111) (i := 8) (v := (gb (σ0 4 (σ0 42 g) = 0 ∧ DG σ0 (σ0 43 g) (σ0 45 g) t (σ0 42 g) ≤ NU σ0 l 0))) (hm_nfC 111 (by decide) _)).trans hqj.1)))))))) ?_
                refine w_icmp_ge (pc' := 223) (t := 299) dX3_decide_220 rfl rfl (fun c_220 => ?_) (fun c_220 => ?_)
                · skip
                  refine w_return rfl dX3_decide_299 ?_
                  have hte := hL.num.2.2.2.2.2.1
                  have er : ru = RULE σ0 g t := by
                    have e1 : RULE σ0 g t = fstI (fun k => jP σ0 g t l k) (TE σ0 l).toNat := by rw [← hl]; rfl
                    rw [e1]
                    by_cases e : k = TE σ0 l
                    · rw [hru, e]
                    · have ne : fstI (fun k => jP σ0 g t l k) k.toNat ≠ -1 := by rw [← hru]; omega
                      rw [hru]
                      exact (fstI_keep ne _ (by omega)).symm
                  have ed : du = DUE σ0 g t := by
                    unfold DUE
                    rw [hdu, er, hl]
                  have kj : Kp 112 σ σj := fun q hq2 => by
                    rw [hkj q (by omega)]
                    have g1 : ∀ (X : gH) (i v : Int), gUp X 111 i v q = X q := fun X i v => if_neg (by omega)
                    rw [g1, g1, g1, g1, hk_57 q (by omega)]
                    exact if_neg (by omega)
                  have hq9 : QC σ0 σj := hqj
                  refine ⟨rfl, (QC.up (k := 111) (i := 5) (v := bk) (QC.up (k := 110) (i := 8) (v := du) (QC.up (k := 110) (i := 7) (v := ru) (QC.up (k := 111) (i := 7) (v := (MOST σ0 g t)) (QC.up (k := 111) (i := 6) (v := (LEAST σ0 g t)) (QC.up (k := 111) (i := 8) (v := (gb (σ0 4 (σ0 42 g) = 0 ∧ DG σ0 (σ0 43 g) (σ0 45 g) t (σ0 42 g) ≤ NU σ0 l 0))) hqj (hm_nfC 111 (by decide) _) (fun h => h)) (hm_nfC 111 (by decide) _) (fun h => h)) (hm_nfC 111 (by decide) _) (fun h => h)) (hm_nfC 110 (by decide) _) (fun h => h)) (hm_nfC 110 (by decide) _) (fun h => h)) (hm_nfC 111 (by decide) _) (fun h => h)), ((((((kj.up (by decide)).up (by decide)).up (by decide)).up (by decide)).up (by decide)).up (by decide)), er, ed, ?_, ?_⟩
                  · show σj 111 9 = _
                    rw [hj 9]
                    have r := (gift_row hI hg.1 hg.2).2.2.2.1
                    rw [if_neg (by omega), if_neg (by omega), if_neg (by omega), if_pos rfl]
                  · show σj 111 10 = _
                    rw [hj 10]
                    have r := (gift_row hI hg.1 hg.2).2.2.2.1
                    rw [if_neg (by omega), if_neg (by omega), if_pos rfl]
                · skip
                  refine w_aload_n (pc' := 224) (i := 0) (by rfl) (by rfl) dX3_decide_223 rfl ?_
                  refine v_getI (pc' := 227) (ji := 7) rfl fg_X3_47 kd_110 dX3_decide_224 rfl ?_
                  show Wp _ _ _ _ _ _ [gI ru]
                  refine w_iconst (pc' := 228) (by decide) dX3_decide_227 rfl ?_
                  refine w_icmp_ne (pc' := 231) (t := 299) dX3_decide_228 rfl rfl (fun c_228 => ?_) (fun c_228 => ?_)
                  · skip
                    refine w_return rfl dX3_decide_299 ?_
                    have hte := hL.num.2.2.2.2.2.1
                    have er : ru = RULE σ0 g t := by
                      have e1 : RULE σ0 g t = fstI (fun k => jP σ0 g t l k) (TE σ0 l).toNat := by rw [← hl]; rfl
                      rw [e1]
                      by_cases e : k = TE σ0 l
                      · rw [hru, e]
                      · have ne : fstI (fun k => jP σ0 g t l k) k.toNat ≠ -1 := by rw [← hru]; omega
                        rw [hru]
                        exact (fstI_keep ne _ (by omega)).symm
                    have ed : du = DUE σ0 g t := by
                      unfold DUE
                      rw [hdu, er, hl]
                    have kj : Kp 112 σ σj := fun q hq2 => by
                      rw [hkj q (by omega)]
                      have g1 : ∀ (X : gH) (i v : Int), gUp X 111 i v q = X q := fun X i v => if_neg (by omega)
                      rw [g1, g1, g1, g1, hk_57 q (by omega)]
                      exact if_neg (by omega)
                    have hq9 : QC σ0 σj := hqj
                    refine ⟨rfl, (QC.up (k := 111) (i := 5) (v := bk) (QC.up (k := 110) (i := 8) (v := du) (QC.up (k := 110) (i := 7) (v := ru) (QC.up (k := 111) (i := 7) (v := (MOST σ0 g t)) (QC.up (k := 111) (i := 6) (v := (LEAST σ0 g t)) (QC.up (k := 111) (i := 8) (v := (gb (σ0 4 (σ0 42 g) = 0 ∧ DG σ0 (σ0 43 g) (σ0 45 g) t (σ0 42 g) ≤ NU σ0 l 0))) hqj (hm_nfC 111 (by decide) _) (fun h => h)) (hm_nfC 111 (by decide) _) (fun h => h)) (hm_nfC 111 (by decide) _) (fun h => h)) (hm_nfC 110 (by decide) _) (fun h => h)) (hm_nfC 110 (by decide) _) (fun h => h)) (hm_nfC 111 (by decide) _) (fun h => h)), ((((((kj.up (by decide)).up (by decide)).up (by decide)).up (by decide)).up (by decide)).up (by decide)), er, ed, ?_, ?_⟩
                    · show σj 111 9 = _
                      rw [hj 9]
                      have r := (gift_row hI hg.1 hg.2).2.2.2.1
                      rw [if_neg (by omega), if_neg (by omega), if_neg (by omega), if_pos rfl]
                    · show σj 111 10 = _
                      rw [hj 10]
                      have r := (gift_row hI hg.1 hg.2).2.2.2.1
                      rw [if_neg (by omega), if_neg (by omega), if_pos rfl]
                  · skip
                    refine w_iload_n (pc' := 232) (i := 3) (by rfl) (by rfl) dX3_decide_231 rfl ?_
                    refine w_aload (pc' := 234) (by rfl) dX3_decide_232 rfl ?_
                    refine w_iload (pc' := 236) (by rfl) dX3_decide_234 rfl ?_
                    refine v_callVE (pc' := 239) (st' := [gI (WI σ0 l k), gI (σ0 45 g)]) (d' := 0) (av := [gI k]) mi_mX4_within lk_X3_123 rfl ci_X4 hL.is.1.1 rfl (Nat.le_of_ble_eq_true rfl) (Nat.le_of_ble_eq_true rfl) dX3_decide_236 rfl rfl (k_withinL hL (((hm_up (k := 111) (i := 5) (v := bk) (hm_nfC 111 (by decide) _)).trans ((hm_up (k := 110) (i := 8) (v := du) (hm_nfC 110 (by decide) _)).trans ((hm_up (k := 110) (i := 7) (v := ru) (hm_nfC 110 (by decide) _)).trans ((hm_up (k := 111) (i := 7) (v := (MOST σ0 g t)) (hm_nfC 111 (by decide) _)).trans ((hm_up (k := 111) (i := 6) (v := (LEAST σ0 g t)) (hm_nfC 111 (by decide) _)).trans ((hm_up (k := 111) (i := 8) (v := (gb (σ0 4 (σ0 42 g) = 0 ∧ DG σ0 (σ0 43 g) (σ0 45 g) t (σ0 42 g) ≤ NU σ0 l 0))) (hm_nfC 111 (by decide) _)).trans hqj.1))))))) (by omega) (by omega)) ?_
                    refine v_iadd (pc' := 240) (by have := hwk (by omega); omega) dX3_decide_239 rfl ?_
                    refine w_istore (pc' := 242) (ls' := [gR 110, gI g, gI t, gI (σ0 45 g), gI (σ0 43 g), gI (σ0 42 g), gR c, gI (σ0 44 g), gI (gb (σ0 4 (σ0 42 g) = 0 ∧ DG σ0 (σ0 43 g) (σ0 45 g) t (σ0 42 g) ≤ NU σ0 l 0)), gI k, gI ((σ0 45 g) + (WI σ0 l k))]) (by decide) (by rfl) dX3_decide_240 rfl ?_
                    refine w_aload_n (pc' := 243) (i := 0) (by rfl) (by rfl) dX3_decide_242 rfl ?_
                    refine w_getS (pc' := 246) (q := 111) fg_X3_9 kd_110 sf_X3_6 gr_110_6 dX3_decide_243 rfl ?_
                    refine w_iconst (pc' := 247) (by decide) dX3_decide_246 rfl ?_
                    refine w_aload_n (pc' := 248) (i := 0) (by rfl) (by rfl) dX3_decide_247 rfl ?_
                    refine w_getS (pc' := 251) (q := 41) fg_X3_31 kd_110 sf_X3_4 gr_110_4 dX3_decide_248 rfl ?_
                    refine w_iload_n (pc' := 252) (i := 1) (by rfl) (by rfl) dX3_decide_251 rfl ?_
                    refine w_iload (pc' := 254) (by rfl) dX3_decide_252 rfl ?_
                    refine w_iload_n (pc' := 255) (i := 2) (by rfl) (by rfl) dX3_decide_254 rfl ?_
                    refine v_callVE (pc' := 258) (st' := [gI (gb (BACK σ0 g t ≠ -1 ∧ BACK σ0 g t ≤ ((σ0 45 g) + (WI σ0 l k)))), gI 5, gR 111]) (d' := 2) (av := [gI g, gI ((σ0 45 g) + (WI σ0 l k)), gI t]) mi_mX2_isBackBy lk_X3_126 rfl ci_X2 kd_41 rfl (Nat.le_of_ble_eq_true rfl) (Nat.le_of_ble_eq_true rfl) dX3_decide_255 rfl rfl (hmP (F := fun z => gI (gb (BACK z g t ≠ -1 ∧ BACK z g t ≤ ((σ0 45 g) + (WI σ0 l k))))) (((hm_up (k := 111) (i := 5) (v := bk) (hm_nfC 111 (by decide) _)).trans ((hm_up (k := 110) (i := 8) (v := du) (hm_nfC 110 (by decide) _)).trans ((hm_up (k := 110) (i := 7) (v := ru) (hm_nfC 110 (by decide) _)).trans ((hm_up (k := 111) (i := 7) (v := (MOST σ0 g t)) (hm_nfC 111 (by decide) _)).trans ((hm_up (k := 111) (i := 6) (v := (LEAST σ0 g t)) (hm_nfC 111 (by decide) _)).trans ((hm_up (k := 111) (i := 8) (v := (gb (σ0 4 (σ0 42 g) = 0 ∧ DG σ0 (σ0 43 g) (σ0 45 g) t (σ0 42 g) ≤ NU σ0 l 0))) (hm_nfC 111 (by decide) _)).trans hqj.1))))))) (fun _ => rfl) (g_isBackBy (gUp (gUp (gUp (gUp (gUp (gUp σj 111 8 (gb (σ0 4 (σ0 42 g) = 0 ∧ DG σ0 (σ0 43 g) (σ0 45 g) t (σ0 42 g) ≤ NU σ0 l 0))) 111 6 (LEAST σ0 g t)) 111 7 (MOST σ0 g t)) 110 7 ru) 110 8 du) 111 5 bk) (hm_FA (((hm_up (k := 111) (i := 5) (v := bk) (hm_nfC 111 (by decide) _)).trans ((hm_up (k := 110) (i := 8) (v := du) (hm_nfC 110 (by decide) _)).trans ((hm_up (k := 110) (i := 7) (v := ru) (hm_nfC 110 (by decide) _)).trans ((hm_up (k := 111) (i := 7) (v := (MOST σ0 g t)) (hm_nfC 111 (by decide) _)).trans ((hm_up (k := 111) (i := 6) (v := (LEAST σ0 g t)) (hm_nfC 111 (by decide) _)).trans ((hm_up (k := 111) (i := 8) (v := (gb (σ0 4 (σ0 42 g) = 0 ∧ DG σ0 (σ0 43 g) (σ0 45 g) t (σ0 42 g) ≤ NU σ0 l 0))) (hm_nfC 111 (by decide) _)).trans hqj.1))))))) hI.1).1.hz g ((σ0 45 g) + (WI σ0 l k)) t (gr_n (((hm_up (k := 111) (i := 5) (v := bk) (hm_nfC 111 (by decide) _)).trans ((hm_up (k := 110) (i := 8) (v := du) (hm_nfC 110 (by decide) _)).trans ((hm_up (k := 110) (i := 7) (v := ru) (hm_nfC 110 (by decide) _)).trans ((hm_up (k := 111) (i := 7) (v := (MOST σ0 g t)) (hm_nfC 111 (by decide) _)).trans ((hm_up (k := 111) (i := 6) (v := (LEAST σ0 g t)) (hm_nfC 111 (by decide) _)).trans ((hm_up (k := 111) (i := 8) (v := (gb (σ0 4 (σ0 42 g) = 0 ∧ DG σ0 (σ0 43 g) (σ0 45 g) t (σ0 42 g) ≤ NU σ0 l 0))) (hm_nfC 111 (by decide) _)).trans hqj.1))))))) ⟨by omega, by omega⟩))) ?_
                    have hj_266 : Wp mX3_decide 5 (fun v σ' => v = gX 1 ∧ QC σ0 σ' ∧ Kp 112 σ σ' ∧ σ' 110 7 = RULE σ0 g t ∧ σ' 110 8 = DUE σ0 g t ∧ σ' 111 9 = SUMV σ0 (σ0 43 g) (σ0 42 g) (σ0 45 g) t l ∧ σ' 111 10 = CNTV σ0 (σ0 43 g) (σ0 42 g) (σ0 45 g) t l) (gUp (gUp (gUp (gUp (gUp (gUp σj 111 8 (gb (σ0 4 (σ0 42 g) = 0 ∧ DG σ0 (σ0 43 g) (σ0 45 g) t (σ0 42 g) ≤ NU σ0 l 0))) 111 6 (LEAST σ0 g t)) 111 7 (MOST σ0 g t)) 110 7 ru) 110 8 du) 111 5 bk) 266 [gR 110, gI g, gI t, gI (σ0 45 g), gI (σ0 43 g), gI (σ0 42 g), gR c, gI (σ0 44 g), gI (gb (σ0 4 (σ0 42 g) = 0 ∧ DG σ0 (σ0 43 g) (σ0 45 g) t (σ0 42 g) ≤ NU σ0 l 0)), gI k, gI ((σ0 45 g) + (WI σ0 l k))] [gI (gb (BACK σ0 g t ≠ -1 ∧ BACK σ0 g t ≤ σ0 45 g + (WI σ0 l k))), gI 5, gR 111] := by
                      refine w_iast (pc' := 267) kd_111 (by omega) (by omega) dX3_decide_266 rfl ?_
                      refine Wp.heq (σ' := gUp (gUp (gUp (gUp (gUp (gUp σj 111 8 (gb (σ0 4 (σ0 42 g) = 0 ∧ DG σ0 (σ0 43 g) (σ0 45 g) t (σ0 42 g) ≤ NU σ0 l 0))) 111 6 (LEAST σ0 g t)) 111 7 (MOST σ0 g t)) 110 7 ru) 110 8 du) 111 5 (gb (BACK σ0 g t ≠ -1 ∧ BACK σ0 g t ≤ σ0 45 g + (WI σ0 l k)))) gUp_same ?_
                      refine w_aload (pc' := 269) (by rfl) dX3_decide_267 rfl ?_
                      refine w_iload (pc' := 271) (by rfl) dX3_decide_269 rfl ?_
                      refine w_aload_n (pc' := 272) (i := 0) (by rfl) (by rfl) dX3_decide_271 rfl ?_
                      refine w_getS (pc' := 275) (q := 111) fg_X3_9 kd_110 sf_X3_6 gr_110_6 dX3_decide_272 rfl ?_
                      refine v_callVE (pc' := 278) (st' := [gI (gb (jP σ0 g t l k))]) (d' := 1) (av := [gI k, gR 111]) mi_mX4_holds lk_X3_130 rfl ci_X4 hL.is.1.1 rfl (Nat.le_of_ble_eq_true rfl) (Nat.le_of_ble_eq_true rfl) dX3_decide_275 rfl rfl (k_holdsL hL (((hm_up (k := 111) (i := 5) (v := (gb (BACK σ0 g t ≠ -1 ∧ BACK σ0 g t ≤ σ0 45 g + (WI σ0 l k)))) (hm_nfC 111 (by decide) _)).trans ((hm_up (k := 110) (i := 8) (v := du) (hm_nfC 110 (by decide) _)).trans ((hm_up (k := 110) (i := 7) (v := ru) (hm_nfC 110 (by decide) _)).trans ((hm_up (k := 111) (i := 7) (v := (MOST σ0 g t)) (hm_nfC 111 (by decide) _)).trans ((hm_up (k := 111) (i := 6) (v := (LEAST σ0 g t)) (hm_nfC 111 (by decide) _)).trans ((hm_up (k := 111) (i := 8) (v := (gb (σ0 4 (σ0 42 g) = 0 ∧ DG σ0 (σ0 43 g) (σ0 45 g) t (σ0 42 g) ≤ NU σ0 l 0))) (hm_nfC 111 (by decide) _)).trans hqj.1))))))) k (by omega) (by omega) (FJ σ0 g t l (bkv σ0 g t l k)) (fun m hm _ => hvv (by omega) m hm)) ?_
                      refine v_if_eqB (pc' := 281) (t := 293) dX3_decide_278 rfl rfl (fun c_278 => ?_) (fun c_278 => ?_)
                      · skip
                        refine v_iinc (pc' := 296) (x := k) (ls' := [gR 110, gI g, gI t, gI (σ0 45 g), gI (σ0 43 g), gI (σ0 42 g), gR c, gI (σ0 44 g), gI (gb (σ0 4 (σ0 42 g) = 0 ∧ DG σ0 (σ0 43 g) (σ0 45 g) t (σ0 42 g) ≤ NU σ0 l 0)), gI (k + 1), gI ((σ0 45 g) + (WI σ0 l k))]) (by omega) (by decide) (by rfl) (by rfl) dX3_decide_293 rfl ?_
                        refine w_goto (pc' := 213) dX3_decide_296 rfl ?_
                        refine Wp.lose (ls' := [gR 110, gI g, gI t, gI (σ0 45 g), gI (σ0 43 g), gI (σ0 42 g), gR c, gI (σ0 44 g), gI (gb (σ0 4 (σ0 42 g) = 0 ∧ DG σ0 (σ0 43 g) (σ0 45 g) t (σ0 42 g) ≤ NU σ0 l 0)), gI (k + 1), gX 1]) ⟨.inr rfl, ⟨.inr rfl, ⟨.inr rfl, ⟨.inr rfl, ⟨.inr rfl, ⟨.inr rfl, ⟨.inr rfl, ⟨.inr rfl, ⟨.inr rfl, ⟨.inr rfl, ⟨.inl rfl, trivial⟩⟩⟩⟩⟩⟩⟩⟩⟩⟩⟩ ?_
                        exact ih_213 _ (by omega) (k + 1) ru du (gb (BACK σ0 g t ≠ -1 ∧ BACK σ0 g t ≤ σ0 45 g + (WI σ0 l k))) rfl (by omega) (by omega) (by rw [fstI_s h0, ← hru]; first | (rw [if_neg (by omega), if_pos c_278]) | (rw [if_neg (by omega), if_neg c_278]; omega)) (by first | exact hdu | (rw [if_neg (by omega)]))
                      · skip
                        refine w_aload_n (pc' := 282) (i := 0) (by rfl) (by rfl) dX3_decide_281 rfl ?_
                        refine w_iload (pc' := 284) (by rfl) dX3_decide_282 rfl ?_
                        refine v_putI (pc' := 287) (ji := 7) rfl fp_X3_47 kd_110 sf_X3_7 dX3_decide_284 rfl ?_
                        refine Wp.heq (σ' := gUp (gUp (gUp (gUp (gUp (gUp σj 111 8 (gb (σ0 4 (σ0 42 g) = 0 ∧ DG σ0 (σ0 43 g) (σ0 45 g) t (σ0 42 g) ≤ NU σ0 l 0))) 111 6 (LEAST σ0 g t)) 111 7 (MOST σ0 g t)) 110 7 k) 110 8 du) 111 5 (gb (BACK σ0 g t ≠ -1 ∧ BACK σ0 g t ≤ σ0 45 g + (WI σ0 l k)))) ((gUp_cu (by decide)).trans (congrArg (fun z => gUp z 111 5 (gb (BACK σ0 g t ≠ -1 ∧ BACK σ0 g t ≤ σ0 45 g + (WI σ0 l k)))) ((gUp_ci (by decide)).trans (congrArg (fun z => gUp z 110 8 du) gUp_same)))) ?_
                        refine w_aload_n (pc' := 288) (i := 0) (by rfl) (by rfl) dX3_decide_287 rfl ?_
                        refine w_iload (pc' := 290) (by rfl) dX3_decide_288 rfl ?_
                        refine v_putI (pc' := 293) (ji := 8) rfl fp_X3_51 kd_110 sf_X3_8 dX3_decide_290 rfl ?_
                        refine Wp.heq (σ' := gUp (gUp (gUp (gUp (gUp (gUp σj 111 8 (gb (σ0 4 (σ0 42 g) = 0 ∧ DG σ0 (σ0 43 g) (σ0 45 g) t (σ0 42 g) ≤ NU σ0 l 0))) 111 6 (LEAST σ0 g t)) 111 7 (MOST σ0 g t)) 110 7 k) 110 8 ((σ0 45 g) + (WI σ0 l k))) 111 5 (gb (BACK σ0 g t ≠ -1 ∧ BACK σ0 g t ≤ σ0 45 g + (WI σ0 l k)))) ((gUp_cu (by decide)).trans (congrArg (fun z => gUp z 111 5 (gb (BACK σ0 g t ≠ -1 ∧ BACK σ0 g t ≤ σ0 45 g + (WI σ0 l k)))) gUp_same)) ?_
                        refine v_iinc (pc' := 296) (x := k) (ls' := [gR 110, gI g, gI t, gI (σ0 45 g), gI (σ0 43 g), gI (σ0 42 g), gR c, gI (σ0 44 g), gI (gb (σ0 4 (σ0 42 g) = 0 ∧ DG σ0 (σ0 43 g) (σ0 45 g) t (σ0 42 g) ≤ NU σ0 l 0)), gI (k + 1), gI ((σ0 45 g) + (WI σ0 l k))]) (by omega) (by decide) (by rfl) (by rfl) dX3_decide_293 rfl ?_
                        refine w_goto (pc' := 213) dX3_decide_296 rfl ?_
                        refine Wp.lose (ls' := [gR 110, gI g, gI t, gI (σ0 45 g), gI (σ0 43 g), gI (σ0 42 g), gR c, gI (σ0 44 g), gI (gb (σ0 4 (σ0 42 g) = 0 ∧ DG σ0 (σ0 43 g) (σ0 45 g) t (σ0 42 g) ≤ NU σ0 l 0)), gI (k + 1), gX 1]) ⟨.inr rfl, ⟨.inr rfl, ⟨.inr rfl, ⟨.inr rfl, ⟨.inr rfl, ⟨.inr rfl, ⟨.inr rfl, ⟨.inr rfl, ⟨.inr rfl, ⟨.inr rfl, ⟨.inl rfl, trivial⟩⟩⟩⟩⟩⟩⟩⟩⟩⟩⟩ ?_
                        exact ih_213 _ (by omega) (k + 1) k ((σ0 45 g) + (WI σ0 l k)) (gb (BACK σ0 g t ≠ -1 ∧ BACK σ0 g t ≤ σ0 45 g + (WI σ0 l k))) rfl (by omega) (by omega) (by rw [fstI_s h0, ← hru]; first | (rw [if_neg (by omega), if_pos c_278]) | (rw [if_neg (by omega), if_neg c_278]; omega)) (by first | exact hdu | (rw [if_neg (by omega)]))
                    refine v_if_eqB (pc' := 261) (t := 265) dX3_decide_258 rfl rfl (fun c_258 => ?_) (fun c_258 => ?_)
                    · skip
                      refine w_iconst (pc' := 266) (by decide) dX3_decide_265 rfl ?_
                      exact Wp.stI (by first | (exfalso; omega) | exact (gb_f (P := BACK σ0 g t ≠ -1 ∧ BACK σ0 g t ≤ σ0 45 g + (WI σ0 l k)) (by omega)).symm) hj_266
                    · skip
                      refine w_iconst (pc' := 262) (by decide) dX3_decide_261 rfl ?_
                      refine w_goto (pc' := 266) dX3_decide_262 rfl ?_
                      exact Wp.stI (by first | (exfalso; omega) | exact (gb_t (P := BACK σ0 g t ≠ -1 ∧ BACK σ0 g t ≤ σ0 45 g + (WI σ0 l k)) (by omega)).symm) hj_266
            refine Wp.heq (σ' := gUp (gUp (gUp (gUp (gUp (gUp σj 111 8 (gb (σ0 4 (σ0 42 g) = 0 ∧ DG σ0 (σ0 43 g) (σ0 45 g) t (σ0 42 g) ≤ NU σ0 l 0))) 111 6 (LEAST σ0 g t)) 111 7 (MOST σ0 g t)) 110 7 (-1)) 110 8 (-1)) 111 5 ((gUp (gUp (gUp (gUp (gUp σj 111 8 (gb (σ0 4 (σ0 42 g) = 0 ∧ DG σ0 (σ0 43 g) (σ0 45 g) t (σ0 42 g) ≤ NU σ0 l 0))) 111 6 (LEAST σ0 g t)) 111 7 (MOST σ0 g t)) 110 7 (-1)) 110 8 (-1)) 111 5)) gUp_id.symm ?_
            exact hl_213 _ 0 (-1) (-1) ((gUp (gUp (gUp (gUp (gUp σj 111 8 (gb (σ0 4 (σ0 42 g) = 0 ∧ DG σ0 (σ0 43 g) (σ0 45 g) t (σ0 42 g) ≤ NU σ0 l 0))) 111 6 (LEAST σ0 g t)) 111 7 (MOST σ0 g t)) 110 7 (-1)) 110 8 (-1)) 111 5) rfl (by omega) (by omega) (by rfl) (by rfl)
          refine v_if_eqB (pc' := 162) (t := 166) dX3_decide_159 rfl rfl (fun c_159 => ?_) (fun c_159 => ?_)
          · skip
            refine w_iconst (pc' := 167) (by decide) dX3_decide_166 rfl ?_
            exact Wp.stI (by first | (exfalso; omega) | exact (gb_f (P := σ0 4 (σ0 42 g) = 0 ∧ DG σ0 (σ0 43 g) (σ0 45 g) t (σ0 42 g) ≤ NU σ0 l 0) (by omega)).symm) hj_167
          · skip
            refine w_iconst (pc' := 163) (by decide) dX3_decide_162 rfl ?_
            refine w_goto (pc' := 167) dX3_decide_163 rfl ?_
            exact Wp.stI (by first | (exfalso; omega) | exact (gb_t (P := σ0 4 (σ0 42 g) = 0 ∧ DG σ0 (σ0 43 g) (σ0 45 g) t (σ0 42 g) ≤ NU σ0 l 0) (by omega)).symm) hj_167
        refine w_aload_n (pc' := 112) (i := 0) (by rfl) (by rfl) dX3_decide_111 rfl ?_
        refine w_getS (pc' := 115) (q := 3) fg_X3_15 kd_110 sf_X3_0 gr_110_0 dX3_decide_112 rfl ?_
        refine w_iload (pc' := 117) (by rfl) dX3_decide_115 rfl ?_
        refine v_callVE (pc' := 120) (st' := [gI (gb ((0 ≤ (σ0 42 g) ∧ (σ0 42 g) < (σ0 3 2)) ∧ (σ0 4 (σ0 42 g)) = 0))]) (d' := 1) (av := [gI (σ0 42 g)]) mi_mX8_isPerson lk_X3_103 rfl ci_X8 kd_3 rfl (Nat.le_of_ble_eq_true rfl) (Nat.le_of_ble_eq_true rfl) dX3_decide_117 rfl rfl (hmP (F := fun z => gI (gb ((0 ≤ (σ0 42 g) ∧ (σ0 42 g) < (z 3 2)) ∧ (z 4 (σ0 42 g)) = 0))) (((hm_up (k := 111) (i := 4) (v := (gb ((0 ≤ g ∧ g < σ0 41 11) ∧ σ0 46 g ≠ 0))) (hm_nfC 111 (by decide) _)).trans ((hm_up (k := 111) (i := (σ0 44 g)) (v := 1) (hm_nfC 111 (by decide) _)).trans ((hm_up (k := 111) (i := 10) (v := (CNTV σ0 (σ0 43 g) (σ0 42 g) (σ0 45 g) t l)) (hm_nfC 111 (by decide) _)).trans ((hm_up (k := 111) (i := 9) (v := (SUMV σ0 (σ0 43 g) (σ0 42 g) (σ0 45 g) t l)) (hm_nfC 111 (by decide) _)).trans hq_57.1))))) (fun _ => rfl) (pa_isPerson (gUp (gUp (gUp (gUp σ57 111 9 (SUMV σ0 (σ0 43 g) (σ0 42 g) (σ0 45 g) t l)) 111 10 (CNTV σ0 (σ0 43 g) (σ0 42 g) (σ0 45 g) t l)) 111 (σ0 44 g) 1) 111 4 (gb ((0 ≤ g ∧ g < σ0 41 11) ∧ σ0 46 g ≠ 0))) (hm_FA (((hm_up (k := 111) (i := 4) (v := (gb ((0 ≤ g ∧ g < σ0 41 11) ∧ σ0 46 g ≠ 0))) (hm_nfC 111 (by decide) _)).trans ((hm_up (k := 111) (i := (σ0 44 g)) (v := 1) (hm_nfC 111 (by decide) _)).trans ((hm_up (k := 111) (i := 10) (v := (CNTV σ0 (σ0 43 g) (σ0 42 g) (σ0 45 g) t l)) (hm_nfC 111 (by decide) _)).trans ((hm_up (k := 111) (i := 9) (v := (SUMV σ0 (σ0 43 g) (σ0 42 g) (σ0 45 g) t l)) (hm_nfC 111 (by decide) _)).trans hq_57.1))))) hI.1).1.hp (σ0 42 g))) ?_
        refine v_if_eqB (pc' := 123) (t := 148) dX3_decide_120 rfl rfl (fun c_120 => ?_) (fun c_120 => ?_)
        · skip
          refine w_iconst (pc' := 149) (by decide) dX3_decide_148 rfl ?_
          exact Wp.stI (by first | (exfalso; omega) | exact (gb_f (P := σ0 4 (σ0 42 g) = 0 ∧ DG σ0 (σ0 43 g) (σ0 45 g) t (σ0 42 g) ≤ NU σ0 l 0) (by omega)).symm) (hj_149 (gUp (gUp (gUp (gUp σ57 111 9 (SUMV σ0 (σ0 43 g) (σ0 42 g) (σ0 45 g) t l)) 111 10 (CNTV σ0 (σ0 43 g) (σ0 42 g) (σ0 45 g) t l)) 111 (σ0 44 g) 1) 111 4 (gb ((0 ≤ g ∧ g < σ0 41 11) ∧ σ0 46 g ≠ 0))) (QC.up (k := 111) (i := 4) (v := (gb ((0 ≤ g ∧ g < σ0 41 11) ∧ σ0 46 g ≠ 0))) (QC.up (k := 111) (i := (σ0 44 g)) (v := 1) (QC.up (k := 111) (i := 10) (v := (CNTV σ0 (σ0 43 g) (σ0 42 g) (σ0 45 g) t l)) (QC.up (k := 111) (i := 9) (v := (SUMV σ0 (σ0 43 g) (σ0 42 g) (σ0 45 g) t l)) hq_57 (hm_nfC 111 (by decide) _) (fun h => h)) (hm_nfC 111 (by decide) _) (fun h => h)) (hm_nfC 111 (by decide) _) (fun h => h)) (hm_nfC 111 (by decide) _) (fun h => h)) Kp.refl)
        · skip
          refine w_aload_n (pc' := 124) (i := 0) (by rfl) (by rfl) dX3_decide_123 rfl ?_
          refine w_getS (pc' := 127) (q := 3) fg_X3_15 kd_110 sf_X3_0 gr_110_0 dX3_decide_124 rfl ?_
          refine w_iload (pc' := 129) (by rfl) dX3_decide_127 rfl ?_
          refine w_iload (pc' := 131) (by rfl) dX3_decide_129 rfl ?_
          refine w_iload_n (pc' := 132) (i := 3) (by rfl) (by rfl) dX3_decide_131 rfl ?_
          refine w_iload_n (pc' := 133) (i := 2) (by rfl) (by rfl) dX3_decide_132 rfl ?_
          refine w_callV (pc' := 136) (d' := 2) (av := [gI (σ0 43 g), gI (σ0 42 g), gI (σ0 45 g), gI t]) mi_mX8_degreeOf lk_X3_108 rfl ci_X8 kd_3 rfl (Nat.le_of_ble_eq_true rfl) (Nat.le_of_ble_eq_true rfl) dX3_decide_133 rfl (k_degreeOf hI (QC.up (k := 111) (i := 4) (v := (gb ((0 ≤ g ∧ g < σ0 41 11) ∧ σ0 46 g ≠ 0))) (QC.up (k := 111) (i := (σ0 44 g)) (v := 1) (QC.up (k := 111) (i := 10) (v := (CNTV σ0 (σ0 43 g) (σ0 42 g) (σ0 45 g) t l)) (QC.up (k := 111) (i := 9) (v := (SUMV σ0 (σ0 43 g) (σ0 42 g) (σ0 45 g) t l)) hq_57 (hm_nfC 111 (by decide) _) (fun h => h)) (hm_nfC 111 (by decide) _) (fun h => h)) (hm_nfC 111 (by decide) _) (fun h => h)) (hm_nfC 111 (by decide) _) (fun h => h)) (σ0 43 g) (σ0 42 g) (σ0 45 g) t (by omega) (by omega)) (fun v_133 σ133 q_133 => ?_)
          obtain ⟨rfl, hq_133, hk_133⟩ := q_133
          show Wp _ _ _ _ _ _ [gI (DG σ0 (σ0 43 g) (σ0 45 g) t (σ0 42 g))]
          refine w_aload (pc' := 138) (by rfl) dX3_decide_136 rfl ?_
          refine v_callVE (pc' := 141) (st' := [gI (NU σ0 l 0), gI (DG σ0 (σ0 43 g) (σ0 45 g) t (σ0 42 g))]) (d' := 0) (av := []) mi_mX4_kinLimit lk_X3_112 rfl ci_X4 hL.is.1.1 rfl (Nat.le_of_ble_eq_true rfl) (Nat.le_of_ble_eq_true rfl) dX3_decide_138 rfl rfl (k_kinL hL (hq_133.1)) ?_
          refine w_icmp_gt (pc' := 144) (t := 148) dX3_decide_141 rfl rfl (fun c_141 => ?_) (fun c_141 => ?_)
          · skip
            refine w_iconst (pc' := 149) (by decide) dX3_decide_148 rfl ?_
            exact Wp.stI (by first | (exfalso; omega) | exact (gb_f (P := σ0 4 (σ0 42 g) = 0 ∧ DG σ0 (σ0 43 g) (σ0 45 g) t (σ0 42 g) ≤ NU σ0 l 0) (by omega)).symm) (hj_149 σ133 hq_133 hk_133)
          · skip
            refine w_iconst (pc' := 145) (by decide) dX3_decide_144 rfl ?_
            refine w_goto (pc' := 149) dX3_decide_145 rfl ?_
            exact Wp.stI (by first | (exfalso; omega) | exact (gb_t (P := σ0 4 (σ0 42 g) = 0 ∧ DG σ0 (σ0 43 g) (σ0 45 g) t (σ0 42 g) ≤ NU σ0 l 0) (by omega)).symm) (hj_149 σ133 hq_133 hk_133)
      refine v_if_eqB (pc' := 105) (t := 109) dX3_decide_102 rfl rfl (fun c_102 => ?_) (fun c_102 => ?_)
      · skip
        refine w_iconst (pc' := 110) (by decide) dX3_decide_109 rfl ?_
        exact Wp.stI (by first | (exfalso; omega) | exact (gb_f (P := (0 ≤ g ∧ g < σ0 41 11) ∧ σ0 46 g ≠ 0) (by omega)).symm) hj_110
      · skip
        refine w_iconst (pc' := 106) (by decide) dX3_decide_105 rfl ?_
        refine w_goto (pc' := 110) dX3_decide_106 rfl ?_
        exact Wp.stI (by first | (exfalso; omega) | exact (gb_t (P := (0 ≤ g ∧ g < σ0 41 11) ∧ σ0 46 g ≠ 0) (by omega)).symm) hj_110
