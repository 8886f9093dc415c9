/-! the greatest chain: the class (gen/mod_chb.py) -/
theorem gCmp_cs (x y : Int) : (x < y ∧ gCmp x y = -1) ∨ (x = y ∧ gCmp x y = 0) ∨ (y < x ∧ gCmp x y = 1) := by
  unfold gCmp
  by_cases h : x < y
  · rw [if_pos h]; exact Or.inl ⟨h, rfl⟩
  · rw [if_neg h]
    by_cases h2 : x = y
    · rw [if_pos h2]; exact Or.inr (Or.inl ⟨h2, rfl⟩)
    · rw [if_neg h2]; exact Or.inr (Or.inr ⟨by omega, rfl⟩)
theorem gCp_00 {σ : gH} {a a0 : Nat} {n : Int} : gCp σ a a0 0 0 n = gUr σ a (cpR (σ a) (σ a0) n) := by
  unfold gCp cpR
  congr 1
  funext j
  by_cases h : 0 ≤ j ∧ j < n
  · rw [if_pos h, if_pos (by omega)]
    congr 1
    omega
  · rw [if_neg h, if_neg (by omega)]
def chz (A : Int → Int → Int) (f : Int) (k : Nat) (pre : List Int) (w y z : Int) : List (Int × List Int) := if z ∈ pre then [] else (if z = f then [(w * A y z * (10000 : Int) ^ k, pre ++ [z])] else []) ++ clw4 A f k (pre ++ [z]) z (w * A y z)
def chT (S T : Int → Int) (A : Int → Int → Int) (f : Int) (k : Nat) (pre : List Int) (w y : Int) : Nat → List (Int × List Int) := fmI (fun j => chz A f k pre w y (T (S y + j)))
theorem chT_s {S T : Int → Int} {A : Int → Int → Int} {f : Int} {k : Nat} {pre : List Int} {w y a : Int} (h : S y ≤ a) : chT S T A f k pre w y (a + 1 - S y).toNat = chT S T A f k pre w y (a - S y).toNat ++ chz A f k pre w y (T a) := by
  unfold chT
  rw [show a + 1 - S y = a - S y + 1 by omega, fmI_s (by omega), show S y + (a - S y) = a by omega]
theorem chz_mem {A : Int → Int → Int} {f : Int} {k : Nat} {pre : List Int} {w y z : Int} (h : z ∈ pre) : chz A f k pre w y z = [] := if_pos h
theorem chz_out {A : Int → Int → Int} {f : Int} {k : Nat} {pre : List Int} {w y z : Int} (h : z ∉ pre) (s : Int × List Int) : (chz A f k pre w y z).foldl kbs s = (clw4 A f k (pre ++ [z]) z (w * A y z)).foldl kbs ((if z = f then [(w * A y z * (10000 : Int) ^ k, pre ++ [z])] else []).foldl kbs s) := by
  unfold chz
  rw [if_neg h, List.foldl_append]
theorem chT_all {S T P : Int → Int} {A : Int → Int → Int} (hA : ARW S T P A) {f : Int} {k : Nat} {pre : List Int} {w y : Int} (h0 : 0 ≤ y) (h1 : y < 60) : chT S T A f k pre w y (S (y + 1) - S y).toNat = clw4 A f (k + 1) pre y w := by
  have mon := hA.2.1 y h0 h1
  have q := hA.2.2.1 y h0 h1
  have e : chT S T A f k pre w y (S (y + 1) - S y).toNat = fmI (fun j => (fun z => if z ∈ pre ∨ A y z = 0 then [] else (if z = f then [(w * A y z * (10000 : Int) ^ k, pre ++ [z])] else []) ++ clw4 A f k (pre ++ [z]) z (w * A y z)) (T (S y + j))) (S (y + 1) - S y).toNat := fmI_congr fun j a b => by
    have r := q (S y + j) (by omega) (by omega)
    show (if T (S y + j) ∈ pre then [] else _) = if T (S y + j) ∈ pre ∨ A y (T (S y + j)) = 0 then [] else _
    by_cases c : T (S y + j) ∈ pre
    · rw [if_pos c, if_pos (Or.inl c)]
    · rw [if_neg c, if_neg (show ¬ (T (S y + j) ∈ pre ∨ A y (T (S y + j)) = 0) from fun h => h.elim c (fun h2 => by omega))]
  rw [e]
  refine fmI_rise (T := fun j => T (S y + j)) (g := fun z => if z ∈ pre ∨ A y z = 0 then [] else (if z = f then [(w * A y z * (10000 : Int) ^ k, pre ++ [z])] else []) ++ clw4 A f k (pre ++ [z]) z (w * A y z)) _ 60 (fun j a b => ?_) (fun i j a b c => ?_) (fun z a b c => ?_)
  · have r := q (S y + j) (by omega) (by omega)
    exact ⟨r.1, r.2.1⟩
  · exact (q (S y + j) (by omega) (by omega)).2.2.2.2 (S y + i) (by omega) (by omega)
  · by_cases d : A y z = 0
    · exact absurd (if_pos (Or.inr d)) c
    · obtain ⟨m, m0, m1, m2⟩ := hA.2.2.2 y z h0 h1 a b d
      exact ⟨m - S y, by omega, by omega, by show T (S y + (m - S y)) = z; rw [show S y + (m - S y) = m by omega]; exact m2⟩
theorem cpR_0 {R O : Int → Int} : cpR R O 0 = R := by
  funext j
  unfold cpR
  rw [if_neg (by omega)]
theorem cpR_s {R O : Int → Int} {n : Int} (h : 0 ≤ n) : updI (cpR R O n) n (O n) = cpR R O (n + 1) := by
  funext j
  by_cases c : j = n
  · rw [c, updI_eq]
    unfold cpR
    rw [if_pos (by omega)]
  · rw [updI_ne c]
    unfold cpR
    by_cases d : 0 ≤ j ∧ j < n
    · rw [if_pos d, if_pos (by omega)]
    · rw [if_neg d, if_neg (by omega)]
theorem k_kbY {σ : gH} (l p : Int) (hl : 2 ≤ l ∧ l ≤ 5) (hc : bsC (σ 30 4) (σ 30 5) l p) : Mt mX0_keepBest 0 [gR 30, gI l, gJ p] σ (rE (gX 1) (gUr (gUp (gUp σ 30 4 l) 30 5 p) 33 (cpR (σ 33) (σ 32) l))) := by
  refine Mt.walk (ls := [gR 30, gI l, gJ p, gX 1, gX 1, gX 1]) pn_X0 rfl (fun _ _ h => by cases h.1) (Nat.le_of_ble_eq_true rfl) rfl ?_
  have hg := gCmp_cs p (σ 30 5)
  have hj_38 : Wp mX0_keepBest 0 (rE (gX 1) (gUr (gUp (gUp σ 30 4 l) 30 5 p) 33 (cpR (σ 33) (σ 32) l))) σ 38 [gR 30, gI l, gJ p, gX 1, gX 1, gX 1] [gI (gb (bsC (σ 30 4) (σ 30 5) l p))] := by
    refine w_istore (pc' := 40) (ls' := [gR 30, gI l, gJ p, gX 1, gI (gb (bsC (σ 30 4) (σ 30 5) l p)), gX 1]) (by decide) (by rfl) dX0_keepBest_38 rfl ?_
    refine w_iload (pc' := 42) (by rfl) dX0_keepBest_40 rfl ?_
    refine v_if_neB (pc' := 45) (t := 46) dX0_keepBest_42 rfl rfl (fun c_42 => ?_) (fun c_42 => ?_)
    · skip
      refine w_aload_n (pc' := 47) (i := 0) (by rfl) (by rfl) dX0_keepBest_46 rfl ?_
      refine w_iload_n (pc' := 48) (i := 1) (by rfl) (by rfl) dX0_keepBest_47 rfl ?_
      refine v_putI (pc' := 51) (ji := 4) rfl fp_X0_38 kd_30 sf_X0_4 dX0_keepBest_48 rfl ?_
      refine w_aload_n (pc' := 52) (i := 0) (by rfl) (by rfl) dX0_keepBest_51 rfl ?_
      refine w_lload_n (pc' := 53) (i := 2) (by rfl) (by rfl) dX0_keepBest_52 rfl ?_
      refine v_putJ (pc' := 56) (ji := 5) rfl fp_X0_54 kd_30 sf_X0_5 dX0_keepBest_53 rfl ?_
      refine w_iconst (pc' := 57) (by decide) dX0_keepBest_56 rfl ?_
      refine w_istore (pc' := 59) (ls' := [gR 30, gI l, gJ p, gX 1, gI (gb (bsC (σ 30 4) (σ 30 5) l p)), gI 0]) (by decide) (by rfl) dX0_keepBest_57 rfl ?_
      have hl_59 : ∀ (mm : Nat) (i : Int) (R : Int → Int), (l - i).toNat = mm → (0 ≤ i) → (i ≤ l) → (R = cpR (σ 33) (σ 32) i) → Wp mX0_keepBest 0 (rE (gX 1) (gUr (gUp (gUp σ 30 4 l) 30 5 p) 33 (cpR (σ 33) (σ 32) l))) (gUr (gUp (gUp σ 30 4 l) 30 5 p) 33 R) 59 [gR 30, gI l, gJ p, gX 1, gX 1, gI i] [] := by
        intro m_59
        induction m_59 using Nat.strongRecOn with
        | _ m_59 ih_59 =>
          intro i R hmeas_59 i0 i1 hR
          refine w_iload (pc' := 61) (by rfl) dX0_keepBest_59 rfl ?_
          refine w_iload_n (pc' := 62) (i := 1) (by rfl) (by rfl) dX0_keepBest_61 rfl ?_
          refine w_icmp_ge (pc' := 65) (t := 105) dX0_keepBest_62 rfl rfl (fun c_62 => ?_) (fun c_62 => ?_)
          · skip
            refine w_return rfl dX0_keepBest_105 ?_
            have ei : i = l := by omega
            exact ⟨rfl, by rw [hR, ei]⟩
          · skip
            refine w_iload (pc' := 67) (by rfl) dX0_keepBest_65 rfl ?_
            refine w_aload_n (pc' := 68) (i := 0) (by rfl) (by rfl) dX0_keepBest_67 rfl ?_
            refine w_getS (pc' := 71) (q := 32) fg_X0_15 kd_30 sf_X0_2 gr_30_2 dX0_keepBest_68 rfl ?_
            refine w_alen (pc' := 72) kd_32 (by decide) (by decide) dX0_keepBest_71 rfl ?_
            refine w_icmp_ge (pc' := 75) (t := 105) dX0_keepBest_72 rfl rfl (fun c_72 => ?_) (fun c_72 => ?_)
            · skip
              refine w_return rfl dX0_keepBest_105 ?_
              have ei : i = l := by omega
              exact ⟨rfl, by rw [hR, ei]⟩
            · skip
              refine w_iload (pc' := 77) (by rfl) dX0_keepBest_75 rfl ?_
              refine w_aload_n (pc' := 78) (i := 0) (by rfl) (by rfl) dX0_keepBest_77 rfl ?_
              refine w_getS (pc' := 81) (q := 33) fg_X0_19 kd_30 sf_X0_3 gr_30_3 dX0_keepBest_78 rfl ?_
              refine w_alen (pc' := 82) kd_33 (by decide) (by decide) dX0_keepBest_81 rfl ?_
              refine w_icmp_ge (pc' := 85) (t := 105) dX0_keepBest_82 rfl rfl (fun c_82 => ?_) (fun c_82 => ?_)
              · skip
                refine w_return rfl dX0_keepBest_105 ?_
                have ei : i = l := by omega
                exact ⟨rfl, by rw [hR, ei]⟩
              · skip
                refine w_aload_n (pc' := 86) (i := 0) (by rfl) (by rfl) dX0_keepBest_85 rfl ?_
                refine w_getS (pc' := 89) (q := 33) fg_X0_19 kd_30 sf_X0_3 gr_30_3 dX0_keepBest_86 rfl ?_
                refine w_iload (pc' := 91) (by rfl) dX0_keepBest_89 rfl ?_
                refine w_aload_n (pc' := 92) (i := 0) (by rfl) (by rfl) dX0_keepBest_91 rfl ?_
                refine w_getS (pc' := 95) (q := 32) fg_X0_15 kd_30 sf_X0_2 gr_30_2 dX0_keepBest_92 rfl ?_
                refine w_iload (pc' := 97) (by rfl) dX0_keepBest_95 rfl ?_
                refine w_iald (pc' := 98) kd_32 (by omega) (by omega) dX0_keepBest_97 rfl ?_
                show Wp _ _ _ _ _ _ [gI (σ 32 i), gI i, gR 33]
                refine w_iast (pc' := 99) kd_33 (by omega) (by omega) dX0_keepBest_98 rfl ?_
                refine Wp.heq (σ' := gUr (gUp (gUp σ 30 4 l) 30 5 p) 33 (updI R i (σ 32 i))) gUp_row ?_
                refine v_iinc (pc' := 102) (x := i) (ls' := [gR 30, gI l, gJ p, gX 1, gX 1, gI (i + 1)]) (by omega) (by decide) (by rfl) (by rfl) dX0_keepBest_99 rfl ?_
                refine w_goto (pc' := 59) dX0_keepBest_102 rfl ?_
                exact ih_59 _ (by omega) (i + 1) (updI R i (σ 32 i)) rfl (by omega) (by omega) (by rw [hR]; exact cpR_s i0)
      refine Wp.heq (σ' := gUr (gUp (gUp σ 30 4 l) 30 5 p) 33 (σ 33)) (gUr_id (σ := gUp (gUp σ 30 4 l) 30 5 p) (k := 33)).symm ?_
      refine Wp.lose (ls' := [gR 30, gI l, gJ p, gX 1, gX 1, gI 0]) ⟨.inr rfl, ⟨.inr rfl, ⟨.inr rfl, ⟨.inr rfl, ⟨.inl rfl, ⟨.inr rfl, trivial⟩⟩⟩⟩⟩⟩ ?_
      exact hl_59 _ 0 (σ 33) rfl (by omega) (by omega) (by exact cpR_0.symm)
    · skip
      refine w_return rfl dX0_keepBest_45 ?_
      exfalso; omega
  refine w_aload_n (pc' := 1) (i := 0) (by rfl) (by rfl) dX0_keepBest_0 rfl ?_
  refine v_getI (pc' := 4) (ji := 4) rfl fg_X0_38 kd_30 dX0_keepBest_1 rfl ?_
  refine w_if_eq (pc' := 7) (t := 33) dX0_keepBest_4 rfl rfl (fun c_4 => ?_) (fun c_4 => ?_)
  · skip
    refine w_iconst (pc' := 34) (by decide) dX0_keepBest_33 rfl ?_
    refine w_goto (pc' := 38) dX0_keepBest_34 rfl ?_
    exact Wp.stI (by first | (exfalso; omega) | exact (gb_t (P := bsC (σ 30 4) (σ 30 5) l p) (by omega)).symm) hj_38
  · skip
    refine w_lload_n (pc' := 8) (i := 2) (by rfl) (by rfl) dX0_keepBest_7 rfl ?_
    refine w_aload_n (pc' := 9) (i := 0) (by rfl) (by rfl) dX0_keepBest_8 rfl ?_
    refine v_getJ (pc' := 12) (ji := 5) rfl fg_X0_54 kd_30 dX0_keepBest_9 rfl ?_
    refine w_lcmp (pc' := 13) dX0_keepBest_12 rfl ?_
    refine w_if_gt (pc' := 16) (t := 33) dX0_keepBest_13 rfl rfl (fun c_13 => ?_) (fun c_13 => ?_)
    · skip
      refine w_iconst (pc' := 34) (by decide) dX0_keepBest_33 rfl ?_
      refine w_goto (pc' := 38) dX0_keepBest_34 rfl ?_
      exact Wp.stI (by first | (exfalso; omega) | exact (gb_t (P := bsC (σ 30 4) (σ 30 5) l p) (by omega)).symm) hj_38
    · skip
      refine w_lload_n (pc' := 17) (i := 2) (by rfl) (by rfl) dX0_keepBest_16 rfl ?_
      refine w_aload_n (pc' := 18) (i := 0) (by rfl) (by rfl) dX0_keepBest_17 rfl ?_
      refine v_getJ (pc' := 21) (ji := 5) rfl fg_X0_54 kd_30 dX0_keepBest_18 rfl ?_
      refine w_lcmp (pc' := 22) dX0_keepBest_21 rfl ?_
      refine w_if_ne (pc' := 25) (t := 37) dX0_keepBest_22 rfl rfl (fun c_22 => ?_) (fun c_22 => ?_)
      · skip
        refine w_iconst (pc' := 38) (by decide) dX0_keepBest_37 rfl ?_
        exact Wp.stI (by first | (exfalso; omega) | exact (gb_f (P := bsC (σ 30 4) (σ 30 5) l p) (by omega)).symm) hj_38
      · skip
        refine w_iload_n (pc' := 26) (i := 1) (by rfl) (by rfl) dX0_keepBest_25 rfl ?_
        refine w_aload_n (pc' := 27) (i := 0) (by rfl) (by rfl) dX0_keepBest_26 rfl ?_
        refine v_getI (pc' := 30) (ji := 4) rfl fg_X0_38 kd_30 dX0_keepBest_27 rfl ?_
        refine w_icmp_ge (pc' := 33) (t := 37) dX0_keepBest_30 rfl rfl (fun c_30 => ?_) (fun c_30 => ?_)
        · skip
          refine w_iconst (pc' := 38) (by decide) dX0_keepBest_37 rfl ?_
          exact Wp.stI (by first | (exfalso; omega) | exact (gb_f (P := bsC (σ 30 4) (σ 30 5) l p) (by omega)).symm) hj_38
        · skip
          refine w_iconst (pc' := 34) (by decide) dX0_keepBest_33 rfl ?_
          refine w_goto (pc' := 38) dX0_keepBest_34 rfl ?_
          exact Wp.stI (by first | (exfalso; omega) | exact (gb_t (P := bsC (σ 30 4) (σ 30 5) l p) (by omega)).symm) hj_38
theorem k_kbN {σ : gH} (l p : Int) (hl : 2 ≤ l ∧ l ≤ 5) (hc : ¬ bsC (σ 30 4) (σ 30 5) l p) : Mt mX0_keepBest 0 [gR 30, gI l, gJ p] σ (rE (gX 1) σ) := by
  refine Mt.walk (ls := [gR 30, gI l, gJ p, gX 1, gX 1, gX 1]) pn_X0 rfl (fun _ _ h => by cases h.1) (Nat.le_of_ble_eq_true rfl) rfl ?_
  have hg := gCmp_cs p (σ 30 5)
  have hj_38 : Wp mX0_keepBest 0 (rE (gX 1) σ) σ 38 [gR 30, gI l, gJ p, gX 1, gX 1, gX 1] [gI (gb (bsC (σ 30 4) (σ 30 5) l p))] := by
    refine w_istore (pc' := 40) (ls' := [gR 30, gI l, gJ p, gX 1, gI (gb (bsC (σ 30 4) (σ 30 5) l p)), gX 1]) (by decide) (by rfl) dX0_keepBest_38 rfl ?_
    refine w_iload (pc' := 42) (by rfl) dX0_keepBest_40 rfl ?_
    refine v_if_neB (pc' := 45) (t := 46) dX0_keepBest_42 rfl rfl (fun c_42 => ?_) (fun c_42 => ?_)
    · skip
      exfalso; omega
    · skip
      refine w_return rfl dX0_keepBest_45 ?_
      exact ⟨rfl, rfl⟩
  refine w_aload_n (pc' := 1) (i := 0) (by rfl) (by rfl) dX0_keepBest_0 rfl ?_
  refine v_getI (pc' := 4) (ji := 4) rfl fg_X0_38 kd_30 dX0_keepBest_1 rfl ?_
  refine w_if_eq (pc' := 7) (t := 33) dX0_keepBest_4 rfl rfl (fun c_4 => ?_) (fun c_4 => ?_)
  · skip
    refine w_iconst (pc' := 34) (by decide) dX0_keepBest_33 rfl ?_
    refine w_goto (pc' := 38) dX0_keepBest_34 rfl ?_
    exact Wp.stI (by first | (exfalso; omega) | exact (gb_t (P := bsC (σ 30 4) (σ 30 5) l p) (by omega)).symm) hj_38
  · skip
    refine w_lload_n (pc' := 8) (i := 2) (by rfl) (by rfl) dX0_keepBest_7 rfl ?_
    refine w_aload_n (pc' := 9) (i := 0) (by rfl) (by rfl) dX0_keepBest_8 rfl ?_
    refine v_getJ (pc' := 12) (ji := 5) rfl fg_X0_54 kd_30 dX0_keepBest_9 rfl ?_
    refine w_lcmp (pc' := 13) dX0_keepBest_12 rfl ?_
    refine w_if_gt (pc' := 16) (t := 33) dX0_keepBest_13 rfl rfl (fun c_13 => ?_) (fun c_13 => ?_)
    · skip
      refine w_iconst (pc' := 34) (by decide) dX0_keepBest_33 rfl ?_
      refine w_goto (pc' := 38) dX0_keepBest_34 rfl ?_
      exact Wp.stI (by first | (exfalso; omega) | exact (gb_t (P := bsC (σ 30 4) (σ 30 5) l p) (by omega)).symm) hj_38
    · skip
      refine w_lload_n (pc' := 17) (i := 2) (by rfl) (by rfl) dX0_keepBest_16 rfl ?_
      refine w_aload_n (pc' := 18) (i := 0) (by rfl) (by rfl) dX0_keepBest_17 rfl ?_
      refine v_getJ (pc' := 21) (ji := 5) rfl fg_X0_54 kd_30 dX0_keepBest_18 rfl ?_
      refine w_lcmp (pc' := 22) dX0_keepBest_21 rfl ?_
      refine w_if_ne (pc' := 25) (t := 37) dX0_keepBest_22 rfl rfl (fun c_22 => ?_) (fun c_22 => ?_)
      · skip
        refine w_iconst (pc' := 38) (by decide) dX0_keepBest_37 rfl ?_
        exact Wp.stI (by first | (exfalso; omega) | exact (gb_f (P := bsC (σ 30 4) (σ 30 5) l p) (by omega)).symm) hj_38
      · skip
        refine w_iload_n (pc' := 26) (i := 1) (by rfl) (by rfl) dX0_keepBest_25 rfl ?_
        refine w_aload_n (pc' := 27) (i := 0) (by rfl) (by rfl) dX0_keepBest_26 rfl ?_
        refine v_getI (pc' := 30) (ji := 4) rfl fg_X0_38 kd_30 dX0_keepBest_27 rfl ?_
        refine w_icmp_ge (pc' := 33) (t := 37) dX0_keepBest_30 rfl rfl (fun c_30 => ?_) (fun c_30 => ?_)
        · skip
          refine w_iconst (pc' := 38) (by decide) dX0_keepBest_37 rfl ?_
          exact Wp.stI (by first | (exfalso; omega) | exact (gb_f (P := bsC (σ 30 4) (σ 30 5) l p) (by omega)).symm) hj_38
        · skip
          refine w_iconst (pc' := 34) (by decide) dX0_keepBest_33 rfl ?_
          refine w_goto (pc' := 38) dX0_keepBest_34 rfl ?_
          exact Wp.stI (by first | (exfalso; omega) | exact (gb_t (P := bsC (σ 30 4) (σ 30 5) l p) (by omega)).symm) hj_38
theorem kb_step0 {σ : gH} {A : Int → Int → Int} (hA : ARW (σ 23) (σ 24) (σ 25) A) (hp : ∀ c f, 0 ≤ A c f ∧ A c f ≤ 10000) {f : Int} (hgl : σ 30 6 = f) (TT PP RR : Int → Int) (z nn qq P : Int) (pre : List Int) (s : Int × List Int) (hP : 0 ≤ P ∧ P ≤ 10000000000000000) (hy : 0 ≤ PP 4 ∧ PP 4 < 60) (hlen : (pre.length : Int) = 4 + 1) (hpr : rowL PP 0 pre) (hv : ∀ u, 0 ≤ u → u < 60 → (bitI z u ↔ u ∈ pre)) (hs : BSt nn qq RR s) : Mt mX0_stepOn 1 [gR 30, gI 4, gJ (P * 1)] (gUp (gUp (gUp (gUr (gUr (gUr σ 31 TT) 32 PP) 33 RR) 30 7 z) 30 4 nn) 30 5 qq) (fun v σ' => v = gX 1 ∧ ∃ T_ P_ R_ z_ n_ q_, σ' = gUp (gUp (gUp (gUr (gUr (gUr σ 31 T_) 32 P_) 33 R_) 30 7 z_) 30 4 n_) 30 5 q_ ∧ (∀ i, 0 ≤ i → i ≤ 4 → P_ i = PP i) ∧ (∀ u, 0 ≤ u → u < 60 → (bitI z_ u ↔ u ∈ pre)) ∧ BSt n_ q_ R_ ((clw4 A f 0 pre (PP 4) P).foldl kbs s)) := by
  refine Mt.walk (ls := [gR 30, gI 4, gJ (P * 1), gX 1, gX 1, gX 1, gX 1, gX 1, gX 1, gX 1]) pn_X0 rfl (fun _ _ h => by cases h.1) (Nat.le_of_ble_eq_true rfl) rfl ?_
  refine w_iload_n (pc' := 1) (i := 1) (by rfl) (by rfl) dX0_stepOn_0 rfl ?_
  refine w_if_lt (pc' := 4) (t := 9) dX0_stepOn_1 rfl rfl (fun c_1 => ?_) (fun c_1 => ?_)
  · skip
    exact absurd c_1 (by decide)
  · skip
    refine w_iload_n (pc' := 5) (i := 1) (by rfl) (by rfl) dX0_stepOn_4 rfl ?_
    refine w_iconst (pc' := 6) (by decide) dX0_stepOn_5 rfl ?_
    refine w_icmp_lt (pc' := 9) (t := 10) dX0_stepOn_6 rfl rfl (fun c_6 => ?_) (fun c_6 => ?_)
    · skip
      exact absurd c_6 (by decide)
    · skip
      refine w_return rfl dX0_stepOn_9 ?_
      exact ⟨rfl, TT, PP, RR, z, nn, qq, rfl, fun i _ _ => rfl, hv, hs⟩
set_option maxHeartbeats 4000000 in
theorem kb_step1 {σ : gH} {A : Int → Int → Int} (hA : ARW (σ 23) (σ 24) (σ 25) A) (hp : ∀ c f, 0 ≤ A c f ∧ A c f ≤ 10000) {f : Int} (hgl : σ 30 6 = f) (TT PP RR : Int → Int) (z nn qq P : Int) (pre : List Int) (s : Int × List Int) (hP : 0 ≤ P ∧ P ≤ 1000000000000) (hy : 0 ≤ PP 3 ∧ PP 3 < 60) (hlen : (pre.length : Int) = 3 + 1) (hpr : rowL PP 0 pre) (hv : ∀ u, 0 ≤ u → u < 60 → (bitI z u ↔ u ∈ pre)) (hs : BSt nn qq RR s) : Mt mX0_stepOn 2 [gR 30, gI 3, gJ (P * 10000)] (gUp (gUp (gUp (gUr (gUr (gUr σ 31 TT) 32 PP) 33 RR) 30 7 z) 30 4 nn) 30 5 qq) (fun v σ' => v = gX 1 ∧ ∃ T_ P_ R_ z_ n_ q_, σ' = gUp (gUp (gUp (gUr (gUr (gUr σ 31 T_) 32 P_) 33 R_) 30 7 z_) 30 4 n_) 30 5 q_ ∧ (∀ i, 0 ≤ i → i ≤ 3 → P_ i = PP i) ∧ (∀ u, 0 ≤ u → u < 60 → (bitI z_ u ↔ u ∈ pre)) ∧ BSt n_ q_ R_ ((clw4 A f 1 pre (PP 3) P).foldl kbs s)) := by
  refine Mt.walk (ls := [gR 30, gI 3, gJ (P * 10000), gX 1, gX 1, gX 1, gX 1, gX 1, gX 1, gX 1]) pn_X0 rfl (fun _ _ h => by cases h.1) (Nat.le_of_ble_eq_true rfl) rfl ?_
  refine w_iload_n (pc' := 1) (i := 1) (by rfl) (by rfl) dX0_stepOn_0 rfl ?_
  refine w_if_lt (pc' := 4) (t := 9) dX0_stepOn_1 rfl rfl (fun c_1 => ?_) (fun c_1 => ?_)
  · skip
    exact absurd c_1 (by decide)
  · skip
    refine w_iload_n (pc' := 5) (i := 1) (by rfl) (by rfl) dX0_stepOn_4 rfl ?_
    refine w_iconst (pc' := 6) (by decide) dX0_stepOn_5 rfl ?_
    refine w_icmp_lt (pc' := 9) (t := 10) dX0_stepOn_6 rfl rfl (fun c_6 => ?_) (fun c_6 => ?_)
    · skip
      refine w_aload_n (pc' := 11) (i := 0) (by rfl) (by rfl) dX0_stepOn_10 rfl ?_
      refine w_getS (pc' := 14) (q := 32) fg_X0_15 kd_30 sf_X0_2 gr_30_2 dX0_stepOn_11 rfl ?_
      refine w_iload_n (pc' := 15) (i := 1) (by rfl) (by rfl) dX0_stepOn_14 rfl ?_
      refine w_iald (pc' := 16) kd_32 (by omega) (by omega) dX0_stepOn_15 rfl ?_
      show Wp _ _ _ _ _ _ [gI (PP 3)]
      refine w_istore (pc' := 18) (ls' := [gR 30, gI 3, gJ (P * 10000), gX 1, gI (PP 3), gX 1, gX 1, gX 1, gX 1, gX 1]) (by decide) (by rfl) dX0_stepOn_16 rfl ?_
      refine w_aload_n (pc' := 19) (i := 0) (by rfl) (by rfl) dX0_stepOn_18 rfl ?_
      refine w_getS (pc' := 22) (q := 14) fg_X0_22 kd_30 sf_X0_0 gr_30_0 dX0_stepOn_19 rfl ?_
      refine w_iload (pc' := 24) (by rfl) dX0_stepOn_22 rfl ?_
      refine v_callVE (pc' := 27) (st' := [gI (σ 23 ((PP 3) + 1))]) (d' := 0) (av := [gI (PP 3)]) mi_mX7_pastArrows lk_X0_70 rfl ci_X7 kd_14 rfl (Nat.le_of_ble_eq_true rfl) (Nat.le_of_ble_eq_true rfl) dX0_stepOn_24 rfl rfl (k_pastArrows (gUp (gUp (gUp (gUr (gUr (gUr σ 31 TT) 32 PP) 33 RR) 30 7 z) 30 4 nn) 30 5 qq) (PP 3) (by omega)) ?_
      refine w_istore (pc' := 29) (ls' := [gR 30, gI 3, gJ (P * 10000), gX 1, gI (PP 3), gI (σ 23 ((PP 3) + 1)), gX 1, gX 1, gX 1, gX 1]) (by decide) (by rfl) dX0_stepOn_27 rfl ?_
      refine w_aload_n (pc' := 30) (i := 0) (by rfl) (by rfl) dX0_stepOn_29 rfl ?_
      refine w_getS (pc' := 33) (q := 14) fg_X0_22 kd_30 sf_X0_0 gr_30_0 dX0_stepOn_30 rfl ?_
      refine w_iload (pc' := 35) (by rfl) dX0_stepOn_33 rfl ?_
      refine v_callVE (pc' := 38) (st' := [gI (σ 23 (PP 3))]) (d' := 0) (av := [gI (PP 3)]) mi_mX7_firstArrow lk_X0_74 rfl ci_X7 kd_14 rfl (Nat.le_of_ble_eq_true rfl) (Nat.le_of_ble_eq_true rfl) dX0_stepOn_35 rfl rfl (k_firstArrow (gUp (gUp (gUp (gUr (gUr (gUr σ 31 TT) 32 PP) 33 RR) 30 7 z) 30 4 nn) 30 5 qq) (PP 3) (by omega)) ?_
      refine w_istore (pc' := 40) (ls' := [gR 30, gI 3, gJ (P * 10000), gX 1, gI (PP 3), gI (σ 23 ((PP 3) + 1)), gI (σ 23 (PP 3)), gX 1, gX 1, gX 1]) (by decide) (by rfl) dX0_stepOn_38 rfl ?_
      have hS := hA.2.1 (PP 3) hy.1 hy.2
      have hl_40 : ∀ (mm : Nat) (a : Int) (T1 P1 R1 : Int → Int) (z1 n1 q1 : Int), (σ 23 ((PP 3) + 1) - a).toNat = mm → (σ 23 (PP 3) ≤ a) → (a ≤ σ 23 ((PP 3) + 1)) → (∀ i, 0 ≤ i → i ≤ 3 → P1 i = PP i) → (∀ u, 0 ≤ u → u < 60 → (bitI z1 u ↔ u ∈ pre)) → (BSt n1 q1 R1 ((chT (σ 23) (σ 24) A f 0 pre P (PP 3) (a - σ 23 (PP 3)).toNat).foldl kbs s)) → Wp mX0_stepOn 2 (fun v σ' => v = gX 1 ∧ ∃ T_ P_ R_ z_ n_ q_, σ' = gUp (gUp (gUp (gUr (gUr (gUr σ 31 T_) 32 P_) 33 R_) 30 7 z_) 30 4 n_) 30 5 q_ ∧ (∀ i, 0 ≤ i → i ≤ 3 → P_ i = PP i) ∧ (∀ u, 0 ≤ u → u < 60 → (bitI z_ u ↔ u ∈ pre)) ∧ BSt n_ q_ R_ ((clw4 A f 1 pre (PP 3) P).foldl kbs s)) (gUp (gUp (gUp (gUr (gUr (gUr σ 31 T1) 32 P1) 33 R1) 30 7 z1) 30 4 n1) 30 5 q1) 40 [gR 30, gI 3, gJ (P * 10000), gX 1, gI (PP 3), gI (σ 23 ((PP 3) + 1)), gI a, gX 1, gX 1, gX 1] [] := by
        intro m_40
        induction m_40 using Nat.strongRecOn with
        | _ m_40 ih_40 =>
          intro a T1 P1 R1 z1 n1 q1 hmeas_40 h0 h1 hpp hz hB
          have hS := hA.2.1 (PP 3) hy.1 hy.2
          have har := fun h : a < σ 23 ((PP 3) + 1) => hA.2.2.1 (PP 3) hy.1 hy.2 a h0 h
          have hpa := hp (PP 3) (σ 24 a)
          have hpe : a < σ 23 ((PP 3) + 1) → σ 25 a = A (PP 3) (σ 24 a) := fun h => (har h).2.2.1
          refine w_iload (pc' := 42) (by rfl) dX0_stepOn_40 rfl ?_
          refine w_iload (pc' := 44) (by rfl) dX0_stepOn_42 rfl ?_
          refine w_icmp_ge (pc' := 47) (t := 187) dX0_stepOn_44 rfl rfl (fun c_44 => ?_) (fun c_44 => ?_)
          · skip
            refine w_return rfl dX0_stepOn_187 ?_
            refine ⟨rfl, T1, P1, R1, z1, n1, q1, rfl, hpp, hz, ?_⟩
            have hB5 := hB
            rw [show a = σ 23 ((PP 3) + 1) by omega, chT_all hA hy.1 hy.2] at hB5
            exact hB5
          · skip
            refine w_aload_n (pc' := 48) (i := 0) (by rfl) (by rfl) dX0_stepOn_47 rfl ?_
            refine w_getS (pc' := 51) (q := 14) fg_X0_22 kd_30 sf_X0_0 gr_30_0 dX0_stepOn_48 rfl ?_
            refine w_iload (pc' := 53) (by rfl) dX0_stepOn_51 rfl ?_
            refine v_callVE (pc' := 56) (st' := [gI (σ 24 a)]) (d' := 0) (av := [gI a]) mi_mX7_targetOf lk_X0_77 rfl ci_X7 kd_14 rfl (Nat.le_of_ble_eq_true rfl) (Nat.le_of_ble_eq_true rfl) dX0_stepOn_53 rfl rfl (k_targetOf (gUp (gUp (gUp (gUr (gUr (gUr σ 31 T1) 32 P1) 33 R1) 30 7 z1) 30 4 n1) 30 5 q1) a (by omega)) ?_
            refine w_istore (pc' := 58) (ls' := [gR 30, gI 3, gJ (P * 10000), gX 1, gI (PP 3), gI (σ 23 ((PP 3) + 1)), gI a, gI (σ 24 a), gX 1, gX 1]) (by decide) (by rfl) dX0_stepOn_56 rfl ?_
            refine w_iload (pc' := 60) (by rfl) dX0_stepOn_58 rfl ?_
            refine w_if_lt (pc' := 63) (t := 181) dX0_stepOn_60 rfl rfl (fun c_60 => ?_) (fun c_60 => ?_)
            · skip
              refine v_iinc (pc' := 184) (x := a) (ls' := [gR 30, gI 3, gJ (P * 10000), gX 1, gI (PP 3), gI (σ 23 ((PP 3) + 1)), gI (a + 1), gI (σ 24 a), gX 1, gX 1]) (by omega) (by decide) (by rfl) (by rfl) dX0_stepOn_181 rfl ?_
              refine w_goto (pc' := 40) dX0_stepOn_184 rfl ?_
              refine Wp.lose (ls' := [gR 30, gI 3, gJ (P * 10000), gX 1, gI (PP 3), gI (σ 23 ((PP 3) + 1)), gI (a + 1), gX 1, gX 1, gX 1]) ⟨.inr rfl, ⟨.inr rfl, ⟨.inr rfl, ⟨.inr rfl, ⟨.inr rfl, ⟨.inr rfl, ⟨.inr rfl, ⟨.inl rfl, ⟨.inr rfl, ⟨.inr rfl, trivial⟩⟩⟩⟩⟩⟩⟩⟩⟩⟩ ?_
              exact ih_40 _ (by omega) (a + 1) T1 P1 R1 z1 n1 q1 rfl (by omega) (by omega) (by first | exact hpp | (exfalso; omega) | (intro i x w; rw [hP2 i x (by omega), updI_ne (by omega)]; exact hpp i x w)) (by first | exact hz | (exfalso; omega) | (intro u x w; rw [bitI_clear (by omega) (by omega) x (by omega), hz2 u x w, List.mem_append, List.mem_singleton]; constructor; (rintro ⟨h | h, h2⟩; exact h; exact absurd h h2); (intro h; refine ⟨Or.inl h, fun e => ?_⟩; rw [e] at h; exact hv0 h))) (by rw [chT_s h0, List.foldl_append]; first | (exfalso; omega) | (rw [chz_mem ((hz (σ 24 a) (by omega) (by omega)).mp (cmpB.mp c_81))]; exact hB) | exact hB4)
            · skip
              refine w_iload (pc' := 65) (by rfl) dX0_stepOn_63 rfl ?_
              refine w_bipush (pc' := 67) (by decide) (by decide) dX0_stepOn_65 rfl ?_
              refine w_icmp_ge (pc' := 70) (t := 181) dX0_stepOn_67 rfl rfl (fun c_67 => ?_) (fun c_67 => ?_)
              · skip
                refine v_iinc (pc' := 184) (x := a) (ls' := [gR 30, gI 3, gJ (P * 10000), gX 1, gI (PP 3), gI (σ 23 ((PP 3) + 1)), gI (a + 1), gI (σ 24 a), gX 1, gX 1]) (by omega) (by decide) (by rfl) (by rfl) dX0_stepOn_181 rfl ?_
                refine w_goto (pc' := 40) dX0_stepOn_184 rfl ?_
                refine Wp.lose (ls' := [gR 30, gI 3, gJ (P * 10000), gX 1, gI (PP 3), gI (σ 23 ((PP 3) + 1)), gI (a + 1), gX 1, gX 1, gX 1]) ⟨.inr rfl, ⟨.inr rfl, ⟨.inr rfl, ⟨.inr rfl, ⟨.inr rfl, ⟨.inr rfl, ⟨.inr rfl, ⟨.inl rfl, ⟨.inr rfl, ⟨.inr rfl, trivial⟩⟩⟩⟩⟩⟩⟩⟩⟩⟩ ?_
                exact ih_40 _ (by omega) (a + 1) T1 P1 R1 z1 n1 q1 rfl (by omega) (by omega) (by first | exact hpp | (exfalso; omega) | (intro i x w; rw [hP2 i x (by omega), updI_ne (by omega)]; exact hpp i x w)) (by first | exact hz | (exfalso; omega) | (intro u x w; rw [bitI_clear (by omega) (by omega) x (by omega), hz2 u x w, List.mem_append, List.mem_singleton]; constructor; (rintro ⟨h | h, h2⟩; exact h; exact absurd h h2); (intro h; refine ⟨Or.inl h, fun e => ?_⟩; rw [e] at h; exact hv0 h))) (by rw [chT_s h0, List.foldl_append]; first | (exfalso; omega) | (rw [chz_mem ((hz (σ 24 a) (by omega) (by omega)).mp (cmpB.mp c_81))]; exact hB) | exact hB4)
              · skip
                refine w_aload_n (pc' := 71) (i := 0) (by rfl) (by rfl) dX0_stepOn_70 rfl ?_
                refine v_getJ (pc' := 74) (ji := 7) rfl fg_X0_61 kd_30 dX0_stepOn_71 rfl ?_
                show Wp _ _ _ _ _ _ [gJ z1]
                refine w_iload (pc' := 76) (by rfl) dX0_stepOn_74 rfl ?_
                refine w_lshr (pc' := 77) dX0_stepOn_76 rfl ?_
                refine w_lconst (n := 1) (pc' := 78) (by decide) (by decide) dX0_stepOn_77 rfl ?_
                refine w_land (pc' := 79) dX0_stepOn_78 rfl ?_
                refine w_lconst (n := 0) (pc' := 80) (by decide) (by decide) dX0_stepOn_79 rfl ?_
                refine w_lcmp (pc' := 81) dX0_stepOn_80 rfl ?_
                refine w_if_ne (pc' := 84) (t := 181) dX0_stepOn_81 rfl rfl (fun c_81 => ?_) (fun c_81 => ?_)
                · skip
                  refine v_iinc (pc' := 184) (x := a) (ls' := [gR 30, gI 3, gJ (P * 10000), gX 1, gI (PP 3), gI (σ 23 ((PP 3) + 1)), gI (a + 1), gI (σ 24 a), gX 1, gX 1]) (by omega) (by decide) (by rfl) (by rfl) dX0_stepOn_181 rfl ?_
                  refine w_goto (pc' := 40) dX0_stepOn_184 rfl ?_
                  refine Wp.lose (ls' := [gR 30, gI 3, gJ (P * 10000), gX 1, gI (PP 3), gI (σ 23 ((PP 3) + 1)), gI (a + 1), gX 1, gX 1, gX 1]) ⟨.inr rfl, ⟨.inr rfl, ⟨.inr rfl, ⟨.inr rfl, ⟨.inr rfl, ⟨.inr rfl, ⟨.inr rfl, ⟨.inl rfl, ⟨.inr rfl, ⟨.inr rfl, trivial⟩⟩⟩⟩⟩⟩⟩⟩⟩⟩ ?_
                  exact ih_40 _ (by omega) (a + 1) T1 P1 R1 z1 n1 q1 rfl (by omega) (by omega) (by first | exact hpp | (exfalso; omega) | (intro i x w; rw [hP2 i x (by omega), updI_ne (by omega)]; exact hpp i x w)) (by first | exact hz | (exfalso; omega) | (intro u x w; rw [bitI_clear (by omega) (by omega) x (by omega), hz2 u x w, List.mem_append, List.mem_singleton]; constructor; (rintro ⟨h | h, h2⟩; exact h; exact absurd h h2); (intro h; refine ⟨Or.inl h, fun e => ?_⟩; rw [e] at h; exact hv0 h))) (by rw [chT_s h0, List.foldl_append]; first | (exfalso; omega) | (rw [chz_mem ((hz (σ 24 a) (by omega) (by omega)).mp (cmpB.mp c_81))]; exact hB) | exact hB4)
                · skip
                  refine w_lload_n (pc' := 85) (i := 2) (by rfl) (by rfl) dX0_stepOn_84 rfl ?_
                  refine w_ldc2 (pc' := 88) (by decide) ct_X0_80 dX0_stepOn_85 rfl ?_
                  refine w_ldiv (pc' := 89) (by omega) dX0_stepOn_88 rfl ?_
                  refine Wp.stJ (y := P * 1) (show w64 ((P * 10000).tdiv 10000) = P * 1 from divx (c := 1) hP.1 (by decide) (by omega)) ?_
                  refine w_aload_n (pc' := 90) (i := 0) (by rfl) (by rfl) dX0_stepOn_89 rfl ?_
                  refine w_getS (pc' := 93) (q := 14) fg_X0_22 kd_30 sf_X0_0 gr_30_0 dX0_stepOn_90 rfl ?_
                  refine w_iload (pc' := 95) (by rfl) dX0_stepOn_93 rfl ?_
                  refine v_callVE (pc' := 98) (st' := [gI (σ 25 a), gJ (P * 1)]) (d' := 0) (av := [gI a]) mi_mX7_partOn lk_X0_82 rfl ci_X7 kd_14 rfl (Nat.le_of_ble_eq_true rfl) (Nat.le_of_ble_eq_true rfl) dX0_stepOn_95 rfl rfl (k_partOn (gUp (gUp (gUp (gUr (gUr (gUr σ 31 T1) 32 P1) 33 R1) 30 7 z1) 30 4 n1) 30 5 q1) a (by omega)) ?_
                  refine w_i2l (pc' := 99) dX0_stepOn_98 rfl ?_
                  refine v_lmul (pc' := 100) (by have h9 := mulb (M := 1000000000000) hP.1 hP.2 hpa.1 hpa.2; rw [← hpe (by omega)] at h9; have h8 : P * 1 * σ 25 a = (P * σ 25 a) * 1 := (by rw [Int.mul_assoc, Int.mul_comm 1, ← Int.mul_assoc]); rw [h8]; omega) dX0_stepOn_99 rfl ?_
                  refine Wp.stJ (y := (P * (σ 25 a)) * 1) (by rw [Int.mul_assoc, Int.mul_comm 1, ← Int.mul_assoc]) ?_
                  refine w_lstore (pc' := 102) (ls' := [gR 30, gI 3, gJ (P * 10000), gX 1, gI (PP 3), gI (σ 23 ((PP 3) + 1)), gI a, gI (σ 24 a), gJ ((P * (σ 25 a)) * 1), gX 1]) (by decide) (by rfl) dX0_stepOn_100 rfl ?_
                  have hv0 : ¬ (σ 24 a) ∈ pre := fun h => by
                    have := (hz (σ 24 a) (by omega) (by omega)).mpr h
                    exact cmpB.mpr this c_81
                  rw [← hpe (by omega)] at hpa
                  have hln : (3 + 2 : Int) = ((pre ++ [(σ 24 a)]).length : Int) := by rw [List.length_append, List.length_singleton]; omega
                  have hpr1 : rowL (updI P1 (3 + 1) (σ 24 a)) 0 (pre ++ [(σ 24 a)]) := rowL_app pre 0 (rowL_congr pre 0 (fun i x w => by rw [updI_ne (by omega)]; exact hpp i x (by omega)) hpr) (updE (by omega))
                  have hv1 : ∀ u, 0 ≤ u → u < 60 → (bitI (gB64 (fun a b => a ||| b) z1 (gS64 (fun a b => a <<< b) 1 (σ 24 a))) u ↔ u ∈ pre ++ [(σ 24 a)]) := fun u x w => by
                    rw [bitI_set (by omega) (by omega) x (by omega), hz u x w, List.mem_append, List.mem_singleton]
                  refine w_aload_n (pc' := 103) (i := 0) (by rfl) (by rfl) dX0_stepOn_102 rfl ?_
                  refine w_getS (pc' := 106) (q := 31) fg_X0_9 kd_30 sf_X0_1 gr_30_1 dX0_stepOn_103 rfl ?_
                  refine w_iload (pc' := 108) (by rfl) dX0_stepOn_106 rfl ?_
                  refine w_dup2 (pc' := 109) dX0_stepOn_108 rfl ?_
                  refine w_lald (pc' := 110) kd_31 (by omega) (by omega) dX0_stepOn_109 rfl ?_
                  show Wp _ _ _ _ _ _ [gJ (T1 (σ 24 a)), gI (σ 24 a), gR 31]
                  refine w_lload (pc' := 112) (by rfl) dX0_stepOn_110 rfl ?_
                  refine w_ladd (pc' := 113) dX0_stepOn_112 rfl ?_
                  refine w_last (pc' := 114) kd_31 (by omega) (by omega) dX0_stepOn_113 rfl ?_
                  refine Wp.heq (σ' := gUp (gUp (gUp (gUr (gUr (gUr σ 31 (updI T1 (σ 24 a) (w64 ((T1 (σ 24 a)) + ((P * (σ 25 a)) * 1))))) 32 P1) 33 R1) 30 7 z1) 30 4 n1) 30 5 q1) ((gUp_cu (by decide)).trans (congrArg (fun z => gUp z 30 5 q1) ((gUp_cu (by decide)).trans (congrArg (fun z => gUp z 30 4 n1) ((gUp_cu (by decide)).trans (congrArg (fun z => gUp z 30 7 z1) ((gUp_cr (by decide)).trans (congrArg (fun z => gUr z 33 R1) ((gUp_cr (by decide)).trans (congrArg (fun z => gUr z 32 P1) gUp_row)))))))))) ?_
                  refine w_aload_n (pc' := 115) (i := 0) (by rfl) (by rfl) dX0_stepOn_114 rfl ?_
                  refine w_getS (pc' := 118) (q := 32) fg_X0_15 kd_30 sf_X0_2 gr_30_2 dX0_stepOn_115 rfl ?_
                  refine w_iload_n (pc' := 119) (i := 1) (by rfl) (by rfl) dX0_stepOn_118 rfl ?_
                  refine w_iconst (pc' := 120) (by decide) dX0_stepOn_119 rfl ?_
                  refine v_iadd (pc' := 121) (by omega) dX0_stepOn_120 rfl ?_
                  refine w_iload (pc' := 123) (by rfl) dX0_stepOn_121 rfl ?_
                  refine w_iast (pc' := 124) kd_32 (by omega) (by omega) dX0_stepOn_123 rfl ?_
                  refine Wp.heq (σ' := gUp (gUp (gUp (gUr (gUr (gUr σ 31 (updI T1 (σ 24 a) (w64 ((T1 (σ 24 a)) + ((P * (σ 25 a)) * 1))))) 32 (updI P1 (3 + 1) (σ 24 a))) 33 R1) 30 7 z1) 30 4 n1) 30 5 q1) ((gUp_cu (by decide)).trans (congrArg (fun z => gUp z 30 5 q1) ((gUp_cu (by decide)).trans (congrArg (fun z => gUp z 30 4 n1) ((gUp_cu (by decide)).trans (congrArg (fun z => gUp z 30 7 z1) ((gUp_cr (by decide)).trans (congrArg (fun z => gUr z 33 R1) gUp_row)))))))) ?_
                  have hj_142 : ∀ (R3 : Int → Int) (n3 q3 : Int), BSt n3 q3 R3 ((if σ 24 a = f then [(P * A (PP 3) (σ 24 a) * (10000 : Int) ^ 0, pre ++ [(σ 24 a)])] else []).foldl kbs ((chT (σ 23) (σ 24) A f 0 pre P (PP 3) (a - σ 23 (PP 3)).toNat).foldl kbs s)) → Wp mX0_stepOn 2 (fun v σ' => v = gX 1 ∧ ∃ T_ P_ R_ z_ n_ q_, σ' = gUp (gUp (gUp (gUr (gUr (gUr σ 31 T_) 32 P_) 33 R_) 30 7 z_) 30 4 n_) 30 5 q_ ∧ (∀ i, 0 ≤ i → i ≤ 3 → P_ i = PP i) ∧ (∀ u, 0 ≤ u → u < 60 → (bitI z_ u ↔ u ∈ pre)) ∧ BSt n_ q_ R_ ((clw4 A f 1 pre (PP 3) P).foldl kbs s)) (gUp (gUp (gUp (gUr (gUr (gUr σ 31 (updI T1 (σ 24 a) (w64 ((T1 (σ 24 a)) + ((P * (σ 25 a)) * 1))))) 32 (updI P1 (3 + 1) (σ 24 a))) 33 R3) 30 7 z1) 30 4 n3) 30 5 q3) 142 [gR 30, gI 3, gJ (P * 10000), gX 1, gI (PP 3), gI (σ 23 ((PP 3) + 1)), gI a, gI (σ 24 a), gJ ((P * (σ 25 a)) * 1), gX 1] [] := by
                    intro R3 n3 q3 h3
                    refine w_aload_n (pc' := 143) (i := 0) (by rfl) (by rfl) dX0_stepOn_142 rfl ?_
                    refine w_dup (pc' := 144) dX0_stepOn_143 rfl ?_
                    refine v_getJ (pc' := 147) (ji := 7) rfl fg_X0_61 kd_30 dX0_stepOn_144 rfl ?_
                    show Wp _ _ _ _ _ _ [gJ z1, gR 30]
                    refine w_lconst (n := 1) (pc' := 148) (by decide) (by decide) dX0_stepOn_147 rfl ?_
                    refine w_iload (pc' := 150) (by rfl) dX0_stepOn_148 rfl ?_
                    refine w_lshl (pc' := 151) dX0_stepOn_150 rfl ?_
                    refine w_lor (pc' := 152) dX0_stepOn_151 rfl ?_
                    refine v_putJ (pc' := 155) (ji := 7) rfl fp_X0_61 kd_30 sf_X0_7 dX0_stepOn_152 rfl ?_
                    refine Wp.heq (σ' := gUp (gUp (gUp (gUr (gUr (gUr σ 31 (updI T1 (σ 24 a) (w64 ((T1 (σ 24 a)) + ((P * (σ 25 a)) * 1))))) 32 (updI P1 (3 + 1) (σ 24 a))) 33 R3) 30 7 (gB64 (fun a b => a ||| b) z1 (gS64 (fun a b => a <<< b) 1 (σ 24 a)))) 30 4 n3) 30 5 q3) ((gUp_ci (by decide)).trans (congrArg (fun z => gUp z 30 5 q3) ((gUp_ci (by decide)).trans (congrArg (fun z => gUp z 30 4 n3) gUp_same)))) ?_
                    refine w_aload_n (pc' := 156) (i := 0) (by rfl) (by rfl) dX0_stepOn_155 rfl ?_
                    refine w_iload_n (pc' := 157) (i := 1) (by rfl) (by rfl) dX0_stepOn_156 rfl ?_
                    refine w_iconst (pc' := 158) (by decide) dX0_stepOn_157 rfl ?_
                    refine v_iadd (pc' := 159) (by omega) dX0_stepOn_158 rfl ?_
                    refine w_lload (pc' := 161) (by rfl) dX0_stepOn_159 rfl ?_
                    refine w_callS (pc' := 164) (d' := 1) (av := [gR 30, gI (3 + 1), gJ ((P * (σ 25 a)) * 1)]) ms_mX0_stepOn st_mX0_stepOn lk_X0_66 rfl rfl (Nat.le_of_ble_eq_true rfl) (Nat.le_of_ble_eq_true rfl) dX0_stepOn_161 rfl (kb_step0 (A := A) hA hp hgl (updI T1 (σ 24 a) (w64 ((T1 (σ 24 a)) + ((P * (σ 25 a)) * 1)))) (updI P1 (3 + 1) (σ 24 a)) R3 (gB64 (fun a b => a ||| b) z1 (gS64 (fun a b => a <<< b) 1 (σ 24 a))) n3 q3 (P * (σ 25 a)) (pre ++ [σ 24 a]) ((if σ 24 a = f then [(P * A (PP 3) (σ 24 a) * (10000 : Int) ^ 0, pre ++ [(σ 24 a)])] else []).foldl kbs ((chT (σ 23) (σ 24) A f 0 pre P (PP 3) (a - σ 23 (PP 3)).toNat).foldl kbs s)) (by have := mulb hP.1 hP.2 (hpa.1) (hpa.2); omega) (by rw [updE (by decide)]; omega) (by rw [List.length_append, List.length_singleton]; omega) hpr1 hv1 h3) (fun v_161 σ_161 q_161 => ?_)
                    obtain ⟨rfl, T2, P2, R2, z2, n2, q2, rfl, hP2, hz2, hB2⟩ := q_161
                    show Wp _ _ _ _ _ _ []
                    have hB4 : BSt n2 q2 R2 ((chz A f 0 pre P (PP 3) (σ 24 a)).foldl kbs ((chT (σ 23) (σ 24) A f 0 pre P (PP 3) (a - σ 23 (PP 3)).toNat).foldl kbs s)) := by
                      rw [chz_out hv0]
                      have k9 := hB2
                      rw [updE (by decide), hpe (by omega)] at k9
                      exact k9
                    refine w_aload_n (pc' := 165) (i := 0) (by rfl) (by rfl) dX0_stepOn_164 rfl ?_
                    refine w_dup (pc' := 166) dX0_stepOn_165 rfl ?_
                    refine v_getJ (pc' := 169) (ji := 7) rfl fg_X0_61 kd_30 dX0_stepOn_166 rfl ?_
                    show Wp _ _ _ _ _ _ [gJ z2, gR 30]
                    refine w_lconst (n := 1) (pc' := 170) (by decide) (by decide) dX0_stepOn_169 rfl ?_
                    refine w_iload (pc' := 172) (by rfl) dX0_stepOn_170 rfl ?_
                    refine w_lshl (pc' := 173) dX0_stepOn_172 rfl ?_
                    refine w_ldc2 (pc' := 176) (by decide) ct_X0_89 dX0_stepOn_173 rfl ?_
                    refine w_lxor (pc' := 177) dX0_stepOn_176 rfl ?_
                    refine w_land (pc' := 178) dX0_stepOn_177 rfl ?_
                    refine v_putJ (pc' := 181) (ji := 7) rfl fp_X0_61 kd_30 sf_X0_7 dX0_stepOn_178 rfl ?_
                    refine Wp.heq (σ' := gUp (gUp (gUp (gUr (gUr (gUr σ 31 T2) 32 P2) 33 R2) 30 7 (gB64 (fun a b => a &&& b) z2 (gB64 (fun a b => a ^^^ b) (gS64 (fun a b => a <<< b) 1 (σ 24 a)) (-1)))) 30 4 n2) 30 5 q2) ((gUp_ci (by decide)).trans (congrArg (fun z => gUp z 30 5 q2) ((gUp_ci (by decide)).trans (congrArg (fun z => gUp z 30 4 n2) gUp_same)))) ?_
                    refine v_iinc (pc' := 184) (x := a) (ls' := [gR 30, gI 3, gJ (P * 10000), gX 1, gI (PP 3), gI (σ 23 ((PP 3) + 1)), gI (a + 1), gI (σ 24 a), gJ ((P * (σ 25 a)) * 1), gX 1]) (by omega) (by decide) (by rfl) (by rfl) dX0_stepOn_181 rfl ?_
                    refine w_goto (pc' := 40) dX0_stepOn_184 rfl ?_
                    refine Wp.lose (ls' := [gR 30, gI 3, gJ (P * 10000), gX 1, gI (PP 3), gI (σ 23 ((PP 3) + 1)), gI (a + 1), gX 1, gX 1, gX 1]) ⟨.inr rfl, ⟨.inr rfl, ⟨.inr rfl, ⟨.inr rfl, ⟨.inr rfl, ⟨.inr rfl, ⟨.inr rfl, ⟨.inl rfl, ⟨.inl rfl, ⟨.inr rfl, trivial⟩⟩⟩⟩⟩⟩⟩⟩⟩⟩ ?_
                    exact ih_40 _ (by omega) (a + 1) T2 P2 R2 (gB64 (fun a b => a &&& b) z2 (gB64 (fun a b => a ^^^ b) (gS64 (fun a b => a <<< b) 1 (σ 24 a)) (-1))) n2 q2 rfl (by omega) (by omega) (by first | exact hpp | (exfalso; omega) | (intro i x w; rw [hP2 i x (by omega), updI_ne (by omega)]; exact hpp i x w)) (by first | exact hz | (exfalso; omega) | (intro u x w; rw [bitI_clear (by omega) (by omega) x (by omega), hz2 u x w, List.mem_append, List.mem_singleton]; constructor; (rintro ⟨h | h, h2⟩; exact h; exact absurd h h2); (intro h; refine ⟨Or.inl h, fun e => ?_⟩; rw [e] at h; exact hv0 h))) (by rw [chT_s h0, List.foldl_append]; first | (exfalso; omega) | (rw [chz_mem ((hz (σ 24 a) (by omega) (by omega)).mp (cmpB.mp c_81))]; exact hB) | exact hB4)
                  refine w_iload (pc' := 126) (by rfl) dX0_stepOn_124 rfl ?_
                  refine w_aload_n (pc' := 127) (i := 0) (by rfl) (by rfl) dX0_stepOn_126 rfl ?_
                  refine v_getI (pc' := 130) (ji := 6) rfl fg_X0_58 kd_30 dX0_stepOn_127 rfl ?_
                  show Wp _ _ _ _ _ _ [gI (σ 30 6), gI (σ 24 a)]
                  refine w_icmp_ne (pc' := 133) (t := 142) dX0_stepOn_130 rfl rfl (fun c_130 => ?_) (fun c_130 => ?_)
                  · skip
                    exact hj_142 R1 n1 q1 (by first | (rw [if_neg (by omega)]; exact hB) | (rw [if_pos (by omega)]; show BSt _ _ _ (kbs _ (P * A (PP 3) (σ 24 a) * (10000 : Int) ^ 0, pre ++ [(σ 24 a)])); rw [← hpe (by omega), show (10000 : Int) ^ 0 = 1 from by decide]; first | exact hB.yes hln c_139 hpr1 | exact hB.no hln c_139))
                  · skip
                    refine w_aload_n (pc' := 134) (i := 0) (by rfl) (by rfl) dX0_stepOn_133 rfl ?_
                    refine w_iload_n (pc' := 135) (i := 1) (by rfl) (by rfl) dX0_stepOn_134 rfl ?_
                    refine w_iconst (pc' := 136) (by decide) dX0_stepOn_135 rfl ?_
                    refine v_iadd (pc' := 137) (by omega) dX0_stepOn_136 rfl ?_
                    refine w_lload (pc' := 139) (by rfl) dX0_stepOn_137 rfl ?_
                    by_cases c_139 : bsC n1 q1 (3 + 2) ((P * (σ 25 a)) * 1)
                    · skip
                      refine w_callV (pc' := 142) (d' := 0) (av := [gI (3 + 2), gJ ((P * (σ 25 a)) * 1)]) mi_mX0_keepBest lk_X0_85 rfl ci_X0 kd_30 rfl (Nat.le_of_ble_eq_true rfl) (Nat.le_of_ble_eq_true rfl) dX0_stepOn_139 rfl (k_kbY (σ := gUp (gUp (gUp (gUr (gUr (gUr σ 31 (updI T1 (σ 24 a) (w64 ((T1 (σ 24 a)) + ((P * (σ 25 a)) * 1))))) 32 (updI P1 (3 + 1) (σ 24 a))) 33 R1) 30 7 z1) 30 4 n1) 30 5 q1) (3 + 2) ((P * (σ 25 a)) * 1) (by omega) c_139) (fun v_139 σ_139 q_139 => ?_)
                      obtain ⟨rfl, rfl⟩ := q_139
                      refine Wp.heq (σ' := gUp (gUp (gUp (gUr (gUr (gUr σ 31 (updI T1 (σ 24 a) (w64 ((T1 (σ 24 a)) + ((P * (σ 25 a)) * 1))))) 32 (updI P1 (3 + 1) (σ 24 a))) 33 (cpR R1 (updI P1 (3 + 1) (σ 24 a)) (3 + 2))) 30 7 z1) 30 4 (3 + 2)) 30 5 ((P * (σ 25 a)) * 1)) ((congrArg (fun z => gUr z 33 (cpR R1 (updI P1 (3 + 1) (σ 24 a)) (3 + 2))) ((congrArg (fun z => gUp z 30 5 ((P * (σ 25 a)) * 1)) ((gUp_ci (by decide)).trans (congrArg (fun z => gUp z 30 5 q1) gUp_same))).trans gUp_same)).trans ((gUr_cu (by decide)).trans (congrArg (fun z => gUp z 30 5 ((P * (σ 25 a)) * 1)) ((gUr_cu (by decide)).trans (congrArg (fun z => gUp z 30 4 (3 + 2)) ((gUr_cu (by decide)).trans (congrArg (fun z => gUp z 30 7 z1) gUr_same))))))) ?_
                      show Wp _ _ _ _ _ _ []
                      show Wp _ _ _ (gUp (gUp (gUp (gUr (gUr (gUr σ 31 (updI T1 (σ 24 a) (w64 ((T1 (σ 24 a)) + ((P * (σ 25 a)) * 1))))) 32 (updI P1 (3 + 1) (σ 24 a))) 33 (cpR R1 (updI P1 (3 + 1) (σ 24 a)) (3 + 2))) 30 7 z1) 30 4 (3 + 2)) 30 5 ((P * (σ 25 a)) * 1)) _ _ []
                      exact hj_142 (cpR R1 (updI P1 (3 + 1) (σ 24 a)) (3 + 2)) (3 + 2) ((P * (σ 25 a)) * 1) (by first | (rw [if_neg (by omega)]; exact hB) | (rw [if_pos (by omega)]; show BSt _ _ _ (kbs _ (P * A (PP 3) (σ 24 a) * (10000 : Int) ^ 0, pre ++ [(σ 24 a)])); rw [← hpe (by omega), show (10000 : Int) ^ 0 = 1 from by decide]; first | exact hB.yes hln c_139 hpr1 | exact hB.no hln c_139))
                    · skip
                      refine v_callVE (pc' := 142) (st' := []) (d' := 0) (av := [gI (3 + 2), gJ ((P * (σ 25 a)) * 1)]) mi_mX0_keepBest lk_X0_85 rfl ci_X0 kd_30 rfl (Nat.le_of_ble_eq_true rfl) (Nat.le_of_ble_eq_true rfl) dX0_stepOn_139 rfl rfl (k_kbN (σ := gUp (gUp (gUp (gUr (gUr (gUr σ 31 (updI T1 (σ 24 a) (w64 ((T1 (σ 24 a)) + ((P * (σ 25 a)) * 1))))) 32 (updI P1 (3 + 1) (σ 24 a))) 33 R1) 30 7 z1) 30 4 n1) 30 5 q1) (3 + 2) ((P * (σ 25 a)) * 1) (by omega) c_139) ?_
                      show Wp _ _ _ (gUp (gUp (gUp (gUr (gUr (gUr σ 31 (updI T1 (σ 24 a) (w64 ((T1 (σ 24 a)) + ((P * (σ 25 a)) * 1))))) 32 (updI P1 (3 + 1) (σ 24 a))) 33 R1) 30 7 z1) 30 4 n1) 30 5 q1) _ _ []
                      exact hj_142 R1 n1 q1 (by first | (rw [if_neg (by omega)]; exact hB) | (rw [if_pos (by omega)]; show BSt _ _ _ (kbs _ (P * A (PP 3) (σ 24 a) * (10000 : Int) ^ 0, pre ++ [(σ 24 a)])); rw [← hpe (by omega), show (10000 : Int) ^ 0 = 1 from by decide]; first | exact hB.yes hln c_139 hpr1 | exact hB.no hln c_139))
      exact hl_40 _ (σ 23 (PP 3)) TT PP RR z nn qq rfl (by omega) (by omega) (by intro i x w; rfl) (by exact hv) (by rw [Int.sub_self]; exact hs)
    · skip
      exact absurd c_6 (by decide)
set_option maxHeartbeats 4000000 in
theorem kb_step2 {σ : gH} {A : Int → Int → Int} (hA : ARW (σ 23) (σ 24) (σ 25) A) (hp : ∀ c f, 0 ≤ A c f ∧ A c f ≤ 10000) {f : Int} (hgl : σ 30 6 = f) (TT PP RR : Int → Int) (z nn qq P : Int) (pre : List Int) (s : Int × List Int) (hP : 0 ≤ P ∧ P ≤ 100000000) (hy : 0 ≤ PP 2 ∧ PP 2 < 60) (hlen : (pre.length : Int) = 2 + 1) (hpr : rowL PP 0 pre) (hv : ∀ u, 0 ≤ u → u < 60 → (bitI z u ↔ u ∈ pre)) (hs : BSt nn qq RR s) : Mt mX0_stepOn 3 [gR 30, gI 2, gJ (P * 100000000)] (gUp (gUp (gUp (gUr (gUr (gUr σ 31 TT) 32 PP) 33 RR) 30 7 z) 30 4 nn) 30 5 qq) (fun v σ' => v = gX 1 ∧ ∃ T_ P_ R_ z_ n_ q_, σ' = gUp (gUp (gUp (gUr (gUr (gUr σ 31 T_) 32 P_) 33 R_) 30 7 z_) 30 4 n_) 30 5 q_ ∧ (∀ i, 0 ≤ i → i ≤ 2 → P_ i = PP i) ∧ (∀ u, 0 ≤ u → u < 60 → (bitI z_ u ↔ u ∈ pre)) ∧ BSt n_ q_ R_ ((clw4 A f 2 pre (PP 2) P).foldl kbs s)) := by
  refine Mt.walk (ls := [gR 30, gI 2, gJ (P * 100000000), gX 1, gX 1, gX 1, gX 1, gX 1, gX 1, gX 1]) pn_X0 rfl (fun _ _ h => by cases h.1) (Nat.le_of_ble_eq_true rfl) rfl ?_
  refine w_iload_n (pc' := 1) (i := 1) (by rfl) (by rfl) dX0_stepOn_0 rfl ?_
  refine w_if_lt (pc' := 4) (t := 9) dX0_stepOn_1 rfl rfl (fun c_1 => ?_) (fun c_1 => ?_)
  · skip
    exact absurd c_1 (by decide)
  · skip
    refine w_iload_n (pc' := 5) (i := 1) (by rfl) (by rfl) dX0_stepOn_4 rfl ?_
    refine w_iconst (pc' := 6) (by decide) dX0_stepOn_5 rfl ?_
    refine w_icmp_lt (pc' := 9) (t := 10) dX0_stepOn_6 rfl rfl (fun c_6 => ?_) (fun c_6 => ?_)
    · skip
      refine w_aload_n (pc' := 11) (i := 0) (by rfl) (by rfl) dX0_stepOn_10 rfl ?_
      refine w_getS (pc' := 14) (q := 32) fg_X0_15 kd_30 sf_X0_2 gr_30_2 dX0_stepOn_11 rfl ?_
      refine w_iload_n (pc' := 15) (i := 1) (by rfl) (by rfl) dX0_stepOn_14 rfl ?_
      refine w_iald (pc' := 16) kd_32 (by omega) (by omega) dX0_stepOn_15 rfl ?_
      show Wp _ _ _ _ _ _ [gI (PP 2)]
      refine w_istore (pc' := 18) (ls' := [gR 30, gI 2, gJ (P * 100000000), gX 1, gI (PP 2), gX 1, gX 1, gX 1, gX 1, gX 1]) (by decide) (by rfl) dX0_stepOn_16 rfl ?_
      refine w_aload_n (pc' := 19) (i := 0) (by rfl) (by rfl) dX0_stepOn_18 rfl ?_
      refine w_getS (pc' := 22) (q := 14) fg_X0_22 kd_30 sf_X0_0 gr_30_0 dX0_stepOn_19 rfl ?_
      refine w_iload (pc' := 24) (by rfl) dX0_stepOn_22 rfl ?_
      refine v_callVE (pc' := 27) (st' := [gI (σ 23 ((PP 2) + 1))]) (d' := 0) (av := [gI (PP 2)]) mi_mX7_pastArrows lk_X0_70 rfl ci_X7 kd_14 rfl (Nat.le_of_ble_eq_true rfl) (Nat.le_of_ble_eq_true rfl) dX0_stepOn_24 rfl rfl (k_pastArrows (gUp (gUp (gUp (gUr (gUr (gUr σ 31 TT) 32 PP) 33 RR) 30 7 z) 30 4 nn) 30 5 qq) (PP 2) (by omega)) ?_
      refine w_istore (pc' := 29) (ls' := [gR 30, gI 2, gJ (P * 100000000), gX 1, gI (PP 2), gI (σ 23 ((PP 2) + 1)), gX 1, gX 1, gX 1, gX 1]) (by decide) (by rfl) dX0_stepOn_27 rfl ?_
      refine w_aload_n (pc' := 30) (i := 0) (by rfl) (by rfl) dX0_stepOn_29 rfl ?_
      refine w_getS (pc' := 33) (q := 14) fg_X0_22 kd_30 sf_X0_0 gr_30_0 dX0_stepOn_30 rfl ?_
      refine w_iload (pc' := 35) (by rfl) dX0_stepOn_33 rfl ?_
      refine v_callVE (pc' := 38) (st' := [gI (σ 23 (PP 2))]) (d' := 0) (av := [gI (PP 2)]) mi_mX7_firstArrow lk_X0_74 rfl ci_X7 kd_14 rfl (Nat.le_of_ble_eq_true rfl) (Nat.le_of_ble_eq_true rfl) dX0_stepOn_35 rfl rfl (k_firstArrow (gUp (gUp (gUp (gUr (gUr (gUr σ 31 TT) 32 PP) 33 RR) 30 7 z) 30 4 nn) 30 5 qq) (PP 2) (by omega)) ?_
      refine w_istore (pc' := 40) (ls' := [gR 30, gI 2, gJ (P * 100000000), gX 1, gI (PP 2), gI (σ 23 ((PP 2) + 1)), gI (σ 23 (PP 2)), gX 1, gX 1, gX 1]) (by decide) (by rfl) dX0_stepOn_38 rfl ?_
      have hS := hA.2.1 (PP 2) hy.1 hy.2
      have hl_40 : ∀ (mm : Nat) (a : Int) (T1 P1 R1 : Int → Int) (z1 n1 q1 : Int), (σ 23 ((PP 2) + 1) - a).toNat = mm → (σ 23 (PP 2) ≤ a) → (a ≤ σ 23 ((PP 2) + 1)) → (∀ i, 0 ≤ i → i ≤ 2 → P1 i = PP i) → (∀ u, 0 ≤ u → u < 60 → (bitI z1 u ↔ u ∈ pre)) → (BSt n1 q1 R1 ((chT (σ 23) (σ 24) A f 1 pre P (PP 2) (a - σ 23 (PP 2)).toNat).foldl kbs s)) → Wp mX0_stepOn 3 (fun v σ' => v = gX 1 ∧ ∃ T_ P_ R_ z_ n_ q_, σ' = gUp (gUp (gUp (gUr (gUr (gUr σ 31 T_) 32 P_) 33 R_) 30 7 z_) 30 4 n_) 30 5 q_ ∧ (∀ i, 0 ≤ i → i ≤ 2 → P_ i = PP i) ∧ (∀ u, 0 ≤ u → u < 60 → (bitI z_ u ↔ u ∈ pre)) ∧ BSt n_ q_ R_ ((clw4 A f 2 pre (PP 2) P).foldl kbs s)) (gUp (gUp (gUp (gUr (gUr (gUr σ 31 T1) 32 P1) 33 R1) 30 7 z1) 30 4 n1) 30 5 q1) 40 [gR 30, gI 2, gJ (P * 100000000), gX 1, gI (PP 2), gI (σ 23 ((PP 2) + 1)), gI a, gX 1, gX 1, gX 1] [] := by
        intro m_40
        induction m_40 using Nat.strongRecOn with
        | _ m_40 ih_40 =>
          intro a T1 P1 R1 z1 n1 q1 hmeas_40 h0 h1 hpp hz hB
          have hS := hA.2.1 (PP 2) hy.1 hy.2
          have har := fun h : a < σ 23 ((PP 2) + 1) => hA.2.2.1 (PP 2) hy.1 hy.2 a h0 h
          have hpa := hp (PP 2) (σ 24 a)
          have hpe : a < σ 23 ((PP 2) + 1) → σ 25 a = A (PP 2) (σ 24 a) := fun h => (har h).2.2.1
          refine w_iload (pc' := 42) (by rfl) dX0_stepOn_40 rfl ?_
          refine w_iload (pc' := 44) (by rfl) dX0_stepOn_42 rfl ?_
          refine w_icmp_ge (pc' := 47) (t := 187) dX0_stepOn_44 rfl rfl (fun c_44 => ?_) (fun c_44 => ?_)
          · skip
            refine w_return rfl dX0_stepOn_187 ?_
            refine ⟨rfl, T1, P1, R1, z1, n1, q1, rfl, hpp, hz, ?_⟩
            have hB5 := hB
            rw [show a = σ 23 ((PP 2) + 1) by omega, chT_all hA hy.1 hy.2] at hB5
            exact hB5
          · skip
            refine w_aload_n (pc' := 48) (i := 0) (by rfl) (by rfl) dX0_stepOn_47 rfl ?_
            refine w_getS (pc' := 51) (q := 14) fg_X0_22 kd_30 sf_X0_0 gr_30_0 dX0_stepOn_48 rfl ?_
            refine w_iload (pc' := 53) (by rfl) dX0_stepOn_51 rfl ?_
            refine v_callVE (pc' := 56) (st' := [gI (σ 24 a)]) (d' := 0) (av := [gI a]) mi_mX7_targetOf lk_X0_77 rfl ci_X7 kd_14 rfl (Nat.le_of_ble_eq_true rfl) (Nat.le_of_ble_eq_true rfl) dX0_stepOn_53 rfl rfl (k_targetOf (gUp (gUp (gUp (gUr (gUr (gUr σ 31 T1) 32 P1) 33 R1) 30 7 z1) 30 4 n1) 30 5 q1) a (by omega)) ?_
            refine w_istore (pc' := 58) (ls' := [gR 30, gI 2, gJ (P * 100000000), gX 1, gI (PP 2), gI (σ 23 ((PP 2) + 1)), gI a, gI (σ 24 a), gX 1, gX 1]) (by decide) (by rfl) dX0_stepOn_56 rfl ?_
            refine w_iload (pc' := 60) (by rfl) dX0_stepOn_58 rfl ?_
            refine w_if_lt (pc' := 63) (t := 181) dX0_stepOn_60 rfl rfl (fun c_60 => ?_) (fun c_60 => ?_)
            · skip
              refine v_iinc (pc' := 184) (x := a) (ls' := [gR 30, gI 2, gJ (P * 100000000), gX 1, gI (PP 2), gI (σ 23 ((PP 2) + 1)), gI (a + 1), gI (σ 24 a), gX 1, gX 1]) (by omega) (by decide) (by rfl) (by rfl) dX0_stepOn_181 rfl ?_
              refine w_goto (pc' := 40) dX0_stepOn_184 rfl ?_
              refine Wp.lose (ls' := [gR 30, gI 2, gJ (P * 100000000), gX 1, gI (PP 2), gI (σ 23 ((PP 2) + 1)), gI (a + 1), gX 1, gX 1, gX 1]) ⟨.inr rfl, ⟨.inr rfl, ⟨.inr rfl, ⟨.inr rfl, ⟨.inr rfl, ⟨.inr rfl, ⟨.inr rfl, ⟨.inl rfl, ⟨.inr rfl, ⟨.inr rfl, trivial⟩⟩⟩⟩⟩⟩⟩⟩⟩⟩ ?_
              exact ih_40 _ (by omega) (a + 1) T1 P1 R1 z1 n1 q1 rfl (by omega) (by omega) (by first | exact hpp | (exfalso; omega) | (intro i x w; rw [hP2 i x (by omega), updI_ne (by omega)]; exact hpp i x w)) (by first | exact hz | (exfalso; omega) | (intro u x w; rw [bitI_clear (by omega) (by omega) x (by omega), hz2 u x w, List.mem_append, List.mem_singleton]; constructor; (rintro ⟨h | h, h2⟩; exact h; exact absurd h h2); (intro h; refine ⟨Or.inl h, fun e => ?_⟩; rw [e] at h; exact hv0 h))) (by rw [chT_s h0, List.foldl_append]; first | (exfalso; omega) | (rw [chz_mem ((hz (σ 24 a) (by omega) (by omega)).mp (cmpB.mp c_81))]; exact hB) | exact hB4)
            · skip
              refine w_iload (pc' := 65) (by rfl) dX0_stepOn_63 rfl ?_
              refine w_bipush (pc' := 67) (by decide) (by decide) dX0_stepOn_65 rfl ?_
              refine w_icmp_ge (pc' := 70) (t := 181) dX0_stepOn_67 rfl rfl (fun c_67 => ?_) (fun c_67 => ?_)
              · skip
                refine v_iinc (pc' := 184) (x := a) (ls' := [gR 30, gI 2, gJ (P * 100000000), gX 1, gI (PP 2), gI (σ 23 ((PP 2) + 1)), gI (a + 1), gI (σ 24 a), gX 1, gX 1]) (by omega) (by decide) (by rfl) (by rfl) dX0_stepOn_181 rfl ?_
                refine w_goto (pc' := 40) dX0_stepOn_184 rfl ?_
                refine Wp.lose (ls' := [gR 30, gI 2, gJ (P * 100000000), gX 1, gI (PP 2), gI (σ 23 ((PP 2) + 1)), gI (a + 1), gX 1, gX 1, gX 1]) ⟨.inr rfl, ⟨.inr rfl, ⟨.inr rfl, ⟨.inr rfl, ⟨.inr rfl, ⟨.inr rfl, ⟨.inr rfl, ⟨.inl rfl, ⟨.inr rfl, ⟨.inr rfl, trivial⟩⟩⟩⟩⟩⟩⟩⟩⟩⟩ ?_
                exact ih_40 _ (by omega) (a + 1) T1 P1 R1 z1 n1 q1 rfl (by omega) (by omega) (by first | exact hpp | (exfalso; omega) | (intro i x w; rw [hP2 i x (by omega), updI_ne (by omega)]; exact hpp i x w)) (by first | exact hz | (exfalso; omega) | (intro u x w; rw [bitI_clear (by omega) (by omega) x (by omega), hz2 u x w, List.mem_append, List.mem_singleton]; constructor; (rintro ⟨h | h, h2⟩; exact h; exact absurd h h2); (intro h; refine ⟨Or.inl h, fun e => ?_⟩; rw [e] at h; exact hv0 h))) (by rw [chT_s h0, List.foldl_append]; first | (exfalso; omega) | (rw [chz_mem ((hz (σ 24 a) (by omega) (by omega)).mp (cmpB.mp c_81))]; exact hB) | exact hB4)
              · skip
                refine w_aload_n (pc' := 71) (i := 0) (by rfl) (by rfl) dX0_stepOn_70 rfl ?_
                refine v_getJ (pc' := 74) (ji := 7) rfl fg_X0_61 kd_30 dX0_stepOn_71 rfl ?_
                show Wp _ _ _ _ _ _ [gJ z1]
                refine w_iload (pc' := 76) (by rfl) dX0_stepOn_74 rfl ?_
                refine w_lshr (pc' := 77) dX0_stepOn_76 rfl ?_
                refine w_lconst (n := 1) (pc' := 78) (by decide) (by decide) dX0_stepOn_77 rfl ?_
                refine w_land (pc' := 79) dX0_stepOn_78 rfl ?_
                refine w_lconst (n := 0) (pc' := 80) (by decide) (by decide) dX0_stepOn_79 rfl ?_
                refine w_lcmp (pc' := 81) dX0_stepOn_80 rfl ?_
                refine w_if_ne (pc' := 84) (t := 181) dX0_stepOn_81 rfl rfl (fun c_81 => ?_) (fun c_81 => ?_)
                · skip
                  refine v_iinc (pc' := 184) (x := a) (ls' := [gR 30, gI 2, gJ (P * 100000000), gX 1, gI (PP 2), gI (σ 23 ((PP 2) + 1)), gI (a + 1), gI (σ 24 a), gX 1, gX 1]) (by omega) (by decide) (by rfl) (by rfl) dX0_stepOn_181 rfl ?_
                  refine w_goto (pc' := 40) dX0_stepOn_184 rfl ?_
                  refine Wp.lose (ls' := [gR 30, gI 2, gJ (P * 100000000), gX 1, gI (PP 2), gI (σ 23 ((PP 2) + 1)), gI (a + 1), gX 1, gX 1, gX 1]) ⟨.inr rfl, ⟨.inr rfl, ⟨.inr rfl, ⟨.inr rfl, ⟨.inr rfl, ⟨.inr rfl, ⟨.inr rfl, ⟨.inl rfl, ⟨.inr rfl, ⟨.inr rfl, trivial⟩⟩⟩⟩⟩⟩⟩⟩⟩⟩ ?_
                  exact ih_40 _ (by omega) (a + 1) T1 P1 R1 z1 n1 q1 rfl (by omega) (by omega) (by first | exact hpp | (exfalso; omega) | (intro i x w; rw [hP2 i x (by omega), updI_ne (by omega)]; exact hpp i x w)) (by first | exact hz | (exfalso; omega) | (intro u x w; rw [bitI_clear (by omega) (by omega) x (by omega), hz2 u x w, List.mem_append, List.mem_singleton]; constructor; (rintro ⟨h | h, h2⟩; exact h; exact absurd h h2); (intro h; refine ⟨Or.inl h, fun e => ?_⟩; rw [e] at h; exact hv0 h))) (by rw [chT_s h0, List.foldl_append]; first | (exfalso; omega) | (rw [chz_mem ((hz (σ 24 a) (by omega) (by omega)).mp (cmpB.mp c_81))]; exact hB) | exact hB4)
                · skip
                  refine w_lload_n (pc' := 85) (i := 2) (by rfl) (by rfl) dX0_stepOn_84 rfl ?_
                  refine w_ldc2 (pc' := 88) (by decide) ct_X0_80 dX0_stepOn_85 rfl ?_
                  refine w_ldiv (pc' := 89) (by omega) dX0_stepOn_88 rfl ?_
                  refine Wp.stJ (y := P * 10000) (show w64 ((P * 100000000).tdiv 10000) = P * 10000 from divx (c := 10000) hP.1 (by decide) (by omega)) ?_
                  refine w_aload_n (pc' := 90) (i := 0) (by rfl) (by rfl) dX0_stepOn_89 rfl ?_
                  refine w_getS (pc' := 93) (q := 14) fg_X0_22 kd_30 sf_X0_0 gr_30_0 dX0_stepOn_90 rfl ?_
                  refine w_iload (pc' := 95) (by rfl) dX0_stepOn_93 rfl ?_
                  refine v_callVE (pc' := 98) (st' := [gI (σ 25 a), gJ (P * 10000)]) (d' := 0) (av := [gI a]) mi_mX7_partOn lk_X0_82 rfl ci_X7 kd_14 rfl (Nat.le_of_ble_eq_true rfl) (Nat.le_of_ble_eq_true rfl) dX0_stepOn_95 rfl rfl (k_partOn (gUp (gUp (gUp (gUr (gUr (gUr σ 31 T1) 32 P1) 33 R1) 30 7 z1) 30 4 n1) 30 5 q1) a (by omega)) ?_
                  refine w_i2l (pc' := 99) dX0_stepOn_98 rfl ?_
                  refine v_lmul (pc' := 100) (by have h9 := mulb (M := 100000000) hP.1 hP.2 hpa.1 hpa.2; rw [← hpe (by omega)] at h9; have h8 : P * 10000 * σ 25 a = (P * σ 25 a) * 10000 := (by rw [Int.mul_assoc, Int.mul_comm 10000, ← Int.mul_assoc]); rw [h8]; omega) dX0_stepOn_99 rfl ?_
                  refine Wp.stJ (y := (P * (σ 25 a)) * 10000) (by rw [Int.mul_assoc, Int.mul_comm 10000, ← Int.mul_assoc]) ?_
                  refine w_lstore (pc' := 102) (ls' := [gR 30, gI 2, gJ (P * 100000000), gX 1, gI (PP 2), gI (σ 23 ((PP 2) + 1)), gI a, gI (σ 24 a), gJ ((P * (σ 25 a)) * 10000), gX 1]) (by decide) (by rfl) dX0_stepOn_100 rfl ?_
                  have hv0 : ¬ (σ 24 a) ∈ pre := fun h => by
                    have := (hz (σ 24 a) (by omega) (by omega)).mpr h
                    exact cmpB.mpr this c_81
                  rw [← hpe (by omega)] at hpa
                  have hln : (2 + 2 : Int) = ((pre ++ [(σ 24 a)]).length : Int) := by rw [List.length_append, List.length_singleton]; omega
                  have hpr1 : rowL (updI P1 (2 + 1) (σ 24 a)) 0 (pre ++ [(σ 24 a)]) := rowL_app pre 0 (rowL_congr pre 0 (fun i x w => by rw [updI_ne (by omega)]; exact hpp i x (by omega)) hpr) (updE (by omega))
                  have hv1 : ∀ u, 0 ≤ u → u < 60 → (bitI (gB64 (fun a b => a ||| b) z1 (gS64 (fun a b => a <<< b) 1 (σ 24 a))) u ↔ u ∈ pre ++ [(σ 24 a)]) := fun u x w => by
                    rw [bitI_set (by omega) (by omega) x (by omega), hz u x w, List.mem_append, List.mem_singleton]
                  refine w_aload_n (pc' := 103) (i := 0) (by rfl) (by rfl) dX0_stepOn_102 rfl ?_
                  refine w_getS (pc' := 106) (q := 31) fg_X0_9 kd_30 sf_X0_1 gr_30_1 dX0_stepOn_103 rfl ?_
                  refine w_iload (pc' := 108) (by rfl) dX0_stepOn_106 rfl ?_
                  refine w_dup2 (pc' := 109) dX0_stepOn_108 rfl ?_
                  refine w_lald (pc' := 110) kd_31 (by omega) (by omega) dX0_stepOn_109 rfl ?_
                  show Wp _ _ _ _ _ _ [gJ (T1 (σ 24 a)), gI (σ 24 a), gR 31]
                  refine w_lload (pc' := 112) (by rfl) dX0_stepOn_110 rfl ?_
                  refine w_ladd (pc' := 113) dX0_stepOn_112 rfl ?_
                  refine w_last (pc' := 114) kd_31 (by omega) (by omega) dX0_stepOn_113 rfl ?_
                  refine Wp.heq (σ' := gUp (gUp (gUp (gUr (gUr (gUr σ 31 (updI T1 (σ 24 a) (w64 ((T1 (σ 24 a)) + ((P * (σ 25 a)) * 10000))))) 32 P1) 33 R1) 30 7 z1) 30 4 n1) 30 5 q1) ((gUp_cu (by decide)).trans (congrArg (fun z => gUp z 30 5 q1) ((gUp_cu (by decide)).trans (congrArg (fun z => gUp z 30 4 n1) ((gUp_cu (by decide)).trans (congrArg (fun z => gUp z 30 7 z1) ((gUp_cr (by decide)).trans (congrArg (fun z => gUr z 33 R1) ((gUp_cr (by decide)).trans (congrArg (fun z => gUr z 32 P1) gUp_row)))))))))) ?_
                  refine w_aload_n (pc' := 115) (i := 0) (by rfl) (by rfl) dX0_stepOn_114 rfl ?_
                  refine w_getS (pc' := 118) (q := 32) fg_X0_15 kd_30 sf_X0_2 gr_30_2 dX0_stepOn_115 rfl ?_
                  refine w_iload_n (pc' := 119) (i := 1) (by rfl) (by rfl) dX0_stepOn_118 rfl ?_
                  refine w_iconst (pc' := 120) (by decide) dX0_stepOn_119 rfl ?_
                  refine v_iadd (pc' := 121) (by omega) dX0_stepOn_120 rfl ?_
                  refine w_iload (pc' := 123) (by rfl) dX0_stepOn_121 rfl ?_
                  refine w_iast (pc' := 124) kd_32 (by omega) (by omega) dX0_stepOn_123 rfl ?_
                  refine Wp.heq (σ' := gUp (gUp (gUp (gUr (gUr (gUr σ 31 (updI T1 (σ 24 a) (w64 ((T1 (σ 24 a)) + ((P * (σ 25 a)) * 10000))))) 32 (updI P1 (2 + 1) (σ 24 a))) 33 R1) 30 7 z1) 30 4 n1) 30 5 q1) ((gUp_cu (by decide)).trans (congrArg (fun z => gUp z 30 5 q1) ((gUp_cu (by decide)).trans (congrArg (fun z => gUp z 30 4 n1) ((gUp_cu (by decide)).trans (congrArg (fun z => gUp z 30 7 z1) ((gUp_cr (by decide)).trans (congrArg (fun z => gUr z 33 R1) gUp_row)))))))) ?_
                  have hj_142 : ∀ (R3 : Int → Int) (n3 q3 : Int), BSt n3 q3 R3 ((if σ 24 a = f then [(P * A (PP 2) (σ 24 a) * (10000 : Int) ^ 1, pre ++ [(σ 24 a)])] else []).foldl kbs ((chT (σ 23) (σ 24) A f 1 pre P (PP 2) (a - σ 23 (PP 2)).toNat).foldl kbs s)) → Wp mX0_stepOn 3 (fun v σ' => v = gX 1 ∧ ∃ T_ P_ R_ z_ n_ q_, σ' = gUp (gUp (gUp (gUr (gUr (gUr σ 31 T_) 32 P_) 33 R_) 30 7 z_) 30 4 n_) 30 5 q_ ∧ (∀ i, 0 ≤ i → i ≤ 2 → P_ i = PP i) ∧ (∀ u, 0 ≤ u → u < 60 → (bitI z_ u ↔ u ∈ pre)) ∧ BSt n_ q_ R_ ((clw4 A f 2 pre (PP 2) P).foldl kbs s)) (gUp (gUp (gUp (gUr (gUr (gUr σ 31 (updI T1 (σ 24 a) (w64 ((T1 (σ 24 a)) + ((P * (σ 25 a)) * 10000))))) 32 (updI P1 (2 + 1) (σ 24 a))) 33 R3) 30 7 z1) 30 4 n3) 30 5 q3) 142 [gR 30, gI 2, gJ (P * 100000000), gX 1, gI (PP 2), gI (σ 23 ((PP 2) + 1)), gI a, gI (σ 24 a), gJ ((P * (σ 25 a)) * 10000), gX 1] [] := by
                    intro R3 n3 q3 h3
                    refine w_aload_n (pc' := 143) (i := 0) (by rfl) (by rfl) dX0_stepOn_142 rfl ?_
                    refine w_dup (pc' := 144) dX0_stepOn_143 rfl ?_
                    refine v_getJ (pc' := 147) (ji := 7) rfl fg_X0_61 kd_30 dX0_stepOn_144 rfl ?_
                    show Wp _ _ _ _ _ _ [gJ z1, gR 30]
                    refine w_lconst (n := 1) (pc' := 148) (by decide) (by decide) dX0_stepOn_147 rfl ?_
                    refine w_iload (pc' := 150) (by rfl) dX0_stepOn_148 rfl ?_
                    refine w_lshl (pc' := 151) dX0_stepOn_150 rfl ?_
                    refine w_lor (pc' := 152) dX0_stepOn_151 rfl ?_
                    refine v_putJ (pc' := 155) (ji := 7) rfl fp_X0_61 kd_30 sf_X0_7 dX0_stepOn_152 rfl ?_
                    refine Wp.heq (σ' := gUp (gUp (gUp (gUr (gUr (gUr σ 31 (updI T1 (σ 24 a) (w64 ((T1 (σ 24 a)) + ((P * (σ 25 a)) * 10000))))) 32 (updI P1 (2 + 1) (σ 24 a))) 33 R3) 30 7 (gB64 (fun a b => a ||| b) z1 (gS64 (fun a b => a <<< b) 1 (σ 24 a)))) 30 4 n3) 30 5 q3) ((gUp_ci (by decide)).trans (congrArg (fun z => gUp z 30 5 q3) ((gUp_ci (by decide)).trans (congrArg (fun z => gUp z 30 4 n3) gUp_same)))) ?_
                    refine w_aload_n (pc' := 156) (i := 0) (by rfl) (by rfl) dX0_stepOn_155 rfl ?_
                    refine w_iload_n (pc' := 157) (i := 1) (by rfl) (by rfl) dX0_stepOn_156 rfl ?_
                    refine w_iconst (pc' := 158) (by decide) dX0_stepOn_157 rfl ?_
                    refine v_iadd (pc' := 159) (by omega) dX0_stepOn_158 rfl ?_
                    refine w_lload (pc' := 161) (by rfl) dX0_stepOn_159 rfl ?_
                    refine w_callS (pc' := 164) (d' := 2) (av := [gR 30, gI (2 + 1), gJ ((P * (σ 25 a)) * 10000)]) ms_mX0_stepOn st_mX0_stepOn lk_X0_66 rfl rfl (Nat.le_of_ble_eq_true rfl) (Nat.le_of_ble_eq_true rfl) dX0_stepOn_161 rfl (kb_step1 (A := A) hA hp hgl (updI T1 (σ 24 a) (w64 ((T1 (σ 24 a)) + ((P * (σ 25 a)) * 10000)))) (updI P1 (2 + 1) (σ 24 a)) R3 (gB64 (fun a b => a ||| b) z1 (gS64 (fun a b => a <<< b) 1 (σ 24 a))) n3 q3 (P * (σ 25 a)) (pre ++ [σ 24 a]) ((if σ 24 a = f then [(P * A (PP 2) (σ 24 a) * (10000 : Int) ^ 1, pre ++ [(σ 24 a)])] else []).foldl kbs ((chT (σ 23) (σ 24) A f 1 pre P (PP 2) (a - σ 23 (PP 2)).toNat).foldl kbs s)) (by have := mulb hP.1 hP.2 (hpa.1) (hpa.2); omega) (by rw [updE (by decide)]; omega) (by rw [List.length_append, List.length_singleton]; omega) hpr1 hv1 h3) (fun v_161 σ_161 q_161 => ?_)
                    obtain ⟨rfl, T2, P2, R2, z2, n2, q2, rfl, hP2, hz2, hB2⟩ := q_161
                    show Wp _ _ _ _ _ _ []
                    have hB4 : BSt n2 q2 R2 ((chz A f 1 pre P (PP 2) (σ 24 a)).foldl kbs ((chT (σ 23) (σ 24) A f 1 pre P (PP 2) (a - σ 23 (PP 2)).toNat).foldl kbs s)) := by
                      rw [chz_out hv0]
                      have k9 := hB2
                      rw [updE (by decide), hpe (by omega)] at k9
                      exact k9
                    refine w_aload_n (pc' := 165) (i := 0) (by rfl) (by rfl) dX0_stepOn_164 rfl ?_
                    refine w_dup (pc' := 166) dX0_stepOn_165 rfl ?_
                    refine v_getJ (pc' := 169) (ji := 7) rfl fg_X0_61 kd_30 dX0_stepOn_166 rfl ?_
                    show Wp _ _ _ _ _ _ [gJ z2, gR 30]
                    refine w_lconst (n := 1) (pc' := 170) (by decide) (by decide) dX0_stepOn_169 rfl ?_
                    refine w_iload (pc' := 172) (by rfl) dX0_stepOn_170 rfl ?_
                    refine w_lshl (pc' := 173) dX0_stepOn_172 rfl ?_
                    refine w_ldc2 (pc' := 176) (by decide) ct_X0_89 dX0_stepOn_173 rfl ?_
                    refine w_lxor (pc' := 177) dX0_stepOn_176 rfl ?_
                    refine w_land (pc' := 178) dX0_stepOn_177 rfl ?_
                    refine v_putJ (pc' := 181) (ji := 7) rfl fp_X0_61 kd_30 sf_X0_7 dX0_stepOn_178 rfl ?_
                    refine Wp.heq (σ' := gUp (gUp (gUp (gUr (gUr (gUr σ 31 T2) 32 P2) 33 R2) 30 7 (gB64 (fun a b => a &&& b) z2 (gB64 (fun a b => a ^^^ b) (gS64 (fun a b => a <<< b) 1 (σ 24 a)) (-1)))) 30 4 n2) 30 5 q2) ((gUp_ci (by decide)).trans (congrArg (fun z => gUp z 30 5 q2) ((gUp_ci (by decide)).trans (congrArg (fun z => gUp z 30 4 n2) gUp_same)))) ?_
                    refine v_iinc (pc' := 184) (x := a) (ls' := [gR 30, gI 2, gJ (P * 100000000), gX 1, gI (PP 2), gI (σ 23 ((PP 2) + 1)), gI (a + 1), gI (σ 24 a), gJ ((P * (σ 25 a)) * 10000), gX 1]) (by omega) (by decide) (by rfl) (by rfl) dX0_stepOn_181 rfl ?_
                    refine w_goto (pc' := 40) dX0_stepOn_184 rfl ?_
                    refine Wp.lose (ls' := [gR 30, gI 2, gJ (P * 100000000), gX 1, gI (PP 2), gI (σ 23 ((PP 2) + 1)), gI (a + 1), gX 1, gX 1, gX 1]) ⟨.inr rfl, ⟨.inr rfl, ⟨.inr rfl, ⟨.inr rfl, ⟨.inr rfl, ⟨.inr rfl, ⟨.inr rfl, ⟨.inl rfl, ⟨.inl rfl, ⟨.inr rfl, trivial⟩⟩⟩⟩⟩⟩⟩⟩⟩⟩ ?_
                    exact ih_40 _ (by omega) (a + 1) T2 P2 R2 (gB64 (fun a b => a &&& b) z2 (gB64 (fun a b => a ^^^ b) (gS64 (fun a b => a <<< b) 1 (σ 24 a)) (-1))) n2 q2 rfl (by omega) (by omega) (by first | exact hpp | (exfalso; omega) | (intro i x w; rw [hP2 i x (by omega), updI_ne (by omega)]; exact hpp i x w)) (by first | exact hz | (exfalso; omega) | (intro u x w; rw [bitI_clear (by omega) (by omega) x (by omega), hz2 u x w, List.mem_append, List.mem_singleton]; constructor; (rintro ⟨h | h, h2⟩; exact h; exact absurd h h2); (intro h; refine ⟨Or.inl h, fun e => ?_⟩; rw [e] at h; exact hv0 h))) (by rw [chT_s h0, List.foldl_append]; first | (exfalso; omega) | (rw [chz_mem ((hz (σ 24 a) (by omega) (by omega)).mp (cmpB.mp c_81))]; exact hB) | exact hB4)
                  refine w_iload (pc' := 126) (by rfl) dX0_stepOn_124 rfl ?_
                  refine w_aload_n (pc' := 127) (i := 0) (by rfl) (by rfl) dX0_stepOn_126 rfl ?_
                  refine v_getI (pc' := 130) (ji := 6) rfl fg_X0_58 kd_30 dX0_stepOn_127 rfl ?_
                  show Wp _ _ _ _ _ _ [gI (σ 30 6), gI (σ 24 a)]
                  refine w_icmp_ne (pc' := 133) (t := 142) dX0_stepOn_130 rfl rfl (fun c_130 => ?_) (fun c_130 => ?_)
                  · skip
                    exact hj_142 R1 n1 q1 (by first | (rw [if_neg (by omega)]; exact hB) | (rw [if_pos (by omega)]; show BSt _ _ _ (kbs _ (P * A (PP 2) (σ 24 a) * (10000 : Int) ^ 1, pre ++ [(σ 24 a)])); rw [← hpe (by omega), show (10000 : Int) ^ 1 = 10000 from by decide]; first | exact hB.yes hln c_139 hpr1 | exact hB.no hln c_139))
                  · skip
                    refine w_aload_n (pc' := 134) (i := 0) (by rfl) (by rfl) dX0_stepOn_133 rfl ?_
                    refine w_iload_n (pc' := 135) (i := 1) (by rfl) (by rfl) dX0_stepOn_134 rfl ?_
                    refine w_iconst (pc' := 136) (by decide) dX0_stepOn_135 rfl ?_
                    refine v_iadd (pc' := 137) (by omega) dX0_stepOn_136 rfl ?_
                    refine w_lload (pc' := 139) (by rfl) dX0_stepOn_137 rfl ?_
                    by_cases c_139 : bsC n1 q1 (2 + 2) ((P * (σ 25 a)) * 10000)
                    · skip
                      refine w_callV (pc' := 142) (d' := 0) (av := [gI (2 + 2), gJ ((P * (σ 25 a)) * 10000)]) mi_mX0_keepBest lk_X0_85 rfl ci_X0 kd_30 rfl (Nat.le_of_ble_eq_true rfl) (Nat.le_of_ble_eq_true rfl) dX0_stepOn_139 rfl (k_kbY (σ := gUp (gUp (gUp (gUr (gUr (gUr σ 31 (updI T1 (σ 24 a) (w64 ((T1 (σ 24 a)) + ((P * (σ 25 a)) * 10000))))) 32 (updI P1 (2 + 1) (σ 24 a))) 33 R1) 30 7 z1) 30 4 n1) 30 5 q1) (2 + 2) ((P * (σ 25 a)) * 10000) (by omega) c_139) (fun v_139 σ_139 q_139 => ?_)
                      obtain ⟨rfl, rfl⟩ := q_139
                      refine Wp.heq (σ' := gUp (gUp (gUp (gUr (gUr (gUr σ 31 (updI T1 (σ 24 a) (w64 ((T1 (σ 24 a)) + ((P * (σ 25 a)) * 10000))))) 32 (updI P1 (2 + 1) (σ 24 a))) 33 (cpR R1 (updI P1 (2 + 1) (σ 24 a)) (2 + 2))) 30 7 z1) 30 4 (2 + 2)) 30 5 ((P * (σ 25 a)) * 10000)) ((congrArg (fun z => gUr z 33 (cpR R1 (updI P1 (2 + 1) (σ 24 a)) (2 + 2))) ((congrArg (fun z => gUp z 30 5 ((P * (σ 25 a)) * 10000)) ((gUp_ci (by decide)).trans (congrArg (fun z => gUp z 30 5 q1) gUp_same))).trans gUp_same)).trans ((gUr_cu (by decide)).trans (congrArg (fun z => gUp z 30 5 ((P * (σ 25 a)) * 10000)) ((gUr_cu (by decide)).trans (congrArg (fun z => gUp z 30 4 (2 + 2)) ((gUr_cu (by decide)).trans (congrArg (fun z => gUp z 30 7 z1) gUr_same))))))) ?_
                      show Wp _ _ _ _ _ _ []
                      show Wp _ _ _ (gUp (gUp (gUp (gUr (gUr (gUr σ 31 (updI T1 (σ 24 a) (w64 ((T1 (σ 24 a)) + ((P * (σ 25 a)) * 10000))))) 32 (updI P1 (2 + 1) (σ 24 a))) 33 (cpR R1 (updI P1 (2 + 1) (σ 24 a)) (2 + 2))) 30 7 z1) 30 4 (2 + 2)) 30 5 ((P * (σ 25 a)) * 10000)) _ _ []
                      exact hj_142 (cpR R1 (updI P1 (2 + 1) (σ 24 a)) (2 + 2)) (2 + 2) ((P * (σ 25 a)) * 10000) (by first | (rw [if_neg (by omega)]; exact hB) | (rw [if_pos (by omega)]; show BSt _ _ _ (kbs _ (P * A (PP 2) (σ 24 a) * (10000 : Int) ^ 1, pre ++ [(σ 24 a)])); rw [← hpe (by omega), show (10000 : Int) ^ 1 = 10000 from by decide]; first | exact hB.yes hln c_139 hpr1 | exact hB.no hln c_139))
                    · skip
                      refine v_callVE (pc' := 142) (st' := []) (d' := 0) (av := [gI (2 + 2), gJ ((P * (σ 25 a)) * 10000)]) mi_mX0_keepBest lk_X0_85 rfl ci_X0 kd_30 rfl (Nat.le_of_ble_eq_true rfl) (Nat.le_of_ble_eq_true rfl) dX0_stepOn_139 rfl rfl (k_kbN (σ := gUp (gUp (gUp (gUr (gUr (gUr σ 31 (updI T1 (σ 24 a) (w64 ((T1 (σ 24 a)) + ((P * (σ 25 a)) * 10000))))) 32 (updI P1 (2 + 1) (σ 24 a))) 33 R1) 30 7 z1) 30 4 n1) 30 5 q1) (2 + 2) ((P * (σ 25 a)) * 10000) (by omega) c_139) ?_
                      show Wp _ _ _ (gUp (gUp (gUp (gUr (gUr (gUr σ 31 (updI T1 (σ 24 a) (w64 ((T1 (σ 24 a)) + ((P * (σ 25 a)) * 10000))))) 32 (updI P1 (2 + 1) (σ 24 a))) 33 R1) 30 7 z1) 30 4 n1) 30 5 q1) _ _ []
                      exact hj_142 R1 n1 q1 (by first | (rw [if_neg (by omega)]; exact hB) | (rw [if_pos (by omega)]; show BSt _ _ _ (kbs _ (P * A (PP 2) (σ 24 a) * (10000 : Int) ^ 1, pre ++ [(σ 24 a)])); rw [← hpe (by omega), show (10000 : Int) ^ 1 = 10000 from by decide]; first | exact hB.yes hln c_139 hpr1 | exact hB.no hln c_139))
      exact hl_40 _ (σ 23 (PP 2)) TT PP RR z nn qq rfl (by omega) (by omega) (by intro i x w; rfl) (by exact hv) (by rw [Int.sub_self]; exact hs)
    · skip
      exact absurd c_6 (by decide)
set_option maxHeartbeats 4000000 in
theorem kb_step3 {σ : gH} {A : Int → Int → Int} (hA : ARW (σ 23) (σ 24) (σ 25) A) (hp : ∀ c f, 0 ≤ A c f ∧ A c f ≤ 10000) {f : Int} (hgl : σ 30 6 = f) (TT PP RR : Int → Int) (z nn qq P : Int) (pre : List Int) (s : Int × List Int) (hP : 0 ≤ P ∧ P ≤ 10000) (hy : 0 ≤ PP 1 ∧ PP 1 < 60) (hlen : (pre.length : Int) = 1 + 1) (hpr : rowL PP 0 pre) (hv : ∀ u, 0 ≤ u → u < 60 → (bitI z u ↔ u ∈ pre)) (hs : BSt nn qq RR s) : Mt mX0_stepOn 4 [gR 30, gI 1, gJ (P * 1000000000000)] (gUp (gUp (gUp (gUr (gUr (gUr σ 31 TT) 32 PP) 33 RR) 30 7 z) 30 4 nn) 30 5 qq) (fun v σ' => v = gX 1 ∧ ∃ T_ P_ R_ z_ n_ q_, σ' = gUp (gUp (gUp (gUr (gUr (gUr σ 31 T_) 32 P_) 33 R_) 30 7 z_) 30 4 n_) 30 5 q_ ∧ (∀ i, 0 ≤ i → i ≤ 1 → P_ i = PP i) ∧ (∀ u, 0 ≤ u → u < 60 → (bitI z_ u ↔ u ∈ pre)) ∧ BSt n_ q_ R_ ((clw4 A f 3 pre (PP 1) P).foldl kbs s)) := by
  refine Mt.walk (ls := [gR 30, gI 1, gJ (P * 1000000000000), gX 1, gX 1, gX 1, gX 1, gX 1, gX 1, gX 1]) pn_X0 rfl (fun _ _ h => by cases h.1) (Nat.le_of_ble_eq_true rfl) rfl ?_
  refine w_iload_n (pc' := 1) (i := 1) (by rfl) (by rfl) dX0_stepOn_0 rfl ?_
  refine w_if_lt (pc' := 4) (t := 9) dX0_stepOn_1 rfl rfl (fun c_1 => ?_) (fun c_1 => ?_)
  · skip
    exact absurd c_1 (by decide)
  · skip
    refine w_iload_n (pc' := 5) (i := 1) (by rfl) (by rfl) dX0_stepOn_4 rfl ?_
    refine w_iconst (pc' := 6) (by decide) dX0_stepOn_5 rfl ?_
    refine w_icmp_lt (pc' := 9) (t := 10) dX0_stepOn_6 rfl rfl (fun c_6 => ?_) (fun c_6 => ?_)
    · skip
      refine w_aload_n (pc' := 11) (i := 0) (by rfl) (by rfl) dX0_stepOn_10 rfl ?_
      refine w_getS (pc' := 14) (q := 32) fg_X0_15 kd_30 sf_X0_2 gr_30_2 dX0_stepOn_11 rfl ?_
      refine w_iload_n (pc' := 15) (i := 1) (by rfl) (by rfl) dX0_stepOn_14 rfl ?_
      refine w_iald (pc' := 16) kd_32 (by omega) (by omega) dX0_stepOn_15 rfl ?_
      show Wp _ _ _ _ _ _ [gI (PP 1)]
      refine w_istore (pc' := 18) (ls' := [gR 30, gI 1, gJ (P * 1000000000000), gX 1, gI (PP 1), gX 1, gX 1, gX 1, gX 1, gX 1]) (by decide) (by rfl) dX0_stepOn_16 rfl ?_
      refine w_aload_n (pc' := 19) (i := 0) (by rfl) (by rfl) dX0_stepOn_18 rfl ?_
      refine w_getS (pc' := 22) (q := 14) fg_X0_22 kd_30 sf_X0_0 gr_30_0 dX0_stepOn_19 rfl ?_
      refine w_iload (pc' := 24) (by rfl) dX0_stepOn_22 rfl ?_
      refine v_callVE (pc' := 27) (st' := [gI (σ 23 ((PP 1) + 1))]) (d' := 0) (av := [gI (PP 1)]) mi_mX7_pastArrows lk_X0_70 rfl ci_X7 kd_14 rfl (Nat.le_of_ble_eq_true rfl) (Nat.le_of_ble_eq_true rfl) dX0_stepOn_24 rfl rfl (k_pastArrows (gUp (gUp (gUp (gUr (gUr (gUr σ 31 TT) 32 PP) 33 RR) 30 7 z) 30 4 nn) 30 5 qq) (PP 1) (by omega)) ?_
      refine w_istore (pc' := 29) (ls' := [gR 30, gI 1, gJ (P * 1000000000000), gX 1, gI (PP 1), gI (σ 23 ((PP 1) + 1)), gX 1, gX 1, gX 1, gX 1]) (by decide) (by rfl) dX0_stepOn_27 rfl ?_
      refine w_aload_n (pc' := 30) (i := 0) (by rfl) (by rfl) dX0_stepOn_29 rfl ?_
      refine w_getS (pc' := 33) (q := 14) fg_X0_22 kd_30 sf_X0_0 gr_30_0 dX0_stepOn_30 rfl ?_
      refine w_iload (pc' := 35) (by rfl) dX0_stepOn_33 rfl ?_
      refine v_callVE (pc' := 38) (st' := [gI (σ 23 (PP 1))]) (d' := 0) (av := [gI (PP 1)]) mi_mX7_firstArrow lk_X0_74 rfl ci_X7 kd_14 rfl (Nat.le_of_ble_eq_true rfl) (Nat.le_of_ble_eq_true rfl) dX0_stepOn_35 rfl rfl (k_firstArrow (gUp (gUp (gUp (gUr (gUr (gUr σ 31 TT) 32 PP) 33 RR) 30 7 z) 30 4 nn) 30 5 qq) (PP 1) (by omega)) ?_
      refine w_istore (pc' := 40) (ls' := [gR 30, gI 1, gJ (P * 1000000000000), gX 1, gI (PP 1), gI (σ 23 ((PP 1) + 1)), gI (σ 23 (PP 1)), gX 1, gX 1, gX 1]) (by decide) (by rfl) dX0_stepOn_38 rfl ?_
      have hS := hA.2.1 (PP 1) hy.1 hy.2
      have hl_40 : ∀ (mm : Nat) (a : Int) (T1 P1 R1 : Int → Int) (z1 n1 q1 : Int), (σ 23 ((PP 1) + 1) - a).toNat = mm → (σ 23 (PP 1) ≤ a) → (a ≤ σ 23 ((PP 1) + 1)) → (∀ i, 0 ≤ i → i ≤ 1 → P1 i = PP i) → (∀ u, 0 ≤ u → u < 60 → (bitI z1 u ↔ u ∈ pre)) → (BSt n1 q1 R1 ((chT (σ 23) (σ 24) A f 2 pre P (PP 1) (a - σ 23 (PP 1)).toNat).foldl kbs s)) → Wp mX0_stepOn 4 (fun v σ' => v = gX 1 ∧ ∃ T_ P_ R_ z_ n_ q_, σ' = gUp (gUp (gUp (gUr (gUr (gUr σ 31 T_) 32 P_) 33 R_) 30 7 z_) 30 4 n_) 30 5 q_ ∧ (∀ i, 0 ≤ i → i ≤ 1 → P_ i = PP i) ∧ (∀ u, 0 ≤ u → u < 60 → (bitI z_ u ↔ u ∈ pre)) ∧ BSt n_ q_ R_ ((clw4 A f 3 pre (PP 1) P).foldl kbs s)) (gUp (gUp (gUp (gUr (gUr (gUr σ 31 T1) 32 P1) 33 R1) 30 7 z1) 30 4 n1) 30 5 q1) 40 [gR 30, gI 1, gJ (P * 1000000000000), gX 1, gI (PP 1), gI (σ 23 ((PP 1) + 1)), gI a, gX 1, gX 1, gX 1] [] := by
        intro m_40
        induction m_40 using Nat.strongRecOn with
        | _ m_40 ih_40 =>
          intro a T1 P1 R1 z1 n1 q1 hmeas_40 h0 h1 hpp hz hB
          have hS := hA.2.1 (PP 1) hy.1 hy.2
          have har := fun h : a < σ 23 ((PP 1) + 1) => hA.2.2.1 (PP 1) hy.1 hy.2 a h0 h
          have hpa := hp (PP 1) (σ 24 a)
          have hpe : a < σ 23 ((PP 1) + 1) → σ 25 a = A (PP 1) (σ 24 a) := fun h => (har h).2.2.1
          refine w_iload (pc' := 42) (by rfl) dX0_stepOn_40 rfl ?_
          refine w_iload (pc' := 44) (by rfl) dX0_stepOn_42 rfl ?_
          refine w_icmp_ge (pc' := 47) (t := 187) dX0_stepOn_44 rfl rfl (fun c_44 => ?_) (fun c_44 => ?_)
          · skip
            refine w_return rfl dX0_stepOn_187 ?_
            refine ⟨rfl, T1, P1, R1, z1, n1, q1, rfl, hpp, hz, ?_⟩
            have hB5 := hB
            rw [show a = σ 23 ((PP 1) + 1) by omega, chT_all hA hy.1 hy.2] at hB5
            exact hB5
          · skip
            refine w_aload_n (pc' := 48) (i := 0) (by rfl) (by rfl) dX0_stepOn_47 rfl ?_
            refine w_getS (pc' := 51) (q := 14) fg_X0_22 kd_30 sf_X0_0 gr_30_0 dX0_stepOn_48 rfl ?_
            refine w_iload (pc' := 53) (by rfl) dX0_stepOn_51 rfl ?_
            refine v_callVE (pc' := 56) (st' := [gI (σ 24 a)]) (d' := 0) (av := [gI a]) mi_mX7_targetOf lk_X0_77 rfl ci_X7 kd_14 rfl (Nat.le_of_ble_eq_true rfl) (Nat.le_of_ble_eq_true rfl) dX0_stepOn_53 rfl rfl (k_targetOf (gUp (gUp (gUp (gUr (gUr (gUr σ 31 T1) 32 P1) 33 R1) 30 7 z1) 30 4 n1) 30 5 q1) a (by omega)) ?_
            refine w_istore (pc' := 58) (ls' := [gR 30, gI 1, gJ (P * 1000000000000), gX 1, gI (PP 1), gI (σ 23 ((PP 1) + 1)), gI a, gI (σ 24 a), gX 1, gX 1]) (by decide) (by rfl) dX0_stepOn_56 rfl ?_
            refine w_iload (pc' := 60) (by rfl) dX0_stepOn_58 rfl ?_
            refine w_if_lt (pc' := 63) (t := 181) dX0_stepOn_60 rfl rfl (fun c_60 => ?_) (fun c_60 => ?_)
            · skip
              refine v_iinc (pc' := 184) (x := a) (ls' := [gR 30, gI 1, gJ (P * 1000000000000), gX 1, gI (PP 1), gI (σ 23 ((PP 1) + 1)), gI (a + 1), gI (σ 24 a), gX 1, gX 1]) (by omega) (by decide) (by rfl) (by rfl) dX0_stepOn_181 rfl ?_
              refine w_goto (pc' := 40) dX0_stepOn_184 rfl ?_
              refine Wp.lose (ls' := [gR 30, gI 1, gJ (P * 1000000000000), gX 1, gI (PP 1), gI (σ 23 ((PP 1) + 1)), gI (a + 1), gX 1, gX 1, gX 1]) ⟨.inr rfl, ⟨.inr rfl, ⟨.inr rfl, ⟨.inr rfl, ⟨.inr rfl, ⟨.inr rfl, ⟨.inr rfl, ⟨.inl rfl, ⟨.inr rfl, ⟨.inr rfl, trivial⟩⟩⟩⟩⟩⟩⟩⟩⟩⟩ ?_
              exact ih_40 _ (by omega) (a + 1) T1 P1 R1 z1 n1 q1 rfl (by omega) (by omega) (by first | exact hpp | (exfalso; omega) | (intro i x w; rw [hP2 i x (by omega), updI_ne (by omega)]; exact hpp i x w)) (by first | exact hz | (exfalso; omega) | (intro u x w; rw [bitI_clear (by omega) (by omega) x (by omega), hz2 u x w, List.mem_append, List.mem_singleton]; constructor; (rintro ⟨h | h, h2⟩; exact h; exact absurd h h2); (intro h; refine ⟨Or.inl h, fun e => ?_⟩; rw [e] at h; exact hv0 h))) (by rw [chT_s h0, List.foldl_append]; first | (exfalso; omega) | (rw [chz_mem ((hz (σ 24 a) (by omega) (by omega)).mp (cmpB.mp c_81))]; exact hB) | exact hB4)
            · skip
              refine w_iload (pc' := 65) (by rfl) dX0_stepOn_63 rfl ?_
              refine w_bipush (pc' := 67) (by decide) (by decide) dX0_stepOn_65 rfl ?_
              refine w_icmp_ge (pc' := 70) (t := 181) dX0_stepOn_67 rfl rfl (fun c_67 => ?_) (fun c_67 => ?_)
              · skip
                refine v_iinc (pc' := 184) (x := a) (ls' := [gR 30, gI 1, gJ (P * 1000000000000), gX 1, gI (PP 1), gI (σ 23 ((PP 1) + 1)), gI (a + 1), gI (σ 24 a), gX 1, gX 1]) (by omega) (by decide) (by rfl) (by rfl) dX0_stepOn_181 rfl ?_
                refine w_goto (pc' := 40) dX0_stepOn_184 rfl ?_
                refine Wp.lose (ls' := [gR 30, gI 1, gJ (P * 1000000000000), gX 1, gI (PP 1), gI (σ 23 ((PP 1) + 1)), gI (a + 1), gX 1, gX 1, gX 1]) ⟨.inr rfl, ⟨.inr rfl, ⟨.inr rfl, ⟨.inr rfl, ⟨.inr rfl, ⟨.inr rfl, ⟨.inr rfl, ⟨.inl rfl, ⟨.inr rfl, ⟨.inr rfl, trivial⟩⟩⟩⟩⟩⟩⟩⟩⟩⟩ ?_
                exact ih_40 _ (by omega) (a + 1) T1 P1 R1 z1 n1 q1 rfl (by omega) (by omega) (by first | exact hpp | (exfalso; omega) | (intro i x w; rw [hP2 i x (by omega), updI_ne (by omega)]; exact hpp i x w)) (by first | exact hz | (exfalso; omega) | (intro u x w; rw [bitI_clear (by omega) (by omega) x (by omega), hz2 u x w, List.mem_append, List.mem_singleton]; constructor; (rintro ⟨h | h, h2⟩; exact h; exact absurd h h2); (intro h; refine ⟨Or.inl h, fun e => ?_⟩; rw [e] at h; exact hv0 h))) (by rw [chT_s h0, List.foldl_append]; first | (exfalso; omega) | (rw [chz_mem ((hz (σ 24 a) (by omega) (by omega)).mp (cmpB.mp c_81))]; exact hB) | exact hB4)
              · skip
                refine w_aload_n (pc' := 71) (i := 0) (by rfl) (by rfl) dX0_stepOn_70 rfl ?_
                refine v_getJ (pc' := 74) (ji := 7) rfl fg_X0_61 kd_30 dX0_stepOn_71 rfl ?_
                show Wp _ _ _ _ _ _ [gJ z1]
                refine w_iload (pc' := 76) (by rfl) dX0_stepOn_74 rfl ?_
                refine w_lshr (pc' := 77) dX0_stepOn_76 rfl ?_
                refine w_lconst (n := 1) (pc' := 78) (by decide) (by decide) dX0_stepOn_77 rfl ?_
                refine w_land (pc' := 79) dX0_stepOn_78 rfl ?_
                refine w_lconst (n := 0) (pc' := 80) (by decide) (by decide) dX0_stepOn_79 rfl ?_
                refine w_lcmp (pc' := 81) dX0_stepOn_80 rfl ?_
                refine w_if_ne (pc' := 84) (t := 181) dX0_stepOn_81 rfl rfl (fun c_81 => ?_) (fun c_81 => ?_)
                · skip
                  refine v_iinc (pc' := 184) (x := a) (ls' := [gR 30, gI 1, gJ (P * 1000000000000), gX 1, gI (PP 1), gI (σ 23 ((PP 1) + 1)), gI (a + 1), gI (σ 24 a), gX 1, gX 1]) (by omega) (by decide) (by rfl) (by rfl) dX0_stepOn_181 rfl ?_
                  refine w_goto (pc' := 40) dX0_stepOn_184 rfl ?_
                  refine Wp.lose (ls' := [gR 30, gI 1, gJ (P * 1000000000000), gX 1, gI (PP 1), gI (σ 23 ((PP 1) + 1)), gI (a + 1), gX 1, gX 1, gX 1]) ⟨.inr rfl, ⟨.inr rfl, ⟨.inr rfl, ⟨.inr rfl, ⟨.inr rfl, ⟨.inr rfl, ⟨.inr rfl, ⟨.inl rfl, ⟨.inr rfl, ⟨.inr rfl, trivial⟩⟩⟩⟩⟩⟩⟩⟩⟩⟩ ?_
                  exact ih_40 _ (by omega) (a + 1) T1 P1 R1 z1 n1 q1 rfl (by omega) (by omega) (by first | exact hpp | (exfalso; omega) | (intro i x w; rw [hP2 i x (by omega), updI_ne (by omega)]; exact hpp i x w)) (by first | exact hz | (exfalso; omega) | (intro u x w; rw [bitI_clear (by omega) (by omega) x (by omega), hz2 u x w, List.mem_append, List.mem_singleton]; constructor; (rintro ⟨h | h, h2⟩; exact h; exact absurd h h2); (intro h; refine ⟨Or.inl h, fun e => ?_⟩; rw [e] at h; exact hv0 h))) (by rw [chT_s h0, List.foldl_append]; first | (exfalso; omega) | (rw [chz_mem ((hz (σ 24 a) (by omega) (by omega)).mp (cmpB.mp c_81))]; exact hB) | exact hB4)
                · skip
                  refine w_lload_n (pc' := 85) (i := 2) (by rfl) (by rfl) dX0_stepOn_84 rfl ?_
                  refine w_ldc2 (pc' := 88) (by decide) ct_X0_80 dX0_stepOn_85 rfl ?_
                  refine w_ldiv (pc' := 89) (by omega) dX0_stepOn_88 rfl ?_
                  refine Wp.stJ (y := P * 100000000) (show w64 ((P * 1000000000000).tdiv 10000) = P * 100000000 from divx (c := 100000000) hP.1 (by decide) (by omega)) ?_
                  refine w_aload_n (pc' := 90) (i := 0) (by rfl) (by rfl) dX0_stepOn_89 rfl ?_
                  refine w_getS (pc' := 93) (q := 14) fg_X0_22 kd_30 sf_X0_0 gr_30_0 dX0_stepOn_90 rfl ?_
                  refine w_iload (pc' := 95) (by rfl) dX0_stepOn_93 rfl ?_
                  refine v_callVE (pc' := 98) (st' := [gI (σ 25 a), gJ (P * 100000000)]) (d' := 0) (av := [gI a]) mi_mX7_partOn lk_X0_82 rfl ci_X7 kd_14 rfl (Nat.le_of_ble_eq_true rfl) (Nat.le_of_ble_eq_true rfl) dX0_stepOn_95 rfl rfl (k_partOn (gUp (gUp (gUp (gUr (gUr (gUr σ 31 T1) 32 P1) 33 R1) 30 7 z1) 30 4 n1) 30 5 q1) a (by omega)) ?_
                  refine w_i2l (pc' := 99) dX0_stepOn_98 rfl ?_
                  refine v_lmul (pc' := 100) (by have h9 := mulb (M := 10000) hP.1 hP.2 hpa.1 hpa.2; rw [← hpe (by omega)] at h9; have h8 : P * 100000000 * σ 25 a = (P * σ 25 a) * 100000000 := (by rw [Int.mul_assoc, Int.mul_comm 100000000, ← Int.mul_assoc]); rw [h8]; omega) dX0_stepOn_99 rfl ?_
                  refine Wp.stJ (y := (P * (σ 25 a)) * 100000000) (by rw [Int.mul_assoc, Int.mul_comm 100000000, ← Int.mul_assoc]) ?_
                  refine w_lstore (pc' := 102) (ls' := [gR 30, gI 1, gJ (P * 1000000000000), gX 1, gI (PP 1), gI (σ 23 ((PP 1) + 1)), gI a, gI (σ 24 a), gJ ((P * (σ 25 a)) * 100000000), gX 1]) (by decide) (by rfl) dX0_stepOn_100 rfl ?_
                  have hv0 : ¬ (σ 24 a) ∈ pre := fun h => by
                    have := (hz (σ 24 a) (by omega) (by omega)).mpr h
                    exact cmpB.mpr this c_81
                  rw [← hpe (by omega)] at hpa
                  have hln : (1 + 2 : Int) = ((pre ++ [(σ 24 a)]).length : Int) := by rw [List.length_append, List.length_singleton]; omega
                  have hpr1 : rowL (updI P1 (1 + 1) (σ 24 a)) 0 (pre ++ [(σ 24 a)]) := rowL_app pre 0 (rowL_congr pre 0 (fun i x w => by rw [updI_ne (by omega)]; exact hpp i x (by omega)) hpr) (updE (by omega))
                  have hv1 : ∀ u, 0 ≤ u → u < 60 → (bitI (gB64 (fun a b => a ||| b) z1 (gS64 (fun a b => a <<< b) 1 (σ 24 a))) u ↔ u ∈ pre ++ [(σ 24 a)]) := fun u x w => by
                    rw [bitI_set (by omega) (by omega) x (by omega), hz u x w, List.mem_append, List.mem_singleton]
                  refine w_aload_n (pc' := 103) (i := 0) (by rfl) (by rfl) dX0_stepOn_102 rfl ?_
                  refine w_getS (pc' := 106) (q := 31) fg_X0_9 kd_30 sf_X0_1 gr_30_1 dX0_stepOn_103 rfl ?_
                  refine w_iload (pc' := 108) (by rfl) dX0_stepOn_106 rfl ?_
                  refine w_dup2 (pc' := 109) dX0_stepOn_108 rfl ?_
                  refine w_lald (pc' := 110) kd_31 (by omega) (by omega) dX0_stepOn_109 rfl ?_
                  show Wp _ _ _ _ _ _ [gJ (T1 (σ 24 a)), gI (σ 24 a), gR 31]
                  refine w_lload (pc' := 112) (by rfl) dX0_stepOn_110 rfl ?_
                  refine w_ladd (pc' := 113) dX0_stepOn_112 rfl ?_
                  refine w_last (pc' := 114) kd_31 (by omega) (by omega) dX0_stepOn_113 rfl ?_
                  refine Wp.heq (σ' := gUp (gUp (gUp (gUr (gUr (gUr σ 31 (updI T1 (σ 24 a) (w64 ((T1 (σ 24 a)) + ((P * (σ 25 a)) * 100000000))))) 32 P1) 33 R1) 30 7 z1) 30 4 n1) 30 5 q1) ((gUp_cu (by decide)).trans (congrArg (fun z => gUp z 30 5 q1) ((gUp_cu (by decide)).trans (congrArg (fun z => gUp z 30 4 n1) ((gUp_cu (by decide)).trans (congrArg (fun z => gUp z 30 7 z1) ((gUp_cr (by decide)).trans (congrArg (fun z => gUr z 33 R1) ((gUp_cr (by decide)).trans (congrArg (fun z => gUr z 32 P1) gUp_row)))))))))) ?_
                  refine w_aload_n (pc' := 115) (i := 0) (by rfl) (by rfl) dX0_stepOn_114 rfl ?_
                  refine w_getS (pc' := 118) (q := 32) fg_X0_15 kd_30 sf_X0_2 gr_30_2 dX0_stepOn_115 rfl ?_
                  refine w_iload_n (pc' := 119) (i := 1) (by rfl) (by rfl) dX0_stepOn_118 rfl ?_
                  refine w_iconst (pc' := 120) (by decide) dX0_stepOn_119 rfl ?_
                  refine v_iadd (pc' := 121) (by omega) dX0_stepOn_120 rfl ?_
                  refine w_iload (pc' := 123) (by rfl) dX0_stepOn_121 rfl ?_
                  refine w_iast (pc' := 124) kd_32 (by omega) (by omega) dX0_stepOn_123 rfl ?_
                  refine Wp.heq (σ' := gUp (gUp (gUp (gUr (gUr (gUr σ 31 (updI T1 (σ 24 a) (w64 ((T1 (σ 24 a)) + ((P * (σ 25 a)) * 100000000))))) 32 (updI P1 (1 + 1) (σ 24 a))) 33 R1) 30 7 z1) 30 4 n1) 30 5 q1) ((gUp_cu (by decide)).trans (congrArg (fun z => gUp z 30 5 q1) ((gUp_cu (by decide)).trans (congrArg (fun z => gUp z 30 4 n1) ((gUp_cu (by decide)).trans (congrArg (fun z => gUp z 30 7 z1) ((gUp_cr (by decide)).trans (congrArg (fun z => gUr z 33 R1) gUp_row)))))))) ?_
                  have hj_142 : ∀ (R3 : Int → Int) (n3 q3 : Int), BSt n3 q3 R3 ((if σ 24 a = f then [(P * A (PP 1) (σ 24 a) * (10000 : Int) ^ 2, pre ++ [(σ 24 a)])] else []).foldl kbs ((chT (σ 23) (σ 24) A f 2 pre P (PP 1) (a - σ 23 (PP 1)).toNat).foldl kbs s)) → Wp mX0_stepOn 4 (fun v σ' => v = gX 1 ∧ ∃ T_ P_ R_ z_ n_ q_, σ' = gUp (gUp (gUp (gUr (gUr (gUr σ 31 T_) 32 P_) 33 R_) 30 7 z_) 30 4 n_) 30 5 q_ ∧ (∀ i, 0 ≤ i → i ≤ 1 → P_ i = PP i) ∧ (∀ u, 0 ≤ u → u < 60 → (bitI z_ u ↔ u ∈ pre)) ∧ BSt n_ q_ R_ ((clw4 A f 3 pre (PP 1) P).foldl kbs s)) (gUp (gUp (gUp (gUr (gUr (gUr σ 31 (updI T1 (σ 24 a) (w64 ((T1 (σ 24 a)) + ((P * (σ 25 a)) * 100000000))))) 32 (updI P1 (1 + 1) (σ 24 a))) 33 R3) 30 7 z1) 30 4 n3) 30 5 q3) 142 [gR 30, gI 1, gJ (P * 1000000000000), gX 1, gI (PP 1), gI (σ 23 ((PP 1) + 1)), gI a, gI (σ 24 a), gJ ((P * (σ 25 a)) * 100000000), gX 1] [] := by
                    intro R3 n3 q3 h3
                    refine w_aload_n (pc' := 143) (i := 0) (by rfl) (by rfl) dX0_stepOn_142 rfl ?_
                    refine w_dup (pc' := 144) dX0_stepOn_143 rfl ?_
                    refine v_getJ (pc' := 147) (ji := 7) rfl fg_X0_61 kd_30 dX0_stepOn_144 rfl ?_
                    show Wp _ _ _ _ _ _ [gJ z1, gR 30]
                    refine w_lconst (n := 1) (pc' := 148) (by decide) (by decide) dX0_stepOn_147 rfl ?_
                    refine w_iload (pc' := 150) (by rfl) dX0_stepOn_148 rfl ?_
                    refine w_lshl (pc' := 151) dX0_stepOn_150 rfl ?_
                    refine w_lor (pc' := 152) dX0_stepOn_151 rfl ?_
                    refine v_putJ (pc' := 155) (ji := 7) rfl fp_X0_61 kd_30 sf_X0_7 dX0_stepOn_152 rfl ?_
                    refine Wp.heq (σ' := gUp (gUp (gUp (gUr (gUr (gUr σ 31 (updI T1 (σ 24 a) (w64 ((T1 (σ 24 a)) + ((P * (σ 25 a)) * 100000000))))) 32 (updI P1 (1 + 1) (σ 24 a))) 33 R3) 30 7 (gB64 (fun a b => a ||| b) z1 (gS64 (fun a b => a <<< b) 1 (σ 24 a)))) 30 4 n3) 30 5 q3) ((gUp_ci (by decide)).trans (congrArg (fun z => gUp z 30 5 q3) ((gUp_ci (by decide)).trans (congrArg (fun z => gUp z 30 4 n3) gUp_same)))) ?_
                    refine w_aload_n (pc' := 156) (i := 0) (by rfl) (by rfl) dX0_stepOn_155 rfl ?_
                    refine w_iload_n (pc' := 157) (i := 1) (by rfl) (by rfl) dX0_stepOn_156 rfl ?_
                    refine w_iconst (pc' := 158) (by decide) dX0_stepOn_157 rfl ?_
                    refine v_iadd (pc' := 159) (by omega) dX0_stepOn_158 rfl ?_
                    refine w_lload (pc' := 161) (by rfl) dX0_stepOn_159 rfl ?_
                    refine w_callS (pc' := 164) (d' := 3) (av := [gR 30, gI (1 + 1), gJ ((P * (σ 25 a)) * 100000000)]) ms_mX0_stepOn st_mX0_stepOn lk_X0_66 rfl rfl (Nat.le_of_ble_eq_true rfl) (Nat.le_of_ble_eq_true rfl) dX0_stepOn_161 rfl (kb_step2 (A := A) hA hp hgl (updI T1 (σ 24 a) (w64 ((T1 (σ 24 a)) + ((P * (σ 25 a)) * 100000000)))) (updI P1 (1 + 1) (σ 24 a)) R3 (gB64 (fun a b => a ||| b) z1 (gS64 (fun a b => a <<< b) 1 (σ 24 a))) n3 q3 (P * (σ 25 a)) (pre ++ [σ 24 a]) ((if σ 24 a = f then [(P * A (PP 1) (σ 24 a) * (10000 : Int) ^ 2, pre ++ [(σ 24 a)])] else []).foldl kbs ((chT (σ 23) (σ 24) A f 2 pre P (PP 1) (a - σ 23 (PP 1)).toNat).foldl kbs s)) (by have := mulb hP.1 hP.2 (hpa.1) (hpa.2); omega) (by rw [updE (by decide)]; omega) (by rw [List.length_append, List.length_singleton]; omega) hpr1 hv1 h3) (fun v_161 σ_161 q_161 => ?_)
                    obtain ⟨rfl, T2, P2, R2, z2, n2, q2, rfl, hP2, hz2, hB2⟩ := q_161
                    show Wp _ _ _ _ _ _ []
                    have hB4 : BSt n2 q2 R2 ((chz A f 2 pre P (PP 1) (σ 24 a)).foldl kbs ((chT (σ 23) (σ 24) A f 2 pre P (PP 1) (a - σ 23 (PP 1)).toNat).foldl kbs s)) := by
                      rw [chz_out hv0]
                      have k9 := hB2
                      rw [updE (by decide), hpe (by omega)] at k9
                      exact k9
                    refine w_aload_n (pc' := 165) (i := 0) (by rfl) (by rfl) dX0_stepOn_164 rfl ?_
                    refine w_dup (pc' := 166) dX0_stepOn_165 rfl ?_
                    refine v_getJ (pc' := 169) (ji := 7) rfl fg_X0_61 kd_30 dX0_stepOn_166 rfl ?_
                    show Wp _ _ _ _ _ _ [gJ z2, gR 30]
                    refine w_lconst (n := 1) (pc' := 170) (by decide) (by decide) dX0_stepOn_169 rfl ?_
                    refine w_iload (pc' := 172) (by rfl) dX0_stepOn_170 rfl ?_
                    refine w_lshl (pc' := 173) dX0_stepOn_172 rfl ?_
                    refine w_ldc2 (pc' := 176) (by decide) ct_X0_89 dX0_stepOn_173 rfl ?_
                    refine w_lxor (pc' := 177) dX0_stepOn_176 rfl ?_
                    refine w_land (pc' := 178) dX0_stepOn_177 rfl ?_
                    refine v_putJ (pc' := 181) (ji := 7) rfl fp_X0_61 kd_30 sf_X0_7 dX0_stepOn_178 rfl ?_
                    refine Wp.heq (σ' := gUp (gUp (gUp (gUr (gUr (gUr σ 31 T2) 32 P2) 33 R2) 30 7 (gB64 (fun a b => a &&& b) z2 (gB64 (fun a b => a ^^^ b) (gS64 (fun a b => a <<< b) 1 (σ 24 a)) (-1)))) 30 4 n2) 30 5 q2) ((gUp_ci (by decide)).trans (congrArg (fun z => gUp z 30 5 q2) ((gUp_ci (by decide)).trans (congrArg (fun z => gUp z 30 4 n2) gUp_same)))) ?_
                    refine v_iinc (pc' := 184) (x := a) (ls' := [gR 30, gI 1, gJ (P * 1000000000000), gX 1, gI (PP 1), gI (σ 23 ((PP 1) + 1)), gI (a + 1), gI (σ 24 a), gJ ((P * (σ 25 a)) * 100000000), gX 1]) (by omega) (by decide) (by rfl) (by rfl) dX0_stepOn_181 rfl ?_
                    refine w_goto (pc' := 40) dX0_stepOn_184 rfl ?_
                    refine Wp.lose (ls' := [gR 30, gI 1, gJ (P * 1000000000000), gX 1, gI (PP 1), gI (σ 23 ((PP 1) + 1)), gI (a + 1), gX 1, gX 1, gX 1]) ⟨.inr rfl, ⟨.inr rfl, ⟨.inr rfl, ⟨.inr rfl, ⟨.inr rfl, ⟨.inr rfl, ⟨.inr rfl, ⟨.inl rfl, ⟨.inl rfl, ⟨.inr rfl, trivial⟩⟩⟩⟩⟩⟩⟩⟩⟩⟩ ?_
                    exact ih_40 _ (by omega) (a + 1) T2 P2 R2 (gB64 (fun a b => a &&& b) z2 (gB64 (fun a b => a ^^^ b) (gS64 (fun a b => a <<< b) 1 (σ 24 a)) (-1))) n2 q2 rfl (by omega) (by omega) (by first | exact hpp | (exfalso; omega) | (intro i x w; rw [hP2 i x (by omega), updI_ne (by omega)]; exact hpp i x w)) (by first | exact hz | (exfalso; omega) | (intro u x w; rw [bitI_clear (by omega) (by omega) x (by omega), hz2 u x w, List.mem_append, List.mem_singleton]; constructor; (rintro ⟨h | h, h2⟩; exact h; exact absurd h h2); (intro h; refine ⟨Or.inl h, fun e => ?_⟩; rw [e] at h; exact hv0 h))) (by rw [chT_s h0, List.foldl_append]; first | (exfalso; omega) | (rw [chz_mem ((hz (σ 24 a) (by omega) (by omega)).mp (cmpB.mp c_81))]; exact hB) | exact hB4)
                  refine w_iload (pc' := 126) (by rfl) dX0_stepOn_124 rfl ?_
                  refine w_aload_n (pc' := 127) (i := 0) (by rfl) (by rfl) dX0_stepOn_126 rfl ?_
                  refine v_getI (pc' := 130) (ji := 6) rfl fg_X0_58 kd_30 dX0_stepOn_127 rfl ?_
                  show Wp _ _ _ _ _ _ [gI (σ 30 6), gI (σ 24 a)]
                  refine w_icmp_ne (pc' := 133) (t := 142) dX0_stepOn_130 rfl rfl (fun c_130 => ?_) (fun c_130 => ?_)
                  · skip
                    exact hj_142 R1 n1 q1 (by first | (rw [if_neg (by omega)]; exact hB) | (rw [if_pos (by omega)]; show BSt _ _ _ (kbs _ (P * A (PP 1) (σ 24 a) * (10000 : Int) ^ 2, pre ++ [(σ 24 a)])); rw [← hpe (by omega), show (10000 : Int) ^ 2 = 100000000 from by decide]; first | exact hB.yes hln c_139 hpr1 | exact hB.no hln c_139))
                  · skip
                    refine w_aload_n (pc' := 134) (i := 0) (by rfl) (by rfl) dX0_stepOn_133 rfl ?_
                    refine w_iload_n (pc' := 135) (i := 1) (by rfl) (by rfl) dX0_stepOn_134 rfl ?_
                    refine w_iconst (pc' := 136) (by decide) dX0_stepOn_135 rfl ?_
                    refine v_iadd (pc' := 137) (by omega) dX0_stepOn_136 rfl ?_
                    refine w_lload (pc' := 139) (by rfl) dX0_stepOn_137 rfl ?_
                    by_cases c_139 : bsC n1 q1 (1 + 2) ((P * (σ 25 a)) * 100000000)
                    · skip
                      refine w_callV (pc' := 142) (d' := 0) (av := [gI (1 + 2), gJ ((P * (σ 25 a)) * 100000000)]) mi_mX0_keepBest lk_X0_85 rfl ci_X0 kd_30 rfl (Nat.le_of_ble_eq_true rfl) (Nat.le_of_ble_eq_true rfl) dX0_stepOn_139 rfl (k_kbY (σ := gUp (gUp (gUp (gUr (gUr (gUr σ 31 (updI T1 (σ 24 a) (w64 ((T1 (σ 24 a)) + ((P * (σ 25 a)) * 100000000))))) 32 (updI P1 (1 + 1) (σ 24 a))) 33 R1) 30 7 z1) 30 4 n1) 30 5 q1) (1 + 2) ((P * (σ 25 a)) * 100000000) (by omega) c_139) (fun v_139 σ_139 q_139 => ?_)
                      obtain ⟨rfl, rfl⟩ := q_139
                      refine Wp.heq (σ' := gUp (gUp (gUp (gUr (gUr (gUr σ 31 (updI T1 (σ 24 a) (w64 ((T1 (σ 24 a)) + ((P * (σ 25 a)) * 100000000))))) 32 (updI P1 (1 + 1) (σ 24 a))) 33 (cpR R1 (updI P1 (1 + 1) (σ 24 a)) (1 + 2))) 30 7 z1) 30 4 (1 + 2)) 30 5 ((P * (σ 25 a)) * 100000000)) ((congrArg (fun z => gUr z 33 (cpR R1 (updI P1 (1 + 1) (σ 24 a)) (1 + 2))) ((congrArg (fun z => gUp z 30 5 ((P * (σ 25 a)) * 100000000)) ((gUp_ci (by decide)).trans (congrArg (fun z => gUp z 30 5 q1) gUp_same))).trans gUp_same)).trans ((gUr_cu (by decide)).trans (congrArg (fun z => gUp z 30 5 ((P * (σ 25 a)) * 100000000)) ((gUr_cu (by decide)).trans (congrArg (fun z => gUp z 30 4 (1 + 2)) ((gUr_cu (by decide)).trans (congrArg (fun z => gUp z 30 7 z1) gUr_same))))))) ?_
                      show Wp _ _ _ _ _ _ []
                      show Wp _ _ _ (gUp (gUp (gUp (gUr (gUr (gUr σ 31 (updI T1 (σ 24 a) (w64 ((T1 (σ 24 a)) + ((P * (σ 25 a)) * 100000000))))) 32 (updI P1 (1 + 1) (σ 24 a))) 33 (cpR R1 (updI P1 (1 + 1) (σ 24 a)) (1 + 2))) 30 7 z1) 30 4 (1 + 2)) 30 5 ((P * (σ 25 a)) * 100000000)) _ _ []
                      exact hj_142 (cpR R1 (updI P1 (1 + 1) (σ 24 a)) (1 + 2)) (1 + 2) ((P * (σ 25 a)) * 100000000) (by first | (rw [if_neg (by omega)]; exact hB) | (rw [if_pos (by omega)]; show BSt _ _ _ (kbs _ (P * A (PP 1) (σ 24 a) * (10000 : Int) ^ 2, pre ++ [(σ 24 a)])); rw [← hpe (by omega), show (10000 : Int) ^ 2 = 100000000 from by decide]; first | exact hB.yes hln c_139 hpr1 | exact hB.no hln c_139))
                    · skip
                      refine v_callVE (pc' := 142) (st' := []) (d' := 0) (av := [gI (1 + 2), gJ ((P * (σ 25 a)) * 100000000)]) mi_mX0_keepBest lk_X0_85 rfl ci_X0 kd_30 rfl (Nat.le_of_ble_eq_true rfl) (Nat.le_of_ble_eq_true rfl) dX0_stepOn_139 rfl rfl (k_kbN (σ := gUp (gUp (gUp (gUr (gUr (gUr σ 31 (updI T1 (σ 24 a) (w64 ((T1 (σ 24 a)) + ((P * (σ 25 a)) * 100000000))))) 32 (updI P1 (1 + 1) (σ 24 a))) 33 R1) 30 7 z1) 30 4 n1) 30 5 q1) (1 + 2) ((P * (σ 25 a)) * 100000000) (by omega) c_139) ?_
                      show Wp _ _ _ (gUp (gUp (gUp (gUr (gUr (gUr σ 31 (updI T1 (σ 24 a) (w64 ((T1 (σ 24 a)) + ((P * (σ 25 a)) * 100000000))))) 32 (updI P1 (1 + 1) (σ 24 a))) 33 R1) 30 7 z1) 30 4 n1) 30 5 q1) _ _ []
                      exact hj_142 R1 n1 q1 (by first | (rw [if_neg (by omega)]; exact hB) | (rw [if_pos (by omega)]; show BSt _ _ _ (kbs _ (P * A (PP 1) (σ 24 a) * (10000 : Int) ^ 2, pre ++ [(σ 24 a)])); rw [← hpe (by omega), show (10000 : Int) ^ 2 = 100000000 from by decide]; first | exact hB.yes hln c_139 hpr1 | exact hB.no hln c_139))
      exact hl_40 _ (σ 23 (PP 1)) TT PP RR z nn qq rfl (by omega) (by omega) (by intro i x w; rfl) (by exact hv) (by rw [Int.sub_self]; exact hs)
    · skip
      exact absurd c_6 (by decide)
set_option maxHeartbeats 4000000 in
theorem kb_step4 {σ : gH} {A : Int → Int → Int} (hA : ARW (σ 23) (σ 24) (σ 25) A) (hp : ∀ c f, 0 ≤ A c f ∧ A c f ≤ 10000) {f : Int} (hgl : σ 30 6 = f) (TT PP RR : Int → Int) (z nn qq P : Int) (pre : List Int) (s : Int × List Int) (hP : 0 ≤ P ∧ P ≤ 1) (hy : 0 ≤ PP 0 ∧ PP 0 < 60) (hlen : (pre.length : Int) = 0 + 1) (hpr : rowL PP 0 pre) (hv : ∀ u, 0 ≤ u → u < 60 → (bitI z u ↔ u ∈ pre)) (hs : BSt nn qq RR s) : Mt mX0_stepOn 5 [gR 30, gI 0, gJ (P * 10000000000000000)] (gUp (gUp (gUp (gUr (gUr (gUr σ 31 TT) 32 PP) 33 RR) 30 7 z) 30 4 nn) 30 5 qq) (fun v σ' => v = gX 1 ∧ ∃ T_ P_ R_ z_ n_ q_, σ' = gUp (gUp (gUp (gUr (gUr (gUr σ 31 T_) 32 P_) 33 R_) 30 7 z_) 30 4 n_) 30 5 q_ ∧ (∀ i, 0 ≤ i → i ≤ 0 → P_ i = PP i) ∧ (∀ u, 0 ≤ u → u < 60 → (bitI z_ u ↔ u ∈ pre)) ∧ BSt n_ q_ R_ ((clw4 A f 4 pre (PP 0) P).foldl kbs s)) := by
  refine Mt.walk (ls := [gR 30, gI 0, gJ (P * 10000000000000000), gX 1, gX 1, gX 1, gX 1, gX 1, gX 1, gX 1]) pn_X0 rfl (fun _ _ h => by cases h.1) (Nat.le_of_ble_eq_true rfl) rfl ?_
  refine w_iload_n (pc' := 1) (i := 1) (by rfl) (by rfl) dX0_stepOn_0 rfl ?_
  refine w_if_lt (pc' := 4) (t := 9) dX0_stepOn_1 rfl rfl (fun c_1 => ?_) (fun c_1 => ?_)
  · skip
    exact absurd c_1 (by decide)
  · skip
    refine w_iload_n (pc' := 5) (i := 1) (by rfl) (by rfl) dX0_stepOn_4 rfl ?_
    refine w_iconst (pc' := 6) (by decide) dX0_stepOn_5 rfl ?_
    refine w_icmp_lt (pc' := 9) (t := 10) dX0_stepOn_6 rfl rfl (fun c_6 => ?_) (fun c_6 => ?_)
    · skip
      refine w_aload_n (pc' := 11) (i := 0) (by rfl) (by rfl) dX0_stepOn_10 rfl ?_
      refine w_getS (pc' := 14) (q := 32) fg_X0_15 kd_30 sf_X0_2 gr_30_2 dX0_stepOn_11 rfl ?_
      refine w_iload_n (pc' := 15) (i := 1) (by rfl) (by rfl) dX0_stepOn_14 rfl ?_
      refine w_iald (pc' := 16) kd_32 (by omega) (by omega) dX0_stepOn_15 rfl ?_
      show Wp _ _ _ _ _ _ [gI (PP 0)]
      refine w_istore (pc' := 18) (ls' := [gR 30, gI 0, gJ (P * 10000000000000000), gX 1, gI (PP 0), gX 1, gX 1, gX 1, gX 1, gX 1]) (by decide) (by rfl) dX0_stepOn_16 rfl ?_
      refine w_aload_n (pc' := 19) (i := 0) (by rfl) (by rfl) dX0_stepOn_18 rfl ?_
      refine w_getS (pc' := 22) (q := 14) fg_X0_22 kd_30 sf_X0_0 gr_30_0 dX0_stepOn_19 rfl ?_
      refine w_iload (pc' := 24) (by rfl) dX0_stepOn_22 rfl ?_
      refine v_callVE (pc' := 27) (st' := [gI (σ 23 ((PP 0) + 1))]) (d' := 0) (av := [gI (PP 0)]) mi_mX7_pastArrows lk_X0_70 rfl ci_X7 kd_14 rfl (Nat.le_of_ble_eq_true rfl) (Nat.le_of_ble_eq_true rfl) dX0_stepOn_24 rfl rfl (k_pastArrows (gUp (gUp (gUp (gUr (gUr (gUr σ 31 TT) 32 PP) 33 RR) 30 7 z) 30 4 nn) 30 5 qq) (PP 0) (by omega)) ?_
      refine w_istore (pc' := 29) (ls' := [gR 30, gI 0, gJ (P * 10000000000000000), gX 1, gI (PP 0), gI (σ 23 ((PP 0) + 1)), gX 1, gX 1, gX 1, gX 1]) (by decide) (by rfl) dX0_stepOn_27 rfl ?_
      refine w_aload_n (pc' := 30) (i := 0) (by rfl) (by rfl) dX0_stepOn_29 rfl ?_
      refine w_getS (pc' := 33) (q := 14) fg_X0_22 kd_30 sf_X0_0 gr_30_0 dX0_stepOn_30 rfl ?_
      refine w_iload (pc' := 35) (by rfl) dX0_stepOn_33 rfl ?_
      refine v_callVE (pc' := 38) (st' := [gI (σ 23 (PP 0))]) (d' := 0) (av := [gI (PP 0)]) mi_mX7_firstArrow lk_X0_74 rfl ci_X7 kd_14 rfl (Nat.le_of_ble_eq_true rfl) (Nat.le_of_ble_eq_true rfl) dX0_stepOn_35 rfl rfl (k_firstArrow (gUp (gUp (gUp (gUr (gUr (gUr σ 31 TT) 32 PP) 33 RR) 30 7 z) 30 4 nn) 30 5 qq) (PP 0) (by omega)) ?_
      refine w_istore (pc' := 40) (ls' := [gR 30, gI 0, gJ (P * 10000000000000000), gX 1, gI (PP 0), gI (σ 23 ((PP 0) + 1)), gI (σ 23 (PP 0)), gX 1, gX 1, gX 1]) (by decide) (by rfl) dX0_stepOn_38 rfl ?_
      have hS := hA.2.1 (PP 0) hy.1 hy.2
      have hl_40 : ∀ (mm : Nat) (a : Int) (T1 P1 R1 : Int → Int) (z1 n1 q1 : Int), (σ 23 ((PP 0) + 1) - a).toNat = mm → (σ 23 (PP 0) ≤ a) → (a ≤ σ 23 ((PP 0) + 1)) → (∀ i, 0 ≤ i → i ≤ 0 → P1 i = PP i) → (∀ u, 0 ≤ u → u < 60 → (bitI z1 u ↔ u ∈ pre)) → (BSt n1 q1 R1 ((chT (σ 23) (σ 24) A f 3 pre P (PP 0) (a - σ 23 (PP 0)).toNat).foldl kbs s)) → Wp mX0_stepOn 5 (fun v σ' => v = gX 1 ∧ ∃ T_ P_ R_ z_ n_ q_, σ' = gUp (gUp (gUp (gUr (gUr (gUr σ 31 T_) 32 P_) 33 R_) 30 7 z_) 30 4 n_) 30 5 q_ ∧ (∀ i, 0 ≤ i → i ≤ 0 → P_ i = PP i) ∧ (∀ u, 0 ≤ u → u < 60 → (bitI z_ u ↔ u ∈ pre)) ∧ BSt n_ q_ R_ ((clw4 A f 4 pre (PP 0) P).foldl kbs s)) (gUp (gUp (gUp (gUr (gUr (gUr σ 31 T1) 32 P1) 33 R1) 30 7 z1) 30 4 n1) 30 5 q1) 40 [gR 30, gI 0, gJ (P * 10000000000000000), gX 1, gI (PP 0), gI (σ 23 ((PP 0) + 1)), gI a, gX 1, gX 1, gX 1] [] := by
        intro m_40
        induction m_40 using Nat.strongRecOn with
        | _ m_40 ih_40 =>
          intro a T1 P1 R1 z1 n1 q1 hmeas_40 h0 h1 hpp hz hB
          have hS := hA.2.1 (PP 0) hy.1 hy.2
          have har := fun h : a < σ 23 ((PP 0) + 1) => hA.2.2.1 (PP 0) hy.1 hy.2 a h0 h
          have hpa := hp (PP 0) (σ 24 a)
          have hpe : a < σ 23 ((PP 0) + 1) → σ 25 a = A (PP 0) (σ 24 a) := fun h => (har h).2.2.1
          refine w_iload (pc' := 42) (by rfl) dX0_stepOn_40 rfl ?_
          refine w_iload (pc' := 44) (by rfl) dX0_stepOn_42 rfl ?_
          refine w_icmp_ge (pc' := 47) (t := 187) dX0_stepOn_44 rfl rfl (fun c_44 => ?_) (fun c_44 => ?_)
          · skip
            refine w_return rfl dX0_stepOn_187 ?_
            refine ⟨rfl, T1, P1, R1, z1, n1, q1, rfl, hpp, hz, ?_⟩
            have hB5 := hB
            rw [show a = σ 23 ((PP 0) + 1) by omega, chT_all hA hy.1 hy.2] at hB5
            exact hB5
          · skip
            refine w_aload_n (pc' := 48) (i := 0) (by rfl) (by rfl) dX0_stepOn_47 rfl ?_
            refine w_getS (pc' := 51) (q := 14) fg_X0_22 kd_30 sf_X0_0 gr_30_0 dX0_stepOn_48 rfl ?_
            refine w_iload (pc' := 53) (by rfl) dX0_stepOn_51 rfl ?_
            refine v_callVE (pc' := 56) (st' := [gI (σ 24 a)]) (d' := 0) (av := [gI a]) mi_mX7_targetOf lk_X0_77 rfl ci_X7 kd_14 rfl (Nat.le_of_ble_eq_true rfl) (Nat.le_of_ble_eq_true rfl) dX0_stepOn_53 rfl rfl (k_targetOf (gUp (gUp (gUp (gUr (gUr (gUr σ 31 T1) 32 P1) 33 R1) 30 7 z1) 30 4 n1) 30 5 q1) a (by omega)) ?_
            refine w_istore (pc' := 58) (ls' := [gR 30, gI 0, gJ (P * 10000000000000000), gX 1, gI (PP 0), gI (σ 23 ((PP 0) + 1)), gI a, gI (σ 24 a), gX 1, gX 1]) (by decide) (by rfl) dX0_stepOn_56 rfl ?_
            refine w_iload (pc' := 60) (by rfl) dX0_stepOn_58 rfl ?_
            refine w_if_lt (pc' := 63) (t := 181) dX0_stepOn_60 rfl rfl (fun c_60 => ?_) (fun c_60 => ?_)
            · skip
              refine v_iinc (pc' := 184) (x := a) (ls' := [gR 30, gI 0, gJ (P * 10000000000000000), gX 1, gI (PP 0), gI (σ 23 ((PP 0) + 1)), gI (a + 1), gI (σ 24 a), gX 1, gX 1]) (by omega) (by decide) (by rfl) (by rfl) dX0_stepOn_181 rfl ?_
              refine w_goto (pc' := 40) dX0_stepOn_184 rfl ?_
              refine Wp.lose (ls' := [gR 30, gI 0, gJ (P * 10000000000000000), gX 1, gI (PP 0), gI (σ 23 ((PP 0) + 1)), gI (a + 1), gX 1, gX 1, gX 1]) ⟨.inr rfl, ⟨.inr rfl, ⟨.inr rfl, ⟨.inr rfl, ⟨.inr rfl, ⟨.inr rfl, ⟨.inr rfl, ⟨.inl rfl, ⟨.inr rfl, ⟨.inr rfl, trivial⟩⟩⟩⟩⟩⟩⟩⟩⟩⟩ ?_
              exact ih_40 _ (by omega) (a + 1) T1 P1 R1 z1 n1 q1 rfl (by omega) (by omega) (by first | exact hpp | (exfalso; omega) | (intro i x w; rw [hP2 i x (by omega), updI_ne (by omega)]; exact hpp i x w)) (by first | exact hz | (exfalso; omega) | (intro u x w; rw [bitI_clear (by omega) (by omega) x (by omega), hz2 u x w, List.mem_append, List.mem_singleton]; constructor; (rintro ⟨h | h, h2⟩; exact h; exact absurd h h2); (intro h; refine ⟨Or.inl h, fun e => ?_⟩; rw [e] at h; exact hv0 h))) (by rw [chT_s h0, List.foldl_append]; first | (exfalso; omega) | (rw [chz_mem ((hz (σ 24 a) (by omega) (by omega)).mp (cmpB.mp c_81))]; exact hB) | exact hB4)
            · skip
              refine w_iload (pc' := 65) (by rfl) dX0_stepOn_63 rfl ?_
              refine w_bipush (pc' := 67) (by decide) (by decide) dX0_stepOn_65 rfl ?_
              refine w_icmp_ge (pc' := 70) (t := 181) dX0_stepOn_67 rfl rfl (fun c_67 => ?_) (fun c_67 => ?_)
              · skip
                refine v_iinc (pc' := 184) (x := a) (ls' := [gR 30, gI 0, gJ (P * 10000000000000000), gX 1, gI (PP 0), gI (σ 23 ((PP 0) + 1)), gI (a + 1), gI (σ 24 a), gX 1, gX 1]) (by omega) (by decide) (by rfl) (by rfl) dX0_stepOn_181 rfl ?_
                refine w_goto (pc' := 40) dX0_stepOn_184 rfl ?_
                refine Wp.lose (ls' := [gR 30, gI 0, gJ (P * 10000000000000000), gX 1, gI (PP 0), gI (σ 23 ((PP 0) + 1)), gI (a + 1), gX 1, gX 1, gX 1]) ⟨.inr rfl, ⟨.inr rfl, ⟨.inr rfl, ⟨.inr rfl, ⟨.inr rfl, ⟨.inr rfl, ⟨.inr rfl, ⟨.inl rfl, ⟨.inr rfl, ⟨.inr rfl, trivial⟩⟩⟩⟩⟩⟩⟩⟩⟩⟩ ?_
                exact ih_40 _ (by omega) (a + 1) T1 P1 R1 z1 n1 q1 rfl (by omega) (by omega) (by first | exact hpp | (exfalso; omega) | (intro i x w; rw [hP2 i x (by omega), updI_ne (by omega)]; exact hpp i x w)) (by first | exact hz | (exfalso; omega) | (intro u x w; rw [bitI_clear (by omega) (by omega) x (by omega), hz2 u x w, List.mem_append, List.mem_singleton]; constructor; (rintro ⟨h | h, h2⟩; exact h; exact absurd h h2); (intro h; refine ⟨Or.inl h, fun e => ?_⟩; rw [e] at h; exact hv0 h))) (by rw [chT_s h0, List.foldl_append]; first | (exfalso; omega) | (rw [chz_mem ((hz (σ 24 a) (by omega) (by omega)).mp (cmpB.mp c_81))]; exact hB) | exact hB4)
              · skip
                refine w_aload_n (pc' := 71) (i := 0) (by rfl) (by rfl) dX0_stepOn_70 rfl ?_
                refine v_getJ (pc' := 74) (ji := 7) rfl fg_X0_61 kd_30 dX0_stepOn_71 rfl ?_
                show Wp _ _ _ _ _ _ [gJ z1]
                refine w_iload (pc' := 76) (by rfl) dX0_stepOn_74 rfl ?_
                refine w_lshr (pc' := 77) dX0_stepOn_76 rfl ?_
                refine w_lconst (n := 1) (pc' := 78) (by decide) (by decide) dX0_stepOn_77 rfl ?_
                refine w_land (pc' := 79) dX0_stepOn_78 rfl ?_
                refine w_lconst (n := 0) (pc' := 80) (by decide) (by decide) dX0_stepOn_79 rfl ?_
                refine w_lcmp (pc' := 81) dX0_stepOn_80 rfl ?_
                refine w_if_ne (pc' := 84) (t := 181) dX0_stepOn_81 rfl rfl (fun c_81 => ?_) (fun c_81 => ?_)
                · skip
                  refine v_iinc (pc' := 184) (x := a) (ls' := [gR 30, gI 0, gJ (P * 10000000000000000), gX 1, gI (PP 0), gI (σ 23 ((PP 0) + 1)), gI (a + 1), gI (σ 24 a), gX 1, gX 1]) (by omega) (by decide) (by rfl) (by rfl) dX0_stepOn_181 rfl ?_
                  refine w_goto (pc' := 40) dX0_stepOn_184 rfl ?_
                  refine Wp.lose (ls' := [gR 30, gI 0, gJ (P * 10000000000000000), gX 1, gI (PP 0), gI (σ 23 ((PP 0) + 1)), gI (a + 1), gX 1, gX 1, gX 1]) ⟨.inr rfl, ⟨.inr rfl, ⟨.inr rfl, ⟨.inr rfl, ⟨.inr rfl, ⟨.inr rfl, ⟨.inr rfl, ⟨.inl rfl, ⟨.inr rfl, ⟨.inr rfl, trivial⟩⟩⟩⟩⟩⟩⟩⟩⟩⟩ ?_
                  exact ih_40 _ (by omega) (a + 1) T1 P1 R1 z1 n1 q1 rfl (by omega) (by omega) (by first | exact hpp | (exfalso; omega) | (intro i x w; rw [hP2 i x (by omega), updI_ne (by omega)]; exact hpp i x w)) (by first | exact hz | (exfalso; omega) | (intro u x w; rw [bitI_clear (by omega) (by omega) x (by omega), hz2 u x w, List.mem_append, List.mem_singleton]; constructor; (rintro ⟨h | h, h2⟩; exact h; exact absurd h h2); (intro h; refine ⟨Or.inl h, fun e => ?_⟩; rw [e] at h; exact hv0 h))) (by rw [chT_s h0, List.foldl_append]; first | (exfalso; omega) | (rw [chz_mem ((hz (σ 24 a) (by omega) (by omega)).mp (cmpB.mp c_81))]; exact hB) | exact hB4)
                · skip
                  refine w_lload_n (pc' := 85) (i := 2) (by rfl) (by rfl) dX0_stepOn_84 rfl ?_
                  refine w_ldc2 (pc' := 88) (by decide) ct_X0_80 dX0_stepOn_85 rfl ?_
                  refine w_ldiv (pc' := 89) (by omega) dX0_stepOn_88 rfl ?_
                  refine Wp.stJ (y := P * 1000000000000) (show w64 ((P * 10000000000000000).tdiv 10000) = P * 1000000000000 from divx (c := 1000000000000) hP.1 (by decide) (by omega)) ?_
                  refine w_aload_n (pc' := 90) (i := 0) (by rfl) (by rfl) dX0_stepOn_89 rfl ?_
                  refine w_getS (pc' := 93) (q := 14) fg_X0_22 kd_30 sf_X0_0 gr_30_0 dX0_stepOn_90 rfl ?_
                  refine w_iload (pc' := 95) (by rfl) dX0_stepOn_93 rfl ?_
                  refine v_callVE (pc' := 98) (st' := [gI (σ 25 a), gJ (P * 1000000000000)]) (d' := 0) (av := [gI a]) mi_mX7_partOn lk_X0_82 rfl ci_X7 kd_14 rfl (Nat.le_of_ble_eq_true rfl) (Nat.le_of_ble_eq_true rfl) dX0_stepOn_95 rfl rfl (k_partOn (gUp (gUp (gUp (gUr (gUr (gUr σ 31 T1) 32 P1) 33 R1) 30 7 z1) 30 4 n1) 30 5 q1) a (by omega)) ?_
                  refine w_i2l (pc' := 99) dX0_stepOn_98 rfl ?_
                  refine v_lmul (pc' := 100) (by have h9 := mulb (M := 1) hP.1 hP.2 hpa.1 hpa.2; rw [← hpe (by omega)] at h9; have h8 : P * 1000000000000 * σ 25 a = (P * σ 25 a) * 1000000000000 := (by rw [Int.mul_assoc, Int.mul_comm 1000000000000, ← Int.mul_assoc]); rw [h8]; omega) dX0_stepOn_99 rfl ?_
                  refine Wp.stJ (y := (P * (σ 25 a)) * 1000000000000) (by rw [Int.mul_assoc, Int.mul_comm 1000000000000, ← Int.mul_assoc]) ?_
                  refine w_lstore (pc' := 102) (ls' := [gR 30, gI 0, gJ (P * 10000000000000000), gX 1, gI (PP 0), gI (σ 23 ((PP 0) + 1)), gI a, gI (σ 24 a), gJ ((P * (σ 25 a)) * 1000000000000), gX 1]) (by decide) (by rfl) dX0_stepOn_100 rfl ?_
                  have hv0 : ¬ (σ 24 a) ∈ pre := fun h => by
                    have := (hz (σ 24 a) (by omega) (by omega)).mpr h
                    exact cmpB.mpr this c_81
                  rw [← hpe (by omega)] at hpa
                  have hln : (0 + 2 : Int) = ((pre ++ [(σ 24 a)]).length : Int) := by rw [List.length_append, List.length_singleton]; omega
                  have hpr1 : rowL (updI P1 (0 + 1) (σ 24 a)) 0 (pre ++ [(σ 24 a)]) := rowL_app pre 0 (rowL_congr pre 0 (fun i x w => by rw [updI_ne (by omega)]; exact hpp i x (by omega)) hpr) (updE (by omega))
                  have hv1 : ∀ u, 0 ≤ u → u < 60 → (bitI (gB64 (fun a b => a ||| b) z1 (gS64 (fun a b => a <<< b) 1 (σ 24 a))) u ↔ u ∈ pre ++ [(σ 24 a)]) := fun u x w => by
                    rw [bitI_set (by omega) (by omega) x (by omega), hz u x w, List.mem_append, List.mem_singleton]
                  refine w_aload_n (pc' := 103) (i := 0) (by rfl) (by rfl) dX0_stepOn_102 rfl ?_
                  refine w_getS (pc' := 106) (q := 31) fg_X0_9 kd_30 sf_X0_1 gr_30_1 dX0_stepOn_103 rfl ?_
                  refine w_iload (pc' := 108) (by rfl) dX0_stepOn_106 rfl ?_
                  refine w_dup2 (pc' := 109) dX0_stepOn_108 rfl ?_
                  refine w_lald (pc' := 110) kd_31 (by omega) (by omega) dX0_stepOn_109 rfl ?_
                  show Wp _ _ _ _ _ _ [gJ (T1 (σ 24 a)), gI (σ 24 a), gR 31]
                  refine w_lload (pc' := 112) (by rfl) dX0_stepOn_110 rfl ?_
                  refine w_ladd (pc' := 113) dX0_stepOn_112 rfl ?_
                  refine w_last (pc' := 114) kd_31 (by omega) (by omega) dX0_stepOn_113 rfl ?_
                  refine Wp.heq (σ' := gUp (gUp (gUp (gUr (gUr (gUr σ 31 (updI T1 (σ 24 a) (w64 ((T1 (σ 24 a)) + ((P * (σ 25 a)) * 1000000000000))))) 32 P1) 33 R1) 30 7 z1) 30 4 n1) 30 5 q1) ((gUp_cu (by decide)).trans (congrArg (fun z => gUp z 30 5 q1) ((gUp_cu (by decide)).trans (congrArg (fun z => gUp z 30 4 n1) ((gUp_cu (by decide)).trans (congrArg (fun z => gUp z 30 7 z1) ((gUp_cr (by decide)).trans (congrArg (fun z => gUr z 33 R1) ((gUp_cr (by decide)).trans (congrArg (fun z => gUr z 32 P1) gUp_row)))))))))) ?_
                  refine w_aload_n (pc' := 115) (i := 0) (by rfl) (by rfl) dX0_stepOn_114 rfl ?_
                  refine w_getS (pc' := 118) (q := 32) fg_X0_15 kd_30 sf_X0_2 gr_30_2 dX0_stepOn_115 rfl ?_
                  refine w_iload_n (pc' := 119) (i := 1) (by rfl) (by rfl) dX0_stepOn_118 rfl ?_
                  refine w_iconst (pc' := 120) (by decide) dX0_stepOn_119 rfl ?_
                  refine v_iadd (pc' := 121) (by omega) dX0_stepOn_120 rfl ?_
                  refine w_iload (pc' := 123) (by rfl) dX0_stepOn_121 rfl ?_
                  refine w_iast (pc' := 124) kd_32 (by omega) (by omega) dX0_stepOn_123 rfl ?_
                  refine Wp.heq (σ' := gUp (gUp (gUp (gUr (gUr (gUr σ 31 (updI T1 (σ 24 a) (w64 ((T1 (σ 24 a)) + ((P * (σ 25 a)) * 1000000000000))))) 32 (updI P1 (0 + 1) (σ 24 a))) 33 R1) 30 7 z1) 30 4 n1) 30 5 q1) ((gUp_cu (by decide)).trans (congrArg (fun z => gUp z 30 5 q1) ((gUp_cu (by decide)).trans (congrArg (fun z => gUp z 30 4 n1) ((gUp_cu (by decide)).trans (congrArg (fun z => gUp z 30 7 z1) ((gUp_cr (by decide)).trans (congrArg (fun z => gUr z 33 R1) gUp_row)))))))) ?_
                  have hj_142 : ∀ (R3 : Int → Int) (n3 q3 : Int), BSt n3 q3 R3 ((if σ 24 a = f then [(P * A (PP 0) (σ 24 a) * (10000 : Int) ^ 3, pre ++ [(σ 24 a)])] else []).foldl kbs ((chT (σ 23) (σ 24) A f 3 pre P (PP 0) (a - σ 23 (PP 0)).toNat).foldl kbs s)) → Wp mX0_stepOn 5 (fun v σ' => v = gX 1 ∧ ∃ T_ P_ R_ z_ n_ q_, σ' = gUp (gUp (gUp (gUr (gUr (gUr σ 31 T_) 32 P_) 33 R_) 30 7 z_) 30 4 n_) 30 5 q_ ∧ (∀ i, 0 ≤ i → i ≤ 0 → P_ i = PP i) ∧ (∀ u, 0 ≤ u → u < 60 → (bitI z_ u ↔ u ∈ pre)) ∧ BSt n_ q_ R_ ((clw4 A f 4 pre (PP 0) P).foldl kbs s)) (gUp (gUp (gUp (gUr (gUr (gUr σ 31 (updI T1 (σ 24 a) (w64 ((T1 (σ 24 a)) + ((P * (σ 25 a)) * 1000000000000))))) 32 (updI P1 (0 + 1) (σ 24 a))) 33 R3) 30 7 z1) 30 4 n3) 30 5 q3) 142 [gR 30, gI 0, gJ (P * 10000000000000000), gX 1, gI (PP 0), gI (σ 23 ((PP 0) + 1)), gI a, gI (σ 24 a), gJ ((P * (σ 25 a)) * 1000000000000), gX 1] [] := by
                    intro R3 n3 q3 h3
                    refine w_aload_n (pc' := 143) (i := 0) (by rfl) (by rfl) dX0_stepOn_142 rfl ?_
                    refine w_dup (pc' := 144) dX0_stepOn_143 rfl ?_
                    refine v_getJ (pc' := 147) (ji := 7) rfl fg_X0_61 kd_30 dX0_stepOn_144 rfl ?_
                    show Wp _ _ _ _ _ _ [gJ z1, gR 30]
                    refine w_lconst (n := 1) (pc' := 148) (by decide) (by decide) dX0_stepOn_147 rfl ?_
                    refine w_iload (pc' := 150) (by rfl) dX0_stepOn_148 rfl ?_
                    refine w_lshl (pc' := 151) dX0_stepOn_150 rfl ?_
                    refine w_lor (pc' := 152) dX0_stepOn_151 rfl ?_
                    refine v_putJ (pc' := 155) (ji := 7) rfl fp_X0_61 kd_30 sf_X0_7 dX0_stepOn_152 rfl ?_
                    refine Wp.heq (σ' := gUp (gUp (gUp (gUr (gUr (gUr σ 31 (updI T1 (σ 24 a) (w64 ((T1 (σ 24 a)) + ((P * (σ 25 a)) * 1000000000000))))) 32 (updI P1 (0 + 1) (σ 24 a))) 33 R3) 30 7 (gB64 (fun a b => a ||| b) z1 (gS64 (fun a b => a <<< b) 1 (σ 24 a)))) 30 4 n3) 30 5 q3) ((gUp_ci (by decide)).trans (congrArg (fun z => gUp z 30 5 q3) ((gUp_ci (by decide)).trans (congrArg (fun z => gUp z 30 4 n3) gUp_same)))) ?_
                    refine w_aload_n (pc' := 156) (i := 0) (by rfl) (by rfl) dX0_stepOn_155 rfl ?_
                    refine w_iload_n (pc' := 157) (i := 1) (by rfl) (by rfl) dX0_stepOn_156 rfl ?_
                    refine w_iconst (pc' := 158) (by decide) dX0_stepOn_157 rfl ?_
                    refine v_iadd (pc' := 159) (by omega) dX0_stepOn_158 rfl ?_
                    refine w_lload (pc' := 161) (by rfl) dX0_stepOn_159 rfl ?_
                    refine w_callS (pc' := 164) (d' := 4) (av := [gR 30, gI (0 + 1), gJ ((P * (σ 25 a)) * 1000000000000)]) ms_mX0_stepOn st_mX0_stepOn lk_X0_66 rfl rfl (Nat.le_of_ble_eq_true rfl) (Nat.le_of_ble_eq_true rfl) dX0_stepOn_161 rfl (kb_step3 (A := A) hA hp hgl (updI T1 (σ 24 a) (w64 ((T1 (σ 24 a)) + ((P * (σ 25 a)) * 1000000000000)))) (updI P1 (0 + 1) (σ 24 a)) R3 (gB64 (fun a b => a ||| b) z1 (gS64 (fun a b => a <<< b) 1 (σ 24 a))) n3 q3 (P * (σ 25 a)) (pre ++ [σ 24 a]) ((if σ 24 a = f then [(P * A (PP 0) (σ 24 a) * (10000 : Int) ^ 3, pre ++ [(σ 24 a)])] else []).foldl kbs ((chT (σ 23) (σ 24) A f 3 pre P (PP 0) (a - σ 23 (PP 0)).toNat).foldl kbs s)) (by have := mulb hP.1 hP.2 (hpa.1) (hpa.2); omega) (by rw [updE (by decide)]; omega) (by rw [List.length_append, List.length_singleton]; omega) hpr1 hv1 h3) (fun v_161 σ_161 q_161 => ?_)
                    obtain ⟨rfl, T2, P2, R2, z2, n2, q2, rfl, hP2, hz2, hB2⟩ := q_161
                    show Wp _ _ _ _ _ _ []
                    have hB4 : BSt n2 q2 R2 ((chz A f 3 pre P (PP 0) (σ 24 a)).foldl kbs ((chT (σ 23) (σ 24) A f 3 pre P (PP 0) (a - σ 23 (PP 0)).toNat).foldl kbs s)) := by
                      rw [chz_out hv0]
                      have k9 := hB2
                      rw [updE (by decide), hpe (by omega)] at k9
                      exact k9
                    refine w_aload_n (pc' := 165) (i := 0) (by rfl) (by rfl) dX0_stepOn_164 rfl ?_
                    refine w_dup (pc' := 166) dX0_stepOn_165 rfl ?_
                    refine v_getJ (pc' := 169) (ji := 7) rfl fg_X0_61 kd_30 dX0_stepOn_166 rfl ?_
                    show Wp _ _ _ _ _ _ [gJ z2, gR 30]
                    refine w_lconst (n := 1) (pc' := 170) (by decide) (by decide) dX0_stepOn_169 rfl ?_
                    refine w_iload (pc' := 172) (by rfl) dX0_stepOn_170 rfl ?_
                    refine w_lshl (pc' := 173) dX0_stepOn_172 rfl ?_
                    refine w_ldc2 (pc' := 176) (by decide) ct_X0_89 dX0_stepOn_173 rfl ?_
                    refine w_lxor (pc' := 177) dX0_stepOn_176 rfl ?_
                    refine w_land (pc' := 178) dX0_stepOn_177 rfl ?_
                    refine v_putJ (pc' := 181) (ji := 7) rfl fp_X0_61 kd_30 sf_X0_7 dX0_stepOn_178 rfl ?_
                    refine Wp.heq (σ' := gUp (gUp (gUp (gUr (gUr (gUr σ 31 T2) 32 P2) 33 R2) 30 7 (gB64 (fun a b => a &&& b) z2 (gB64 (fun a b => a ^^^ b) (gS64 (fun a b => a <<< b) 1 (σ 24 a)) (-1)))) 30 4 n2) 30 5 q2) ((gUp_ci (by decide)).trans (congrArg (fun z => gUp z 30 5 q2) ((gUp_ci (by decide)).trans (congrArg (fun z => gUp z 30 4 n2) gUp_same)))) ?_
                    refine v_iinc (pc' := 184) (x := a) (ls' := [gR 30, gI 0, gJ (P * 10000000000000000), gX 1, gI (PP 0), gI (σ 23 ((PP 0) + 1)), gI (a + 1), gI (σ 24 a), gJ ((P * (σ 25 a)) * 1000000000000), gX 1]) (by omega) (by decide) (by rfl) (by rfl) dX0_stepOn_181 rfl ?_
                    refine w_goto (pc' := 40) dX0_stepOn_184 rfl ?_
                    refine Wp.lose (ls' := [gR 30, gI 0, gJ (P * 10000000000000000), gX 1, gI (PP 0), gI (σ 23 ((PP 0) + 1)), gI (a + 1), gX 1, gX 1, gX 1]) ⟨.inr rfl, ⟨.inr rfl, ⟨.inr rfl, ⟨.inr rfl, ⟨.inr rfl, ⟨.inr rfl, ⟨.inr rfl, ⟨.inl rfl, ⟨.inl rfl, ⟨.inr rfl, trivial⟩⟩⟩⟩⟩⟩⟩⟩⟩⟩ ?_
                    exact ih_40 _ (by omega) (a + 1) T2 P2 R2 (gB64 (fun a b => a &&& b) z2 (gB64 (fun a b => a ^^^ b) (gS64 (fun a b => a <<< b) 1 (σ 24 a)) (-1))) n2 q2 rfl (by omega) (by omega) (by first | exact hpp | (exfalso; omega) | (intro i x w; rw [hP2 i x (by omega), updI_ne (by omega)]; exact hpp i x w)) (by first | exact hz | (exfalso; omega) | (intro u x w; rw [bitI_clear (by omega) (by omega) x (by omega), hz2 u x w, List.mem_append, List.mem_singleton]; constructor; (rintro ⟨h | h, h2⟩; exact h; exact absurd h h2); (intro h; refine ⟨Or.inl h, fun e => ?_⟩; rw [e] at h; exact hv0 h))) (by rw [chT_s h0, List.foldl_append]; first | (exfalso; omega) | (rw [chz_mem ((hz (σ 24 a) (by omega) (by omega)).mp (cmpB.mp c_81))]; exact hB) | exact hB4)
                  refine w_iload (pc' := 126) (by rfl) dX0_stepOn_124 rfl ?_
                  refine w_aload_n (pc' := 127) (i := 0) (by rfl) (by rfl) dX0_stepOn_126 rfl ?_
                  refine v_getI (pc' := 130) (ji := 6) rfl fg_X0_58 kd_30 dX0_stepOn_127 rfl ?_
                  show Wp _ _ _ _ _ _ [gI (σ 30 6), gI (σ 24 a)]
                  refine w_icmp_ne (pc' := 133) (t := 142) dX0_stepOn_130 rfl rfl (fun c_130 => ?_) (fun c_130 => ?_)
                  · skip
                    exact hj_142 R1 n1 q1 (by first | (rw [if_neg (by omega)]; exact hB) | (rw [if_pos (by omega)]; show BSt _ _ _ (kbs _ (P * A (PP 0) (σ 24 a) * (10000 : Int) ^ 3, pre ++ [(σ 24 a)])); rw [← hpe (by omega), show (10000 : Int) ^ 3 = 1000000000000 from by decide]; first | exact hB.yes hln c_139 hpr1 | exact hB.no hln c_139))
                  · skip
                    refine w_aload_n (pc' := 134) (i := 0) (by rfl) (by rfl) dX0_stepOn_133 rfl ?_
                    refine w_iload_n (pc' := 135) (i := 1) (by rfl) (by rfl) dX0_stepOn_134 rfl ?_
                    refine w_iconst (pc' := 136) (by decide) dX0_stepOn_135 rfl ?_
                    refine v_iadd (pc' := 137) (by omega) dX0_stepOn_136 rfl ?_
                    refine w_lload (pc' := 139) (by rfl) dX0_stepOn_137 rfl ?_
                    by_cases c_139 : bsC n1 q1 (0 + 2) ((P * (σ 25 a)) * 1000000000000)
                    · skip
                      refine w_callV (pc' := 142) (d' := 0) (av := [gI (0 + 2), gJ ((P * (σ 25 a)) * 1000000000000)]) mi_mX0_keepBest lk_X0_85 rfl ci_X0 kd_30 rfl (Nat.le_of_ble_eq_true rfl) (Nat.le_of_ble_eq_true rfl) dX0_stepOn_139 rfl (k_kbY (σ := gUp (gUp (gUp (gUr (gUr (gUr σ 31 (updI T1 (σ 24 a) (w64 ((T1 (σ 24 a)) + ((P * (σ 25 a)) * 1000000000000))))) 32 (updI P1 (0 + 1) (σ 24 a))) 33 R1) 30 7 z1) 30 4 n1) 30 5 q1) (0 + 2) ((P * (σ 25 a)) * 1000000000000) (by omega) c_139) (fun v_139 σ_139 q_139 => ?_)
                      obtain ⟨rfl, rfl⟩ := q_139
                      refine Wp.heq (σ' := gUp (gUp (gUp (gUr (gUr (gUr σ 31 (updI T1 (σ 24 a) (w64 ((T1 (σ 24 a)) + ((P * (σ 25 a)) * 1000000000000))))) 32 (updI P1 (0 + 1) (σ 24 a))) 33 (cpR R1 (updI P1 (0 + 1) (σ 24 a)) (0 + 2))) 30 7 z1) 30 4 (0 + 2)) 30 5 ((P * (σ 25 a)) * 1000000000000)) ((congrArg (fun z => gUr z 33 (cpR R1 (updI P1 (0 + 1) (σ 24 a)) (0 + 2))) ((congrArg (fun z => gUp z 30 5 ((P * (σ 25 a)) * 1000000000000)) ((gUp_ci (by decide)).trans (congrArg (fun z => gUp z 30 5 q1) gUp_same))).trans gUp_same)).trans ((gUr_cu (by decide)).trans (congrArg (fun z => gUp z 30 5 ((P * (σ 25 a)) * 1000000000000)) ((gUr_cu (by decide)).trans (congrArg (fun z => gUp z 30 4 (0 + 2)) ((gUr_cu (by decide)).trans (congrArg (fun z => gUp z 30 7 z1) gUr_same))))))) ?_
                      show Wp _ _ _ _ _ _ []
                      show Wp _ _ _ (gUp (gUp (gUp (gUr (gUr (gUr σ 31 (updI T1 (σ 24 a) (w64 ((T1 (σ 24 a)) + ((P * (σ 25 a)) * 1000000000000))))) 32 (updI P1 (0 + 1) (σ 24 a))) 33 (cpR R1 (updI P1 (0 + 1) (σ 24 a)) (0 + 2))) 30 7 z1) 30 4 (0 + 2)) 30 5 ((P * (σ 25 a)) * 1000000000000)) _ _ []
                      exact hj_142 (cpR R1 (updI P1 (0 + 1) (σ 24 a)) (0 + 2)) (0 + 2) ((P * (σ 25 a)) * 1000000000000) (by first | (rw [if_neg (by omega)]; exact hB) | (rw [if_pos (by omega)]; show BSt _ _ _ (kbs _ (P * A (PP 0) (σ 24 a) * (10000 : Int) ^ 3, pre ++ [(σ 24 a)])); rw [← hpe (by omega), show (10000 : Int) ^ 3 = 1000000000000 from by decide]; first | exact hB.yes hln c_139 hpr1 | exact hB.no hln c_139))
                    · skip
                      refine v_callVE (pc' := 142) (st' := []) (d' := 0) (av := [gI (0 + 2), gJ ((P * (σ 25 a)) * 1000000000000)]) mi_mX0_keepBest lk_X0_85 rfl ci_X0 kd_30 rfl (Nat.le_of_ble_eq_true rfl) (Nat.le_of_ble_eq_true rfl) dX0_stepOn_139 rfl rfl (k_kbN (σ := gUp (gUp (gUp (gUr (gUr (gUr σ 31 (updI T1 (σ 24 a) (w64 ((T1 (σ 24 a)) + ((P * (σ 25 a)) * 1000000000000))))) 32 (updI P1 (0 + 1) (σ 24 a))) 33 R1) 30 7 z1) 30 4 n1) 30 5 q1) (0 + 2) ((P * (σ 25 a)) * 1000000000000) (by omega) c_139) ?_
                      show Wp _ _ _ (gUp (gUp (gUp (gUr (gUr (gUr σ 31 (updI T1 (σ 24 a) (w64 ((T1 (σ 24 a)) + ((P * (σ 25 a)) * 1000000000000))))) 32 (updI P1 (0 + 1) (σ 24 a))) 33 R1) 30 7 z1) 30 4 n1) 30 5 q1) _ _ []
                      exact hj_142 R1 n1 q1 (by first | (rw [if_neg (by omega)]; exact hB) | (rw [if_pos (by omega)]; show BSt _ _ _ (kbs _ (P * A (PP 0) (σ 24 a) * (10000 : Int) ^ 3, pre ++ [(σ 24 a)])); rw [← hpe (by omega), show (10000 : Int) ^ 3 = 1000000000000 from by decide]; first | exact hB.yes hln c_139 hpr1 | exact hB.no hln c_139))
      exact hl_40 _ (σ 23 (PP 0)) TT PP RR z nn qq rfl (by omega) (by omega) (by intro i x w; rfl) (by exact hv) (by rw [Int.sub_self]; exact hs)
    · skip
      exact absurd c_6 (by decide)
