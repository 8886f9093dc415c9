/-! Math.min, Math.max -/
theorem mth_ini : Cond.initialized "java/lang/Math" ∈ gG := ms_mJ9_min_7cf53.1
theorem mth_min : Cond.code Lib.Math.min.name Lib.Math.min.code 2 (some .int) ∈ gG := gG_4 17 (by decide +kernel) (by decide +kernel)
theorem mth_max : Cond.code Lib.Math.max.name Lib.Math.max.code 2 (some .int) ∈ gG := gG_4 20 (by decide +kernel) (by decide +kernel)
theorem mth_lmax : Cond.code Lib.MathLoose.max_long.x Lib.MathLoose.max_long.code 4 (some .long) ∈ gG := gG_6 146 (by decide +kernel) (by decide +kernel)
section GMM
variable {M : gM} {d mc ms : Nat} {Q : gV → List gK → gH → Prop} {L : List gK} {σ : gH} {pc pc' : Nat} {ls st : List gV}
theorem wg_imin {idx : Nat} {x y : Int} (hlink : Cond.methodLink M.1.cls idx Lib.Math.min.name ∈ gG) (hcat : gCat st ≤ 8) (hdd : 1 ≤ d) (hd : decode M.2.1 pc = .ok (.invokestatic idx, 3)) (hpc : pc + 3 = pc') (k : gWp M d mc ms Q L σ pc' ls (gI (if y < x then y else x) :: st)) : gWp M d mc ms Q L σ pc ls (gI y :: gI x :: st) := by
  subst hpc
  intro p l e R s m args below meth c D adr0 b n0 Qf C hret adr H locs cells slots lsM hI hF
  have hts := C.2.2.2.2.1
  have hx : gi32 x := gw0 (gw1 hF.2.2)
  have hy : gi32 y := gw0 hF.2.2
  refine va_mmin C.1 C.2.1 (C.2.2.1.trans hF.1.1.symm) C.2.2.2.1 (hts _ hlink) (hts _ st_mJ9_min_7cf53) (hts _ mth_ini) (hts _ mth_min) ?_ ?_ ?_ ?_ hd ?_
  · have := C.2.2.2.2.2.2.1; omega
  · have := C.2.2.2.2.2.2.2.1
    have hz := gCat_of (adr := adr) (b := b) st
    rw [hz]; omega
  · exact Nat.le_trans (Nat.le_add_right _ _) hI.2.2.2.2.2.2.2.1
  · exact Nat.le_trans (Nat.le_add_right _ _) hI.2.2.2.2.2.2.2.2
  · have ee : (if Int32.ofInt y < Int32.ofInt x then Int32.ofInt y else Int32.ofInt x) = Int32.ofInt (if y < x then y else x) := by
      simp only [glt32 hy hx]
      split <;> rfl
    rw [ee]
    exact k p l e R s m args below meth c D adr0 b n0 Qf C hret adr H locs cells slots lsM hI ⟨hF.1, hF.2.1, gwcI (by split; exact hy; exact hx) (gw1 (gw1 hF.2.2))⟩
theorem wg_imax {idx : Nat} {x y : Int} (hlink : Cond.methodLink M.1.cls idx Lib.Math.max.name ∈ gG) (hcat : gCat st ≤ 8) (hdd : 1 ≤ d) (hd : decode M.2.1 pc = .ok (.invokestatic idx, 3)) (hpc : pc + 3 = pc') (k : gWp M d mc ms Q L σ pc' ls (gI (if x < y then y else x) :: st)) : gWp M d mc ms Q L σ pc ls (gI y :: gI x :: st) := by
  subst hpc
  intro p l e R s m args below meth c D adr0 b n0 Qf C hret adr H locs cells slots lsM hI hF
  have hts := C.2.2.2.2.1
  have hx : gi32 x := gw0 (gw1 hF.2.2)
  have hy : gi32 y := gw0 hF.2.2
  refine va_mmax C.1 C.2.1 (C.2.2.1.trans hF.1.1.symm) C.2.2.2.1 (hts _ hlink) (hts _ st_mJ9_max_7cf53) (hts _ mth_ini) (hts _ mth_max) ?_ ?_ ?_ ?_ hd ?_
  · have := C.2.2.2.2.2.2.1; omega
  · have := C.2.2.2.2.2.2.2.1
    have hz := gCat_of (adr := adr) (b := b) st
    rw [hz]; omega
  · exact Nat.le_trans (Nat.le_add_right _ _) hI.2.2.2.2.2.2.2.1
  · exact Nat.le_trans (Nat.le_add_right _ _) hI.2.2.2.2.2.2.2.2
  · have ee : (if Int32.ofInt x < Int32.ofInt y then Int32.ofInt y else Int32.ofInt x) = Int32.ofInt (if x < y then y else x) := by
      simp only [glt32 hx hy]
      split <;> rfl
    rw [ee]
    exact k p l e R s m args below meth c D adr0 b n0 Qf C hret adr H locs cells slots lsM hI ⟨hF.1, hF.2.1, gwcI (by split; exact hy; exact hx) (gw1 (gw1 hF.2.2))⟩
theorem wg_lmax {idx : Nat} {x y : Int} (hlink : Cond.methodLink M.1.cls idx Lib.MathLoose.max_long.x ∈ gG) (hstat : Cond.static Lib.MathLoose.max_long.x ∈ gG) (hcat : gCat st ≤ 8) (hdd : 1 ≤ d) (hd : decode M.2.1 pc = .ok (.invokestatic idx, 3)) (hpc : pc + 3 = pc') (k : gWp M d mc ms Q L σ pc' ls (gJ (if y < x then x else y) :: st)) : gWp M d mc ms Q L σ pc ls (gJ y :: gJ x :: st) := by
  subst hpc
  intro p l e R s m args below meth c D adr0 b n0 Qf C hret adr H locs cells slots lsM hI hF
  have hts := C.2.2.2.2.1
  have hx : gi64 x := gw0 (gw1 hF.2.2)
  have hy : gi64 y := gw0 hF.2.2
  refine va_mmax_long C.1 C.2.1 (C.2.2.1.trans hF.1.1.symm) C.2.2.2.1 (hts _ hlink) (hts _ hstat) (hts _ mth_ini) (hts _ mth_lmax) ?_ ?_ ?_ ?_ hd ?_
  · have := C.2.2.2.2.2.2.1; omega
  · have := C.2.2.2.2.2.2.2.1
    have hz := gCat_of (adr := adr) (b := b) st
    rw [hz]; omega
  · exact Nat.le_trans (Nat.le_add_right _ _) hI.2.2.2.2.2.2.2.1
  · exact Nat.le_trans (Nat.le_add_right _ _) hI.2.2.2.2.2.2.2.2
  · have ee : (if Int64.ofInt y < Int64.ofInt x then Int64.ofInt x else Int64.ofInt y) = Int64.ofInt (if y < x then x else y) := by
      simp only [glt64 hy hx]
      split <;> rfl
    rw [ee]
    exact k p l e R s m args below meth c D adr0 b n0 Qf C hret adr H locs cells slots lsM hI ⟨hF.1, hF.2.1, gwcJ (by split; exact hx; exact hy) (gw1 (gw1 hF.2.2))⟩
end GMM
section WMM
variable {M : gM} {d : Nat} {Q : gV → gH → Prop} {σ : gH} {pc pc' : Nat} {ls st : List gV}
theorem w_imin {idx : Nat} {x y : Int} (hlink : Cond.methodLink M.1.cls idx Lib.Math.min.name ∈ gG) (hcat : gCat st ≤ 8) (hdd : 1 ≤ d) (hd : decode M.2.1 pc = .ok (.invokestatic idx, 3)) (hpc : pc + 3 = pc') (k : Wp M d Q σ pc' ls (gI (if y < x then y else x) :: st)) : Wp M d Q σ pc ls (gI y :: gI x :: st) := fun hg => wg_imin hlink hcat hdd hd hpc (k hg)
theorem w_imax {idx : Nat} {x y : Int} (hlink : Cond.methodLink M.1.cls idx Lib.Math.max.name ∈ gG) (hcat : gCat st ≤ 8) (hdd : 1 ≤ d) (hd : decode M.2.1 pc = .ok (.invokestatic idx, 3)) (hpc : pc + 3 = pc') (k : Wp M d Q σ pc' ls (gI (if x < y then y else x) :: st)) : Wp M d Q σ pc ls (gI y :: gI x :: st) := fun hg => wg_imax hlink hcat hdd hd hpc (k hg)
theorem w_lmax {idx : Nat} {x y : Int} (hlink : Cond.methodLink M.1.cls idx Lib.MathLoose.max_long.x ∈ gG) (hstat : Cond.static Lib.MathLoose.max_long.x ∈ gG) (hcat : gCat st ≤ 8) (hdd : 1 ≤ d) (hd : decode M.2.1 pc = .ok (.invokestatic idx, 3)) (hpc : pc + 3 = pc') (k : Wp M d Q σ pc' ls (gJ (if y < x then x else y) :: st)) : Wp M d Q σ pc ls (gJ y :: gJ x :: st) := fun hg => wg_lmax hlink hstat hcat hdd hd hpc (k hg)
theorem w_copyI {idx a a0 n0 n1 : Nat} {sp dp n : Int} (hlink : Cond.methodLink M.1.cls idx arraycopyName ∈ gG) (hk0 : gL[a0]? = some (.inr (0, n0))) (hk1 : gL[a]? = some (.inr (0, n1))) (h1 : 0 ≤ sp) (h2 : 0 ≤ dp) (h3 : 0 ≤ n) (h4 : sp + n ≤ n0) (h5 : dp + n ≤ n1) (hcat : gCat st ≤ 8) (hdd : 1 ≤ d) (hd : decode M.2.1 pc = .ok (.invokestatic idx, 3)) (hpc : pc + 3 = pc') (k : Wp M d Q (gCp σ a a0 sp dp n) pc' ls st) : Wp M d Q σ pc ls (gI n :: gI dp :: gR a :: gI sp :: gR a0 :: st) := fun hg =>
  wg_copyI hlink ac_na ac_st ac_in hk0 hk1 h1 h2 h3 h4 h5 hcat hdd hd hpc (k (fun k kd h j hj hs => by
    have e : k ≠ a := fun e => by subst e; rw [hk1] at h; cases h; cases hs
    show gCp σ a a0 sp dp n k j = _
    unfold gCp gUr
    rw [if_neg e]
    exact hg k kd h j hj hs))
theorem w_copyJ {idx a a0 n0 n1 : Nat} {sp dp n : Int} (hlink : Cond.methodLink M.1.cls idx arraycopyName ∈ gG) (hk0 : gL[a0]? = some (.inr (1, n0))) (hk1 : gL[a]? = some (.inr (1, n1))) (h1 : 0 ≤ sp) (h2 : 0 ≤ dp) (h3 : 0 ≤ n) (h4 : sp + n ≤ n0) (h5 : dp + n ≤ n1) (hcat : gCat st ≤ 8) (hdd : 1 ≤ d) (hd : decode M.2.1 pc = .ok (.invokestatic idx, 3)) (hpc : pc + 3 = pc') (k : Wp M d Q (gCp σ a a0 sp dp n) pc' ls st) : Wp M d Q σ pc ls (gI n :: gI dp :: gR a :: gI sp :: gR a0 :: st) := fun hg =>
  wg_copyJ hlink ac_na ac_st ac_in hk0 hk1 h1 h2 h3 h4 h5 hcat hdd hd hpc (k (fun k kd h j hj hs => by
    have e : k ≠ a := fun e => by subst e; rw [hk1] at h; cases h; cases hs
    show gCp σ a a0 sp dp n k j = _
    unfold gCp gUr
    rw [if_neg e]
    exact hg k kd h j hj hs))
end WMM
