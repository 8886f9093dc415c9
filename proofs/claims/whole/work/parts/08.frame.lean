/-! locals, returns, calls, a method's contract -/
/-- the locals as a list of places and values -/
def gLv (adr b : Nat → Nat) (ls : List gV) : List (Nat × Value) := (List.range ls.length).filterMap fun i => match ls[i]? with
  | some v => if v = gX 1 then none else some (i, gC adr b v)
  | none => none
theorem gLv_mem {adr b : Nat → Nat} {ls : List gV} {i : Nat} {v : gV} (h : ls[i]? = some v) (hv : v ≠ gX 1) : (i, gC adr b v) ∈ gLv adr b ls := by
  have hi : i < ls.length := (List.getElem?_eq_some_iff.mp h).1
  exact List.mem_filterMap.mpr ⟨i, List.mem_range.mpr hi, by simp [h, hv]⟩
theorem gLv_has {adr b : Nat → Nat} {nL : Nat} {ls : List gV} {lsM : Array Slot} (h : gLs adr b nL ls lsM) : lv_has lsM nL (gLv adr b ls) := by
  refine ⟨h.1, h.2.2.1, fun q hq => ?_⟩
  obtain ⟨i, -, h2⟩ := List.mem_filterMap.mp hq
  cases e : ls[i]? with
  | none => rw [e] at h2; cases h2
  | some v =>
    rw [e] at h2
    by_cases hv : v = gX 1
    · simp [hv] at h2
    · simp only [hv, if_false] at h2
      cases h2
      exact h.2.2.2 i v e hv
theorem gC_cat1 {adr b : Nat → Nat} {v : gV} (h : gIsJ v = false) : (gC adr b v).category = 1 := by
  unfold gC
  split
  · rfl
  · cases h
  · rfl
  · split <;> rfl
theorem gC_cat2 {adr b : Nat → Nat} {v : gV} (h : gIsJ v = true) : (gC adr b v).category = 2 := by
  unfold gC
  split
  · cases h
  · rfl
  · cases h
  · cases h
theorem gSt1_len {ls : List gV} {i : Nat} {v : gV} : (gSt1 ls i v).length = ls.length := by unfold gSt1; (repeat' split) <;> simp
theorem gSt1_get {ls : List gV} {i j : Nat} {v w : gV} (hi : i < ls.length) (h : (gSt1 ls i v)[j]? = some w) (hw : w ≠ gX 1) : (j = i ∧ w = v) ∨ (j ≠ i ∧ ls[j]? = some w ∧ (j + 1 = i → gIsJ w = false)) := by
  unfold gSt1 at h
  by_cases e : j = i
  · subst e
    rw [List.getElem?_set_self (by (repeat' split) <;> simpa using hi)] at h
    exact Or.inl ⟨rfl, (Option.some.inj h).symm⟩
  · rw [List.getElem?_set_ne (Ne.symm e)] at h
    refine Or.inr ⟨e, ?_⟩
    by_cases hi0 : i = 0
    · rw [if_pos hi0] at h
      exact ⟨h, fun hh => by omega⟩
    · rw [if_neg hi0] at h
      by_cases hJ : gIsJ (ls.getD (i - 1) (gX 1)) = true
      · rw [if_pos hJ] at h
        by_cases e2 : j = i - 1
        · subst e2
          rw [List.getElem?_set_self (by omega)] at h
          exact absurd (Option.some.inj h).symm hw
        · rw [List.getElem?_set_ne (Ne.symm e2)] at h
          exact ⟨h, fun hh => by omega⟩
      · rw [if_neg hJ] at h
        refine ⟨h, fun hh => ?_⟩
        have : i - 1 = j := by omega
        rw [this, List.getD_eq_getElem?_getD, h] at hJ
        simpa using hJ
theorem gSt1_W {n : Nat} {ls : List gV} {i : Nat} {v : gV} (h : ∀ w ∈ ls, gW n w) (hv : gW n v) : ∀ w ∈ gSt1 ls i v, gW n w := by
  have hset : ∀ (l : List gV) (k : Nat) (u : gV), (∀ w ∈ l, gW n w) → gW n u → ∀ w ∈ l.set k u, gW n w := by
    intro l k u hl hu w hw
    rcases List.mem_or_eq_of_mem_set hw with h1 | h1
    · exact hl w h1
    · rw [h1]; exact hu
  unfold gSt1
  refine hset _ _ _ ?_ hv
  (repeat' split)
  · exact h
  · exact hset _ _ _ h trivial
  · exact h
theorem gSt1_ls {adr b : Nat → Nat} {nL : Nat} {ls : List gV} {i : Nat} {v : gV} {lsM lsM' : Array Slot} (h : gLs adr b nL ls lsM) (hi : i < nL) (hJ : gIsJ v = false)
    (h' : lv_has lsM' nL ((i, gC adr b v) :: (gLv adr b ls).filter (fun q => !(q.1 == i) && !(q.1 + 1 == i && q.2.category == 2)))) : gLs adr b nL (gSt1 ls i v) lsM' := by
  refine ⟨h'.1, gSt1_len.trans h.2.1, h'.2.1, fun j w hj hw => ?_⟩
  refine h'.2.2 (j, gC adr b w) ?_
  rcases gSt1_get (by rw [h.2.1]; exact hi) hj hw with ⟨rfl, rfl⟩ | ⟨h1, h2, h3⟩
  · exact List.mem_cons_self
  · refine List.mem_cons_of_mem _ (List.mem_filter.mpr ⟨gLv_mem h2 hw, ?_⟩)
    by_cases e : j + 1 = i
    · have := gC_cat1 (adr := adr) (b := b) (h3 e)
      simp [h1, this]
    · simp [h1, e]
theorem gSt2_ls {adr b : Nat → Nat} {nL : Nat} {ls : List gV} {i : Nat} {v : gV} {lsM lsM' : Array Slot} (h : gLs adr b nL ls lsM) (hi : i + 1 < nL)
    (h' : lv_has lsM' nL ((i, gC adr b v) :: (gLv adr b ls).filter (fun q => !(q.1 == i) && (!(q.1 == i + 1) && !(q.1 + 1 == i && q.2.category == 2))))) : gLs adr b nL (gSt2 ls i v) lsM' := by
  refine ⟨h'.1, by unfold gSt2; rw [List.length_set, gSt1_len]; exact h.2.1, h'.2.1, fun j w hj hw => ?_⟩
  refine h'.2.2 (j, gC adr b w) ?_
  unfold gSt2 at hj
  by_cases e1 : j = i + 1
  · subst e1
    rw [List.getElem?_set_self (by rw [gSt1_len, h.2.1]; exact hi)] at hj
    exact absurd (Option.some.inj hj).symm hw
  · rw [List.getElem?_set_ne (Ne.symm e1)] at hj
    rcases gSt1_get (by rw [h.2.1]; omega) hj hw with ⟨rfl, rfl⟩ | ⟨h1, h2, h3⟩
    · exact List.mem_cons_self
    · refine List.mem_cons_of_mem _ (List.mem_filter.mpr ⟨gLv_mem h2 hw, ?_⟩)
      by_cases e : j + 1 = i
      · have := gC_cat1 (adr := adr) (b := b) (h3 e)
        simp [h1, this]; omega
      · simp [h1, e, e1]
section GF
variable {M : gM} {d mc ms : Nat} {Q : gV → List gK → gH → Prop} {L : List gK} {σ : gH} {pc pc' : Nat} {ls ls' st : List gV}
theorem wg_istore {i : Nat} {x : Int} (hi : i < M.2.2.1) (hls : gSt1 ls i (gI x) = ls') (hd : decode M.2.1 pc = .ok (.istore i, 2)) (hpc : pc + 2 = pc') (k : gWp M d mc ms Q L σ pc' ls' st) : gWp M d mc ms Q L σ pc ls (gI x :: st) := by
  subst hpc; subst hls
  intro p l e R s m args below meth c D adr0 b n0 Qf C hret adr H locs cells slots lsM hI hF
  refine lv_istore C.1 C.2.1 hd (gLv_has hF.1) hi rfl fun lsM' h' => ?_
  exact k p l e R s m args below meth c D adr0 b n0 Qf C hret adr H locs cells slots lsM' hI ⟨gSt1_ls (v := gI x) hF.1 hi rfl h', gSt1_W hF.2.1 (gw0 hF.2.2), gw1 hF.2.2⟩
theorem wg_istore_n {i : Nat} {f : Fin 4} {x : Int} (hf : (f : Nat) = i) (hi : i < M.2.2.1) (hls : gSt1 ls i (gI x) = ls') (hd : decode M.2.1 pc = .ok (.istore_n f, 1)) (hpc : pc + 1 = pc') (k : gWp M d mc ms Q L σ pc' ls' st) : gWp M d mc ms Q L σ pc ls (gI x :: st) := by
  subst hpc; subst hls
  intro p l e R s m args below meth c D adr0 b n0 Qf C hret adr H locs cells slots lsM hI hF
  refine lv_istore_n C.1 C.2.1 hd hf (gLv_has hF.1) hi rfl fun lsM' h' => ?_
  exact k p l e R s m args below meth c D adr0 b n0 Qf C hret adr H locs cells slots lsM' hI ⟨gSt1_ls (v := gI x) hF.1 hi rfl h', gSt1_W hF.2.1 (gw0 hF.2.2), gw1 hF.2.2⟩
theorem wg_astore {i : Nat} {x : Nat} (hi : i < M.2.2.1) (hls : gSt1 ls i (gR x) = ls') (hd : decode M.2.1 pc = .ok (.astore i, 2)) (hpc : pc + 2 = pc') (k : gWp M d mc ms Q L σ pc' ls' st) : gWp M d mc ms Q L σ pc ls (gR x :: st) := by
  subst hpc; subst hls
  intro p l e R s m args below meth c D adr0 b n0 Qf C hret adr H locs cells slots lsM hI hF
  refine lv_astore C.1 C.2.1 hd (gLv_has hF.1) hi rfl fun lsM' h' => ?_
  exact k p l e R s m args below meth c D adr0 b n0 Qf C hret adr H locs cells slots lsM' hI ⟨gSt1_ls (v := gR x) hF.1 hi rfl h', gSt1_W hF.2.1 (gw0 hF.2.2), gw1 hF.2.2⟩
theorem wg_astore_n {i : Nat} {f : Fin 4} {x : Nat} (hf : (f : Nat) = i) (hi : i < M.2.2.1) (hls : gSt1 ls i (gR x) = ls') (hd : decode M.2.1 pc = .ok (.astore_n f, 1)) (hpc : pc + 1 = pc') (k : gWp M d mc ms Q L σ pc' ls' st) : gWp M d mc ms Q L σ pc ls (gR x :: st) := by
  subst hpc; subst hls
  intro p l e R s m args below meth c D adr0 b n0 Qf C hret adr H locs cells slots lsM hI hF
  refine lv_astore_n C.1 C.2.1 hd hf (gLv_has hF.1) hi rfl fun lsM' h' => ?_
  exact k p l e R s m args below meth c D adr0 b n0 Qf C hret adr H locs cells slots lsM' hI ⟨gSt1_ls (v := gR x) hF.1 hi rfl h', gSt1_W hF.2.1 (gw0 hF.2.2), gw1 hF.2.2⟩
theorem gSt2_W {n : Nat} {ls : List gV} {i : Nat} {v : gV} (h : ∀ w ∈ ls, gW n w) (hv : gW n v) : ∀ w ∈ gSt2 ls i v, gW n w := by
  intro w hw
  rcases List.mem_or_eq_of_mem_set hw with h1 | h1
  · exact gSt1_W h hv w h1
  · rw [h1]; trivial
theorem wg_lstore {i : Nat} {x : Int} (hi : i + 1 < M.2.2.1) (hls : gSt2 ls i (gJ x) = ls') (hd : decode M.2.1 pc = .ok (.lstore i, 2)) (hpc : pc + 2 = pc') (k : gWp M d mc ms Q L σ pc' ls' st) : gWp M d mc ms Q L σ pc ls (gJ x :: st) := by
  subst hpc; subst hls
  intro p l e R s m args below meth c D adr0 b n0 Qf C hret adr H locs cells slots lsM hI hF
  refine lv_lstore C.1 C.2.1 hd (gLv_has hF.1) hi rfl fun lsM' h' => ?_
  exact k p l e R s m args below meth c D adr0 b n0 Qf C hret adr H locs cells slots lsM' hI ⟨gSt2_ls (v := gJ x) hF.1 hi h', gSt2_W hF.2.1 (gw0 hF.2.2), gw1 hF.2.2⟩
theorem wg_lstore_n {i : Nat} {f : Fin 4} {x : Int} (hf : (f : Nat) = i) (hi : i + 1 < M.2.2.1) (hls : gSt2 ls i (gJ x) = ls') (hd : decode M.2.1 pc = .ok (.lstore_n f, 1)) (hpc : pc + 1 = pc') (k : gWp M d mc ms Q L σ pc' ls' st) : gWp M d mc ms Q L σ pc ls (gJ x :: st) := by
  subst hpc; subst hls
  intro p l e R s m args below meth c D adr0 b n0 Qf C hret adr H locs cells slots lsM hI hF
  refine lv_lstore_n C.1 C.2.1 hd hf (gLv_has hF.1) hi rfl fun lsM' h' => ?_
  exact k p l e R s m args below meth c D adr0 b n0 Qf C hret adr H locs cells slots lsM' hI ⟨gSt2_ls (v := gJ x) hF.1 hi h', gSt2_W hF.2.1 (gw0 hF.2.2), gw1 hF.2.2⟩
theorem wg_iinc {i : Nat} {n x : Int} (hi : i < M.2.2.1) (hl0 : ls[i]? = some (gI x)) (hls : gSt1 ls i (gI (w32 (x + n))) = ls') (hd : decode M.2.1 pc = .ok (.iinc i n, 3)) (hpc : pc + 3 = pc') (k : gWp M d mc ms Q L σ pc' ls' st) : gWp M d mc ms Q L σ pc ls st := by
  subst hpc; subst hls
  intro p l e R s m args below meth c D adr0 b n0 Qf C hret adr H locs cells slots lsM hI hF
  obtain ⟨kk, hkk⟩ := List.getElem?_of_mem (gLv_mem (adr := adr) (b := b) hl0 (gne_of rfl))
  refine lv_iinc (v := Int32.ofInt (w32 (x + n))) C.1 C.2.1 hd (gLv_has hF.1) hkk (gadd32 x n) hi rfl fun lsM' h' => ?_
  exact k p l e R s m args below meth c D adr0 b n0 Qf C hret adr H locs cells slots lsM' hI ⟨gSt1_ls (v := gI (w32 (x + n))) hF.1 hi rfl h', gSt1_W hF.2.1 (gWI (w32_in _)), hF.2.2⟩
/-! returns -/
theorem gWp.ret {v : gV} {st : List gV} (hst : ∀ adr b, st.map (gC adr b) = gRs adr b v) (hw : (∀ v ∈ st, gW L.length v) → gW L.length v) (hr : gRd M.2.1 pc M.2.2.2.1 v) (hb : gEc v ≤ mc ∧ gEs v ≤ ms) (hq : Q v L σ) : gWp M d mc ms Q L σ pc ls st := by
  intro p l e R s m args below meth c D adr0 b n0 Qf C hret adr H locs cells slots lsM hI hF
  rw [hst]
  obtain ⟨h1, h2, h3, h4, h5, h6, h7, h8, h9⟩ := hI
  exact hret v L σ adr H locs cells slots lsM pc hq ⟨h1, h2, h3, h4, h5, h6, h7, by omega, by omega⟩ (hw hF.2.2) hr hF.1.1
theorem wg_ireturn {n : Int} (hr : M.2.2.2.1 = some .int) (hd : decode M.2.1 pc = .ok (.ireturn, 1)) (hq : Q (gI n) L σ) : gWp M d mc ms Q L σ pc ls [gI n] :=
  gWp.ret (v := gI n) (fun _ _ => rfl) (fun h => gw0 h) (Or.inl ⟨hr, hd, n, rfl⟩) ⟨Nat.zero_le _, Nat.zero_le _⟩ hq
theorem wg_zreturn {n : Int} (hr : M.2.2.2.1 = some .boolean) (hn : n = 0 ∨ n = 1) (hd : decode M.2.1 pc = .ok (.ireturn, 1)) (hq : Q (gI n) L σ) : gWp M d mc ms Q L σ pc ls [gI n] :=
  gWp.ret (v := gI n) (fun _ _ => rfl) (fun h => gw0 h) (Or.inr (Or.inl ⟨.boolean, n, hr, hd, rfl, by rcases hn with rfl | rfl <;> decide +kernel⟩)) ⟨Nat.zero_le _, Nat.zero_le _⟩ hq
/-- an answer of a small type -/
theorem wg_nreturn {n : Int} {ty : FieldType} (hr : M.2.2.2.1 = some ty) (hn : narrow ty (.int (Int32.ofInt n)) = .int (Int32.ofInt n)) (hd : decode M.2.1 pc = .ok (.ireturn, 1)) (hq : Q (gI n) L σ) : gWp M d mc ms Q L σ pc ls [gI n] :=
  gWp.ret (v := gI n) (fun _ _ => rfl) (fun h => gw0 h) (Or.inr (Or.inl ⟨ty, n, hr, hd, rfl, hn⟩)) ⟨Nat.zero_le _, Nat.zero_le _⟩ hq
theorem wg_lreturn {n : Int} (hr : M.2.2.2.1 = some .long) (hd : decode M.2.1 pc = .ok (.lreturn, 1)) (hq : Q (gJ n) L σ) : gWp M d mc ms Q L σ pc ls [gJ n] :=
  gWp.ret (v := gJ n) (fun _ _ => rfl) (fun h => gw0 h) (Or.inr (Or.inr (Or.inl ⟨hr, hd, n, rfl⟩))) ⟨Nat.zero_le _, Nat.zero_le _⟩ hq
theorem wg_areturn {q : Nat} {C : String} (hr : M.2.2.2.1 = some (.object C)) (hd : decode M.2.1 pc = .ok (.areturn, 1)) (hq : Q (gR q) L σ) : gWp M d mc ms Q L σ pc ls [gR q] :=
  gWp.ret (v := gR q) (fun _ _ => rfl) (fun h => gw0 h) (Or.inr (Or.inr (Or.inr (Or.inl ⟨C, hr, hd, q, rfl⟩)))) ⟨Nat.zero_le _, Nat.zero_le _⟩ hq
theorem wg_return (hr : M.2.2.2.1 = none) (hd : decode M.2.1 pc = .ok (.return_, 1)) (hq : Q (gX 1) L σ) : gWp M d mc ms Q L σ pc ls [] :=
  gWp.ret (v := gX 1) (fun _ _ => rfl) (fun h => trivial) (Or.inr (Or.inr (Or.inr (Or.inr (Or.inl ⟨hr, hd, rfl⟩))))) ⟨Nat.zero_le _, Nat.zero_le _⟩ hq
/-- here a throw begins -/
theorem wg_throw {i : Nat} (hd : decode M.2.1 pc = .ok (.new i, 3)) (hb : 1 ≤ mc ∧ 6 ≤ ms) (hq : Q (gX (pc + 9)) L σ) : gWp M d mc ms Q L σ pc ls [] := by
  have he : gEsc (gX (pc + 9)) = true := by show decide (9 ≤ pc + 9) = true; simp
  refine gWp.ret (v := gX (pc + 9)) (fun _ _ => ?_) (fun h => trivial) (Or.inr (Or.inr (Or.inr (Or.inr (Or.inr ⟨rfl, i, hd⟩))))) ?_ hq
  · unfold gRs; rw [if_pos (Or.inr he)]; rfl
  · unfold gEc gEs; rw [if_pos he, if_pos he]; exact hb
/-- a weaker end -/
theorem gWp.mono {Q' : gV → List gK → gH → Prop} (h : ∀ v L σ, Q v L σ → Q' v L σ) (k : gWp M d mc ms Q L σ pc ls st) : gWp M d mc ms Q' L σ pc ls st := by
  intro p l e R s m args below meth c D adr0 b n0 Qf C hret adr H locs cells slots lsM hI hF
  exact k p l e R s m args below meth c D adr0 b n0 Qf C (fun v L σ adr H locs cells slots lsM pc hq => hret v L σ adr H locs cells slots lsM pc (h v L σ hq)) adr H locs cells slots lsM hI hF
end GF
