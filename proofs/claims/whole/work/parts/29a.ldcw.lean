/-! the wide constant's row -/
theorem wg_ldc_w {M : gM} {d mc ms : Nat} {Q : gV → List gK → gH → Prop} {L : List gK} {σ : gH} {pc pc' : Nat} {ls st : List gV} {n : Int} {i : Nat} (hn : gi32 n) (hc : Cond.constant M.1.cls i (Int32.ofInt n) ∈ gG) (hd : decode M.2.1 pc = .ok (.ldc_w i, 3)) (hpc : pc + 3 = pc') (k : gWp M d mc ms Q L σ pc' ls (gI n :: st)) : gWp M d mc ms Q L σ pc ls (st) := by
  subst hpc
  exact gWp.stk (fun h hl => gwcI hn h) (fun hx hb ho ht h hl k => lv_ldcw hx hb ho (ht _ hc) hd k) k
theorem w_ldc_w {M : gM} {d : Nat} {Q : gV → gH → Prop} {σ : gH} {pc pc' : Nat} {ls st : List gV} {n : Int} {i : Nat} (hn : gi32 n) (hc : Cond.constant M.1.cls i (Int32.ofInt n) ∈ gG) (hd : decode M.2.1 pc = .ok (.ldc_w i, 3)) (hpc : pc + 3 = pc') (k : Wp M d Q σ pc' ls (gI n :: st)) : Wp M d Q σ pc ls (st) := fun hg => wg_ldc_w hn hc hd hpc (k hg)
