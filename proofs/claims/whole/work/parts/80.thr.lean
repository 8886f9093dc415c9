/-! methods that throw: the rows once more, with the room of a throw; octet (gen/mod_thr.py) -/
def Up (M : gM) (d : Nat) (Q : gV → gH → Prop) (σ : gH) (pc : Nat) (ls st : List gV) : Prop := gGr σ → gWp M d 1 6 (fun v L' σ' => L' = gL ∧ gGr σ' ∧ Q v σ') gL σ pc ls st
section U0
variable {M : gM} {d : Nat} {Q : gV → gH → Prop} {σ : gH} {pc pc' : Nat} {ls ls' st st' : List gV}
theorem u_throw {i : Nat} (hd : decode M.2.1 pc = .ok (.new i, 3)) (hq : Q (gX (pc + 9)) σ) : Up M d Q σ pc ls [] := fun hg => wg_throw hd (by decide) ⟨rfl, hg, hq⟩
theorem u_iconst {n : Int} (hn : gi32 n) (hd : decode M.2.1 pc = .ok (.iconst n, 1)) (hpc : pc + 1 = pc') (k : Up M d Q σ pc' ls (gI n :: st)) : Up M d Q σ pc ls (st) := fun hg => wg_iconst hn hd hpc (k hg)
theorem u_bipush {n : Int} (hn : gi32 n) (hv : (Int8.ofInt n).toInt32 = Int32.ofInt n) (hd : decode M.2.1 pc = .ok (.bipush n, 2)) (hpc : pc + 2 = pc') (k : Up M d Q σ pc' ls (gI n :: st)) : Up M d Q σ pc ls (st) := fun hg => wg_bipush hn hv hd hpc (k hg)
theorem u_sipush {n : Int} (hn : gi32 n) (hv : (Int16.ofInt n).toInt32 = Int32.ofInt n) (hd : decode M.2.1 pc = .ok (.sipush n, 3)) (hpc : pc + 3 = pc') (k : Up M d Q σ pc' ls (gI n :: st)) : Up M d Q σ pc ls (st) := fun hg => wg_sipush hn hv hd hpc (k hg)
theorem u_ldc {n : Int} {i : Nat} (hn : gi32 n) (hc : Cond.constant M.1.cls i (Int32.ofInt n) ∈ gG) (hd : decode M.2.1 pc = .ok (.ldc i, 2)) (hpc : pc + 2 = pc') (k : Up M d Q σ pc' ls (gI n :: st)) : Up M d Q σ pc ls (st) := fun hg => wg_ldc hn hc hd hpc (k hg)
theorem u_lconst {n : Int} {f : Fin 2} (hn : gi64 n) (hv : Int64.ofNat (f : Nat) = Int64.ofInt n) (hd : decode M.2.1 pc = .ok (.lconst f, 1)) (hpc : pc + 1 = pc') (k : Up M d Q σ pc' ls (gJ n :: st)) : Up M d Q σ pc ls (st) := fun hg => wg_lconst hn hv hd hpc (k hg)
theorem u_ldc2 {n : Int} {i : Nat} (hn : gi64 n) (hc : Cond.constantLong M.1.cls i (Int64.ofInt n) ∈ gG) (hd : decode M.2.1 pc = .ok (.ldc2_w i, 3)) (hpc : pc + 3 = pc') (k : Up M d Q σ pc' ls (gJ n :: st)) : Up M d Q σ pc ls (st) := fun hg => wg_ldc2 hn hc hd hpc (k hg)
theorem u_iload {n : Int} {i : Nat} (hl0 : ls[i]? = some (gI n)) (hd : decode M.2.1 pc = .ok (.iload i, 2)) (hpc : pc + 2 = pc') (k : Up M d Q σ pc' ls (gI n :: st)) : Up M d Q σ pc ls (st) := fun hg => wg_iload hl0 hd hpc (k hg)
theorem u_iload_n {n : Int} {i : Nat} {f : Fin 4} (hi : (f : Nat) = i) (hl0 : ls[i]? = some (gI n)) (hd : decode M.2.1 pc = .ok (.iload_n f, 1)) (hpc : pc + 1 = pc') (k : Up M d Q σ pc' ls (gI n :: st)) : Up M d Q σ pc ls (st) := fun hg => wg_iload_n hi hl0 hd hpc (k hg)
theorem u_lload {n : Int} {i : Nat} (hl0 : ls[i]? = some (gJ n)) (hd : decode M.2.1 pc = .ok (.lload i, 2)) (hpc : pc + 2 = pc') (k : Up M d Q σ pc' ls (gJ n :: st)) : Up M d Q σ pc ls (st) := fun hg => wg_lload hl0 hd hpc (k hg)
theorem u_lload_n {n : Int} {i : Nat} {f : Fin 4} (hi : (f : Nat) = i) (hl0 : ls[i]? = some (gJ n)) (hd : decode M.2.1 pc = .ok (.lload_n f, 1)) (hpc : pc + 1 = pc') (k : Up M d Q σ pc' ls (gJ n :: st)) : Up M d Q σ pc ls (st) := fun hg => wg_lload_n hi hl0 hd hpc (k hg)
theorem u_aload {n : Nat} {i : Nat} (hl0 : ls[i]? = some (gR n)) (hd : decode M.2.1 pc = .ok (.aload i, 2)) (hpc : pc + 2 = pc') (k : Up M d Q σ pc' ls (gR n :: st)) : Up M d Q σ pc ls (st) := fun hg => wg_aload hl0 hd hpc (k hg)
theorem u_aload_n {n : Nat} {i : Nat} {f : Fin 4} (hi : (f : Nat) = i) (hl0 : ls[i]? = some (gR n)) (hd : decode M.2.1 pc = .ok (.aload_n f, 1)) (hpc : pc + 1 = pc') (k : Up M d Q σ pc' ls (gR n :: st)) : Up M d Q σ pc ls (st) := fun hg => wg_aload_n hi hl0 hd hpc (k hg)
theorem u_pop {x : Int} (hd : decode M.2.1 pc = .ok (.pop, 1)) (hpc : pc + 1 = pc') (k : Up M d Q σ pc' ls (st)) : Up M d Q σ pc ls (gI x :: st) := fun hg => wg_pop hd hpc (k hg)
theorem u_popR {x : Nat} (hd : decode M.2.1 pc = .ok (.pop, 1)) (hpc : pc + 1 = pc') (k : Up M d Q σ pc' ls (st)) : Up M d Q σ pc ls (gR x :: st) := fun hg => wg_popR hd hpc (k hg)
theorem u_goto {off : Int} (hd : decode M.2.1 pc = .ok (.goto off, 3)) (ht : (pc : Int) + off = (pc' : Int)) (k : Up M d Q σ pc' ls st) : Up M d Q σ pc ls st := fun hg => wg_goto hd ht (k hg)
theorem u_if_eq {x : Int} {off : Int} {t : Nat} (hd : decode M.2.1 pc = .ok (.ifCond .eq off, 3)) (ht : (pc : Int) + off = (t : Int)) (hpc : pc + 3 = pc') (k1 : x = 0 → Up M d Q σ t ls st) (k2 : ¬ x = 0 → Up M d Q σ pc' ls st) : Up M d Q σ pc ls (gI x :: st) := fun hg => wg_if_eq hd ht hpc (fun h => k1 h hg) (fun h => k2 h hg)
theorem u_if_ne {x : Int} {off : Int} {t : Nat} (hd : decode M.2.1 pc = .ok (.ifCond .ne off, 3)) (ht : (pc : Int) + off = (t : Int)) (hpc : pc + 3 = pc') (k1 : ¬ x = 0 → Up M d Q σ t ls st) (k2 : x = 0 → Up M d Q σ pc' ls st) : Up M d Q σ pc ls (gI x :: st) := fun hg => wg_if_ne hd ht hpc (fun h => k1 h hg) (fun h => k2 h hg)
theorem u_if_lt {x : Int} {off : Int} {t : Nat} (hd : decode M.2.1 pc = .ok (.ifCond .lt off, 3)) (ht : (pc : Int) + off = (t : Int)) (hpc : pc + 3 = pc') (k1 : x < 0 → Up M d Q σ t ls st) (k2 : ¬ x < 0 → Up M d Q σ pc' ls st) : Up M d Q σ pc ls (gI x :: st) := fun hg => wg_if_lt hd ht hpc (fun h => k1 h hg) (fun h => k2 h hg)
theorem u_if_ge {x : Int} {off : Int} {t : Nat} (hd : decode M.2.1 pc = .ok (.ifCond .ge off, 3)) (ht : (pc : Int) + off = (t : Int)) (hpc : pc + 3 = pc') (k1 : 0 ≤ x → Up M d Q σ t ls st) (k2 : ¬ 0 ≤ x → Up M d Q σ pc' ls st) : Up M d Q σ pc ls (gI x :: st) := fun hg => wg_if_ge hd ht hpc (fun h => k1 h hg) (fun h => k2 h hg)
theorem u_if_gt {x : Int} {off : Int} {t : Nat} (hd : decode M.2.1 pc = .ok (.ifCond .gt off, 3)) (ht : (pc : Int) + off = (t : Int)) (hpc : pc + 3 = pc') (k1 : 0 < x → Up M d Q σ t ls st) (k2 : ¬ 0 < x → Up M d Q σ pc' ls st) : Up M d Q σ pc ls (gI x :: st) := fun hg => wg_if_gt hd ht hpc (fun h => k1 h hg) (fun h => k2 h hg)
theorem u_if_le {x : Int} {off : Int} {t : Nat} (hd : decode M.2.1 pc = .ok (.ifCond .le off, 3)) (ht : (pc : Int) + off = (t : Int)) (hpc : pc + 3 = pc') (k1 : x ≤ 0 → Up M d Q σ t ls st) (k2 : ¬ x ≤ 0 → Up M d Q σ pc' ls st) : Up M d Q σ pc ls (gI x :: st) := fun hg => wg_if_le hd ht hpc (fun h => k1 h hg) (fun h => k2 h hg)
theorem u_icmp_eq {x y : Int} {off : Int} {t : Nat} (hd : decode M.2.1 pc = .ok (.if_icmp .eq off, 3)) (ht : (pc : Int) + off = (t : Int)) (hpc : pc + 3 = pc') (k1 : x = y → Up M d Q σ t ls st) (k2 : ¬ x = y → Up M d Q σ pc' ls st) : Up M d Q σ pc ls (gI y :: gI x :: st) := fun hg => wg_icmp_eq hd ht hpc (fun h => k1 h hg) (fun h => k2 h hg)
theorem u_icmp_ne {x y : Int} {off : Int} {t : Nat} (hd : decode M.2.1 pc = .ok (.if_icmp .ne off, 3)) (ht : (pc : Int) + off = (t : Int)) (hpc : pc + 3 = pc') (k1 : ¬ x = y → Up M d Q σ t ls st) (k2 : x = y → Up M d Q σ pc' ls st) : Up M d Q σ pc ls (gI y :: gI x :: st) := fun hg => wg_icmp_ne hd ht hpc (fun h => k1 h hg) (fun h => k2 h hg)
theorem u_icmp_lt {x y : Int} {off : Int} {t : Nat} (hd : decode M.2.1 pc = .ok (.if_icmp .lt off, 3)) (ht : (pc : Int) + off = (t : Int)) (hpc : pc + 3 = pc') (k1 : x < y → Up M d Q σ t ls st) (k2 : ¬ x < y → Up M d Q σ pc' ls st) : Up M d Q σ pc ls (gI y :: gI x :: st) := fun hg => wg_icmp_lt hd ht hpc (fun h => k1 h hg) (fun h => k2 h hg)
theorem u_icmp_ge {x y : Int} {off : Int} {t : Nat} (hd : decode M.2.1 pc = .ok (.if_icmp .ge off, 3)) (ht : (pc : Int) + off = (t : Int)) (hpc : pc + 3 = pc') (k1 : y ≤ x → Up M d Q σ t ls st) (k2 : ¬ y ≤ x → Up M d Q σ pc' ls st) : Up M d Q σ pc ls (gI y :: gI x :: st) := fun hg => wg_icmp_ge hd ht hpc (fun h => k1 h hg) (fun h => k2 h hg)
theorem u_icmp_gt {x y : Int} {off : Int} {t : Nat} (hd : decode M.2.1 pc = .ok (.if_icmp .gt off, 3)) (ht : (pc : Int) + off = (t : Int)) (hpc : pc + 3 = pc') (k1 : y < x → Up M d Q σ t ls st) (k2 : ¬ y < x → Up M d Q σ pc' ls st) : Up M d Q σ pc ls (gI y :: gI x :: st) := fun hg => wg_icmp_gt hd ht hpc (fun h => k1 h hg) (fun h => k2 h hg)
theorem u_icmp_le {x y : Int} {off : Int} {t : Nat} (hd : decode M.2.1 pc = .ok (.if_icmp .le off, 3)) (ht : (pc : Int) + off = (t : Int)) (hpc : pc + 3 = pc') (k1 : x ≤ y → Up M d Q σ t ls st) (k2 : ¬ x ≤ y → Up M d Q σ pc' ls st) : Up M d Q σ pc ls (gI y :: gI x :: st) := fun hg => wg_icmp_le hd ht hpc (fun h => k1 h hg) (fun h => k2 h hg)
theorem u_tableIn {dflt lo hi : Int} {offs : Array Int} {len : Nat} {x off : Int} (hd : decode M.2.1 pc = .ok (.tableswitch dflt lo hi offs, len)) (h1 : lo ≤ x) (h2 : x ≤ hi) (ho : offs[(x - lo).toNat]? = some off) (ht : (pc : Int) + off = (pc' : Int)) (k : Up M d Q σ pc' ls st) : Up M d Q σ pc ls (gI x :: st) := fun hg => wg_tableIn hd h1 h2 ho ht (k hg)
theorem u_tableOut {dflt lo hi : Int} {offs : Array Int} {len : Nat} {x : Int} (hd : decode M.2.1 pc = .ok (.tableswitch dflt lo hi offs, len)) (h1 : x < lo ∨ hi < x) (ht : (pc : Int) + dflt = (pc' : Int)) (k : Up M d Q σ pc' ls st) : Up M d Q σ pc ls (gI x :: st) := fun hg => wg_tableOut hd h1 ht (k hg)
theorem u_getI {idx ci j x : Nat} (hf : gFld M.1.cls idx ci j 0) (hk : gL[x]? = some (.inl ci)) (hd : decode M.2.1 pc = .ok (.getfield idx, 3)) (hpc : pc + 3 = pc') (k : Up M d Q σ pc' ls (gI (σ x j) :: st)) : Up M d Q σ pc ls (gR x :: st) := fun hg => wg_getI hf hk hd hpc (k hg)
theorem u_getZ {idx ci j x : Nat} (hf : gFld M.1.cls idx ci j 2) (hk : gL[x]? = some (.inl ci)) (hd : decode M.2.1 pc = .ok (.getfield idx, 3)) (hpc : pc + 3 = pc') (k : Up M d Q σ pc' ls (gI (σ x j) :: st)) : Up M d Q σ pc ls (gR x :: st) := fun hg => wg_getZ hf hk hd hpc (k hg)
theorem u_getJ {idx ci j x : Nat} (hf : gFld M.1.cls idx ci j 1) (hk : gL[x]? = some (.inl ci)) (hd : decode M.2.1 pc = .ok (.getfield idx, 3)) (hpc : pc + 3 = pc') (k : Up M d Q σ pc' ls (gJ (σ x j) :: st)) : Up M d Q σ pc ls (gR x :: st) := fun hg => wg_getJ hf hk hd hpc (k hg)
theorem u_putI {idx ci j x : Nat} {n : Int} (hf : gPut M.1.cls idx ci j .int false) (hk : gL[x]? = some (.inl ci)) (hd : decode M.2.1 pc = .ok (.putfield idx, 3)) (hpc : pc + 3 = pc') (hns : gSf ci j = false) (k : Up M d Q (gUp σ x j n) pc' ls st) : Up M d Q σ pc ls (gI n :: gR x :: st) := fun hg => wg_putI hf hk hd hpc (k (hg.up hk (by omega) (by rw [Int.toNat_natCast]; exact hns)))
theorem u_iald {x n : Nat} {i : Int} (hk : gL[x]? = some (.inr (0, n))) (h0 : 0 ≤ i) (h1 : i < n) (hd : decode M.2.1 pc = .ok (.iaload, 1)) (hpc : pc + 1 = pc') (k : Up M d Q σ pc' ls (gI (σ x i) :: st)) : Up M d Q σ pc ls (gI i :: gR x :: st) := fun hg => wg_iald hk h0 h1 hd hpc (k hg)
theorem u_zald {x n : Nat} {i : Int} (hk : gL[x]? = some (.inr (2, n))) (h0 : 0 ≤ i) (h1 : i < n) (hd : decode M.2.1 pc = .ok (.baload, 1)) (hpc : pc + 1 = pc') (k : (σ x i = 0 ∨ σ x i = 1) → Up M d Q σ pc' ls (gI (σ x i) :: st)) : Up M d Q σ pc ls (gI i :: gR x :: st) := fun hg => wg_zald hk h0 h1 hd hpc (fun h => k h hg)
theorem u_lald {x n : Nat} {i : Int} (hk : gL[x]? = some (.inr (1, n))) (h0 : 0 ≤ i) (h1 : i < n) (hd : decode M.2.1 pc = .ok (.laload, 1)) (hpc : pc + 1 = pc') (k : Up M d Q σ pc' ls (gJ (σ x i) :: st)) : Up M d Q σ pc ls (gI i :: gR x :: st) := fun hg => wg_lald hk h0 h1 hd hpc (k hg)
theorem u_alen {x n tc : Nat} (hk : gL[x]? = some (.inr (tc, n))) (htc : tc < 4) (hn : gi32 n) (hd : decode M.2.1 pc = .ok (.arraylength, 1)) (hpc : pc + 1 = pc') (k : Up M d Q σ pc' ls (gI n :: st)) : Up M d Q σ pc ls (gR x :: st) := fun hg => wg_alen hk htc hn hd hpc (k hg)
theorem u_istore {i : Nat} {x : Int} (hi : i < M.2.2.1) (hls : gSt1 ls i (gI x) = ls') (hd : decode M.2.1 pc = .ok (.istore i, 2)) (hpc : pc + 2 = pc') (k : Up M d Q σ pc' ls' st) : Up M d Q σ pc ls (gI x :: st) := fun hg => wg_istore hi hls hd hpc (k hg)
theorem u_istore_n {i : Nat} {f : Fin 4} {x : Int} (hf : (f : Nat) = i) (hi : i < M.2.2.1) (hls : gSt1 ls i (gI x) = ls') (hd : decode M.2.1 pc = .ok (.istore_n f, 1)) (hpc : pc + 1 = pc') (k : Up M d Q σ pc' ls' st) : Up M d Q σ pc ls (gI x :: st) := fun hg => wg_istore_n hf hi hls hd hpc (k hg)
theorem u_lstore {i : Nat} {x : Int} (hi : i + 1 < M.2.2.1) (hls : gSt2 ls i (gJ x) = ls') (hd : decode M.2.1 pc = .ok (.lstore i, 2)) (hpc : pc + 2 = pc') (k : Up M d Q σ pc' ls' st) : Up M d Q σ pc ls (gJ x :: st) := fun hg => wg_lstore hi hls hd hpc (k hg)
theorem u_lstore_n {i : Nat} {f : Fin 4} {x : Int} (hf : (f : Nat) = i) (hi : i + 1 < M.2.2.1) (hls : gSt2 ls i (gJ x) = ls') (hd : decode M.2.1 pc = .ok (.lstore_n f, 1)) (hpc : pc + 1 = pc') (k : Up M d Q σ pc' ls' st) : Up M d Q σ pc ls (gJ x :: st) := fun hg => wg_lstore_n hf hi hls hd hpc (k hg)
theorem u_ireturn {n : Int} (hr : M.2.2.2.1 = some .int) (hd : decode M.2.1 pc = .ok (.ireturn, 1)) (hq : Q (gI n) σ) : Up M d Q σ pc ls [gI n] := fun hg => wg_ireturn hr hd ⟨rfl, hg, hq⟩
theorem u_zreturn {n : Int} (hr : M.2.2.2.1 = some .boolean) (hn : n = 0 ∨ n = 1) (hd : decode M.2.1 pc = .ok (.ireturn, 1)) (hq : Q (gI n) σ) : Up M d Q σ pc ls [gI n] := fun hg => wg_zreturn hr hn hd ⟨rfl, hg, hq⟩
theorem u_lreturn {n : Int} (hr : M.2.2.2.1 = some .long) (hd : decode M.2.1 pc = .ok (.lreturn, 1)) (hq : Q (gJ n) σ) : Up M d Q σ pc ls [gJ n] := fun hg => wg_lreturn hr hd ⟨rfl, hg, hq⟩
theorem u_getS {idx ci j x q : Nat} (hf : gFld M.1.cls idx ci j 3) (hk : gL[x]? = some (.inl ci)) (hs : (decide (j < gN ci) && gSf ci j) = true) (hr : gRef x j = (q : Int)) (hd : decode M.2.1 pc = .ok (.getfield idx, 3)) (hpc : pc + 3 = pc') (k : Up M d Q σ pc' ls (gR q :: st)) : Up M d Q σ pc ls (gR x :: st) := fun hg => by
  simp only [Bool.and_eq_true, decide_eq_true_eq] at hs
  exact wg_getR hf hk (hg.at hk hs.1 hs.2 hr) hd hpc (k hg)
theorem u_callV {M' : gM} {idx n d' x ci : Nat} {av st0 : List gV} {Q' : gV → gH → Prop} (hm : gMi M' n) (hlink : Cond.methodLink M.1.cls idx M'.1 ∈ gG) (hn : av.length = n) (hci : gCi ci M'.1.cls) (hk : gL[x]? = some (.inl ci)) (hst : st0 = av.reverse ++ gR x :: st) (hcat : gCat st ≤ 8) (hdd : d' + 1 ≤ d) (hd : decode M.2.1 pc = .ok (.invokevirtual idx, 3)) (hpc : pc + 3 = pc')
    (hM : Mt M' d' (gR x :: av) σ Q') (k : ∀ v σ', Q' v σ' → Up M d Q σ' pc' ls (gPush v st)) : Up M d Q σ pc ls st0 := fun hg =>
  wg_callV (mc := 1) (ms := 6) hm hlink hn hci hk hst hcat hdd hd hpc (hM hg) fun v L' σ' h => by
    obtain ⟨rfl, h2, h3⟩ := h
    exact k v σ' h3 h2
theorem u_callS {M' : gM} {idx n d' : Nat} {av st0 : List gV} {Q' : gV → gH → Prop} (hm : gMs M' n) (hstat : Cond.static M'.1 ∈ gG) (hlink : Cond.methodLink M.1.cls idx M'.1 ∈ gG) (hn : av.length = n) (hst : st0 = av.reverse ++ st) (hcat : gCat st ≤ 8) (hdd : d' + 1 ≤ d) (hd : decode M.2.1 pc = .ok (.invokestatic idx, 3)) (hpc : pc + 3 = pc')
    (hM : Mt M' d' av σ Q') (k : ∀ v σ', Q' v σ' → Up M d Q σ' pc' ls (gPush v st)) : Up M d Q σ pc ls st0 := fun hg =>
  wg_callS (mc := 1) (ms := 6) hm hstat hlink hn hst hcat hdd hd hpc (hM hg) fun v L' σ' h => by
    obtain ⟨rfl, h2, h3⟩ := h
    exact k v σ' h3 h2
theorem uv_getI {idx ci j x : Nat} {ji : Int} (hji : (j : Int) = ji) (hf : gFld M.1.cls idx ci j 0) (hk : gL[x]? = some (.inl ci)) (hd : decode M.2.1 pc = .ok (.getfield idx, 3)) (hpc : pc + 3 = pc') (k : Up M d Q σ pc' ls (gI (σ x ji) :: st)) : Up M d Q σ pc ls (gR x :: st) := by subst hji; exact u_getI hf hk hd hpc k
theorem uv_getZ {idx ci j x : Nat} {ji : Int} (hji : (j : Int) = ji) (hf : gFld M.1.cls idx ci j 2) (hk : gL[x]? = some (.inl ci)) (hd : decode M.2.1 pc = .ok (.getfield idx, 3)) (hpc : pc + 3 = pc') (k : Up M d Q σ pc' ls (gI (σ x ji) :: st)) : Up M d Q σ pc ls (gR x :: st) := by subst hji; exact u_getZ hf hk hd hpc k
theorem uv_getJ {idx ci j x : Nat} {ji : Int} (hji : (j : Int) = ji) (hf : gFld M.1.cls idx ci j 1) (hk : gL[x]? = some (.inl ci)) (hd : decode M.2.1 pc = .ok (.getfield idx, 3)) (hpc : pc + 3 = pc') (k : Up M d Q σ pc' ls (gJ (σ x ji) :: st)) : Up M d Q σ pc ls (gR x :: st) := by subst hji; exact u_getJ hf hk hd hpc k
theorem uv_putI {idx ci j x : Nat} {n ji : Int} (hji : (j : Int) = ji) (hf : gPut M.1.cls idx ci j .int false) (hk : gL[x]? = some (.inl ci)) (hns : gSf ci j = false) (hd : decode M.2.1 pc = .ok (.putfield idx, 3)) (hpc : pc + 3 = pc') (k : Up M d Q (gUp σ x ji n) pc' ls st) : Up M d Q σ pc ls (gI n :: gR x :: st) := by subst hji; exact u_putI hf hk hd hpc hns k
theorem uv_if_eqB {P : Prop} [Decidable P] {off : Int} {t : Nat} (hd : decode M.2.1 pc = .ok (.ifCond .eq off, 3)) (ht : (pc : Int) + off = (t : Int)) (hpc : pc + 3 = pc') (k1 : ¬ P → Up M d Q σ t ls st) (k2 : P → Up M d Q σ pc' ls st) : Up M d Q σ pc ls (gI (gb P) :: st) := u_if_eq hd ht hpc (fun h => k1 (gb_eq0.mp h)) (fun h => k2 (gb_ne0.mp h))
theorem uv_if_neB {P : Prop} [Decidable P] {off : Int} {t : Nat} (hd : decode M.2.1 pc = .ok (.ifCond .ne off, 3)) (ht : (pc : Int) + off = (t : Int)) (hpc : pc + 3 = pc') (k1 : P → Up M d Q σ t ls st) (k2 : ¬ P → Up M d Q σ pc' ls st) : Up M d Q σ pc ls (gI (gb P) :: st) := u_if_ne hd ht hpc (fun h => k1 (gb_ne0.mp h)) (fun h => k2 (gb_eq0.mp h))
theorem uv_callVE {M' : gM} {idx n d' x ci : Nat} {av st0 : List gV} {v1 : gV} {σ1 : gH} (hm : gMi M' n) (hlink : Cond.methodLink M.1.cls idx M'.1 ∈ gG) (hn : av.length = n) (hci : gCi ci M'.1.cls) (hk : gL[x]? = some (.inl ci)) (hst : st0 = av.reverse ++ gR x :: st) (hcat : gCat st ≤ 8) (hdd : d' + 1 ≤ d) (hd : decode M.2.1 pc = .ok (.invokevirtual idx, 3)) (hpc : pc + 3 = pc') (hpu : gPush v1 st = st')
    (hM : Mt M' d' (gR x :: av) σ (rE v1 σ1)) (k : Up M d Q σ1 pc' ls st') : Up M d Q σ pc ls st0 :=
  u_callV hm hlink hn hci hk hst hcat hdd hd hpc hM fun v σ' h => by obtain ⟨rfl, rfl⟩ := h; rw [hpu]; exact k
theorem uv_callSE {M' : gM} {idx n d' : Nat} {av st0 : List gV} {v1 : gV} {σ1 : gH} (hm : gMs M' n) (hstat : Cond.static M'.1 ∈ gG) (hlink : Cond.methodLink M.1.cls idx M'.1 ∈ gG) (hn : av.length = n) (hst : st0 = av.reverse ++ st) (hcat : gCat st ≤ 8) (hdd : d' + 1 ≤ d) (hd : decode M.2.1 pc = .ok (.invokestatic idx, 3)) (hpc : pc + 3 = pc') (hpu : gPush v1 st = st')
    (hM : Mt M' d' av σ (rE v1 σ1)) (k : Up M d Q σ1 pc' ls st') : Up M d Q σ pc ls st0 :=
  u_callS hm hstat hlink hn hst hcat hdd hd hpc hM fun v σ' h => by obtain ⟨rfl, rfl⟩ := h; rw [hpu]; exact k
theorem uv_ireturn {n : Int} (hr : M.2.2.2.1 = some .int) (hd : decode M.2.1 pc = .ok (.ireturn, 1)) (hq : Q (gI n) σ) : Up M d Q σ pc ls [gI n] := u_ireturn hr hd hq
theorem uv_zretB {P : Prop} [Decidable P] (hr : M.2.2.2.1 = some .boolean) (hd : decode M.2.1 pc = .ok (.ireturn, 1)) (hq : Q (gI (gb P)) σ) : Up M d Q σ pc ls [gI (gb P)] := u_zreturn hr (gb_01 P) hd hq
end U0
theorem Up.heq {M : gM} {d : Nat} {Q : gV → gH → Prop} {σ σ' : gH} {pc : Nat} {ls st : List gV} (e : σ = σ') (k : Up M d Q σ' pc ls st) : Up M d Q σ pc ls st := by rw [e]; exact k
theorem Up.lose {M : gM} {d : Nat} {Q : gV → gH → Prop} {σ : gH} {pc : Nat} {ls ls' st : List gV} (h : loseP ls' ls) (k : Up M d Q σ pc ls' st) : Up M d Q σ pc ls st := fun hg => gWp.lose (loseP_len h) (loseP_at h) (k hg)
theorem Up.stI {M : gM} {d : Nat} {Q : gV → gH → Prop} {σ : gH} {pc : Nat} {ls st : List gV} {x y : Int} (e : x = y) (k : Up M d Q σ pc ls (gI y :: st)) : Up M d Q σ pc ls (gI x :: st) := by rw [e]; exact k
theorem gMx.mono {M : gM} {d mc ms : Nat} {av : List gV} {L : List gK} {σ : gH} {Q Q' : gV → List gK → gH → Prop} {T T' : List gK → gH → Prop} (h : gMx M d mc ms av L σ Q T) (hq : ∀ v L' σ', Q v L' σ' → Q' v L' σ') (ht : ∀ L' σ', T L' σ' → T' L' σ') : gMx M d mc ms av L σ Q' T' := by
  intro l hfl D adr b sz p e ha hc hk s m args below hf hn hP hK
  obtain ⟨t, o, a1, a2, a3, q⟩ := h l hfl D adr b sz p e ha hc hk s m args below hf hn hP hK
  refine ⟨t, o, a1, a2, a3, ?_⟩
  rcases q with ⟨⟨⟨v, h1, w, L', σ', adr', h2, h3, h4⟩, h5⟩, h6⟩ | ⟨q, h1, E, ce, LL, ⟨e1, ⟨w, L', σ', adr', h2, h3, h4⟩, e3⟩, rest⟩
  · exact Or.inl ⟨⟨⟨v, h1, w, L', σ', adr', h2, hq _ _ _ h3, h4⟩, h5⟩, h6⟩
  · exact Or.inr ⟨q, h1, E, ce, LL, ⟨e1, ⟨w, L', σ', adr', h2, ⟨h3.1, ht _ _ h3.2⟩, h4⟩, e3⟩, rest⟩
theorem gMtW.mono {M : gM} {hh : List (Nat × Nat × Nat × Nat)} {d mc ms : Nat} {av : List gV} {L : List gK} {σ : gH} {Q Q' : gV → List gK → gH → Prop} (h : gMtW M hh d mc ms av L σ Q) (hq : ∀ v L' σ', Q v L' σ' → Q' v L' σ') : gMtW M hh d mc ms av L σ Q' := by
  intro l hfl D adr b sz p e ha hc hk s m args below hf hn hP hK
  obtain ⟨t, o, a1, a2, a3, ⟨⟨⟨v, h1, w, L', σ', adr', h2, h3, h4⟩, h5⟩, h6⟩⟩ := h l hfl D adr b sz p e ha hc hk s m args below hf hn hP hK
  exact ⟨t, o, a1, a2, a3, ⟨⟨⟨v, h1, w, L', σ', adr', h2, hq _ _ _ h3, h4⟩, h5⟩, h6⟩⟩
/-- a throwing method's contract out of its walk -/
theorem gMx_walk {M : gM} {as ls : List gV} {σ : gH} {pcT : Nat} {P : Prop} {v0 : gV} {J : gH → Prop} {k : Int} (hp : plainName M.1.cls = true ∧ M.1.cls ≠ "GiftRegisterLaw") (hX : M.2.2.2.2 = none) (hsite : tx_Site M pcT) (hv0 : ∀ k : Nat, v0 ≠ gX (k + 9)) (hlen : (gFlat (gR 0 :: as)).length ≤ M.2.2.1) (hls : gEnt (gR 0 :: as) M.2.2.1 = ls) (hg : gGr σ) (hk : (k = 0 ∧ P) ∨ (k = 1 ∧ ¬ P))
    (h : Up M 30 (fun v σ' => (P ∧ v = v0 ∧ J σ') ∨ (¬ P ∧ v = gX (pcT + 9) ∧ J σ')) σ 0 ls []) : gMx M 30 1 6 (gR 0 :: as) gL σ (fun v L' σ1 => k = 0 ∧ L' = gL ∧ v = v0 ∧ gGr σ1 ∧ J σ1) (fun L' σ1 => k = 1 ∧ L' = gL ∧ gGr σ1 ∧ J σ1) := by
  have x := gMx.ofX (d := 30) (mc := 1) (ms := 6) (Q := fun v L' σ' => L' = gL ∧ gGr σ' ∧ ((P ∧ v = v0 ∧ J σ') ∨ (¬ P ∧ v = gX (pcT + 9) ∧ J σ'))) hp hX hsite ex_ini (fun k L σ q => by
    rcases q.2.2 with q | q
    · exact absurd q.2.1.symm (hv0 k)
    · have e : k + 9 = pcT + 9 := by
        have := q.2.1
        injection this with a
        injection a with a
        injection a
      omega) (by decide) hlen (by rw [hls]; exact h hg)
  refine x.mono (fun v L' σ' q => ?_) (fun L' σ' q => ?_)
  · obtain ⟨⟨e, g, q | q⟩, n⟩ := q
    · refine ⟨?_, e, q.2.1, g, q.2.2⟩
      rcases hk with k | k
      · exact k.1
      · exact absurd q.1 k.2
    · exact absurd q.2.1 (n pcT)
  · obtain ⟨e, g, q | q⟩ := q
    · exact absurd q.2.1.symm (hv0 pcT)
    · refine ⟨?_, e, g, q.2.2⟩
      rcases hk with k | k
      · exact absurd k.2 q.1
      · exact k.1
/-- a query that may throw -/
theorem CX_query {con : Int → gV} {MW MM : gM} {hh : List (Nat × Nat × Nat × Nat)} {as : List gV} (T : gH → Prop) (P : gH → Int)
    (h1 : ∀ σ (k : Int), gGr σ → Inv σ → ((k = 0 ∧ T σ) ∨ (k = 1 ∧ ¬ T σ)) → gMtW MW hh 31 1 6 (gR 0 :: (as ++ [gR 208])) gL σ (fun v L' σ1 => L' = gL ∧ v = gI k ∧ (k = 0 → σ1 208 0 = P σ) ∧ ∃ σ0, (gGr σ0 ∧ QC σ σ0) ∧ (σ1 = σ0 ∨ σ1 = gUp σ0 208 0 (P σ))))
    (h2 : ∀ σ, Inv σ → Mt MM 30 (gR 133 :: as) σ (fun v σ' => ((T σ ∧ v = con (P σ) ∧ σ' 133 0 = 0) ∨ (¬ T σ ∧ v = con 0 ∧ σ' 133 0 = 1)) ∧ QM σ σ' ∧ σ' 208 = σ 208))
    (hT : ∀ σ, T (hm σ) = T σ) (hP : ∀ σ, P (hm σ) = P σ) (hT8 : ∀ σ z, T (gUp σ 208 0 z) = T σ) (hP8 : ∀ σ z, P (gUp σ 208 0 z) = P σ)
    (hgr : ∀ σ, gGr σ → ∀ z, gGr (gUp σ 208 0 z)) : CX Inv con MW hh MM as := by
  intro σ hg hI
  obtain ⟨k, hk⟩ : ∃ k : Int, (k = 0 ∧ T σ) ∨ (k = 1 ∧ ¬ T σ) := by
    by_cases h : T σ
    · exact ⟨0, Or.inl ⟨rfl, h⟩⟩
    · exact ⟨1, Or.inr ⟨rfl, h⟩⟩
  refine ⟨k, P σ, fun σ1 => (gGr σ1 ∧ Inv σ1 ∧ T σ1 = T σ ∧ P σ1 = P σ), by rcases hk with h | h; exact Or.inl h.1; exact Or.inr h.1, ?_, fun σ1 q => ?_⟩
  · refine gMtW.mono (h1 σ k hg hI hk) fun v L' σ1 q => ⟨q.1, q.2.1, q.2.2.1, ?_⟩
    obtain ⟨σ0, ⟨g0, q0⟩, e⟩ := q.2.2.2
    have eT : T σ0 = T σ := by rw [← hT σ0, q0.1, hT σ]
    have eP : P σ0 = P σ := by rw [← hP σ0, q0.1, hP σ]
    have i0 := q0.inv hI
    rcases e with e | e
    · rw [e]; exact ⟨g0, i0, eT, eP⟩
    · rw [e]; exact ⟨hgr σ0 g0 _, i0, (hT8 σ0 _).trans eT, (hP8 σ0 _).trans eP⟩
  · obtain ⟨g1, i1, eT, eP⟩ := q
    refine gMt.mono (h2 σ1 i1 g1) fun v L' σ2 r => ?_
    obtain ⟨e, g2, r, qm, r8⟩ := r
    refine ⟨e, ?_, g2, qm.inv i1, ?_, congrFun r8 0⟩
    · rcases r with r | r
      · exact ⟨P σ1, r.2.1, fun _ => eP⟩
      · refine ⟨0, r.2.1, fun h => ?_⟩
        rcases hk with k | k
        · exact absurd (eT.mpr k.2) r.1
        · omega
    · rcases hk with k | k
      · rcases r with r | r
        · rw [r.2.2, k.1]
        · exact absurd (eT.mpr k.2) r.1
      · rcases r with r | r
        · exact absurd (eT.mp r.1) k.2
        · rw [r.2.2, k.1]
theorem q_refuse (σ : gH) : Mt mX12_refuse 0 [gR 133] σ (rE (gI 0) (gUp σ 133 0 1)) := by
  refine Mt.walk (ls := [gR 133]) pn_X12 rfl (fun _ _ h => by cases h.1) (Nat.le_of_ble_eq_true rfl) rfl ?_
  refine w_aload_n (pc' := 1) (i := 0) (by rfl) (by rfl) dX12_refuse_0 rfl ?_
  refine w_iconst (pc' := 2) (by decide) dX12_refuse_1 rfl ?_
  refine v_putI (pc' := 5) (ji := 0) rfl fp_X12_244 kd_133 sf_X12_0 dX12_refuse_2 rfl ?_
  refine w_iconst (pc' := 6) (by decide) dX12_refuse_5 rfl ?_
  refine v_ireturn rfl dX12_refuse_6 ?_
  exact ⟨rfl, rfl⟩
theorem pn_GR : plainName "GiftRegister" = true ∧ ("GiftRegister" : String) ≠ "GiftRegisterLaw" := by decide +kernel
theorem gGr_208 {σ : gH} (h : gGr σ) (z : Int) : gGr (gUp σ 208 0 z) := h.up (x := 208) (i := 0) kd_208 (by decide) rfl
theorem site_octet : tx_Site mX11_octet 21 := ⟨185, 187, 189, "no such byte of OUT", ex_cn, by decide, ex_atm, ex_ot, dX11_octet_21, dX11_octet_24, Or.inl ⟨dX11_octet_25, dX11_octet_27, dX11_octet_30⟩⟩
theorem xu_octet {σ0 : gH} (hI : Inv σ0) (k : Int) : Up mX11_octet 30 (fun v σ' => ((0 ≤ k ∧ k < σ0 0 3) ∧ v = gI (σ0 2 k) ∧ QC σ0 σ') ∨ (¬ (0 ≤ k ∧ k < σ0 0 3) ∧ v = gX (21 + 9) ∧ QC σ0 σ')) σ0 0 [gR 0, gI k] [] := by
  have ho := hI.f.outs.2.2.1
  refine u_iload_n (pc' := 1) (i := 1) (by rfl) (by rfl) dX11_octet_0 rfl ?_
  refine u_if_lt (pc' := 4) (t := 21) dX11_octet_1 rfl rfl (fun c_1 => ?_) (fun c_1 => ?_)
  · skip
    refine u_throw (i := 185) dX11_octet_21 ?_
    exact Or.inr ⟨by omega, rfl, QC.refl hI⟩
  · skip
    refine u_iload_n (pc' := 5) (i := 1) (by rfl) (by rfl) dX11_octet_4 rfl ?_
    refine u_aload_n (pc' := 6) (i := 0) (by rfl) (by rfl) dX11_octet_5 rfl ?_
    refine uv_getI (pc' := 9) (ji := 3) rfl fg_X11_182 kd_0 dX11_octet_6 rfl ?_
    refine u_icmp_ge (pc' := 12) (t := 21) dX11_octet_9 rfl rfl (fun c_9 => ?_) (fun c_9 => ?_)
    · skip
      refine u_throw (i := 185) dX11_octet_21 ?_
      exact Or.inr ⟨by omega, rfl, QC.refl hI⟩
    · skip
      refine u_iload_n (pc' := 13) (i := 1) (by rfl) (by rfl) dX11_octet_12 rfl ?_
      refine u_aload_n (pc' := 14) (i := 0) (by rfl) (by rfl) dX11_octet_13 rfl ?_
      refine u_getS (pc' := 17) (q := 2) fg_X11_15 kd_0 sf_X11_2 gr_0_2 dX11_octet_14 rfl ?_
      refine u_alen (pc' := 18) kd_2 (by decide) (by decide) dX11_octet_17 rfl ?_
      refine u_icmp_lt (pc' := 21) (t := 31) dX11_octet_18 rfl rfl (fun c_18 => ?_) (fun c_18 => ?_)
      · skip
        refine u_aload_n (pc' := 32) (i := 0) (by rfl) (by rfl) dX11_octet_31 rfl ?_
        refine u_getS (pc' := 35) (q := 2) fg_X11_15 kd_0 sf_X11_2 gr_0_2 dX11_octet_32 rfl ?_
        refine u_iload_n (pc' := 36) (i := 1) (by rfl) (by rfl) dX11_octet_35 rfl ?_
        refine u_iald (pc' := 37) kd_2 (by omega) (by omega) dX11_octet_36 rfl ?_
        refine uv_ireturn rfl dX11_octet_37 ?_
        exact Or.inl ⟨by omega, rfl, QC.refl hI⟩
      · skip
        refine u_throw (i := 185) dX11_octet_21 ?_
        exact Or.inr ⟨by omega, rfl, QC.refl hI⟩
theorem m_octet {σ0 : gH} (hI : Inv σ0) (k : Int) : Mt mX12_octet 30 [gR 133, gI k] σ0 (fun v σ' => (((0 ≤ k ∧ k < σ0 0 3) ∧ v = gI (σ0 2 k) ∧ σ' 133 0 = 0) ∨ (¬ (0 ≤ k ∧ k < σ0 0 3) ∧ v = gI 0 ∧ σ' 133 0 = 1)) ∧ QM σ0 σ' ∧ σ' 208 = σ0 208) := by
  refine Mt.walk (ls := [gR 133, gI k]) pn_X12 rfl (fun _ _ h => by rcases h.1 with h | h <;> cases h.2.1) (Nat.le_of_ble_eq_true rfl) rfl ?_
  have ho := hI.f.outs.2.2.1
  have ho1 := hI.f.outs.1
  refine w_iload_n (pc' := 1) (i := 1) (by rfl) (by rfl) dX12_octet_0 rfl ?_
  refine w_if_lt (pc' := 4) (t := 12) dX12_octet_1 rfl rfl (fun c_1 => ?_) (fun c_1 => ?_)
  · skip
    refine w_aload_n (pc' := 13) (i := 0) (by rfl) (by rfl) dX12_octet_12 rfl ?_
    refine v_callVE (pc' := 16) (st' := [gI 0]) (d' := 0) (av := []) mi_mX12_refuse lk_X12_368 rfl ci_X12 kd_133 rfl (Nat.le_of_ble_eq_true rfl) (Nat.le_of_ble_eq_true rfl) dX12_octet_13 rfl rfl (q_refuse σ0) ?_
    refine v_ireturn rfl dX12_octet_16 ?_
    exact ⟨Or.inr ⟨by omega, rfl, rfl⟩, (QM.up (QM.refl hI) (by decide) (fun h => h)), rfl⟩
  · skip
    refine w_iload_n (pc' := 5) (i := 1) (by rfl) (by rfl) dX12_octet_4 rfl ?_
    refine w_aload_n (pc' := 6) (i := 0) (by rfl) (by rfl) dX12_octet_5 rfl ?_
    refine v_getI (pc' := 9) (ji := 51) rfl fg_X12_361 kd_133 dX12_octet_6 rfl ?_
    rw [hI.f51]
    refine w_icmp_lt (pc' := 12) (t := 17) dX12_octet_9 rfl rfl (fun c_9 => ?_) (fun c_9 => ?_)
    · skip
      refine w_aload_n (pc' := 18) (i := 0) (by rfl) (by rfl) dX12_octet_17 rfl ?_
      refine w_iconst (pc' := 19) (by decide) dX12_octet_18 rfl ?_
      refine v_putI (pc' := 22) (ji := 0) rfl fp_X12_244 kd_133 sf_X12_0 dX12_octet_19 rfl ?_
      refine w_aload_n (pc' := 23) (i := 0) (by rfl) (by rfl) dX12_octet_22 rfl ?_
      refine w_getS (pc' := 26) (q := 171) fg_X12_133 kd_133 sf_X12_50 gr_133_50 dX12_octet_23 rfl ?_
      refine w_iload_n (pc' := 27) (i := 1) (by rfl) (by rfl) dX12_octet_26 rfl ?_
      refine w_iald (pc' := 28) kd_171 (by omega) (by omega) dX12_octet_27 rfl ?_
      show Wp _ _ _ _ _ _ [gI (σ0 171 k)]
      refine v_ireturn rfl dX12_octet_28 ?_
      exact ⟨Or.inl ⟨by omega, by rw [hI.f.outs.2.2.2 k (by omega) (by omega)], rfl⟩, (QM.up (QM.refl hI) (by decide) (fun h => h)), rfl⟩
    · skip
      refine w_aload_n (pc' := 13) (i := 0) (by rfl) (by rfl) dX12_octet_12 rfl ?_
      refine v_callVE (pc' := 16) (st' := [gI 0]) (d' := 0) (av := []) mi_mX12_refuse lk_X12_368 rfl ci_X12 kd_133 rfl (Nat.le_of_ble_eq_true rfl) (Nat.le_of_ble_eq_true rfl) dX12_octet_13 rfl rfl (q_refuse σ0) ?_
      refine v_ireturn rfl dX12_octet_16 ?_
      exact ⟨Or.inr ⟨by omega, rfl, rfl⟩, (QM.up (QM.refl hI) (by decide) (fun h => h)), rfl⟩
theorem cx_octet (k : Int) : CX Inv (fun y => gI y) mL_octet [(0, 9, 12, 13)] mX12_octet [gI k] := by
  refine CX_query (fun σ0 => 0 ≤ k ∧ k < σ0 0 3) (fun σ0 => σ0 2 k) (fun σ0 kk hg hI hk => ?_) (fun σ0 hI => m_octet hI k) (fun _ => rfl) (fun _ => rfl) (fun _ _ => rfl) (fun _ _ => rfl) (fun σ h z => gGr_208 h z)
  exact wr_octet (k := kk) (r := σ0 2 k) (J0 := fun σ1 => gGr σ1 ∧ QC σ0 σ1) (by rcases hk with h | h; exact Or.inl h.1; exact Or.inr h.1) (gMx_walk (M := mX11_octet) (P := 0 ≤ k ∧ k < σ0 0 3) (v0 := gI (σ0 2 k)) (J := fun σ1 => QC σ0 σ1) pn_GR rfl site_octet (fun _ h => by cases h) (Nat.le_of_ble_eq_true rfl) (show gEnt _ _ = [gR 0, gI k] from rfl) hg hk (xu_octet hI k))
