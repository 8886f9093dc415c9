/-! the layout behind the constructors, and the rows over it (written by wip/whole/gen/gen_w.py) -/
def gL : List gK := [.inl 11, .inr (0, 540), .inr (0, 5), .inl 8, .inr (0, 60), .inr (1, 60), .inl 9, .inr (0, 100), .inr (0, 100), .inr (0, 100), .inr (0, 100), .inr (0, 100), .inr (0, 100), .inr (0, 60), .inl 7, .inl 9, .inr (0, 200), .inr (0, 200), .inr (0, 200), .inr (0, 200), .inr (0, 200), .inr (0, 200), .inr (0, 200), .inr (0, 61), .inr (0, 200), .inr (0, 200), .inr (0, 60), .inr (1, 60), .inr (0, 60), .inr (0, 60), .inl 0, .inr (1, 60), .inr (0, 5), .inr (0, 5), .inl 9, .inr (0, 60), .inr (0, 60), .inr (0, 60), .inr (0, 60), .inr (0, 60), .inr (0, 60), .inl 2, .inr (0, 120), .inr (0, 120), .inr (0, 120), .inr (0, 120), .inr (2, 120), .inr (0, 120), .inr (0, 120), .inr (0, 120), .inr (0, 120), .inr (0, 120), .inr (0, 120), .inr (0, 200), .inr (0, 200), .inr (0, 200), .inr (0, 200), .inl 5, .inr (3, 6), .inl 4, .inr (0, 8), .inr (0, 10), .inr (0, 10), .inr (0, 120), .inr (0, 120), .inr (0, 120), .inl 10, .inr (0, 64), .inl 4, .inr (0, 8), .inr (0, 10), .inr (0, 10), .inr (0, 120), .inr (0, 120), .inr (0, 120), .inl 4, .inr (0, 8), .inr (0, 10), .inr (0, 10), .inr (0, 120), .inr (0, 120), .inr (0, 120), .inl 4, .inr (0, 8), .inr (0, 10), .inr (0, 10), .inr (0, 120), .inr (0, 120), .inr (0, 120), .inl 4, .inr (0, 8), .inr (0, 10), .inr (0, 10), .inr (0, 120), .inr (0, 120), .inr (0, 120), .inl 4, .inr (0, 8), .inr (0, 10), .inr (0, 10), .inr (0, 120), .inr (0, 120), .inr (0, 120), .inl 4, .inr (0, 8), .inr (0, 10), .inr (0, 10), .inr (0, 120), .inr (0, 120), .inr (0, 120), .inl 3, .inr (0, 14), .inl 6, .inr (0, 100), .inr (1, 100), .inr (0, 100), .inr (0, 100), .inr (0, 100), .inr (1, 200), .inr (1, 2), .inr (1, 2), .inr (0, 100), .inr (0, 120), .inr (0, 120), .inr (0, 100), .inl 1, .inr (0, 12), .inr (0, 60), .inr (0, 60), .inr (0, 200), .inr (0, 200), .inr (2, 200), .inr (0, 200), .inl 12, .inr (0, 540), .inr (0, 60), .inr (1, 60), .inr (0, 200), .inr (0, 200), .inr (0, 200), .inr (0, 200), .inr (0, 200), .inr (0, 200), .inr (0, 100), .inr (0, 100), .inr (0, 100), .inr (0, 100), .inr (0, 100), .inr (0, 60), .inr (0, 60), .inr (0, 60), .inr (0, 60), .inr (0, 60), .inr (0, 120), .inr (0, 120), .inr (0, 120), .inr (0, 120), .inr (0, 120), .inr (0, 120), .inr (0, 120), .inr (0, 120), .inr (0, 120), .inr (0, 120), .inr (2, 120), .inr (0, 200), .inr (0, 200), .inr (0, 200), .inr (0, 200), .inr (0, 3600), .inr (0, 60), .inr (2, 3600), .inr (0, 5), .inr (0, 60), .inr (0, 6), .inr (0, 6), .inr (0, 7), .inr (0, 56), .inr (0, 35), .inr (0, 70), .inr (0, 70), .inr (0, 1400), .inr (0, 1400), .inr (0, 1400), .inr (0, 5), .inr (0, 5), .inr (0, 5), .inr (0, 140), .inr (0, 14), .inr (2, 140), .inr (0, 12), .inr (0, 60), .inr (0, 60), .inr (0, 100), .inr (0, 100), .inr (0, 100), .inr (0, 100), .inr (1, 100), .inr (2, 12000), .inr (2, 120), .inr (0, 100), .inr (0, 120), .inr (0, 120), .inr (0, 100), .inr (0, 200), .inr (0, 200), .inr (0, 200), .inr (2, 200), .inr (1, 62), .inr (1, 1)]
def gRefT : List (List Int) := [[1, -1, 2, -1, -1, 3, 14, 30, 34, 41, 57, 110, 112, 125], [], [], [4, 5, -1, 6, 13, -1, -1, -1, -1], [], [], [7, 8, 9, 10, 11, 12, -1], [], [], [], [], [], [], [], [15, 22, 23, 24, 25, -1, -1, -1, 26, 27, 28, 29, -1], [16, 17, 18, 19, 20, 21, -1], [], [], [], [], [], [], [], [], [], [], [], [], [], [], [14, 31, 32, 33, -1, -1, -1, -1], [], [], [], [35, 36, 37, 38, 39, 40, -1], [], [], [], [], [], [], [42, 43, 44, 45, 46, 47, 48, 49, 50, 51, 52, -1, 53, 54, 55, 56, -1], [], [], [], [], [], [], [], [], [], [], [], [], [], [], [], [58, 59, -1, -1, 66, -1, -1, -1, -1, -1, -1, -1, -1, -1, -1, -1, 67, -1], [68, 75, 82, 89, 96, 103], [-1, -1, -1, -1, -1, -1, -1, -1, -1, 60, 61, 62, 63, 64, 65, -1], [], [], [], [], [], [], [-1, -1, -1, -1, -1, -1, -1], [], [-1, -1, -1, -1, -1, -1, -1, -1, -1, 69, 70, 71, 72, 73, 74, -1], [], [], [], [], [], [], [-1, -1, -1, -1, -1, -1, -1, -1, -1, 76, 77, 78, 79, 80, 81, -1], [], [], [], [], [], [], [-1, -1, -1, -1, -1, -1, -1, -1, -1, 83, 84, 85, 86, 87, 88, -1], [], [], [], [], [], [], [-1, -1, -1, -1, -1, -1, -1, -1, -1, 90, 91, 92, 93, 94, 95, -1], [], [], [], [], [], [], [-1, -1, -1, -1, -1, -1, -1, -1, -1, 97, 98, 99, 100, 101, 102, -1], [], [], [], [], [], [], [-1, -1, -1, -1, -1, -1, -1, -1, -1, 104, 105, 106, 107, 108, 109, -1], [], [], [], [], [], [], [3, 14, 30, 34, 41, 57, 111, -1, -1], [], [3, 14, 41, 113, 114, 115, 116, 117, -1, 118, 119, 120, 121, 122, 123, 124, -1], [], [], [], [], [], [], [], [], [], [], [], [], [110, 126, -1, 127, 128, -1, 129, 130, 131, 132, -1], [], [], [], [], [], [], [], [-1, 134, -1, -1, 135, 136, -1, -1, 137, 138, 139, 140, 141, 142, -1, 143, 144, 145, 146, 147, 148, 149, 150, 151, 152, -1, -1, 153, 154, 155, 156, 157, 158, 159, 160, 161, 162, 163, 164, 165, 166, 167, -1, -1, 168, 169, 170, -1, -1, -1, 171, -1, -1, 172, -1, -1, -1, -1, -1, -1, -1, -1, -1, -1, 173, 174, 175, 176, 177, 178, 179, 180, 181, 182, 183, 184, 185, -1, 186, -1, -1, -1, -1, -1, -1, 187, 188, -1, -1, 189, 190, 191, -1, -1, 192, 193, 194, 195, 196, -1, 197, 198, 199, 200, 201, 202, 203, 204, 205, 206, -1, -1, -1, -1, -1, 207], [], [], [], [], [], [], [], [], [], [], [], [], [], [], [], [], [], [], [], [], [], [], [], [], [], [], [], [], [], [], [], [], [], [], [], [], [], [], [], [], [], [], [], [], [], [], [], [], [], [], [], [], [], [], [], [], [], [], [], [], [], [], [], [], [], [], [], [], [], [], [], [], [], [], []]
def gRef (k : Nat) (j : Nat) : Int := (gRefT.getD k []).getD j (-1)
def gSf (ci j : Nat) : Bool := match vwCl[ci]? with
  | some r => (r.2.1 j).2.2.2
  | none => false
/-- a place that no method of the system writes any more -/
def gSt (kd : gK) (j : Nat) : Bool := match kd with
  | .inl ci => gSf ci j
  | .inr q => q.1 == 3
def gGr (σ : gH) : Prop := ∀ (k : Nat) (kd : gK), gL[k]? = some kd → ∀ j : Nat, j < gLen kd → gSt kd j = true → σ k j = gRef k j
theorem gGr.up {σ : gH} (h : gGr σ) {x : Nat} {kd : gK} {i v : Int} (hk : gL[x]? = some kd) (h0 : 0 ≤ i) (hs : gSt kd i.toNat = false) : gGr (gUp σ x i v) := by
  intro k kd2 h2 j hj hst
  unfold gUp gUr
  by_cases e : k = x
  · subst e
    rw [hk] at h2
    cases h2
    rw [if_pos rfl]
    by_cases e2 : (j : Int) = i
    · subst e2
      rw [Int.toNat_natCast, hst] at hs
      cases hs
    · rw [if_neg e2]
      exact h k _ hk j hj hst
  · rw [if_neg e]
    exact h k kd2 h2 j hj hst
def Wp (M : gM) (d : Nat) (Q : gV → gH → Prop) (σ : gH) (pc : Nat) (ls st : List gV) : Prop := gGr σ → gWp M d 0 0 (fun v L' σ' => L' = gL ∧ gGr σ' ∧ Q v σ') gL σ pc ls st
def Mt (M : gM) (d : Nat) (av : List gV) (σ : gH) (Q : gV → gH → Prop) : Prop := gGr σ → gMt M d 0 0 av gL σ (fun v L' σ' => L' = gL ∧ gGr σ' ∧ Q v σ')
theorem gLen_gL : gL.length = 209 := by decide +kernel
section W0
variable {M : gM} {d : Nat} {Q : gV → gH → Prop} {σ : gH} {pc pc' : Nat} {ls ls' st : List gV}
theorem Wp.gr (k : gGr σ → Wp M d Q σ pc ls st) : Wp M d Q σ pc ls st := fun h => k h h
theorem Wp.mono {Q' : gV → gH → Prop} (h : ∀ v σ, Q v σ → Q' v σ) (k : Wp M d Q σ pc ls st) : Wp M d Q' σ pc ls st := fun hg => gWp.mono (fun v L σ q => ⟨q.1, q.2.1, h v σ q.2.2⟩) (k hg)
theorem Mt.mono {M : gM} {av : List gV} {Q' : gV → gH → Prop} (k : Mt M d av σ Q) (h : ∀ v σ, Q v σ → Q' v σ) : Mt M d av σ Q' := fun hg => gMt.mono (k hg) (fun v L σ q => ⟨q.1, q.2.1, h v σ q.2.2⟩)
theorem Mt.of {M : gM} {d : Nat} {av : List gV} {σ : gH} {Q : gV → gH → Prop} (hp : plainName M.1.cls = true ∧ M.1.cls ≠ "GiftRegisterLaw") (hX : M.2.2.2.2 = none) (hno : ∀ k σ, ¬ Q (gX (k + 9)) σ) (hlen : (gFlat av).length ≤ M.2.2.1) (k : Wp M d Q σ 0 (gEnt av M.2.2.1) []) : Mt M d av σ Q := fun hg => gMt.of hp hX (fun k L σ h => hno k σ h.2.2) hlen (k hg)
theorem w_iconst {n : Int} (hn : gi32 n) (hd : decode M.2.1 pc = .ok (.iconst n, 1)) (hpc : pc + 1 = pc') (k : Wp M d Q σ pc' ls (gI n :: st)) : Wp M d Q σ pc ls (st) := fun hg => wg_iconst hn hd hpc (k hg)
theorem w_bipush {n : Int} (hn : gi32 n) (hv : (Int8.ofInt n).toInt32 = Int32.ofInt n) (hd : decode M.2.1 pc = .ok (.bipush n, 2)) (hpc : pc + 2 = pc') (k : Wp M d Q σ pc' ls (gI n :: st)) : Wp M d Q σ pc ls (st) := fun hg => wg_bipush hn hv hd hpc (k hg)
theorem w_sipush {n : Int} (hn : gi32 n) (hv : (Int16.ofInt n).toInt32 = Int32.ofInt n) (hd : decode M.2.1 pc = .ok (.sipush n, 3)) (hpc : pc + 3 = pc') (k : Wp M d Q σ pc' ls (gI n :: st)) : Wp M d Q σ pc ls (st) := fun hg => wg_sipush hn hv hd hpc (k hg)
theorem w_ldc {n : Int} {i : Nat} (hn : gi32 n) (hc : Cond.constant M.1.cls i (Int32.ofInt n) ∈ gG) (hd : decode M.2.1 pc = .ok (.ldc i, 2)) (hpc : pc + 2 = pc') (k : Wp M d Q σ pc' ls (gI n :: st)) : Wp M d Q σ pc ls (st) := fun hg => wg_ldc hn hc hd hpc (k hg)
theorem w_lconst {n : Int} {f : Fin 2} (hn : gi64 n) (hv : Int64.ofNat (f : Nat) = Int64.ofInt n) (hd : decode M.2.1 pc = .ok (.lconst f, 1)) (hpc : pc + 1 = pc') (k : Wp M d Q σ pc' ls (gJ n :: st)) : Wp M d Q σ pc ls (st) := fun hg => wg_lconst hn hv hd hpc (k hg)
theorem w_ldc2 {n : Int} {i : Nat} (hn : gi64 n) (hc : Cond.constantLong M.1.cls i (Int64.ofInt n) ∈ gG) (hd : decode M.2.1 pc = .ok (.ldc2_w i, 3)) (hpc : pc + 3 = pc') (k : Wp M d Q σ pc' ls (gJ n :: st)) : Wp M d Q σ pc ls (st) := fun hg => wg_ldc2 hn hc hd hpc (k hg)
theorem w_iload {n : Int} {i : Nat} (hl0 : ls[i]? = some (gI n)) (hd : decode M.2.1 pc = .ok (.iload i, 2)) (hpc : pc + 2 = pc') (k : Wp M d Q σ pc' ls (gI n :: st)) : Wp M d Q σ pc ls (st) := fun hg => wg_iload hl0 hd hpc (k hg)
theorem w_iload_n {n : Int} {i : Nat} {f : Fin 4} (hi : (f : Nat) = i) (hl0 : ls[i]? = some (gI n)) (hd : decode M.2.1 pc = .ok (.iload_n f, 1)) (hpc : pc + 1 = pc') (k : Wp M d Q σ pc' ls (gI n :: st)) : Wp M d Q σ pc ls (st) := fun hg => wg_iload_n hi hl0 hd hpc (k hg)
theorem w_lload {n : Int} {i : Nat} (hl0 : ls[i]? = some (gJ n)) (hd : decode M.2.1 pc = .ok (.lload i, 2)) (hpc : pc + 2 = pc') (k : Wp M d Q σ pc' ls (gJ n :: st)) : Wp M d Q σ pc ls (st) := fun hg => wg_lload hl0 hd hpc (k hg)
theorem w_lload_n {n : Int} {i : Nat} {f : Fin 4} (hi : (f : Nat) = i) (hl0 : ls[i]? = some (gJ n)) (hd : decode M.2.1 pc = .ok (.lload_n f, 1)) (hpc : pc + 1 = pc') (k : Wp M d Q σ pc' ls (gJ n :: st)) : Wp M d Q σ pc ls (st) := fun hg => wg_lload_n hi hl0 hd hpc (k hg)
theorem w_aload {n : Nat} {i : Nat} (hl0 : ls[i]? = some (gR n)) (hd : decode M.2.1 pc = .ok (.aload i, 2)) (hpc : pc + 2 = pc') (k : Wp M d Q σ pc' ls (gR n :: st)) : Wp M d Q σ pc ls (st) := fun hg => wg_aload hl0 hd hpc (k hg)
theorem w_aload_n {n : Nat} {i : Nat} {f : Fin 4} (hi : (f : Nat) = i) (hl0 : ls[i]? = some (gR n)) (hd : decode M.2.1 pc = .ok (.aload_n f, 1)) (hpc : pc + 1 = pc') (k : Wp M d Q σ pc' ls (gR n :: st)) : Wp M d Q σ pc ls (st) := fun hg => wg_aload_n hi hl0 hd hpc (k hg)
theorem w_aloadX_n {n i : Nat} {f : Fin 4} (hi : (f : Nat) = i) (h2 : 2 ≤ n) (hl0 : ls[i]? = some (gX n)) (hd : decode M.2.1 pc = .ok (.aload_n f, 1)) (hpc : pc + 1 = pc') (k : Wp M d Q σ pc' ls (gX n :: st)) : Wp M d Q σ pc ls (st) := fun hg => wg_aloadX_n hi h2 hl0 hd hpc (k hg)
theorem w_iadd {x y : Int} (hd : decode M.2.1 pc = .ok (.iadd, 1)) (hpc : pc + 1 = pc') (k : Wp M d Q σ pc' ls (gI (w32 (x + y)) :: st)) : Wp M d Q σ pc ls (gI y :: gI x :: st) := fun hg => wg_iadd hd hpc (k hg)
theorem w_isub {x y : Int} (hd : decode M.2.1 pc = .ok (.isub, 1)) (hpc : pc + 1 = pc') (k : Wp M d Q σ pc' ls (gI (w32 (x - y)) :: st)) : Wp M d Q σ pc ls (gI y :: gI x :: st) := fun hg => wg_isub hd hpc (k hg)
theorem w_imul {x y : Int} (hd : decode M.2.1 pc = .ok (.imul, 1)) (hpc : pc + 1 = pc') (k : Wp M d Q σ pc' ls (gI (w32 (x * y)) :: st)) : Wp M d Q σ pc ls (gI y :: gI x :: st) := fun hg => wg_imul hd hpc (k hg)
theorem w_ladd {x y : Int} (hd : decode M.2.1 pc = .ok (.ladd, 1)) (hpc : pc + 1 = pc') (k : Wp M d Q σ pc' ls (gJ (w64 (x + y)) :: st)) : Wp M d Q σ pc ls (gJ y :: gJ x :: st) := fun hg => wg_ladd hd hpc (k hg)
theorem w_lsub {x y : Int} (hd : decode M.2.1 pc = .ok (.lsub, 1)) (hpc : pc + 1 = pc') (k : Wp M d Q σ pc' ls (gJ (w64 (x - y)) :: st)) : Wp M d Q σ pc ls (gJ y :: gJ x :: st) := fun hg => wg_lsub hd hpc (k hg)
theorem w_lmul {x y : Int} (hd : decode M.2.1 pc = .ok (.lmul, 1)) (hpc : pc + 1 = pc') (k : Wp M d Q σ pc' ls (gJ (w64 (x * y)) :: st)) : Wp M d Q σ pc ls (gJ y :: gJ x :: st) := fun hg => wg_lmul hd hpc (k hg)
theorem w_ineg {x : Int} (hd : decode M.2.1 pc = .ok (.ineg, 1)) (hpc : pc + 1 = pc') (k : Wp M d Q σ pc' ls (gI (w32 (-x)) :: st)) : Wp M d Q σ pc ls (gI x :: st) := fun hg => wg_ineg hd hpc (k hg)
theorem w_iand {x y : Int} (hd : decode M.2.1 pc = .ok (.iand, 1)) (hpc : pc + 1 = pc') (k : Wp M d Q σ pc' ls (gI (gB32 (fun a b => a &&& b) x y) :: st)) : Wp M d Q σ pc ls (gI y :: gI x :: st) := fun hg => wg_iand hd hpc (k hg)
theorem w_ior {x y : Int} (hd : decode M.2.1 pc = .ok (.ior, 1)) (hpc : pc + 1 = pc') (k : Wp M d Q σ pc' ls (gI (gB32 (fun a b => a ||| b) x y) :: st)) : Wp M d Q σ pc ls (gI y :: gI x :: st) := fun hg => wg_ior hd hpc (k hg)
theorem w_ixor {x y : Int} (hd : decode M.2.1 pc = .ok (.ixor, 1)) (hpc : pc + 1 = pc') (k : Wp M d Q σ pc' ls (gI (gB32 (fun a b => a ^^^ b) x y) :: st)) : Wp M d Q σ pc ls (gI y :: gI x :: st) := fun hg => wg_ixor hd hpc (k hg)
theorem w_land {x y : Int} (hd : decode M.2.1 pc = .ok (.land, 1)) (hpc : pc + 1 = pc') (k : Wp M d Q σ pc' ls (gJ (gB64 (fun a b => a &&& b) x y) :: st)) : Wp M d Q σ pc ls (gJ y :: gJ x :: st) := fun hg => wg_land hd hpc (k hg)
theorem w_lor {x y : Int} (hd : decode M.2.1 pc = .ok (.lor, 1)) (hpc : pc + 1 = pc') (k : Wp M d Q σ pc' ls (gJ (gB64 (fun a b => a ||| b) x y) :: st)) : Wp M d Q σ pc ls (gJ y :: gJ x :: st) := fun hg => wg_lor hd hpc (k hg)
theorem w_lxor {x y : Int} (hd : decode M.2.1 pc = .ok (.lxor, 1)) (hpc : pc + 1 = pc') (k : Wp M d Q σ pc' ls (gJ (gB64 (fun a b => a ^^^ b) x y) :: st)) : Wp M d Q σ pc ls (gJ y :: gJ x :: st) := fun hg => wg_lxor hd hpc (k hg)
theorem w_ishl {x y : Int} (hd : decode M.2.1 pc = .ok (.ishl, 1)) (hpc : pc + 1 = pc') (k : Wp M d Q σ pc' ls (gI (gB32 (fun a b => a <<< (b &&& 31)) x y) :: st)) : Wp M d Q σ pc ls (gI y :: gI x :: st) := fun hg => wg_ishl hd hpc (k hg)
theorem w_ishr {x y : Int} (hd : decode M.2.1 pc = .ok (.ishr, 1)) (hpc : pc + 1 = pc') (k : Wp M d Q σ pc' ls (gI (gB32 (fun a b => a >>> (b &&& 31)) x y) :: st)) : Wp M d Q σ pc ls (gI y :: gI x :: st) := fun hg => wg_ishr hd hpc (k hg)
theorem w_iushr {x y : Int} (hd : decode M.2.1 pc = .ok (.iushr, 1)) (hpc : pc + 1 = pc') (k : Wp M d Q σ pc' ls (gI (gB32 (fun a b => (a.toUInt32 >>> (b.toUInt32 &&& Int32.toUInt32 31)).toInt32) x y) :: st)) : Wp M d Q σ pc ls (gI y :: gI x :: st) := fun hg => wg_iushr hd hpc (k hg)
theorem w_lshl {x y : Int} (hd : decode M.2.1 pc = .ok (.lshl, 1)) (hpc : pc + 1 = pc') (k : Wp M d Q σ pc' ls (gJ (gS64 (fun a b => a <<< b) x y) :: st)) : Wp M d Q σ pc ls (gI y :: gJ x :: st) := fun hg => wg_lshl hd hpc (k hg)
theorem w_lshr {x y : Int} (hd : decode M.2.1 pc = .ok (.lshr, 1)) (hpc : pc + 1 = pc') (k : Wp M d Q σ pc' ls (gJ (gS64 (fun a b => a >>> b) x y) :: st)) : Wp M d Q σ pc ls (gI y :: gJ x :: st) := fun hg => wg_lshr hd hpc (k hg)
theorem w_lushr {x y : Int} (hd : decode M.2.1 pc = .ok (.lushr, 1)) (hpc : pc + 1 = pc') (k : Wp M d Q σ pc' ls (gJ (gS64U x y) :: st)) : Wp M d Q σ pc ls (gI y :: gJ x :: st) := fun hg => wg_lushr hd hpc (k hg)
theorem w_idiv {x y : Int} (hy : y ≠ 0) (hd : decode M.2.1 pc = .ok (.idiv, 1)) (hpc : pc + 1 = pc') (k : Wp M d Q σ pc' ls (gI (w32 (x.tdiv y)) :: st)) : Wp M d Q σ pc ls (gI y :: gI x :: st) := fun hg => wg_idiv hy hd hpc (k hg)
theorem w_irem {x y : Int} (hy : y ≠ 0) (hd : decode M.2.1 pc = .ok (.irem, 1)) (hpc : pc + 1 = pc') (k : Wp M d Q σ pc' ls (gI (w32 (x.tmod y)) :: st)) : Wp M d Q σ pc ls (gI y :: gI x :: st) := fun hg => wg_irem hy hd hpc (k hg)
theorem w_ldiv {x y : Int} (hy : y ≠ 0) (hd : decode M.2.1 pc = .ok (.ldiv, 1)) (hpc : pc + 1 = pc') (k : Wp M d Q σ pc' ls (gJ (w64 (x.tdiv y)) :: st)) : Wp M d Q σ pc ls (gJ y :: gJ x :: st) := fun hg => wg_ldiv hy hd hpc (k hg)
theorem w_lrem {x y : Int} (hy : y ≠ 0) (hd : decode M.2.1 pc = .ok (.lrem, 1)) (hpc : pc + 1 = pc') (k : Wp M d Q σ pc' ls (gJ (w64 (x.tmod y)) :: st)) : Wp M d Q σ pc ls (gJ y :: gJ x :: st) := fun hg => wg_lrem hy hd hpc (k hg)
theorem w_i2l {x : Int} (hd : decode M.2.1 pc = .ok (.i2l, 1)) (hpc : pc + 1 = pc') (k : Wp M d Q σ pc' ls (gJ x :: st)) : Wp M d Q σ pc ls (gI x :: st) := fun hg => wg_i2l hd hpc (k hg)
theorem w_l2i {x : Int} (hd : decode M.2.1 pc = .ok (.l2i, 1)) (hpc : pc + 1 = pc') (k : Wp M d Q σ pc' ls (gI (w32 x) :: st)) : Wp M d Q σ pc ls (gJ x :: st) := fun hg => wg_l2i hd hpc (k hg)
theorem w_lcmp {x y : Int} (hd : decode M.2.1 pc = .ok (.lcmp, 1)) (hpc : pc + 1 = pc') (k : Wp M d Q σ pc' ls (gI (gCmp x y) :: st)) : Wp M d Q σ pc ls (gJ y :: gJ x :: st) := fun hg => wg_lcmp hd hpc (k hg)
theorem w_dup {x : Nat} (hd : decode M.2.1 pc = .ok (.dup, 1)) (hpc : pc + 1 = pc') (k : Wp M d Q σ pc' ls (gR x :: gR x :: st)) : Wp M d Q σ pc ls (gR x :: st) := fun hg => wg_dup hd hpc (k hg)
theorem w_dupI {x : Int} (hd : decode M.2.1 pc = .ok (.dup, 1)) (hpc : pc + 1 = pc') (k : Wp M d Q σ pc' ls (gI x :: gI x :: st)) : Wp M d Q σ pc ls (gI x :: st) := fun hg => wg_dupI hd hpc (k hg)
theorem w_pop {x : Int} (hd : decode M.2.1 pc = .ok (.pop, 1)) (hpc : pc + 1 = pc') (k : Wp M d Q σ pc' ls (st)) : Wp M d Q σ pc ls (gI x :: st) := fun hg => wg_pop hd hpc (k hg)
theorem w_popR {x : Nat} (hd : decode M.2.1 pc = .ok (.pop, 1)) (hpc : pc + 1 = pc') (k : Wp M d Q σ pc' ls (st)) : Wp M d Q σ pc ls (gR x :: st) := fun hg => wg_popR hd hpc (k hg)
theorem w_dup2 {x : Nat} {y : Int} (hd : decode M.2.1 pc = .ok (.dup2, 1)) (hpc : pc + 1 = pc') (k : Wp M d Q σ pc' ls (gI y :: gR x :: gI y :: gR x :: st)) : Wp M d Q σ pc ls (gI y :: gR x :: st) := fun hg => wg_dup2 hd hpc (k hg)
theorem w_dup2J {x : Int} (hd : decode M.2.1 pc = .ok (.dup2, 1)) (hpc : pc + 1 = pc') (k : Wp M d Q σ pc' ls (gJ x :: gJ x :: st)) : Wp M d Q σ pc ls (gJ x :: st) := fun hg => wg_dup2J hd hpc (k hg)
theorem w_dup_x1 {x : Nat} {y : Int} (hd : decode M.2.1 pc = .ok (.dup_x1, 1)) (hpc : pc + 1 = pc') (k : Wp M d Q σ pc' ls (gI y :: gR x :: gI y :: st)) : Wp M d Q σ pc ls (gI y :: gR x :: st) := fun hg => wg_dup_x1 hd hpc (k hg)
theorem w_goto {off : Int} (hd : decode M.2.1 pc = .ok (.goto off, 3)) (ht : (pc : Int) + off = (pc' : Int)) (k : Wp M d Q σ pc' ls st) : Wp M d Q σ pc ls st := fun hg => wg_goto hd ht (k hg)
theorem w_if_eq {x : Int} {off : Int} {t : Nat} (hd : decode M.2.1 pc = .ok (.ifCond .eq off, 3)) (ht : (pc : Int) + off = (t : Int)) (hpc : pc + 3 = pc') (k1 : x = 0 → Wp M d Q σ t ls st) (k2 : ¬ x = 0 → Wp M d Q σ pc' ls st) : Wp M d Q σ pc ls (gI x :: st) := fun hg => wg_if_eq hd ht hpc (fun h => k1 h hg) (fun h => k2 h hg)
theorem w_if_ne {x : Int} {off : Int} {t : Nat} (hd : decode M.2.1 pc = .ok (.ifCond .ne off, 3)) (ht : (pc : Int) + off = (t : Int)) (hpc : pc + 3 = pc') (k1 : ¬ x = 0 → Wp M d Q σ t ls st) (k2 : x = 0 → Wp M d Q σ pc' ls st) : Wp M d Q σ pc ls (gI x :: st) := fun hg => wg_if_ne hd ht hpc (fun h => k1 h hg) (fun h => k2 h hg)
theorem w_if_lt {x : Int} {off : Int} {t : Nat} (hd : decode M.2.1 pc = .ok (.ifCond .lt off, 3)) (ht : (pc : Int) + off = (t : Int)) (hpc : pc + 3 = pc') (k1 : x < 0 → Wp M d Q σ t ls st) (k2 : ¬ x < 0 → Wp M d Q σ pc' ls st) : Wp M d Q σ pc ls (gI x :: st) := fun hg => wg_if_lt hd ht hpc (fun h => k1 h hg) (fun h => k2 h hg)
theorem w_if_ge {x : Int} {off : Int} {t : Nat} (hd : decode M.2.1 pc = .ok (.ifCond .ge off, 3)) (ht : (pc : Int) + off = (t : Int)) (hpc : pc + 3 = pc') (k1 : 0 ≤ x → Wp M d Q σ t ls st) (k2 : ¬ 0 ≤ x → Wp M d Q σ pc' ls st) : Wp M d Q σ pc ls (gI x :: st) := fun hg => wg_if_ge hd ht hpc (fun h => k1 h hg) (fun h => k2 h hg)
theorem w_if_gt {x : Int} {off : Int} {t : Nat} (hd : decode M.2.1 pc = .ok (.ifCond .gt off, 3)) (ht : (pc : Int) + off = (t : Int)) (hpc : pc + 3 = pc') (k1 : 0 < x → Wp M d Q σ t ls st) (k2 : ¬ 0 < x → Wp M d Q σ pc' ls st) : Wp M d Q σ pc ls (gI x :: st) := fun hg => wg_if_gt hd ht hpc (fun h => k1 h hg) (fun h => k2 h hg)
theorem w_if_le {x : Int} {off : Int} {t : Nat} (hd : decode M.2.1 pc = .ok (.ifCond .le off, 3)) (ht : (pc : Int) + off = (t : Int)) (hpc : pc + 3 = pc') (k1 : x ≤ 0 → Wp M d Q σ t ls st) (k2 : ¬ x ≤ 0 → Wp M d Q σ pc' ls st) : Wp M d Q σ pc ls (gI x :: st) := fun hg => wg_if_le hd ht hpc (fun h => k1 h hg) (fun h => k2 h hg)
theorem w_icmp_eq {x y : Int} {off : Int} {t : Nat} (hd : decode M.2.1 pc = .ok (.if_icmp .eq off, 3)) (ht : (pc : Int) + off = (t : Int)) (hpc : pc + 3 = pc') (k1 : x = y → Wp M d Q σ t ls st) (k2 : ¬ x = y → Wp M d Q σ pc' ls st) : Wp M d Q σ pc ls (gI y :: gI x :: st) := fun hg => wg_icmp_eq hd ht hpc (fun h => k1 h hg) (fun h => k2 h hg)
theorem w_icmp_ne {x y : Int} {off : Int} {t : Nat} (hd : decode M.2.1 pc = .ok (.if_icmp .ne off, 3)) (ht : (pc : Int) + off = (t : Int)) (hpc : pc + 3 = pc') (k1 : ¬ x = y → Wp M d Q σ t ls st) (k2 : x = y → Wp M d Q σ pc' ls st) : Wp M d Q σ pc ls (gI y :: gI x :: st) := fun hg => wg_icmp_ne hd ht hpc (fun h => k1 h hg) (fun h => k2 h hg)
theorem w_icmp_lt {x y : Int} {off : Int} {t : Nat} (hd : decode M.2.1 pc = .ok (.if_icmp .lt off, 3)) (ht : (pc : Int) + off = (t : Int)) (hpc : pc + 3 = pc') (k1 : x < y → Wp M d Q σ t ls st) (k2 : ¬ x < y → Wp M d Q σ pc' ls st) : Wp M d Q σ pc ls (gI y :: gI x :: st) := fun hg => wg_icmp_lt hd ht hpc (fun h => k1 h hg) (fun h => k2 h hg)
theorem w_icmp_ge {x y : Int} {off : Int} {t : Nat} (hd : decode M.2.1 pc = .ok (.if_icmp .ge off, 3)) (ht : (pc : Int) + off = (t : Int)) (hpc : pc + 3 = pc') (k1 : y ≤ x → Wp M d Q σ t ls st) (k2 : ¬ y ≤ x → Wp M d Q σ pc' ls st) : Wp M d Q σ pc ls (gI y :: gI x :: st) := fun hg => wg_icmp_ge hd ht hpc (fun h => k1 h hg) (fun h => k2 h hg)
theorem w_icmp_gt {x y : Int} {off : Int} {t : Nat} (hd : decode M.2.1 pc = .ok (.if_icmp .gt off, 3)) (ht : (pc : Int) + off = (t : Int)) (hpc : pc + 3 = pc') (k1 : y < x → Wp M d Q σ t ls st) (k2 : ¬ y < x → Wp M d Q σ pc' ls st) : Wp M d Q σ pc ls (gI y :: gI x :: st) := fun hg => wg_icmp_gt hd ht hpc (fun h => k1 h hg) (fun h => k2 h hg)
theorem w_icmp_le {x y : Int} {off : Int} {t : Nat} (hd : decode M.2.1 pc = .ok (.if_icmp .le off, 3)) (ht : (pc : Int) + off = (t : Int)) (hpc : pc + 3 = pc') (k1 : x ≤ y → Wp M d Q σ t ls st) (k2 : ¬ x ≤ y → Wp M d Q σ pc' ls st) : Wp M d Q σ pc ls (gI y :: gI x :: st) := fun hg => wg_icmp_le hd ht hpc (fun h => k1 h hg) (fun h => k2 h hg)
theorem w_ifnull {x : Nat} {off : Int} (hd : decode M.2.1 pc = .ok (.ifnull off, 3)) (hpc : pc + 3 = pc') (k : Wp M d Q σ pc' ls st) : Wp M d Q σ pc ls (gR x :: st) := fun hg => wg_ifnull hd hpc (k hg)
theorem w_ifnonnull {x : Nat} {off : Int} (hd : decode M.2.1 pc = .ok (.ifnonnull off, 3)) (ht : (pc : Int) + off = (pc' : Int)) (k : Wp M d Q σ pc' ls st) : Wp M d Q σ pc ls (gR x :: st) := fun hg => wg_ifnonnull hd ht (k hg)
theorem w_tableIn {dflt lo hi : Int} {offs : Array Int} {len : Nat} {x off : Int} (hd : decode M.2.1 pc = .ok (.tableswitch dflt lo hi offs, len)) (h1 : lo ≤ x) (h2 : x ≤ hi) (ho : offs[(x - lo).toNat]? = some off) (ht : (pc : Int) + off = (pc' : Int)) (k : Wp M d Q σ pc' ls st) : Wp M d Q σ pc ls (gI x :: st) := fun hg => wg_tableIn hd h1 h2 ho ht (k hg)
theorem w_tableOut {dflt lo hi : Int} {offs : Array Int} {len : Nat} {x : Int} (hd : decode M.2.1 pc = .ok (.tableswitch dflt lo hi offs, len)) (h1 : x < lo ∨ hi < x) (ht : (pc : Int) + dflt = (pc' : Int)) (k : Wp M d Q σ pc' ls st) : Wp M d Q σ pc ls (gI x :: st) := fun hg => wg_tableOut hd h1 ht (k hg)
theorem w_lookup {dflt : Int} {ps : Array (Int × Int)} {len : Nat} {x off : Int} (hd : decode M.2.1 pc = .ok (.lookupswitch dflt ps, len)) (hp : (ps.toList.zip (ps.toList.drop 1)).all (fun (a, next) => a.1 < next.1) = true) (ho : Op.lookupswitch.offset ps.toList dflt x = off) (ht : (pc : Int) + off = (pc' : Int)) (k : Wp M d Q σ pc' ls st) : Wp M d Q σ pc ls (gI x :: st) := fun hg => wg_lookup hd hp ho ht (k hg)
theorem w_getI {idx ci j x : Nat} (hf : gFld M.1.cls idx ci j 0) (hk : gL[x]? = some (.inl ci)) (hd : decode M.2.1 pc = .ok (.getfield idx, 3)) (hpc : pc + 3 = pc') (k : Wp M d Q σ pc' ls (gI (σ x j) :: st)) : Wp M d Q σ pc ls (gR x :: st) := fun hg => wg_getI hf hk hd hpc (k hg)
theorem w_getZ {idx ci j x : Nat} (hf : gFld M.1.cls idx ci j 2) (hk : gL[x]? = some (.inl ci)) (hd : decode M.2.1 pc = .ok (.getfield idx, 3)) (hpc : pc + 3 = pc') (k : Wp M d Q σ pc' ls (gI (σ x j) :: st)) : Wp M d Q σ pc ls (gR x :: st) := fun hg => wg_getZ hf hk hd hpc (k hg)
theorem w_getJ {idx ci j x : Nat} (hf : gFld M.1.cls idx ci j 1) (hk : gL[x]? = some (.inl ci)) (hd : decode M.2.1 pc = .ok (.getfield idx, 3)) (hpc : pc + 3 = pc') (k : Wp M d Q σ pc' ls (gJ (σ x j) :: st)) : Wp M d Q σ pc ls (gR x :: st) := fun hg => wg_getJ hf hk hd hpc (k hg)
theorem w_getR {idx ci j x q : Nat} (hf : gFld M.1.cls idx ci j 3) (hk : gL[x]? = some (.inl ci)) (hq : σ x j = (q : Int)) (hd : decode M.2.1 pc = .ok (.getfield idx, 3)) (hpc : pc + 3 = pc') (k : Wp M d Q σ pc' ls (gR q :: st)) : Wp M d Q σ pc ls (gR x :: st) := fun hg => wg_getR hf hk hq hd hpc (k hg)
theorem w_putI {idx ci j x : Nat} {n : Int} (hf : gPut M.1.cls idx ci j .int false) (hk : gL[x]? = some (.inl ci)) (hd : decode M.2.1 pc = .ok (.putfield idx, 3)) (hpc : pc + 3 = pc') (hns : gSf ci j = false) (k : Wp M d Q (gUp σ x j n) pc' ls st) : Wp M d Q σ pc ls (gI n :: gR x :: st) := fun hg => wg_putI hf hk hd hpc (k (hg.up hk (by omega) (by rw [Int.toNat_natCast]; exact hns)))
theorem w_putZ {idx ci j x : Nat} {n : Int} (hf : gPut M.1.cls idx ci j .boolean false) (hn : n = 0 ∨ n = 1) (hk : gL[x]? = some (.inl ci)) (hd : decode M.2.1 pc = .ok (.putfield idx, 3)) (hpc : pc + 3 = pc') (hns : gSf ci j = false) (k : Wp M d Q (gUp σ x j n) pc' ls st) : Wp M d Q σ pc ls (gI n :: gR x :: st) := fun hg => wg_putZ hf hn hk hd hpc (k (hg.up hk (by omega) (by rw [Int.toNat_natCast]; exact hns)))
theorem w_putJ {idx ci j x : Nat} {n : Int} (hf : gPut M.1.cls idx ci j .long false) (hk : gL[x]? = some (.inl ci)) (hd : decode M.2.1 pc = .ok (.putfield idx, 3)) (hpc : pc + 3 = pc') (hns : gSf ci j = false) (k : Wp M d Q (gUp σ x j n) pc' ls st) : Wp M d Q σ pc ls (gJ n :: gR x :: st) := fun hg => wg_putJ hf hk hd hpc (k (hg.up hk (by omega) (by rw [Int.toNat_natCast]; exact hns)))
theorem w_iald {x n : Nat} {i : Int} (hk : gL[x]? = some (.inr (0, n))) (h0 : 0 ≤ i) (h1 : i < n) (hd : decode M.2.1 pc = .ok (.iaload, 1)) (hpc : pc + 1 = pc') (k : Wp M d Q σ pc' ls (gI (σ x i) :: st)) : Wp M d Q σ pc ls (gI i :: gR x :: st) := fun hg => wg_iald hk h0 h1 hd hpc (k hg)
theorem w_zald {x n : Nat} {i : Int} (hk : gL[x]? = some (.inr (2, n))) (h0 : 0 ≤ i) (h1 : i < n) (hd : decode M.2.1 pc = .ok (.baload, 1)) (hpc : pc + 1 = pc') (k : (σ x i = 0 ∨ σ x i = 1) → Wp M d Q σ pc' ls (gI (σ x i) :: st)) : Wp M d Q σ pc ls (gI i :: gR x :: st) := fun hg => wg_zald hk h0 h1 hd hpc (fun h => k h hg)
theorem w_lald {x n : Nat} {i : Int} (hk : gL[x]? = some (.inr (1, n))) (h0 : 0 ≤ i) (h1 : i < n) (hd : decode M.2.1 pc = .ok (.laload, 1)) (hpc : pc + 1 = pc') (k : Wp M d Q σ pc' ls (gJ (σ x i) :: st)) : Wp M d Q σ pc ls (gI i :: gR x :: st) := fun hg => wg_lald hk h0 h1 hd hpc (k hg)
theorem w_aald {x n q : Nat} {i : Int} (hk : gL[x]? = some (.inr (3, n))) (h0 : 0 ≤ i) (h1 : i < n) (hq : σ x i = (q : Int)) (hd : decode M.2.1 pc = .ok (.aaload, 1)) (hpc : pc + 1 = pc') (k : Wp M d Q σ pc' ls (gR q :: st)) : Wp M d Q σ pc ls (gI i :: gR x :: st) := fun hg => wg_aald hk h0 h1 hq hd hpc (k hg)
theorem w_iast {x n : Nat} {i v : Int} (hk : gL[x]? = some (.inr (0, n))) (h0 : 0 ≤ i) (h1 : i < n) (hd : decode M.2.1 pc = .ok (.iastore, 1)) (hpc : pc + 1 = pc') (k : Wp M d Q (gUp σ x i v) pc' ls st) : Wp M d Q σ pc ls (gI v :: gI i :: gR x :: st) := fun hg => wg_iast hk h0 h1 hd hpc (k (hg.up hk h0 rfl))
theorem w_zast {x n : Nat} {i v : Int} (hk : gL[x]? = some (.inr (2, n))) (hvb : v = 0 ∨ v = 1) (h0 : 0 ≤ i) (h1 : i < n) (hd : decode M.2.1 pc = .ok (.bastore, 1)) (hpc : pc + 1 = pc') (k : Wp M d Q (gUp σ x i v) pc' ls st) : Wp M d Q σ pc ls (gI v :: gI i :: gR x :: st) := fun hg => wg_zast hk hvb h0 h1 hd hpc (k (hg.up hk h0 rfl))
theorem w_last {x n : Nat} {i v : Int} (hk : gL[x]? = some (.inr (1, n))) (h0 : 0 ≤ i) (h1 : i < n) (hd : decode M.2.1 pc = .ok (.lastore, 1)) (hpc : pc + 1 = pc') (k : Wp M d Q (gUp σ x i v) pc' ls st) : Wp M d Q σ pc ls (gJ v :: gI i :: gR x :: st) := fun hg => wg_last hk h0 h1 hd hpc (k (hg.up hk h0 rfl))
theorem w_alen {x n tc : Nat} (hk : gL[x]? = some (.inr (tc, n))) (htc : tc < 4) (hn : gi32 n) (hd : decode M.2.1 pc = .ok (.arraylength, 1)) (hpc : pc + 1 = pc') (k : Wp M d Q σ pc' ls (gI n :: st)) : Wp M d Q σ pc ls (gR x :: st) := fun hg => wg_alen hk htc hn hd hpc (k hg)
theorem w_istore {i : Nat} {x : Int} (hi : i < M.2.2.1) (hls : gSt1 ls i (gI x) = ls') (hd : decode M.2.1 pc = .ok (.istore i, 2)) (hpc : pc + 2 = pc') (k : Wp M d Q σ pc' ls' st) : Wp M d Q σ pc ls (gI x :: st) := fun hg => wg_istore hi hls hd hpc (k hg)
theorem w_istore_n {i : Nat} {f : Fin 4} {x : Int} (hf : (f : Nat) = i) (hi : i < M.2.2.1) (hls : gSt1 ls i (gI x) = ls') (hd : decode M.2.1 pc = .ok (.istore_n f, 1)) (hpc : pc + 1 = pc') (k : Wp M d Q σ pc' ls' st) : Wp M d Q σ pc ls (gI x :: st) := fun hg => wg_istore_n hf hi hls hd hpc (k hg)
theorem w_astore {i : Nat} {x : Nat} (hi : i < M.2.2.1) (hls : gSt1 ls i (gR x) = ls') (hd : decode M.2.1 pc = .ok (.astore i, 2)) (hpc : pc + 2 = pc') (k : Wp M d Q σ pc' ls' st) : Wp M d Q σ pc ls (gR x :: st) := fun hg => wg_astore hi hls hd hpc (k hg)
theorem w_astore_n {i : Nat} {f : Fin 4} {x : Nat} (hf : (f : Nat) = i) (hi : i < M.2.2.1) (hls : gSt1 ls i (gR x) = ls') (hd : decode M.2.1 pc = .ok (.astore_n f, 1)) (hpc : pc + 1 = pc') (k : Wp M d Q σ pc' ls' st) : Wp M d Q σ pc ls (gR x :: st) := fun hg => wg_astore_n hf hi hls hd hpc (k hg)
theorem w_lstore {i : Nat} {x : Int} (hi : i + 1 < M.2.2.1) (hls : gSt2 ls i (gJ x) = ls') (hd : decode M.2.1 pc = .ok (.lstore i, 2)) (hpc : pc + 2 = pc') (k : Wp M d Q σ pc' ls' st) : Wp M d Q σ pc ls (gJ x :: st) := fun hg => wg_lstore hi hls hd hpc (k hg)
theorem w_lstore_n {i : Nat} {f : Fin 4} {x : Int} (hf : (f : Nat) = i) (hi : i + 1 < M.2.2.1) (hls : gSt2 ls i (gJ x) = ls') (hd : decode M.2.1 pc = .ok (.lstore_n f, 1)) (hpc : pc + 1 = pc') (k : Wp M d Q σ pc' ls' st) : Wp M d Q σ pc ls (gJ x :: st) := fun hg => wg_lstore_n hf hi hls hd hpc (k hg)
theorem w_iinc {i : Nat} {n x : Int} (hi : i < M.2.2.1) (hl0 : ls[i]? = some (gI x)) (hls : gSt1 ls i (gI (w32 (x + n))) = ls') (hd : decode M.2.1 pc = .ok (.iinc i n, 3)) (hpc : pc + 3 = pc') (k : Wp M d Q σ pc' ls' st) : Wp M d Q σ pc ls st := fun hg => wg_iinc hi hl0 hls hd hpc (k hg)
theorem w_ireturn {n : Int} (hr : M.2.2.2.1 = some .int) (hd : decode M.2.1 pc = .ok (.ireturn, 1)) (hq : Q (gI n) σ) : Wp M d Q σ pc ls [gI n] := fun hg => wg_ireturn hr hd ⟨rfl, hg, hq⟩
theorem w_zreturn {n : Int} (hr : M.2.2.2.1 = some .boolean) (hn : n = 0 ∨ n = 1) (hd : decode M.2.1 pc = .ok (.ireturn, 1)) (hq : Q (gI n) σ) : Wp M d Q σ pc ls [gI n] := fun hg => wg_zreturn hr hn hd ⟨rfl, hg, hq⟩
theorem w_lreturn {n : Int} (hr : M.2.2.2.1 = some .long) (hd : decode M.2.1 pc = .ok (.lreturn, 1)) (hq : Q (gJ n) σ) : Wp M d Q σ pc ls [gJ n] := fun hg => wg_lreturn hr hd ⟨rfl, hg, hq⟩
theorem w_areturn {q : Nat} {C : String} (hr : M.2.2.2.1 = some (.object C)) (hd : decode M.2.1 pc = .ok (.areturn, 1)) (hq : Q (gR q) σ) : Wp M d Q σ pc ls [gR q] := fun hg => wg_areturn hr hd ⟨rfl, hg, hq⟩
theorem w_return (hr : M.2.2.2.1 = none) (hd : decode M.2.1 pc = .ok (.return_, 1)) (hq : Q (gX 1) σ) : Wp M d Q σ pc ls [] := fun hg => wg_return hr hd ⟨rfl, hg, hq⟩
theorem w_null (hd : decode M.2.1 pc = .ok (.aconst_null, 1)) (hpc : pc + 1 = pc') (k : Wp M d Q σ pc' ls (gX 0 :: st)) : Wp M d Q σ pc ls st := fun hg => wg_null hd hpc (k hg)
theorem w_ifnullN {off : Int} (hd : decode M.2.1 pc = .ok (.ifnull off, 3)) (ht : (pc : Int) + off = (pc' : Int)) (k : Wp M d Q σ pc' ls st) : Wp M d Q σ pc ls (gX 0 :: st) := fun hg => wg_ifnullN hd ht (k hg)
theorem gGr.at {σ : gH} (h : gGr σ) {x j : Nat} {q : Int} {kd : gK} (hk : gL[x]? = some kd) (hj : j < gLen kd) (hs : gSt kd j = true) (hr : gRef x j = q) : σ x j = q := (h x kd hk j hj hs).trans hr
/-- a final field that holds a reference -/
theorem w_getS {idx ci j x q : Nat} (hf : gFld M.1.cls idx ci j 3) (hk : gL[x]? = some (.inl ci)) (hs : (decide (j < gN ci) && gSf ci j) = true) (hr : gRef x j = (q : Int)) (hd : decode M.2.1 pc = .ok (.getfield idx, 3)) (hpc : pc + 3 = pc') (k : Wp M d Q σ pc' ls (gR q :: st)) : Wp M d Q σ pc ls (gR x :: st) := fun hg => by
  simp only [Bool.and_eq_true, decide_eq_true_eq] at hs
  exact wg_getR hf hk (hg.at hk hs.1 hs.2 hr) hd hpc (k hg)
theorem w_aaldS {x n q i : Nat} (hk : gL[x]? = some (.inr (3, n))) (h1 : i < n) (hr : gRef x i = (q : Int)) (hd : decode M.2.1 pc = .ok (.aaload, 1)) (hpc : pc + 1 = pc') (k : Wp M d Q σ pc' ls (gR q :: st)) : Wp M d Q σ pc ls (gI i :: gR x :: st) := fun hg =>
  wg_aald hk (by omega) (by omega) (hg.at hk h1 rfl hr) hd hpc (k hg)
theorem w_putR {idx ci j x q : Nat} {ty : FieldType} (hf : gPut M.1.cls idx ci j ty false) (h3 : gFt2 ty = 3) (hk : gL[x]? = some (.inl ci)) (hns : gSf ci j = false) (hd : decode M.2.1 pc = .ok (.putfield idx, 3)) (hpc : pc + 3 = pc') (k : Wp M d Q (gUp σ x j q) pc' ls st) : Wp M d Q σ pc ls (gR q :: gR x :: st) := fun hg =>
  wg_putR hf (fun h => by cases h) h3 hk hd hpc (k (hg.up hk (by omega) (by rw [Int.toNat_natCast]; exact hns)))
theorem w_callV {M' : gM} {idx n d' x ci : Nat} {av st0 : List gV} {Q' : gV → gH → Prop} (hm : gMi M' n) (hlink : Cond.methodLink M.1.cls idx M'.1 ∈ gG) (hn : av.length = n) (hci : gCi ci M'.1.cls) (hk : gL[x]? = some (.inl ci)) (hst : st0 = av.reverse ++ gR x :: st) (hcat : gCat st ≤ 8) (hdd : d' + 1 ≤ d) (hd : decode M.2.1 pc = .ok (.invokevirtual idx, 3)) (hpc : pc + 3 = pc')
    (hM : Mt M' d' (gR x :: av) σ Q') (k : ∀ v σ', Q' v σ' → Wp M d Q σ' pc' ls (gPush v st)) : Wp M d Q σ pc ls st0 := fun hg =>
  wg_callV (mc := 0) (ms := 0) hm hlink hn hci hk hst hcat hdd hd hpc (hM hg) fun v L' σ' h => by
    obtain ⟨rfl, h2, h3⟩ := h
    exact k v σ' h3 h2
theorem w_callS {M' : gM} {idx n d' : Nat} {av st0 : List gV} {Q' : gV → gH → Prop} (hm : gMs M' n) (hstat : Cond.static M'.1 ∈ gG) (hlink : Cond.methodLink M.1.cls idx M'.1 ∈ gG) (hn : av.length = n) (hst : st0 = av.reverse ++ st) (hcat : gCat st ≤ 8) (hdd : d' + 1 ≤ d) (hd : decode M.2.1 pc = .ok (.invokestatic idx, 3)) (hpc : pc + 3 = pc')
    (hM : Mt M' d' av σ Q') (k : ∀ v σ', Q' v σ' → Wp M d Q σ' pc' ls (gPush v st)) : Wp M d Q σ pc ls st0 := fun hg =>
  wg_callS (mc := 0) (ms := 0) hm hstat hlink hn hst hcat hdd hd hpc (hM hg) fun v L' σ' h => by
    obtain ⟨rfl, h2, h3⟩ := h
    exact k v σ' h3 h2
end W0
theorem kd_0 : gL[0]? = some (.inl 11) := rfl
theorem kd_1 : gL[1]? = some (.inr (0, 540)) := rfl
theorem kd_2 : gL[2]? = some (.inr (0, 5)) := rfl
theorem kd_3 : gL[3]? = some (.inl 8) := rfl
theorem kd_4 : gL[4]? = some (.inr (0, 60)) := rfl
theorem kd_5 : gL[5]? = some (.inr (1, 60)) := rfl
theorem kd_6 : gL[6]? = some (.inl 9) := rfl
theorem kd_7 : gL[7]? = some (.inr (0, 100)) := rfl
theorem kd_8 : gL[8]? = some (.inr (0, 100)) := rfl
theorem kd_9 : gL[9]? = some (.inr (0, 100)) := rfl
theorem kd_10 : gL[10]? = some (.inr (0, 100)) := rfl
theorem kd_11 : gL[11]? = some (.inr (0, 100)) := rfl
theorem kd_12 : gL[12]? = some (.inr (0, 100)) := rfl
theorem kd_13 : gL[13]? = some (.inr (0, 60)) := rfl
theorem kd_14 : gL[14]? = some (.inl 7) := rfl
theorem kd_15 : gL[15]? = some (.inl 9) := rfl
theorem kd_16 : gL[16]? = some (.inr (0, 200)) := rfl
theorem kd_17 : gL[17]? = some (.inr (0, 200)) := rfl
theorem kd_18 : gL[18]? = some (.inr (0, 200)) := rfl
theorem kd_19 : gL[19]? = some (.inr (0, 200)) := rfl
theorem kd_20 : gL[20]? = some (.inr (0, 200)) := rfl
theorem kd_21 : gL[21]? = some (.inr (0, 200)) := rfl
theorem kd_22 : gL[22]? = some (.inr (0, 200)) := rfl
theorem kd_23 : gL[23]? = some (.inr (0, 61)) := rfl
theorem kd_24 : gL[24]? = some (.inr (0, 200)) := rfl
theorem kd_25 : gL[25]? = some (.inr (0, 200)) := rfl
theorem kd_26 : gL[26]? = some (.inr (0, 60)) := rfl
theorem kd_27 : gL[27]? = some (.inr (1, 60)) := rfl
theorem kd_28 : gL[28]? = some (.inr (0, 60)) := rfl
theorem kd_29 : gL[29]? = some (.inr (0, 60)) := rfl
theorem kd_30 : gL[30]? = some (.inl 0) := rfl
theorem kd_31 : gL[31]? = some (.inr (1, 60)) := rfl
theorem kd_32 : gL[32]? = some (.inr (0, 5)) := rfl
theorem kd_33 : gL[33]? = some (.inr (0, 5)) := rfl
theorem kd_34 : gL[34]? = some (.inl 9) := rfl
theorem kd_35 : gL[35]? = some (.inr (0, 60)) := rfl
theorem kd_36 : gL[36]? = some (.inr (0, 60)) := rfl
theorem kd_37 : gL[37]? = some (.inr (0, 60)) := rfl
theorem kd_38 : gL[38]? = some (.inr (0, 60)) := rfl
theorem kd_39 : gL[39]? = some (.inr (0, 60)) := rfl
theorem kd_40 : gL[40]? = some (.inr (0, 60)) := rfl
theorem kd_41 : gL[41]? = some (.inl 2) := rfl
theorem kd_42 : gL[42]? = some (.inr (0, 120)) := rfl
theorem kd_43 : gL[43]? = some (.inr (0, 120)) := rfl
theorem kd_44 : gL[44]? = some (.inr (0, 120)) := rfl
theorem kd_45 : gL[45]? = some (.inr (0, 120)) := rfl
theorem kd_46 : gL[46]? = some (.inr (2, 120)) := rfl
theorem kd_47 : gL[47]? = some (.inr (0, 120)) := rfl
theorem kd_48 : gL[48]? = some (.inr (0, 120)) := rfl
theorem kd_49 : gL[49]? = some (.inr (0, 120)) := rfl
theorem kd_50 : gL[50]? = some (.inr (0, 120)) := rfl
theorem kd_51 : gL[51]? = some (.inr (0, 120)) := rfl
theorem kd_52 : gL[52]? = some (.inr (0, 120)) := rfl
theorem kd_53 : gL[53]? = some (.inr (0, 200)) := rfl
theorem kd_54 : gL[54]? = some (.inr (0, 200)) := rfl
theorem kd_55 : gL[55]? = some (.inr (0, 200)) := rfl
theorem kd_56 : gL[56]? = some (.inr (0, 200)) := rfl
theorem kd_57 : gL[57]? = some (.inl 5) := rfl
theorem kd_58 : gL[58]? = some (.inr (3, 6)) := rfl
theorem kd_59 : gL[59]? = some (.inl 4) := rfl
theorem kd_60 : gL[60]? = some (.inr (0, 8)) := rfl
theorem kd_61 : gL[61]? = some (.inr (0, 10)) := rfl
theorem kd_62 : gL[62]? = some (.inr (0, 10)) := rfl
theorem kd_63 : gL[63]? = some (.inr (0, 120)) := rfl
theorem kd_64 : gL[64]? = some (.inr (0, 120)) := rfl
theorem kd_65 : gL[65]? = some (.inr (0, 120)) := rfl
theorem kd_66 : gL[66]? = some (.inl 10) := rfl
theorem kd_67 : gL[67]? = some (.inr (0, 64)) := rfl
theorem kd_68 : gL[68]? = some (.inl 4) := rfl
theorem kd_69 : gL[69]? = some (.inr (0, 8)) := rfl
theorem kd_70 : gL[70]? = some (.inr (0, 10)) := rfl
theorem kd_71 : gL[71]? = some (.inr (0, 10)) := rfl
theorem kd_72 : gL[72]? = some (.inr (0, 120)) := rfl
theorem kd_73 : gL[73]? = some (.inr (0, 120)) := rfl
theorem kd_74 : gL[74]? = some (.inr (0, 120)) := rfl
theorem kd_75 : gL[75]? = some (.inl 4) := rfl
theorem kd_76 : gL[76]? = some (.inr (0, 8)) := rfl
theorem kd_77 : gL[77]? = some (.inr (0, 10)) := rfl
theorem kd_78 : gL[78]? = some (.inr (0, 10)) := rfl
theorem kd_79 : gL[79]? = some (.inr (0, 120)) := rfl
theorem kd_80 : gL[80]? = some (.inr (0, 120)) := rfl
theorem kd_81 : gL[81]? = some (.inr (0, 120)) := rfl
theorem kd_82 : gL[82]? = some (.inl 4) := rfl
theorem kd_83 : gL[83]? = some (.inr (0, 8)) := rfl
theorem kd_84 : gL[84]? = some (.inr (0, 10)) := rfl
theorem kd_85 : gL[85]? = some (.inr (0, 10)) := rfl
theorem kd_86 : gL[86]? = some (.inr (0, 120)) := rfl
theorem kd_87 : gL[87]? = some (.inr (0, 120)) := rfl
theorem kd_88 : gL[88]? = some (.inr (0, 120)) := rfl
theorem kd_89 : gL[89]? = some (.inl 4) := rfl
theorem kd_90 : gL[90]? = some (.inr (0, 8)) := rfl
theorem kd_91 : gL[91]? = some (.inr (0, 10)) := rfl
theorem kd_92 : gL[92]? = some (.inr (0, 10)) := rfl
theorem kd_93 : gL[93]? = some (.inr (0, 120)) := rfl
theorem kd_94 : gL[94]? = some (.inr (0, 120)) := rfl
theorem kd_95 : gL[95]? = some (.inr (0, 120)) := rfl
theorem kd_96 : gL[96]? = some (.inl 4) := rfl
theorem kd_97 : gL[97]? = some (.inr (0, 8)) := rfl
theorem kd_98 : gL[98]? = some (.inr (0, 10)) := rfl
theorem kd_99 : gL[99]? = some (.inr (0, 10)) := rfl
theorem kd_100 : gL[100]? = some (.inr (0, 120)) := rfl
theorem kd_101 : gL[101]? = some (.inr (0, 120)) := rfl
theorem kd_102 : gL[102]? = some (.inr (0, 120)) := rfl
theorem kd_103 : gL[103]? = some (.inl 4) := rfl
theorem kd_104 : gL[104]? = some (.inr (0, 8)) := rfl
theorem kd_105 : gL[105]? = some (.inr (0, 10)) := rfl
theorem kd_106 : gL[106]? = some (.inr (0, 10)) := rfl
theorem kd_107 : gL[107]? = some (.inr (0, 120)) := rfl
theorem kd_108 : gL[108]? = some (.inr (0, 120)) := rfl
theorem kd_109 : gL[109]? = some (.inr (0, 120)) := rfl
theorem kd_110 : gL[110]? = some (.inl 3) := rfl
theorem kd_111 : gL[111]? = some (.inr (0, 14)) := rfl
theorem kd_112 : gL[112]? = some (.inl 6) := rfl
theorem kd_113 : gL[113]? = some (.inr (0, 100)) := rfl
theorem kd_114 : gL[114]? = some (.inr (1, 100)) := rfl
theorem kd_115 : gL[115]? = some (.inr (0, 100)) := rfl
theorem kd_116 : gL[116]? = some (.inr (0, 100)) := rfl
theorem kd_117 : gL[117]? = some (.inr (0, 100)) := rfl
theorem kd_118 : gL[118]? = some (.inr (1, 200)) := rfl
theorem kd_119 : gL[119]? = some (.inr (1, 2)) := rfl
theorem kd_120 : gL[120]? = some (.inr (1, 2)) := rfl
theorem kd_121 : gL[121]? = some (.inr (0, 100)) := rfl
theorem kd_122 : gL[122]? = some (.inr (0, 120)) := rfl
theorem kd_123 : gL[123]? = some (.inr (0, 120)) := rfl
theorem kd_124 : gL[124]? = some (.inr (0, 100)) := rfl
theorem kd_125 : gL[125]? = some (.inl 1) := rfl
theorem kd_126 : gL[126]? = some (.inr (0, 12)) := rfl
theorem kd_127 : gL[127]? = some (.inr (0, 60)) := rfl
theorem kd_128 : gL[128]? = some (.inr (0, 60)) := rfl
theorem kd_129 : gL[129]? = some (.inr (0, 200)) := rfl
theorem kd_130 : gL[130]? = some (.inr (0, 200)) := rfl
theorem kd_131 : gL[131]? = some (.inr (2, 200)) := rfl
theorem kd_132 : gL[132]? = some (.inr (0, 200)) := rfl
theorem kd_133 : gL[133]? = some (.inl 12) := rfl
theorem kd_134 : gL[134]? = some (.inr (0, 540)) := rfl
theorem kd_135 : gL[135]? = some (.inr (0, 60)) := rfl
theorem kd_136 : gL[136]? = some (.inr (1, 60)) := rfl
theorem kd_137 : gL[137]? = some (.inr (0, 200)) := rfl
theorem kd_138 : gL[138]? = some (.inr (0, 200)) := rfl
theorem kd_139 : gL[139]? = some (.inr (0, 200)) := rfl
theorem kd_140 : gL[140]? = some (.inr (0, 200)) := rfl
theorem kd_141 : gL[141]? = some (.inr (0, 200)) := rfl
theorem kd_142 : gL[142]? = some (.inr (0, 200)) := rfl
theorem kd_143 : gL[143]? = some (.inr (0, 100)) := rfl
theorem kd_144 : gL[144]? = some (.inr (0, 100)) := rfl
theorem kd_145 : gL[145]? = some (.inr (0, 100)) := rfl
theorem kd_146 : gL[146]? = some (.inr (0, 100)) := rfl
theorem kd_147 : gL[147]? = some (.inr (0, 100)) := rfl
theorem kd_148 : gL[148]? = some (.inr (0, 60)) := rfl
theorem kd_149 : gL[149]? = some (.inr (0, 60)) := rfl
theorem kd_150 : gL[150]? = some (.inr (0, 60)) := rfl
theorem kd_151 : gL[151]? = some (.inr (0, 60)) := rfl
theorem kd_152 : gL[152]? = some (.inr (0, 60)) := rfl
theorem kd_153 : gL[153]? = some (.inr (0, 120)) := rfl
theorem kd_154 : gL[154]? = some (.inr (0, 120)) := rfl
theorem kd_155 : gL[155]? = some (.inr (0, 120)) := rfl
theorem kd_156 : gL[156]? = some (.inr (0, 120)) := rfl
theorem kd_157 : gL[157]? = some (.inr (0, 120)) := rfl
theorem kd_158 : gL[158]? = some (.inr (0, 120)) := rfl
theorem kd_159 : gL[159]? = some (.inr (0, 120)) := rfl
theorem kd_160 : gL[160]? = some (.inr (0, 120)) := rfl
theorem kd_161 : gL[161]? = some (.inr (0, 120)) := rfl
theorem kd_162 : gL[162]? = some (.inr (0, 120)) := rfl
theorem kd_163 : gL[163]? = some (.inr (2, 120)) := rfl
theorem kd_164 : gL[164]? = some (.inr (0, 200)) := rfl
theorem kd_165 : gL[165]? = some (.inr (0, 200)) := rfl
theorem kd_166 : gL[166]? = some (.inr (0, 200)) := rfl
theorem kd_167 : gL[167]? = some (.inr (0, 200)) := rfl
theorem kd_168 : gL[168]? = some (.inr (0, 3600)) := rfl
theorem kd_169 : gL[169]? = some (.inr (0, 60)) := rfl
theorem kd_170 : gL[170]? = some (.inr (2, 3600)) := rfl
theorem kd_171 : gL[171]? = some (.inr (0, 5)) := rfl
theorem kd_172 : gL[172]? = some (.inr (0, 60)) := rfl
theorem kd_173 : gL[173]? = some (.inr (0, 6)) := rfl
theorem kd_174 : gL[174]? = some (.inr (0, 6)) := rfl
theorem kd_175 : gL[175]? = some (.inr (0, 7)) := rfl
theorem kd_176 : gL[176]? = some (.inr (0, 56)) := rfl
theorem kd_177 : gL[177]? = some (.inr (0, 35)) := rfl
theorem kd_178 : gL[178]? = some (.inr (0, 70)) := rfl
theorem kd_179 : gL[179]? = some (.inr (0, 70)) := rfl
theorem kd_180 : gL[180]? = some (.inr (0, 1400)) := rfl
theorem kd_181 : gL[181]? = some (.inr (0, 1400)) := rfl
theorem kd_182 : gL[182]? = some (.inr (0, 1400)) := rfl
theorem kd_183 : gL[183]? = some (.inr (0, 5)) := rfl
theorem kd_184 : gL[184]? = some (.inr (0, 5)) := rfl
theorem kd_185 : gL[185]? = some (.inr (0, 5)) := rfl
theorem kd_186 : gL[186]? = some (.inr (0, 140)) := rfl
theorem kd_187 : gL[187]? = some (.inr (0, 14)) := rfl
theorem kd_188 : gL[188]? = some (.inr (2, 140)) := rfl
theorem kd_189 : gL[189]? = some (.inr (0, 12)) := rfl
theorem kd_190 : gL[190]? = some (.inr (0, 60)) := rfl
theorem kd_191 : gL[191]? = some (.inr (0, 60)) := rfl
theorem kd_192 : gL[192]? = some (.inr (0, 100)) := rfl
theorem kd_193 : gL[193]? = some (.inr (0, 100)) := rfl
theorem kd_194 : gL[194]? = some (.inr (0, 100)) := rfl
theorem kd_195 : gL[195]? = some (.inr (0, 100)) := rfl
theorem kd_196 : gL[196]? = some (.inr (1, 100)) := rfl
theorem kd_197 : gL[197]? = some (.inr (2, 12000)) := rfl
theorem kd_198 : gL[198]? = some (.inr (2, 120)) := rfl
theorem kd_199 : gL[199]? = some (.inr (0, 100)) := rfl
theorem kd_200 : gL[200]? = some (.inr (0, 120)) := rfl
theorem kd_201 : gL[201]? = some (.inr (0, 120)) := rfl
theorem kd_202 : gL[202]? = some (.inr (0, 100)) := rfl
theorem kd_203 : gL[203]? = some (.inr (0, 200)) := rfl
theorem kd_204 : gL[204]? = some (.inr (0, 200)) := rfl
theorem kd_205 : gL[205]? = some (.inr (0, 200)) := rfl
theorem kd_206 : gL[206]? = some (.inr (2, 200)) := rfl
theorem kd_207 : gL[207]? = some (.inr (1, 62)) := rfl
theorem kd_208 : gL[208]? = some (.inr (1, 1)) := rfl
theorem gr_0_0 : gRef 0 0 = ((1 : Nat) : Int) := by decide +kernel
theorem gr_0_2 : gRef 0 2 = ((2 : Nat) : Int) := by decide +kernel
theorem gr_0_5 : gRef 0 5 = ((3 : Nat) : Int) := by decide +kernel
theorem gr_0_6 : gRef 0 6 = ((14 : Nat) : Int) := by decide +kernel
theorem gr_0_7 : gRef 0 7 = ((30 : Nat) : Int) := by decide +kernel
theorem gr_0_8 : gRef 0 8 = ((34 : Nat) : Int) := by decide +kernel
theorem gr_0_9 : gRef 0 9 = ((41 : Nat) : Int) := by decide +kernel
theorem gr_0_10 : gRef 0 10 = ((57 : Nat) : Int) := by decide +kernel
theorem gr_0_11 : gRef 0 11 = ((110 : Nat) : Int) := by decide +kernel
theorem gr_0_12 : gRef 0 12 = ((112 : Nat) : Int) := by decide +kernel
theorem gr_0_13 : gRef 0 13 = ((125 : Nat) : Int) := by decide +kernel
theorem gr_3_0 : gRef 3 0 = ((4 : Nat) : Int) := by decide +kernel
theorem gr_3_1 : gRef 3 1 = ((5 : Nat) : Int) := by decide +kernel
theorem gr_3_3 : gRef 3 3 = ((6 : Nat) : Int) := by decide +kernel
theorem gr_3_4 : gRef 3 4 = ((13 : Nat) : Int) := by decide +kernel
theorem gr_6_0 : gRef 6 0 = ((7 : Nat) : Int) := by decide +kernel
theorem gr_6_1 : gRef 6 1 = ((8 : Nat) : Int) := by decide +kernel
theorem gr_6_2 : gRef 6 2 = ((9 : Nat) : Int) := by decide +kernel
theorem gr_6_3 : gRef 6 3 = ((10 : Nat) : Int) := by decide +kernel
theorem gr_6_4 : gRef 6 4 = ((11 : Nat) : Int) := by decide +kernel
theorem gr_6_5 : gRef 6 5 = ((12 : Nat) : Int) := by decide +kernel
theorem gr_14_0 : gRef 14 0 = ((15 : Nat) : Int) := by decide +kernel
theorem gr_14_1 : gRef 14 1 = ((22 : Nat) : Int) := by decide +kernel
theorem gr_14_2 : gRef 14 2 = ((23 : Nat) : Int) := by decide +kernel
theorem gr_14_3 : gRef 14 3 = ((24 : Nat) : Int) := by decide +kernel
theorem gr_14_4 : gRef 14 4 = ((25 : Nat) : Int) := by decide +kernel
theorem gr_14_8 : gRef 14 8 = ((26 : Nat) : Int) := by decide +kernel
theorem gr_14_9 : gRef 14 9 = ((27 : Nat) : Int) := by decide +kernel
theorem gr_14_10 : gRef 14 10 = ((28 : Nat) : Int) := by decide +kernel
theorem gr_14_11 : gRef 14 11 = ((29 : Nat) : Int) := by decide +kernel
theorem gr_15_0 : gRef 15 0 = ((16 : Nat) : Int) := by decide +kernel
theorem gr_15_1 : gRef 15 1 = ((17 : Nat) : Int) := by decide +kernel
theorem gr_15_2 : gRef 15 2 = ((18 : Nat) : Int) := by decide +kernel
theorem gr_15_3 : gRef 15 3 = ((19 : Nat) : Int) := by decide +kernel
theorem gr_15_4 : gRef 15 4 = ((20 : Nat) : Int) := by decide +kernel
theorem gr_15_5 : gRef 15 5 = ((21 : Nat) : Int) := by decide +kernel
theorem gr_30_0 : gRef 30 0 = ((14 : Nat) : Int) := by decide +kernel
theorem gr_30_1 : gRef 30 1 = ((31 : Nat) : Int) := by decide +kernel
theorem gr_30_2 : gRef 30 2 = ((32 : Nat) : Int) := by decide +kernel
theorem gr_30_3 : gRef 30 3 = ((33 : Nat) : Int) := by decide +kernel
theorem gr_34_0 : gRef 34 0 = ((35 : Nat) : Int) := by decide +kernel
theorem gr_34_1 : gRef 34 1 = ((36 : Nat) : Int) := by decide +kernel
theorem gr_34_2 : gRef 34 2 = ((37 : Nat) : Int) := by decide +kernel
theorem gr_34_3 : gRef 34 3 = ((38 : Nat) : Int) := by decide +kernel
theorem gr_34_4 : gRef 34 4 = ((39 : Nat) : Int) := by decide +kernel
theorem gr_34_5 : gRef 34 5 = ((40 : Nat) : Int) := by decide +kernel
theorem gr_41_0 : gRef 41 0 = ((42 : Nat) : Int) := by decide +kernel
theorem gr_41_1 : gRef 41 1 = ((43 : Nat) : Int) := by decide +kernel
theorem gr_41_2 : gRef 41 2 = ((44 : Nat) : Int) := by decide +kernel
theorem gr_41_3 : gRef 41 3 = ((45 : Nat) : Int) := by decide +kernel
theorem gr_41_4 : gRef 41 4 = ((46 : Nat) : Int) := by decide +kernel
theorem gr_41_5 : gRef 41 5 = ((47 : Nat) : Int) := by decide +kernel
theorem gr_41_6 : gRef 41 6 = ((48 : Nat) : Int) := by decide +kernel
theorem gr_41_7 : gRef 41 7 = ((49 : Nat) : Int) := by decide +kernel
theorem gr_41_8 : gRef 41 8 = ((50 : Nat) : Int) := by decide +kernel
theorem gr_41_9 : gRef 41 9 = ((51 : Nat) : Int) := by decide +kernel
theorem gr_41_10 : gRef 41 10 = ((52 : Nat) : Int) := by decide +kernel
theorem gr_41_12 : gRef 41 12 = ((53 : Nat) : Int) := by decide +kernel
theorem gr_41_13 : gRef 41 13 = ((54 : Nat) : Int) := by decide +kernel
theorem gr_41_14 : gRef 41 14 = ((55 : Nat) : Int) := by decide +kernel
theorem gr_41_15 : gRef 41 15 = ((56 : Nat) : Int) := by decide +kernel
theorem gr_57_0 : gRef 57 0 = ((58 : Nat) : Int) := by decide +kernel
theorem gr_57_1 : gRef 57 1 = ((59 : Nat) : Int) := by decide +kernel
theorem gr_57_4 : gRef 57 4 = ((66 : Nat) : Int) := by decide +kernel
theorem gr_57_16 : gRef 57 16 = ((67 : Nat) : Int) := by decide +kernel
theorem gr_58_0 : gRef 58 0 = ((68 : Nat) : Int) := by decide +kernel
theorem gr_58_1 : gRef 58 1 = ((75 : Nat) : Int) := by decide +kernel
theorem gr_58_2 : gRef 58 2 = ((82 : Nat) : Int) := by decide +kernel
theorem gr_58_3 : gRef 58 3 = ((89 : Nat) : Int) := by decide +kernel
theorem gr_58_4 : gRef 58 4 = ((96 : Nat) : Int) := by decide +kernel
theorem gr_58_5 : gRef 58 5 = ((103 : Nat) : Int) := by decide +kernel
theorem gr_59_9 : gRef 59 9 = ((60 : Nat) : Int) := by decide +kernel
theorem gr_59_10 : gRef 59 10 = ((61 : Nat) : Int) := by decide +kernel
theorem gr_59_11 : gRef 59 11 = ((62 : Nat) : Int) := by decide +kernel
theorem gr_59_12 : gRef 59 12 = ((63 : Nat) : Int) := by decide +kernel
theorem gr_59_13 : gRef 59 13 = ((64 : Nat) : Int) := by decide +kernel
theorem gr_59_14 : gRef 59 14 = ((65 : Nat) : Int) := by decide +kernel
theorem gr_68_9 : gRef 68 9 = ((69 : Nat) : Int) := by decide +kernel
theorem gr_68_10 : gRef 68 10 = ((70 : Nat) : Int) := by decide +kernel
theorem gr_68_11 : gRef 68 11 = ((71 : Nat) : Int) := by decide +kernel
theorem gr_68_12 : gRef 68 12 = ((72 : Nat) : Int) := by decide +kernel
theorem gr_68_13 : gRef 68 13 = ((73 : Nat) : Int) := by decide +kernel
theorem gr_68_14 : gRef 68 14 = ((74 : Nat) : Int) := by decide +kernel
theorem gr_75_9 : gRef 75 9 = ((76 : Nat) : Int) := by decide +kernel
theorem gr_75_10 : gRef 75 10 = ((77 : Nat) : Int) := by decide +kernel
theorem gr_75_11 : gRef 75 11 = ((78 : Nat) : Int) := by decide +kernel
theorem gr_75_12 : gRef 75 12 = ((79 : Nat) : Int) := by decide +kernel
theorem gr_75_13 : gRef 75 13 = ((80 : Nat) : Int) := by decide +kernel
theorem gr_75_14 : gRef 75 14 = ((81 : Nat) : Int) := by decide +kernel
theorem gr_82_9 : gRef 82 9 = ((83 : Nat) : Int) := by decide +kernel
theorem gr_82_10 : gRef 82 10 = ((84 : Nat) : Int) := by decide +kernel
theorem gr_82_11 : gRef 82 11 = ((85 : Nat) : Int) := by decide +kernel
theorem gr_82_12 : gRef 82 12 = ((86 : Nat) : Int) := by decide +kernel
theorem gr_82_13 : gRef 82 13 = ((87 : Nat) : Int) := by decide +kernel
theorem gr_82_14 : gRef 82 14 = ((88 : Nat) : Int) := by decide +kernel
theorem gr_89_9 : gRef 89 9 = ((90 : Nat) : Int) := by decide +kernel
theorem gr_89_10 : gRef 89 10 = ((91 : Nat) : Int) := by decide +kernel
theorem gr_89_11 : gRef 89 11 = ((92 : Nat) : Int) := by decide +kernel
theorem gr_89_12 : gRef 89 12 = ((93 : Nat) : Int) := by decide +kernel
theorem gr_89_13 : gRef 89 13 = ((94 : Nat) : Int) := by decide +kernel
theorem gr_89_14 : gRef 89 14 = ((95 : Nat) : Int) := by decide +kernel
theorem gr_96_9 : gRef 96 9 = ((97 : Nat) : Int) := by decide +kernel
theorem gr_96_10 : gRef 96 10 = ((98 : Nat) : Int) := by decide +kernel
theorem gr_96_11 : gRef 96 11 = ((99 : Nat) : Int) := by decide +kernel
theorem gr_96_12 : gRef 96 12 = ((100 : Nat) : Int) := by decide +kernel
theorem gr_96_13 : gRef 96 13 = ((101 : Nat) : Int) := by decide +kernel
theorem gr_96_14 : gRef 96 14 = ((102 : Nat) : Int) := by decide +kernel
theorem gr_103_9 : gRef 103 9 = ((104 : Nat) : Int) := by decide +kernel
theorem gr_103_10 : gRef 103 10 = ((105 : Nat) : Int) := by decide +kernel
theorem gr_103_11 : gRef 103 11 = ((106 : Nat) : Int) := by decide +kernel
theorem gr_103_12 : gRef 103 12 = ((107 : Nat) : Int) := by decide +kernel
theorem gr_103_13 : gRef 103 13 = ((108 : Nat) : Int) := by decide +kernel
theorem gr_103_14 : gRef 103 14 = ((109 : Nat) : Int) := by decide +kernel
theorem gr_110_0 : gRef 110 0 = ((3 : Nat) : Int) := by decide +kernel
theorem gr_110_1 : gRef 110 1 = ((14 : Nat) : Int) := by decide +kernel
theorem gr_110_2 : gRef 110 2 = ((30 : Nat) : Int) := by decide +kernel
theorem gr_110_3 : gRef 110 3 = ((34 : Nat) : Int) := by decide +kernel
theorem gr_110_4 : gRef 110 4 = ((41 : Nat) : Int) := by decide +kernel
theorem gr_110_5 : gRef 110 5 = ((57 : Nat) : Int) := by decide +kernel
theorem gr_110_6 : gRef 110 6 = ((111 : Nat) : Int) := by decide +kernel
theorem gr_112_0 : gRef 112 0 = ((3 : Nat) : Int) := by decide +kernel
theorem gr_112_1 : gRef 112 1 = ((14 : Nat) : Int) := by decide +kernel
theorem gr_112_2 : gRef 112 2 = ((41 : Nat) : Int) := by decide +kernel
theorem gr_112_3 : gRef 112 3 = ((113 : Nat) : Int) := by decide +kernel
theorem gr_112_4 : gRef 112 4 = ((114 : Nat) : Int) := by decide +kernel
theorem gr_112_5 : gRef 112 5 = ((115 : Nat) : Int) := by decide +kernel
theorem gr_112_6 : gRef 112 6 = ((116 : Nat) : Int) := by decide +kernel
theorem gr_112_7 : gRef 112 7 = ((117 : Nat) : Int) := by decide +kernel
theorem gr_112_9 : gRef 112 9 = ((118 : Nat) : Int) := by decide +kernel
theorem gr_112_10 : gRef 112 10 = ((119 : Nat) : Int) := by decide +kernel
theorem gr_112_11 : gRef 112 11 = ((120 : Nat) : Int) := by decide +kernel
theorem gr_112_12 : gRef 112 12 = ((121 : Nat) : Int) := by decide +kernel
theorem gr_112_13 : gRef 112 13 = ((122 : Nat) : Int) := by decide +kernel
theorem gr_112_14 : gRef 112 14 = ((123 : Nat) : Int) := by decide +kernel
theorem gr_112_15 : gRef 112 15 = ((124 : Nat) : Int) := by decide +kernel
theorem gr_125_0 : gRef 125 0 = ((110 : Nat) : Int) := by decide +kernel
theorem gr_125_1 : gRef 125 1 = ((126 : Nat) : Int) := by decide +kernel
theorem gr_125_3 : gRef 125 3 = ((127 : Nat) : Int) := by decide +kernel
theorem gr_125_4 : gRef 125 4 = ((128 : Nat) : Int) := by decide +kernel
theorem gr_125_6 : gRef 125 6 = ((129 : Nat) : Int) := by decide +kernel
theorem gr_125_7 : gRef 125 7 = ((130 : Nat) : Int) := by decide +kernel
theorem gr_125_8 : gRef 125 8 = ((131 : Nat) : Int) := by decide +kernel
theorem gr_125_9 : gRef 125 9 = ((132 : Nat) : Int) := by decide +kernel
theorem gr_133_1 : gRef 133 1 = ((134 : Nat) : Int) := by decide +kernel
theorem gr_133_4 : gRef 133 4 = ((135 : Nat) : Int) := by decide +kernel
theorem gr_133_5 : gRef 133 5 = ((136 : Nat) : Int) := by decide +kernel
theorem gr_133_8 : gRef 133 8 = ((137 : Nat) : Int) := by decide +kernel
theorem gr_133_9 : gRef 133 9 = ((138 : Nat) : Int) := by decide +kernel
theorem gr_133_10 : gRef 133 10 = ((139 : Nat) : Int) := by decide +kernel
theorem gr_133_11 : gRef 133 11 = ((140 : Nat) : Int) := by decide +kernel
theorem gr_133_12 : gRef 133 12 = ((141 : Nat) : Int) := by decide +kernel
theorem gr_133_13 : gRef 133 13 = ((142 : Nat) : Int) := by decide +kernel
theorem gr_133_15 : gRef 133 15 = ((143 : Nat) : Int) := by decide +kernel
theorem gr_133_16 : gRef 133 16 = ((144 : Nat) : Int) := by decide +kernel
theorem gr_133_17 : gRef 133 17 = ((145 : Nat) : Int) := by decide +kernel
theorem gr_133_18 : gRef 133 18 = ((146 : Nat) : Int) := by decide +kernel
theorem gr_133_19 : gRef 133 19 = ((147 : Nat) : Int) := by decide +kernel
theorem gr_133_20 : gRef 133 20 = ((148 : Nat) : Int) := by decide +kernel
theorem gr_133_21 : gRef 133 21 = ((149 : Nat) : Int) := by decide +kernel
theorem gr_133_22 : gRef 133 22 = ((150 : Nat) : Int) := by decide +kernel
theorem gr_133_23 : gRef 133 23 = ((151 : Nat) : Int) := by decide +kernel
theorem gr_133_24 : gRef 133 24 = ((152 : Nat) : Int) := by decide +kernel
theorem gr_133_27 : gRef 133 27 = ((153 : Nat) : Int) := by decide +kernel
theorem gr_133_28 : gRef 133 28 = ((154 : Nat) : Int) := by decide +kernel
theorem gr_133_29 : gRef 133 29 = ((155 : Nat) : Int) := by decide +kernel
theorem gr_133_30 : gRef 133 30 = ((156 : Nat) : Int) := by decide +kernel
theorem gr_133_31 : gRef 133 31 = ((157 : Nat) : Int) := by decide +kernel
theorem gr_133_32 : gRef 133 32 = ((158 : Nat) : Int) := by decide +kernel
theorem gr_133_33 : gRef 133 33 = ((159 : Nat) : Int) := by decide +kernel
theorem gr_133_34 : gRef 133 34 = ((160 : Nat) : Int) := by decide +kernel
theorem gr_133_35 : gRef 133 35 = ((161 : Nat) : Int) := by decide +kernel
theorem gr_133_36 : gRef 133 36 = ((162 : Nat) : Int) := by decide +kernel
theorem gr_133_37 : gRef 133 37 = ((163 : Nat) : Int) := by decide +kernel
theorem gr_133_38 : gRef 133 38 = ((164 : Nat) : Int) := by decide +kernel
theorem gr_133_39 : gRef 133 39 = ((165 : Nat) : Int) := by decide +kernel
theorem gr_133_40 : gRef 133 40 = ((166 : Nat) : Int) := by decide +kernel
theorem gr_133_41 : gRef 133 41 = ((167 : Nat) : Int) := by decide +kernel
theorem gr_133_44 : gRef 133 44 = ((168 : Nat) : Int) := by decide +kernel
theorem gr_133_45 : gRef 133 45 = ((169 : Nat) : Int) := by decide +kernel
theorem gr_133_46 : gRef 133 46 = ((170 : Nat) : Int) := by decide +kernel
theorem gr_133_50 : gRef 133 50 = ((171 : Nat) : Int) := by decide +kernel
theorem gr_133_53 : gRef 133 53 = ((172 : Nat) : Int) := by decide +kernel
theorem gr_133_64 : gRef 133 64 = ((173 : Nat) : Int) := by decide +kernel
theorem gr_133_65 : gRef 133 65 = ((174 : Nat) : Int) := by decide +kernel
theorem gr_133_66 : gRef 133 66 = ((175 : Nat) : Int) := by decide +kernel
theorem gr_133_67 : gRef 133 67 = ((176 : Nat) : Int) := by decide +kernel
theorem gr_133_68 : gRef 133 68 = ((177 : Nat) : Int) := by decide +kernel
theorem gr_133_69 : gRef 133 69 = ((178 : Nat) : Int) := by decide +kernel
theorem gr_133_70 : gRef 133 70 = ((179 : Nat) : Int) := by decide +kernel
theorem gr_133_71 : gRef 133 71 = ((180 : Nat) : Int) := by decide +kernel
theorem gr_133_72 : gRef 133 72 = ((181 : Nat) : Int) := by decide +kernel
theorem gr_133_73 : gRef 133 73 = ((182 : Nat) : Int) := by decide +kernel
theorem gr_133_74 : gRef 133 74 = ((183 : Nat) : Int) := by decide +kernel
theorem gr_133_75 : gRef 133 75 = ((184 : Nat) : Int) := by decide +kernel
theorem gr_133_76 : gRef 133 76 = ((185 : Nat) : Int) := by decide +kernel
theorem gr_133_78 : gRef 133 78 = ((186 : Nat) : Int) := by decide +kernel
theorem gr_133_85 : gRef 133 85 = ((187 : Nat) : Int) := by decide +kernel
theorem gr_133_86 : gRef 133 86 = ((188 : Nat) : Int) := by decide +kernel
theorem gr_133_89 : gRef 133 89 = ((189 : Nat) : Int) := by decide +kernel
theorem gr_133_90 : gRef 133 90 = ((190 : Nat) : Int) := by decide +kernel
theorem gr_133_91 : gRef 133 91 = ((191 : Nat) : Int) := by decide +kernel
theorem gr_133_94 : gRef 133 94 = ((192 : Nat) : Int) := by decide +kernel
theorem gr_133_95 : gRef 133 95 = ((193 : Nat) : Int) := by decide +kernel
theorem gr_133_96 : gRef 133 96 = ((194 : Nat) : Int) := by decide +kernel
theorem gr_133_97 : gRef 133 97 = ((195 : Nat) : Int) := by decide +kernel
theorem gr_133_98 : gRef 133 98 = ((196 : Nat) : Int) := by decide +kernel
theorem gr_133_100 : gRef 133 100 = ((197 : Nat) : Int) := by decide +kernel
theorem gr_133_101 : gRef 133 101 = ((198 : Nat) : Int) := by decide +kernel
theorem gr_133_102 : gRef 133 102 = ((199 : Nat) : Int) := by decide +kernel
theorem gr_133_103 : gRef 133 103 = ((200 : Nat) : Int) := by decide +kernel
theorem gr_133_104 : gRef 133 104 = ((201 : Nat) : Int) := by decide +kernel
theorem gr_133_105 : gRef 133 105 = ((202 : Nat) : Int) := by decide +kernel
theorem gr_133_106 : gRef 133 106 = ((203 : Nat) : Int) := by decide +kernel
theorem gr_133_107 : gRef 133 107 = ((204 : Nat) : Int) := by decide +kernel
theorem gr_133_108 : gRef 133 108 = ((205 : Nat) : Int) := by decide +kernel
theorem gr_133_109 : gRef 133 109 = ((206 : Nat) : Int) := by decide +kernel
theorem gr_133_115 : gRef 133 115 = ((207 : Nat) : Int) := by decide +kernel
theorem sf_X0_0 : (decide (0 < gN 0) && gSf 0 0) = true := by decide +kernel
theorem sf_X0_1 : (decide (1 < gN 0) && gSf 0 1) = true := by decide +kernel
theorem sf_X0_2 : (decide (2 < gN 0) && gSf 0 2) = true := by decide +kernel
theorem sf_X0_3 : (decide (3 < gN 0) && gSf 0 3) = true := by decide +kernel
theorem sf_X0_4 : gSf 0 4 = false := by decide +kernel
theorem sf_X0_5 : gSf 0 5 = false := by decide +kernel
theorem sf_X0_6 : gSf 0 6 = false := by decide +kernel
theorem sf_X0_7 : gSf 0 7 = false := by decide +kernel
theorem sf_X1_0 : (decide (0 < gN 1) && gSf 1 0) = true := by decide +kernel
theorem sf_X1_1 : (decide (1 < gN 1) && gSf 1 1) = true := by decide +kernel
theorem sf_X1_2 : gSf 1 2 = false := by decide +kernel
theorem sf_X1_3 : (decide (3 < gN 1) && gSf 1 3) = true := by decide +kernel
theorem sf_X1_4 : (decide (4 < gN 1) && gSf 1 4) = true := by decide +kernel
theorem sf_X1_5 : gSf 1 5 = false := by decide +kernel
theorem sf_X1_6 : (decide (6 < gN 1) && gSf 1 6) = true := by decide +kernel
theorem sf_X1_7 : (decide (7 < gN 1) && gSf 1 7) = true := by decide +kernel
theorem sf_X1_8 : (decide (8 < gN 1) && gSf 1 8) = true := by decide +kernel
theorem sf_X1_9 : (decide (9 < gN 1) && gSf 1 9) = true := by decide +kernel
theorem sf_X1_10 : gSf 1 10 = false := by decide +kernel
theorem sf_X2_0 : (decide (0 < gN 2) && gSf 2 0) = true := by decide +kernel
theorem sf_X2_1 : (decide (1 < gN 2) && gSf 2 1) = true := by decide +kernel
theorem sf_X2_2 : (decide (2 < gN 2) && gSf 2 2) = true := by decide +kernel
theorem sf_X2_3 : (decide (3 < gN 2) && gSf 2 3) = true := by decide +kernel
theorem sf_X2_4 : (decide (4 < gN 2) && gSf 2 4) = true := by decide +kernel
theorem sf_X2_5 : (decide (5 < gN 2) && gSf 2 5) = true := by decide +kernel
theorem sf_X2_6 : (decide (6 < gN 2) && gSf 2 6) = true := by decide +kernel
theorem sf_X2_7 : (decide (7 < gN 2) && gSf 2 7) = true := by decide +kernel
theorem sf_X2_8 : (decide (8 < gN 2) && gSf 2 8) = true := by decide +kernel
theorem sf_X2_9 : (decide (9 < gN 2) && gSf 2 9) = true := by decide +kernel
theorem sf_X2_10 : (decide (10 < gN 2) && gSf 2 10) = true := by decide +kernel
theorem sf_X2_11 : gSf 2 11 = false := by decide +kernel
theorem sf_X2_12 : (decide (12 < gN 2) && gSf 2 12) = true := by decide +kernel
theorem sf_X2_13 : (decide (13 < gN 2) && gSf 2 13) = true := by decide +kernel
theorem sf_X2_14 : (decide (14 < gN 2) && gSf 2 14) = true := by decide +kernel
theorem sf_X2_15 : (decide (15 < gN 2) && gSf 2 15) = true := by decide +kernel
theorem sf_X2_16 : gSf 2 16 = false := by decide +kernel
theorem sf_X3_0 : (decide (0 < gN 3) && gSf 3 0) = true := by decide +kernel
theorem sf_X3_1 : (decide (1 < gN 3) && gSf 3 1) = true := by decide +kernel
theorem sf_X3_2 : (decide (2 < gN 3) && gSf 3 2) = true := by decide +kernel
theorem sf_X3_3 : (decide (3 < gN 3) && gSf 3 3) = true := by decide +kernel
theorem sf_X3_4 : (decide (4 < gN 3) && gSf 3 4) = true := by decide +kernel
theorem sf_X3_5 : (decide (5 < gN 3) && gSf 3 5) = true := by decide +kernel
theorem sf_X3_6 : (decide (6 < gN 3) && gSf 3 6) = true := by decide +kernel
theorem sf_X3_7 : gSf 3 7 = false := by decide +kernel
theorem sf_X3_8 : gSf 3 8 = false := by decide +kernel
theorem sf_X4_0 : gSf 4 0 = false := by decide +kernel
theorem sf_X4_1 : gSf 4 1 = false := by decide +kernel
theorem sf_X4_2 : gSf 4 2 = false := by decide +kernel
theorem sf_X4_3 : gSf 4 3 = false := by decide +kernel
theorem sf_X4_4 : gSf 4 4 = false := by decide +kernel
theorem sf_X4_5 : gSf 4 5 = false := by decide +kernel
theorem sf_X4_6 : gSf 4 6 = false := by decide +kernel
theorem sf_X4_7 : gSf 4 7 = false := by decide +kernel
theorem sf_X4_8 : gSf 4 8 = false := by decide +kernel
theorem sf_X4_9 : (decide (9 < gN 4) && gSf 4 9) = true := by decide +kernel
theorem sf_X4_10 : (decide (10 < gN 4) && gSf 4 10) = true := by decide +kernel
theorem sf_X4_11 : (decide (11 < gN 4) && gSf 4 11) = true := by decide +kernel
theorem sf_X4_12 : (decide (12 < gN 4) && gSf 4 12) = true := by decide +kernel
theorem sf_X4_13 : (decide (13 < gN 4) && gSf 4 13) = true := by decide +kernel
theorem sf_X4_14 : (decide (14 < gN 4) && gSf 4 14) = true := by decide +kernel
theorem sf_X4_15 : gSf 4 15 = false := by decide +kernel
theorem sf_X5_0 : (decide (0 < gN 5) && gSf 5 0) = true := by decide +kernel
theorem sf_X5_1 : (decide (1 < gN 5) && gSf 5 1) = true := by decide +kernel
theorem sf_X5_2 : gSf 5 2 = false := by decide +kernel
theorem sf_X5_3 : gSf 5 3 = false := by decide +kernel
theorem sf_X5_4 : (decide (4 < gN 5) && gSf 5 4) = true := by decide +kernel
theorem sf_X5_5 : gSf 5 5 = false := by decide +kernel
theorem sf_X5_6 : gSf 5 6 = false := by decide +kernel
theorem sf_X5_7 : gSf 5 7 = false := by decide +kernel
theorem sf_X5_8 : gSf 5 8 = false := by decide +kernel
theorem sf_X5_9 : gSf 5 9 = false := by decide +kernel
theorem sf_X5_10 : gSf 5 10 = false := by decide +kernel
theorem sf_X5_11 : gSf 5 11 = false := by decide +kernel
theorem sf_X5_12 : gSf 5 12 = false := by decide +kernel
theorem sf_X5_13 : gSf 5 13 = false := by decide +kernel
theorem sf_X5_14 : gSf 5 14 = false := by decide +kernel
theorem sf_X5_15 : gSf 5 15 = false := by decide +kernel
theorem sf_X5_16 : (decide (16 < gN 5) && gSf 5 16) = true := by decide +kernel
theorem sf_X5_17 : gSf 5 17 = false := by decide +kernel
theorem sf_X6_0 : (decide (0 < gN 6) && gSf 6 0) = true := by decide +kernel
theorem sf_X6_1 : (decide (1 < gN 6) && gSf 6 1) = true := by decide +kernel
theorem sf_X6_2 : (decide (2 < gN 6) && gSf 6 2) = true := by decide +kernel
theorem sf_X6_3 : (decide (3 < gN 6) && gSf 6 3) = true := by decide +kernel
theorem sf_X6_4 : (decide (4 < gN 6) && gSf 6 4) = true := by decide +kernel
theorem sf_X6_5 : (decide (5 < gN 6) && gSf 6 5) = true := by decide +kernel
theorem sf_X6_6 : (decide (6 < gN 6) && gSf 6 6) = true := by decide +kernel
theorem sf_X6_7 : (decide (7 < gN 6) && gSf 6 7) = true := by decide +kernel
theorem sf_X6_8 : gSf 6 8 = false := by decide +kernel
theorem sf_X6_9 : (decide (9 < gN 6) && gSf 6 9) = true := by decide +kernel
theorem sf_X6_10 : (decide (10 < gN 6) && gSf 6 10) = true := by decide +kernel
theorem sf_X6_11 : (decide (11 < gN 6) && gSf 6 11) = true := by decide +kernel
theorem sf_X6_12 : (decide (12 < gN 6) && gSf 6 12) = true := by decide +kernel
theorem sf_X6_13 : (decide (13 < gN 6) && gSf 6 13) = true := by decide +kernel
theorem sf_X6_14 : (decide (14 < gN 6) && gSf 6 14) = true := by decide +kernel
theorem sf_X6_15 : (decide (15 < gN 6) && gSf 6 15) = true := by decide +kernel
theorem sf_X6_16 : gSf 6 16 = false := by decide +kernel
theorem sf_X7_0 : (decide (0 < gN 7) && gSf 7 0) = true := by decide +kernel
theorem sf_X7_1 : (decide (1 < gN 7) && gSf 7 1) = true := by decide +kernel
theorem sf_X7_2 : (decide (2 < gN 7) && gSf 7 2) = true := by decide +kernel
theorem sf_X7_3 : (decide (3 < gN 7) && gSf 7 3) = true := by decide +kernel
theorem sf_X7_4 : (decide (4 < gN 7) && gSf 7 4) = true := by decide +kernel
theorem sf_X7_5 : gSf 7 5 = false := by decide +kernel
theorem sf_X7_6 : gSf 7 6 = false := by decide +kernel
theorem sf_X7_7 : gSf 7 7 = false := by decide +kernel
theorem sf_X7_8 : (decide (8 < gN 7) && gSf 7 8) = true := by decide +kernel
theorem sf_X7_9 : (decide (9 < gN 7) && gSf 7 9) = true := by decide +kernel
theorem sf_X7_10 : (decide (10 < gN 7) && gSf 7 10) = true := by decide +kernel
theorem sf_X7_11 : (decide (11 < gN 7) && gSf 7 11) = true := by decide +kernel
theorem sf_X7_12 : gSf 7 12 = false := by decide +kernel
theorem sf_X8_0 : (decide (0 < gN 8) && gSf 8 0) = true := by decide +kernel
theorem sf_X8_1 : (decide (1 < gN 8) && gSf 8 1) = true := by decide +kernel
theorem sf_X8_2 : gSf 8 2 = false := by decide +kernel
theorem sf_X8_3 : (decide (3 < gN 8) && gSf 8 3) = true := by decide +kernel
theorem sf_X8_4 : (decide (4 < gN 8) && gSf 8 4) = true := by decide +kernel
theorem sf_X8_5 : gSf 8 5 = false := by decide +kernel
theorem sf_X8_6 : gSf 8 6 = false := by decide +kernel
theorem sf_X8_7 : gSf 8 7 = false := by decide +kernel
theorem sf_X8_8 : gSf 8 8 = false := by decide +kernel
theorem sf_X9_0 : (decide (0 < gN 9) && gSf 9 0) = true := by decide +kernel
theorem sf_X9_1 : (decide (1 < gN 9) && gSf 9 1) = true := by decide +kernel
theorem sf_X9_2 : (decide (2 < gN 9) && gSf 9 2) = true := by decide +kernel
theorem sf_X9_3 : (decide (3 < gN 9) && gSf 9 3) = true := by decide +kernel
theorem sf_X9_4 : (decide (4 < gN 9) && gSf 9 4) = true := by decide +kernel
theorem sf_X9_5 : (decide (5 < gN 9) && gSf 9 5) = true := by decide +kernel
theorem sf_X9_6 : gSf 9 6 = false := by decide +kernel
theorem sf_X10_0 : gSf 10 0 = false := by decide +kernel
theorem sf_X10_1 : gSf 10 1 = false := by decide +kernel
theorem sf_X10_2 : gSf 10 2 = false := by decide +kernel
theorem sf_X10_3 : gSf 10 3 = false := by decide +kernel
theorem sf_X10_4 : gSf 10 4 = false := by decide +kernel
theorem sf_X10_5 : gSf 10 5 = false := by decide +kernel
theorem sf_X10_6 : gSf 10 6 = false := by decide +kernel
theorem sf_X11_0 : (decide (0 < gN 11) && gSf 11 0) = true := by decide +kernel
theorem sf_X11_1 : gSf 11 1 = false := by decide +kernel
theorem sf_X11_2 : (decide (2 < gN 11) && gSf 11 2) = true := by decide +kernel
theorem sf_X11_3 : gSf 11 3 = false := by decide +kernel
theorem sf_X11_4 : gSf 11 4 = false := by decide +kernel
theorem sf_X11_5 : (decide (5 < gN 11) && gSf 11 5) = true := by decide +kernel
theorem sf_X11_6 : (decide (6 < gN 11) && gSf 11 6) = true := by decide +kernel
theorem sf_X11_7 : (decide (7 < gN 11) && gSf 11 7) = true := by decide +kernel
theorem sf_X11_8 : (decide (8 < gN 11) && gSf 11 8) = true := by decide +kernel
theorem sf_X11_9 : (decide (9 < gN 11) && gSf 11 9) = true := by decide +kernel
theorem sf_X11_10 : (decide (10 < gN 11) && gSf 11 10) = true := by decide +kernel
theorem sf_X11_11 : (decide (11 < gN 11) && gSf 11 11) = true := by decide +kernel
theorem sf_X11_12 : (decide (12 < gN 11) && gSf 11 12) = true := by decide +kernel
theorem sf_X11_13 : (decide (13 < gN 11) && gSf 11 13) = true := by decide +kernel
theorem sf_X12_0 : gSf 12 0 = false := by decide +kernel
theorem sf_X12_1 : (decide (1 < gN 12) && gSf 12 1) = true := by decide +kernel
theorem sf_X12_2 : gSf 12 2 = false := by decide +kernel
theorem sf_X12_3 : gSf 12 3 = false := by decide +kernel
theorem sf_X12_4 : (decide (4 < gN 12) && gSf 12 4) = true := by decide +kernel
theorem sf_X12_5 : (decide (5 < gN 12) && gSf 12 5) = true := by decide +kernel
theorem sf_X12_6 : gSf 12 6 = false := by decide +kernel
theorem sf_X12_7 : gSf 12 7 = false := by decide +kernel
theorem sf_X12_8 : (decide (8 < gN 12) && gSf 12 8) = true := by decide +kernel
theorem sf_X12_9 : (decide (9 < gN 12) && gSf 12 9) = true := by decide +kernel
theorem sf_X12_10 : (decide (10 < gN 12) && gSf 12 10) = true := by decide +kernel
theorem sf_X12_11 : (decide (11 < gN 12) && gSf 12 11) = true := by decide +kernel
theorem sf_X12_12 : (decide (12 < gN 12) && gSf 12 12) = true := by decide +kernel
theorem sf_X12_13 : (decide (13 < gN 12) && gSf 12 13) = true := by decide +kernel
theorem sf_X12_14 : gSf 12 14 = false := by decide +kernel
theorem sf_X12_15 : (decide (15 < gN 12) && gSf 12 15) = true := by decide +kernel
theorem sf_X12_16 : (decide (16 < gN 12) && gSf 12 16) = true := by decide +kernel
theorem sf_X12_17 : (decide (17 < gN 12) && gSf 12 17) = true := by decide +kernel
theorem sf_X12_18 : (decide (18 < gN 12) && gSf 12 18) = true := by decide +kernel
theorem sf_X12_19 : (decide (19 < gN 12) && gSf 12 19) = true := by decide +kernel
theorem sf_X12_20 : (decide (20 < gN 12) && gSf 12 20) = true := by decide +kernel
theorem sf_X12_21 : (decide (21 < gN 12) && gSf 12 21) = true := by decide +kernel
theorem sf_X12_22 : (decide (22 < gN 12) && gSf 12 22) = true := by decide +kernel
theorem sf_X12_23 : (decide (23 < gN 12) && gSf 12 23) = true := by decide +kernel
theorem sf_X12_24 : (decide (24 < gN 12) && gSf 12 24) = true := by decide +kernel
theorem sf_X12_25 : gSf 12 25 = false := by decide +kernel
theorem sf_X12_26 : gSf 12 26 = false := by decide +kernel
theorem sf_X12_27 : (decide (27 < gN 12) && gSf 12 27) = true := by decide +kernel
theorem sf_X12_28 : (decide (28 < gN 12) && gSf 12 28) = true := by decide +kernel
theorem sf_X12_29 : (decide (29 < gN 12) && gSf 12 29) = true := by decide +kernel
theorem sf_X12_30 : (decide (30 < gN 12) && gSf 12 30) = true := by decide +kernel
theorem sf_X12_31 : (decide (31 < gN 12) && gSf 12 31) = true := by decide +kernel
theorem sf_X12_32 : (decide (32 < gN 12) && gSf 12 32) = true := by decide +kernel
theorem sf_X12_33 : (decide (33 < gN 12) && gSf 12 33) = true := by decide +kernel
theorem sf_X12_34 : (decide (34 < gN 12) && gSf 12 34) = true := by decide +kernel
theorem sf_X12_35 : (decide (35 < gN 12) && gSf 12 35) = true := by decide +kernel
theorem sf_X12_36 : (decide (36 < gN 12) && gSf 12 36) = true := by decide +kernel
theorem sf_X12_37 : (decide (37 < gN 12) && gSf 12 37) = true := by decide +kernel
theorem sf_X12_38 : (decide (38 < gN 12) && gSf 12 38) = true := by decide +kernel
theorem sf_X12_39 : (decide (39 < gN 12) && gSf 12 39) = true := by decide +kernel
theorem sf_X12_40 : (decide (40 < gN 12) && gSf 12 40) = true := by decide +kernel
theorem sf_X12_41 : (decide (41 < gN 12) && gSf 12 41) = true := by decide +kernel
theorem sf_X12_42 : gSf 12 42 = false := by decide +kernel
theorem sf_X12_43 : gSf 12 43 = false := by decide +kernel
theorem sf_X12_44 : (decide (44 < gN 12) && gSf 12 44) = true := by decide +kernel
theorem sf_X12_45 : (decide (45 < gN 12) && gSf 12 45) = true := by decide +kernel
theorem sf_X12_46 : (decide (46 < gN 12) && gSf 12 46) = true := by decide +kernel
theorem sf_X12_47 : gSf 12 47 = false := by decide +kernel
theorem sf_X12_48 : gSf 12 48 = false := by decide +kernel
theorem sf_X12_49 : gSf 12 49 = false := by decide +kernel
theorem sf_X12_50 : (decide (50 < gN 12) && gSf 12 50) = true := by decide +kernel
theorem sf_X12_51 : gSf 12 51 = false := by decide +kernel
theorem sf_X12_52 : gSf 12 52 = false := by decide +kernel
theorem sf_X12_53 : (decide (53 < gN 12) && gSf 12 53) = true := by decide +kernel
theorem sf_X12_54 : gSf 12 54 = false := by decide +kernel
theorem sf_X12_55 : gSf 12 55 = false := by decide +kernel
theorem sf_X12_56 : gSf 12 56 = false := by decide +kernel
theorem sf_X12_57 : gSf 12 57 = false := by decide +kernel
theorem sf_X12_58 : gSf 12 58 = false := by decide +kernel
theorem sf_X12_59 : gSf 12 59 = false := by decide +kernel
theorem sf_X12_60 : gSf 12 60 = false := by decide +kernel
theorem sf_X12_61 : gSf 12 61 = false := by decide +kernel
theorem sf_X12_62 : gSf 12 62 = false := by decide +kernel
theorem sf_X12_63 : gSf 12 63 = false := by decide +kernel
theorem sf_X12_64 : (decide (64 < gN 12) && gSf 12 64) = true := by decide +kernel
theorem sf_X12_65 : (decide (65 < gN 12) && gSf 12 65) = true := by decide +kernel
theorem sf_X12_66 : (decide (66 < gN 12) && gSf 12 66) = true := by decide +kernel
theorem sf_X12_67 : (decide (67 < gN 12) && gSf 12 67) = true := by decide +kernel
theorem sf_X12_68 : (decide (68 < gN 12) && gSf 12 68) = true := by decide +kernel
theorem sf_X12_69 : (decide (69 < gN 12) && gSf 12 69) = true := by decide +kernel
theorem sf_X12_70 : (decide (70 < gN 12) && gSf 12 70) = true := by decide +kernel
theorem sf_X12_71 : (decide (71 < gN 12) && gSf 12 71) = true := by decide +kernel
theorem sf_X12_72 : (decide (72 < gN 12) && gSf 12 72) = true := by decide +kernel
theorem sf_X12_73 : (decide (73 < gN 12) && gSf 12 73) = true := by decide +kernel
theorem sf_X12_74 : (decide (74 < gN 12) && gSf 12 74) = true := by decide +kernel
theorem sf_X12_75 : (decide (75 < gN 12) && gSf 12 75) = true := by decide +kernel
theorem sf_X12_76 : (decide (76 < gN 12) && gSf 12 76) = true := by decide +kernel
theorem sf_X12_77 : gSf 12 77 = false := by decide +kernel
theorem sf_X12_78 : (decide (78 < gN 12) && gSf 12 78) = true := by decide +kernel
theorem sf_X12_79 : gSf 12 79 = false := by decide +kernel
theorem sf_X12_80 : gSf 12 80 = false := by decide +kernel
theorem sf_X12_81 : gSf 12 81 = false := by decide +kernel
theorem sf_X12_82 : gSf 12 82 = false := by decide +kernel
theorem sf_X12_83 : gSf 12 83 = false := by decide +kernel
theorem sf_X12_84 : gSf 12 84 = false := by decide +kernel
theorem sf_X12_85 : (decide (85 < gN 12) && gSf 12 85) = true := by decide +kernel
theorem sf_X12_86 : (decide (86 < gN 12) && gSf 12 86) = true := by decide +kernel
theorem sf_X12_87 : gSf 12 87 = false := by decide +kernel
theorem sf_X12_88 : gSf 12 88 = false := by decide +kernel
theorem sf_X12_89 : (decide (89 < gN 12) && gSf 12 89) = true := by decide +kernel
theorem sf_X12_90 : (decide (90 < gN 12) && gSf 12 90) = true := by decide +kernel
theorem sf_X12_91 : (decide (91 < gN 12) && gSf 12 91) = true := by decide +kernel
theorem sf_X12_92 : gSf 12 92 = false := by decide +kernel
theorem sf_X12_93 : gSf 12 93 = false := by decide +kernel
theorem sf_X12_94 : (decide (94 < gN 12) && gSf 12 94) = true := by decide +kernel
theorem sf_X12_95 : (decide (95 < gN 12) && gSf 12 95) = true := by decide +kernel
theorem sf_X12_96 : (decide (96 < gN 12) && gSf 12 96) = true := by decide +kernel
theorem sf_X12_97 : (decide (97 < gN 12) && gSf 12 97) = true := by decide +kernel
theorem sf_X12_98 : (decide (98 < gN 12) && gSf 12 98) = true := by decide +kernel
theorem sf_X12_99 : gSf 12 99 = false := by decide +kernel
theorem sf_X12_100 : (decide (100 < gN 12) && gSf 12 100) = true := by decide +kernel
theorem sf_X12_101 : (decide (101 < gN 12) && gSf 12 101) = true := by decide +kernel
theorem sf_X12_102 : (decide (102 < gN 12) && gSf 12 102) = true := by decide +kernel
theorem sf_X12_103 : (decide (103 < gN 12) && gSf 12 103) = true := by decide +kernel
theorem sf_X12_104 : (decide (104 < gN 12) && gSf 12 104) = true := by decide +kernel
theorem sf_X12_105 : (decide (105 < gN 12) && gSf 12 105) = true := by decide +kernel
theorem sf_X12_106 : (decide (106 < gN 12) && gSf 12 106) = true := by decide +kernel
theorem sf_X12_107 : (decide (107 < gN 12) && gSf 12 107) = true := by decide +kernel
theorem sf_X12_108 : (decide (108 < gN 12) && gSf 12 108) = true := by decide +kernel
theorem sf_X12_109 : (decide (109 < gN 12) && gSf 12 109) = true := by decide +kernel
theorem sf_X12_110 : gSf 12 110 = false := by decide +kernel
theorem sf_X12_111 : gSf 12 111 = false := by decide +kernel
theorem sf_X12_112 : gSf 12 112 = false := by decide +kernel
theorem sf_X12_113 : gSf 12 113 = false := by decide +kernel
theorem sf_X12_114 : gSf 12 114 = false := by decide +kernel
theorem sf_X12_115 : (decide (115 < gN 12) && gSf 12 115) = true := by decide +kernel
