/-! rows in the form that the walker uses: literal places, exact sums, booleans, calls with an exact answer -/
def gb (P : Prop) [Decidable P] : Int := if P then 1 else 0
theorem gb_t {P : Prop} [Decidable P] (h : P) : gb P = 1 := if_pos h
theorem gb_f {P : Prop} [Decidable P] (h : ¬ P) : gb P = 0 := if_neg h
theorem gb_01 (P : Prop) [Decidable P] : gb P = 0 ∨ gb P = 1 := by unfold gb; split; exact Or.inr rfl; exact Or.inl rfl
theorem gb_eq0 {P : Prop} [Decidable P] : gb P = 0 ↔ ¬ P := by unfold gb; split <;> simp_all
theorem gb_ne0 {P : Prop} [Decidable P] : ¬ gb P = 0 ↔ P := by unfold gb; split <;> simp_all
theorem gb_congr {P R : Prop} [Decidable P] [Decidable R] (h : P ↔ R) : gb P = gb R := by unfold gb; simp [h]
/-- an exact answer, an exact world -/
def rE (v1 : gV) (σ1 : gH) : gV → gH → Prop := fun v σ' => v = v1 ∧ σ' = σ1
theorem rE_i {v v1 : gV} {σ σ1 : gH} (h : v = v1) (h2 : σ = σ1) : rE v1 σ1 v σ := ⟨h, h2⟩
theorem gbT {P : Prop} [Decidable P] (h : P) : gI 1 = gI (gb P) := by rw [gb_t h]
theorem gbF {P : Prop} [Decidable P] (h : ¬ P) : gI 0 = gI (gb P) := by rw [gb_f h]
section W2
variable {M : gM} {d : Nat} {Q : gV → gH → Prop} {σ : gH} {pc pc' : Nat} {ls ls' st st' : List gV}
theorem Mt.walk {av : List gV} (hp : plainName M.1.cls = true ∧ M.1.cls ≠ "GiftRegisterLaw") (hX : M.2.2.2.2 = none) (hno : ∀ k σ, ¬ Q (gX (k + 9)) σ) (hlen : (gFlat av).length ≤ M.2.2.1) (hls : gEnt av M.2.2.1 = ls) (k : Wp M d Q σ 0 ls []) : Mt M d av σ Q := Mt.of hp hX hno hlen (by rw [hls]; exact k)
theorem v_getI {idx ci j x : Nat} {ji : Int} (hji : (j : Int) = ji) (hf : gFld M.1.cls idx ci j 0) (hk : gL[x]? = some (.inl ci)) (hd : decode M.2.1 pc = .ok (.getfield idx, 3)) (hpc : pc + 3 = pc') (k : Wp M d Q σ pc' ls (gI (σ x ji) :: st)) : Wp M d Q σ pc ls (gR x :: st) := by subst hji; exact w_getI hf hk hd hpc k
theorem v_getZ {idx ci j x : Nat} {ji : Int} (hji : (j : Int) = ji) (hf : gFld M.1.cls idx ci j 2) (hk : gL[x]? = some (.inl ci)) (hd : decode M.2.1 pc = .ok (.getfield idx, 3)) (hpc : pc + 3 = pc') (k : Wp M d Q σ pc' ls (gI (σ x ji) :: st)) : Wp M d Q σ pc ls (gR x :: st) := by subst hji; exact w_getZ hf hk hd hpc k
theorem v_getJ {idx ci j x : Nat} {ji : Int} (hji : (j : Int) = ji) (hf : gFld M.1.cls idx ci j 1) (hk : gL[x]? = some (.inl ci)) (hd : decode M.2.1 pc = .ok (.getfield idx, 3)) (hpc : pc + 3 = pc') (k : Wp M d Q σ pc' ls (gJ (σ x ji) :: st)) : Wp M d Q σ pc ls (gR x :: st) := by subst hji; exact w_getJ hf hk hd hpc k
theorem v_getM {idx ci j x q : Nat} {ji : Int} (hji : (j : Int) = ji) (hf : gFld M.1.cls idx ci j 3) (hk : gL[x]? = some (.inl ci)) (hq : σ x ji = (q : Int)) (hd : decode M.2.1 pc = .ok (.getfield idx, 3)) (hpc : pc + 3 = pc') (k : Wp M d Q σ pc' ls (gR q :: st)) : Wp M d Q σ pc ls (gR x :: st) := by subst hji; exact w_getR hf hk hq hd hpc k
theorem v_putI {idx ci j x : Nat} {n ji : Int} (hji : (j : Int) = ji) (hf : gPut M.1.cls idx ci j .int false) (hk : gL[x]? = some (.inl ci)) (hns : gSf ci j = false) (hd : decode M.2.1 pc = .ok (.putfield idx, 3)) (hpc : pc + 3 = pc') (k : Wp M d Q (gUp σ x ji n) pc' ls st) : Wp M d Q σ pc ls (gI n :: gR x :: st) := by subst hji; exact w_putI hf hk hd hpc hns k
theorem v_putZ {idx ci j x : Nat} {n ji : Int} (hn : n = 0 ∨ n = 1) (hji : (j : Int) = ji) (hf : gPut M.1.cls idx ci j .boolean false) (hk : gL[x]? = some (.inl ci)) (hns : gSf ci j = false) (hd : decode M.2.1 pc = .ok (.putfield idx, 3)) (hpc : pc + 3 = pc') (k : Wp M d Q (gUp σ x ji n) pc' ls st) : Wp M d Q σ pc ls (gI n :: gR x :: st) := by subst hji; exact w_putZ hf hn hk hd hpc hns k
theorem v_putJ {idx ci j x : Nat} {n ji : Int} (hji : (j : Int) = ji) (hf : gPut M.1.cls idx ci j .long false) (hk : gL[x]? = some (.inl ci)) (hns : gSf ci j = false) (hd : decode M.2.1 pc = .ok (.putfield idx, 3)) (hpc : pc + 3 = pc') (k : Wp M d Q (gUp σ x ji n) pc' ls st) : Wp M d Q σ pc ls (gJ n :: gR x :: st) := by subst hji; exact w_putJ hf hk hd hpc hns k
theorem v_putM {idx ci j x q : Nat} {ty : FieldType} {ji : Int} (hji : (j : Int) = ji) (hf : gPut M.1.cls idx ci j ty false) (h3 : gFt2 ty = 3) (hk : gL[x]? = some (.inl ci)) (hns : gSf ci j = false) (hd : decode M.2.1 pc = .ok (.putfield idx, 3)) (hpc : pc + 3 = pc') (k : Wp M d Q (gUp σ x ji q) pc' ls st) : Wp M d Q σ pc ls (gR q :: gR x :: st) := by subst hji; exact w_putR hf h3 hk hns hd hpc k
theorem v_iadd {x y : Int} (h : gi32 (x + y)) (hd : decode M.2.1 pc = .ok (.iadd, 1)) (hpc : pc + 1 = pc') (k : Wp M d Q σ pc' ls (gI (x + y) :: st)) : Wp M d Q σ pc ls (gI y :: gI x :: st) := w_iadd hd hpc (by rw [w32_id h]; exact k)
theorem v_isub {x y : Int} (h : gi32 (x - y)) (hd : decode M.2.1 pc = .ok (.isub, 1)) (hpc : pc + 1 = pc') (k : Wp M d Q σ pc' ls (gI (x - y) :: st)) : Wp M d Q σ pc ls (gI y :: gI x :: st) := w_isub hd hpc (by rw [w32_id h]; exact k)
theorem v_imul {x y : Int} (h : gi32 (x * y)) (hd : decode M.2.1 pc = .ok (.imul, 1)) (hpc : pc + 1 = pc') (k : Wp M d Q σ pc' ls (gI (x * y) :: st)) : Wp M d Q σ pc ls (gI y :: gI x :: st) := w_imul hd hpc (by rw [w32_id h]; exact k)
theorem v_ladd {x y : Int} (h : gi64 (x + y)) (hd : decode M.2.1 pc = .ok (.ladd, 1)) (hpc : pc + 1 = pc') (k : Wp M d Q σ pc' ls (gJ (x + y) :: st)) : Wp M d Q σ pc ls (gJ y :: gJ x :: st) := w_ladd hd hpc (by rw [w64_id h]; exact k)
theorem v_lsub {x y : Int} (h : gi64 (x - y)) (hd : decode M.2.1 pc = .ok (.lsub, 1)) (hpc : pc + 1 = pc') (k : Wp M d Q σ pc' ls (gJ (x - y) :: st)) : Wp M d Q σ pc ls (gJ y :: gJ x :: st) := w_lsub hd hpc (by rw [w64_id h]; exact k)
theorem v_lmul {x y : Int} (h : gi64 (x * y)) (hd : decode M.2.1 pc = .ok (.lmul, 1)) (hpc : pc + 1 = pc') (k : Wp M d Q σ pc' ls (gJ (x * y) :: st)) : Wp M d Q σ pc ls (gJ y :: gJ x :: st) := w_lmul hd hpc (by rw [w64_id h]; exact k)
theorem v_iinc {i : Nat} {n x : Int} (h : gi32 (x + n)) (hi : i < M.2.2.1) (hl0 : ls[i]? = some (gI x)) (hls : gSt1 ls i (gI (x + n)) = ls') (hd : decode M.2.1 pc = .ok (.iinc i n, 3)) (hpc : pc + 3 = pc') (k : Wp M d Q σ pc' ls' st) : Wp M d Q σ pc ls st := w_iinc hi hl0 (by rw [w32_id h]; exact hls) hd hpc k
theorem v_if_eqB {P : Prop} [Decidable P] {off : Int} {t : Nat} (hd : decode M.2.1 pc = .ok (.ifCond .eq off, 3)) (ht : (pc : Int) + off = (t : Int)) (hpc : pc + 3 = pc') (k1 : ¬ P → Wp M d Q σ t ls st) (k2 : P → Wp M d Q σ pc' ls st) : Wp M d Q σ pc ls (gI (gb P) :: st) := w_if_eq hd ht hpc (fun h => k1 (gb_eq0.mp h)) (fun h => k2 (gb_ne0.mp h))
theorem v_if_neB {P : Prop} [Decidable P] {off : Int} {t : Nat} (hd : decode M.2.1 pc = .ok (.ifCond .ne off, 3)) (ht : (pc : Int) + off = (t : Int)) (hpc : pc + 3 = pc') (k1 : P → Wp M d Q σ t ls st) (k2 : ¬ P → Wp M d Q σ pc' ls st) : Wp M d Q σ pc ls (gI (gb P) :: st) := w_if_ne hd ht hpc (fun h => k1 (gb_ne0.mp h)) (fun h => k2 (gb_eq0.mp h))
theorem v_callVE {M' : gM} {idx n d' x ci : Nat} {av st0 : List gV} {v1 : gV} {σ1 : gH} (hm : gMi M' n) (hlink : Cond.methodLink M.1.cls idx M'.1 ∈ gG) (hn : av.length = n) (hci : gCi ci M'.1.cls) (hk : gL[x]? = some (.inl ci)) (hst : st0 = av.reverse ++ gR x :: st) (hcat : gCat st ≤ 8) (hdd : d' + 1 ≤ d) (hd : decode M.2.1 pc = .ok (.invokevirtual idx, 3)) (hpc : pc + 3 = pc') (hpu : gPush v1 st = st')
    (hM : Mt M' d' (gR x :: av) σ (rE v1 σ1)) (k : Wp M d Q σ1 pc' ls st') : Wp M d Q σ pc ls st0 :=
  w_callV hm hlink hn hci hk hst hcat hdd hd hpc hM fun v σ' h => by obtain ⟨rfl, rfl⟩ := h; rw [hpu]; exact k
theorem v_callSE {M' : gM} {idx n d' : Nat} {av st0 : List gV} {v1 : gV} {σ1 : gH} (hm : gMs M' n) (hstat : Cond.static M'.1 ∈ gG) (hlink : Cond.methodLink M.1.cls idx M'.1 ∈ gG) (hn : av.length = n) (hst : st0 = av.reverse ++ st) (hcat : gCat st ≤ 8) (hdd : d' + 1 ≤ d) (hd : decode M.2.1 pc = .ok (.invokestatic idx, 3)) (hpc : pc + 3 = pc') (hpu : gPush v1 st = st')
    (hM : Mt M' d' av σ (rE v1 σ1)) (k : Wp M d Q σ1 pc' ls st') : Wp M d Q σ pc ls st0 :=
  w_callS hm hstat hlink hn hst hcat hdd hd hpc hM fun v σ' h => by obtain ⟨rfl, rfl⟩ := h; rw [hpu]; exact k
theorem v_ireturn {n : Int} (hr : M.2.2.2.1 = some .int) (hd : decode M.2.1 pc = .ok (.ireturn, 1)) (hq : Q (gI n) σ) : Wp M d Q σ pc ls [gI n] := w_ireturn hr hd hq
theorem v_zretB {P : Prop} [Decidable P] (hr : M.2.2.2.1 = some .boolean) (hd : decode M.2.1 pc = .ok (.ireturn, 1)) (hq : Q (gI (gb P)) σ) : Wp M d Q σ pc ls [gI (gb P)] := w_zreturn hr (gb_01 P) hd hq
end W2
theorem pn_X0 : plainName RX0 = true ∧ RX0 ≠ "GiftRegisterLaw" := by decide +kernel
theorem pn_X1 : plainName RX1 = true ∧ RX1 ≠ "GiftRegisterLaw" := by decide +kernel
theorem pn_X2 : plainName RX2 = true ∧ RX2 ≠ "GiftRegisterLaw" := by decide +kernel
theorem pn_X3 : plainName RX3 = true ∧ RX3 ≠ "GiftRegisterLaw" := by decide +kernel
theorem pn_X4 : plainName RX4 = true ∧ RX4 ≠ "GiftRegisterLaw" := by decide +kernel
theorem pn_X5 : plainName RX5 = true ∧ RX5 ≠ "GiftRegisterLaw" := by decide +kernel
theorem pn_X6 : plainName RX6 = true ∧ RX6 ≠ "GiftRegisterLaw" := by decide +kernel
theorem pn_X7 : plainName RX7 = true ∧ RX7 ≠ "GiftRegisterLaw" := by decide +kernel
theorem pn_X8 : plainName RX8 = true ∧ RX8 ≠ "GiftRegisterLaw" := by decide +kernel
theorem pn_X9 : plainName RX9 = true ∧ RX9 ≠ "GiftRegisterLaw" := by decide +kernel
theorem pn_X10 : plainName RX10 = true ∧ RX10 ≠ "GiftRegisterLaw" := by decide +kernel
theorem pn_X11 : plainName RX11 = true ∧ RX11 ≠ "GiftRegisterLaw" := by decide +kernel
theorem pn_X12 : plainName RX12 = true ∧ RX12 ≠ "GiftRegisterLaw" := by decide +kernel
