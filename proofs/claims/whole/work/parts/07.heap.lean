/-! fields and arrays -/
def gFld (own : String) (idx ci j tc : Nat) : Prop := ∃ r : vw_C, vwCl[ci]? = some r ∧ j < r.2.2 ∧ (∀ w ∈ u_ws r.1 r.2.1 r.2.2, w ∈ gG) ∧ Cond.fieldLink own idx (r.2.1 j).1 (r.2.1 j).2.1 (r.2.1 j).2.2.1 ∈ gG ∧ gFt ci j = tc
def gCl (ci : Nat) : Prop := ∃ (r : vw_C) (ty0 : Nat → FieldType), vwCl[ci]? = some r ∧ (∀ w ∈ u_ws r.1 r.2.1 r.2.2, w ∈ gG) ∧ (∀ k, k < r.2.2 → parseFieldDescriptor (r.2.1 k).2.2.1 = some (ty0 k)) ∧ ∀ a, a < r.2.2 → ∀ b, b < r.2.2 → a ≠ b → (r.2.1 a).2.1 ≠ (r.2.1 b).2.1
def gFt2 (ty : FieldType) : Nat := match ty with
  | .int => 0
  | .long => 1
  | .boolean => 2
  | .object _ => 3
  | .array _ => 3
  | _ => 9
/-- a field that may be written: its class, its type, final or not -/
def gPut (own : String) (idx ci j : Nat) (ty : FieldType) (fin : Bool) : Prop := gCl ci ∧ ∃ r : vw_C, vwCl[ci]? = some r ∧ j < r.2.2 ∧ Cond.fieldLink own idx (r.2.1 j).1 (r.2.1 j).2.1 (r.2.1 j).2.2.1 ∈ gG ∧ gFt ci j = gFt2 ty ∧ parseFieldDescriptor (r.2.1 j).2.2.1 = some ty ∧ (r.2.1 j).2.2.2 = fin ∧ (fin = true → (r.2.1 j).1 = own)
theorem gN_of {ci : Nat} {r : vw_C} (h : vwCl[ci]? = some r) : gN ci = r.2.2 := by unfold gN; rw [h]
theorem gWI {n : Nat} {x : Int} (h : gi32 x) : gW n (gI x) := h
theorem gWJ {n : Nat} {x : Int} (h : gi64 x) : gW n (gJ x) := h
theorem gWR {n k : Nat} (h : k < n) : gW n (gR k) := h
theorem gbit {x : Int} (h : x = 0 ∨ x = 1) : gi32 x := by unfold gi32; omega
theorem gCR {adr b : Nat → Nat} {q : Nat} : gVal adr 3 (q : Int) = gC adr b (gR q) := by
  unfold gVal
  simp only
  rw [if_neg (by omega)]
  rfl
section GH
variable {M : gM} {d mc ms : Nat} {Q : gV → List gK → gH → Prop} {L : List gK} {σ : gH} {pc pc' : Nat} {ls st : List gV}
theorem gWp.getf {idx ci j tc x : Nat} {v : gV} (hf : gFld M.1.cls idx ci j tc) (hk : L[x]? = some (.inl ci)) (hd : decode M.2.1 pc = .ok (.getfield idx, 3)) (hpc : pc + 3 = pc')
    (hv : gOk L.length tc (σ x j) → (∀ adr b, gC adr b v = gVal adr tc (σ x j)) ∧ gW L.length v) (k : gWp M d mc ms Q L σ pc' ls (v :: st)) : gWp M d mc ms Q L σ pc ls (gR x :: st) := by
  subst hpc
  intro p l e R s m args below meth c D adr0 b n0 Qf C hret adr H locs cells slots lsM hI hF
  obtain ⟨⟨C1, T1, N1⟩, hc, hj, hin, hlink, htc⟩ := hf
  have hj2 : j < gN ci := by rw [gN_of hc]; exact hj
  have hg := hI.2.2.1 x _ hk j hj2
  have hg : gOk L.length tc (σ x j) := by rw [← htc]; exact hg
  obtain ⟨hv1, hv2⟩ := hv hg
  have he := gWs_get (D := D) (adr := adr) (σ := σ) hk
  have hfs := gE_obj_get (adr := adr) (f := σ x) hj2
  rw [htc, ← hv1 adr b] at hfs
  refine va_get C.1 C.2.1 C.2.2.2.2.1 hin C.2.2.2.1 C.2.2.2.2.2.1 hI.1 x he hc j hj (C.2.2.2.2.1 _ hlink) (fun _ h => h) hfs hd ?_
  exact k p l e R s m args below meth c D adr0 b n0 Qf C hret adr H locs cells slots lsM hI ⟨hF.1, hF.2.1, gwc hv2 (gw1 hF.2.2)⟩
theorem wg_getI {idx ci j x : Nat} (hf : gFld M.1.cls idx ci j 0) (hk : L[x]? = some (.inl ci)) (hd : decode M.2.1 pc = .ok (.getfield idx, 3)) (hpc : pc + 3 = pc') (k : gWp M d mc ms Q L σ pc' ls (gI (σ x j) :: st)) : gWp M d mc ms Q L σ pc ls (gR x :: st) :=
  gWp.getf (v := gI (σ x j)) hf hk hd hpc (fun h => ⟨fun _ _ => rfl, gWI h⟩) k
theorem wg_getZ {idx ci j x : Nat} (hf : gFld M.1.cls idx ci j 2) (hk : L[x]? = some (.inl ci)) (hd : decode M.2.1 pc = .ok (.getfield idx, 3)) (hpc : pc + 3 = pc') (k : gWp M d mc ms Q L σ pc' ls (gI (σ x j) :: st)) : gWp M d mc ms Q L σ pc ls (gR x :: st) :=
  gWp.getf (v := gI (σ x j)) hf hk hd hpc (fun h => ⟨fun _ _ => rfl, gWI (gbit h)⟩) k
theorem wg_getJ {idx ci j x : Nat} (hf : gFld M.1.cls idx ci j 1) (hk : L[x]? = some (.inl ci)) (hd : decode M.2.1 pc = .ok (.getfield idx, 3)) (hpc : pc + 3 = pc') (k : gWp M d mc ms Q L σ pc' ls (gJ (σ x j) :: st)) : gWp M d mc ms Q L σ pc ls (gR x :: st) :=
  gWp.getf (v := gJ (σ x j)) hf hk hd hpc (fun h => ⟨fun _ _ => rfl, gWJ h⟩) k
theorem wg_getR {idx ci j x q : Nat} (hf : gFld M.1.cls idx ci j 3) (hk : L[x]? = some (.inl ci)) (hq : σ x j = (q : Int)) (hd : decode M.2.1 pc = .ok (.getfield idx, 3)) (hpc : pc + 3 = pc') (k : gWp M d mc ms Q L σ pc' ls (gR q :: st)) : gWp M d mc ms Q L σ pc ls (gR x :: st) :=
  gWp.getf (v := gR q) hf hk hd hpc (fun h => ⟨fun adr b => by rw [hq]; exact gCR.symm, gWR (by rw [hq] at h; have h2 : (q : Int) < L.length := h.2; omega)⟩) k
theorem gWp.putf {idx ci j x : Nat} {ty : FieldType} {v : gV} {n : Int} {fin : Bool} (hf : gPut M.1.cls idx ci j ty fin) (hinit : fin = true → M.1.name = "<init>") (hk : L[x]? = some (.inl ci)) (hd : decode M.2.1 pc = .ok (.putfield idx, 3)) (hpc : pc + 3 = pc')
    (hv : gW L.length v → (∀ adr b, gC adr b v = gVal adr (gFt2 ty) n) ∧ gOk L.length (gFt2 ty) n ∧ (∀ adr, narrow ty (gVal adr (gFt2 ty) n) = gVal adr (gFt2 ty) n ∧ fits ty (gVal adr (gFt2 ty) n) = true)) (k : gWp M d mc ms Q L (gUp σ x j n) pc' ls st) : gWp M d mc ms Q L σ pc ls (v :: gR x :: st) := by
  subst hpc
  intro p l e R s m args below meth c D adr0 b n0 Qf C hret adr H locs cells slots lsM hI hF
  obtain ⟨⟨r', ty0, hc', hin, hty, hnm⟩, ⟨C1, T1, N1⟩, hc, hj, hlink, htc, hpd, hfin, hown2⟩ := hf
  have hr : r' = (C1, T1, N1) := Option.some.inj (hc'.symm.trans hc)
  subst hr
  have hj2 : j < gN ci := by rw [gN_of hc]; exact hj
  obtain ⟨hv1, hv2, hv3⟩ := hv (gw0 hF.2.2)
  have he := gWs_get (D := D) (adr := adr) (σ := σ) hk
  have key : ∀ (H1 : Heap) (locs1 : List Loc), va_P D.1 vwCl ((gWs D adr L σ).set x (adr x, .inr (ci, ((List.range (gN ci)).map fun j => gVal adr (gFt ci j) (σ x j)).set j (gC adr b v)))) H1 → va_D (gA adr0 n0 s.heap.size) ((gWs D adr L σ).set x (adr x, .inr (ci, ((List.range (gN ci)).map fun j => gVal adr (gFt ci j) (σ x j)).set j (gC adr b v)))) → va_S (gA adr0 n0 s.heap.size) s.heap H1 locs1 → W p l e R s m args below meth c H1 locs1 cells slots Qf (F0 m (pc + 3) lsM (st.map (gC adr b))) := by
    intro H1 locs1 hP1 hD1 hS1
    rw [hv1, ← htc, gE_obj_set, gWs_set hk] at hP1 hD1
    refine k p l e R s m args below meth c D adr0 b n0 Qf C hret adr H1 locs1 cells slots lsM ⟨hP1, hD1, hI.2.2.1.up hk (by omega) ?_, hS1, hI.2.2.2.2⟩ ⟨hF.1, hF.2.1, gw1 (gw1 hF.2.2)⟩
    show gOk L.length (gFt ci ((j : Int).toNat)) n
    rw [Int.toNat_natCast, htc]
    exact hv2
  have hn := (hv3 adr).1
  have hfit := (hv3 adr).2
  rw [← hv1 adr b] at hn hfit
  cases fin with
  | false => exact va_put C.1 C.2.1 C.2.2.2.2.1 hin ty0 hty hnm C.2.2.2.1 C.2.2.2.2.2.1 hI.1 hI.2.1 hI.2.2.2.1 x he hc j hj (C.2.2.2.2.1 _ hlink) (fun _ h => h) hfin hpd hn hfit (by simpa using hj2) hd key
  | true => exact va_putF C.1 C.2.1 C.2.2.2.2.1 hin ty0 hty hnm C.2.2.2.1 C.2.2.2.2.2.1 hI.1 hI.2.1 hI.2.2.2.1 x he hc j hj (C.2.2.2.2.1 _ hlink) (fun _ h => h) hfin (C.2.2.2.2.2.2.2.2.2.1 (hinit rfl)) (hown2 rfl) hpd hn hfit (by simpa using hj2) hd key
theorem wg_putI {idx ci j x : Nat} {n : Int} (hf : gPut M.1.cls idx ci j .int false) (hk : L[x]? = some (.inl ci)) (hd : decode M.2.1 pc = .ok (.putfield idx, 3)) (hpc : pc + 3 = pc') (k : gWp M d mc ms Q L (gUp σ x j n) pc' ls st) : gWp M d mc ms Q L σ pc ls (gI n :: gR x :: st) :=
  gWp.putf (n := n) hf (fun h => by cases h) hk hd hpc (fun h => ⟨fun _ _ => rfl, h, fun _ => ⟨rfl, rfl⟩⟩) k
theorem gnarB {n : Int} (h : n = 0 ∨ n = 1) (adr : Nat → Nat) : narrow .boolean (gVal adr 2 n) = gVal adr 2 n ∧ fits .boolean (gVal adr 2 n) = true := by
  show narrow .boolean (.int (Int32.ofInt n)) = .int (Int32.ofInt n) ∧ fits .boolean (.int (Int32.ofInt n)) = true
  rcases h with rfl | rfl <;> exact ⟨by decide +kernel, by decide +kernel⟩
theorem wg_putZ {idx ci j x : Nat} {n : Int} (hf : gPut M.1.cls idx ci j .boolean false) (hn : n = 0 ∨ n = 1) (hk : L[x]? = some (.inl ci)) (hd : decode M.2.1 pc = .ok (.putfield idx, 3)) (hpc : pc + 3 = pc') (k : gWp M d mc ms Q L (gUp σ x j n) pc' ls st) : gWp M d mc ms Q L σ pc ls (gI n :: gR x :: st) :=
  gWp.putf (n := n) hf (fun h => by cases h) hk hd hpc (fun h => ⟨fun _ _ => rfl, hn, gnarB hn⟩) k
theorem wg_putJ {idx ci j x : Nat} {n : Int} (hf : gPut M.1.cls idx ci j .long false) (hk : L[x]? = some (.inl ci)) (hd : decode M.2.1 pc = .ok (.putfield idx, 3)) (hpc : pc + 3 = pc') (k : gWp M d mc ms Q L (gUp σ x j n) pc' ls st) : gWp M d mc ms Q L σ pc ls (gJ n :: gR x :: st) :=
  gWp.putf (n := n) hf (fun h => by cases h) hk hd hpc (fun h => ⟨fun _ _ => rfl, h, fun _ => ⟨rfl, rfl⟩⟩) k
theorem gnarR {ty : FieldType} (h : gFt2 ty = 3) (adr : Nat → Nat) (q : Nat) : narrow ty (gVal adr 3 (q : Int)) = gVal adr 3 (q : Int) ∧ fits ty (gVal adr 3 (q : Int)) = true := by
  rw [gCR (b := adr)]
  cases ty <;> first | exact ⟨rfl, rfl⟩ | (exact absurd h (by decide))
theorem wg_putR {idx ci j x q : Nat} {ty : FieldType} {fin : Bool} (hf : gPut M.1.cls idx ci j ty fin) (hinit : fin = true → M.1.name = "<init>") (h3 : gFt2 ty = 3) (hk : L[x]? = some (.inl ci)) (hd : decode M.2.1 pc = .ok (.putfield idx, 3)) (hpc : pc + 3 = pc') (k : gWp M d mc ms Q L (gUp σ x j q) pc' ls st) : gWp M d mc ms Q L σ pc ls (gR q :: gR x :: st) :=
  gWp.putf (n := (q : Int)) hf hinit hk hd hpc (fun h => by
    rw [h3]
    refine ⟨fun adr b => gCR.symm, ?_, fun adr => gnarR h3 adr q⟩
    have h2 : q < L.length := h
    exact ⟨by omega, by omega⟩) k
theorem gcast {i : Int} (h : 0 ≤ i) : ((i.toNat : Nat) : Int) = i := Int.toNat_of_nonneg h
theorem wg_iald {x n : Nat} {i : Int} (hk : L[x]? = some (.inr (0, n))) (h0 : 0 ≤ i) (h1 : i < n) (hd : decode M.2.1 pc = .ok (.iaload, 1)) (hpc : pc + 1 = pc') (k : gWp M d mc ms Q L σ pc' ls (gI (σ x i) :: st)) : gWp M d mc ms Q L σ pc ls (gI i :: gR x :: st) := by
  subst hpc
  intro p l e R s m args below meth c D adr0 b n0 Qf C hret adr H locs cells slots lsM hI hF
  have hi : gi32 i := gw0 hF.2.2
  refine va_iald C.1 C.2.1 C.2.2.2.2.2.1 hI.1 x 0 (gWs_get hk) rfl (gvpin hi h0 h1) hd ?_
  rw [gnat32 hi h0, gcast h0]
  refine k p l e R s m args below meth c D adr0 b n0 Qf C hret adr H locs cells slots lsM hI ⟨hF.1, hF.2.1, gwc ?_ (gw1 (gw1 hF.2.2))⟩
  have hg := hI.2.2.1 x _ hk i.toNat (by show i.toNat < n; omega)
  rw [gcast h0] at hg
  exact hg
theorem wg_zald {x n : Nat} {i : Int} (hk : L[x]? = some (.inr (2, n))) (h0 : 0 ≤ i) (h1 : i < n) (hd : decode M.2.1 pc = .ok (.baload, 1)) (hpc : pc + 1 = pc') (k : (σ x i = 0 ∨ σ x i = 1) → gWp M d mc ms Q L σ pc' ls (gI (σ x i) :: st)) : gWp M d mc ms Q L σ pc ls (gI i :: gR x :: st) := by
  subst hpc
  intro p l e R s m args below meth c D adr0 b n0 Qf C hret adr H locs cells slots lsM hI hF
  have hi : gi32 i := gw0 hF.2.2
  refine va_zald C.1 C.2.1 C.2.2.2.2.2.1 hI.1 x 2 (gWs_get hk) rfl (gvpin hi h0 h1) hd ?_
  rw [gnat32 hi h0, gcast h0]
  have hg := hI.2.2.1 x _ hk i.toNat (by show i.toNat < n; omega)
  rw [gcast h0] at hg
  have hg : σ x i = 0 ∨ σ x i = 1 := hg
  refine k hg p l e R s m args below meth c D adr0 b n0 Qf C hret adr H locs cells slots lsM hI ⟨hF.1, hF.2.1, gwc ?_ (gw1 (gw1 hF.2.2))⟩
  exact gWI (gbit hg)
theorem wg_lald {x n : Nat} {i : Int} (hk : L[x]? = some (.inr (1, n))) (h0 : 0 ≤ i) (h1 : i < n) (hd : decode M.2.1 pc = .ok (.laload, 1)) (hpc : pc + 1 = pc') (k : gWp M d mc ms Q L σ pc' ls (gJ (σ x i) :: st)) : gWp M d mc ms Q L σ pc ls (gI i :: gR x :: st) := by
  subst hpc
  intro p l e R s m args below meth c D adr0 b n0 Qf C hret adr H locs cells slots lsM hI hF
  have hi : gi32 i := gw0 hF.2.2
  refine va_lald C.1 C.2.1 C.2.2.2.2.2.1 hI.1 x 1 (gWs_get hk) rfl (gvpin hi h0 h1) hd ?_
  rw [gnat32 hi h0, gcast h0]
  refine k p l e R s m args below meth c D adr0 b n0 Qf C hret adr H locs cells slots lsM hI ⟨hF.1, hF.2.1, gwc ?_ (gw1 (gw1 hF.2.2))⟩
  have hg := hI.2.2.1 x _ hk i.toNat (by show i.toNat < n; omega)
  rw [gcast h0] at hg
  exact hg
theorem wg_aald {x n q : Nat} {i : Int} (hk : L[x]? = some (.inr (3, n))) (h0 : 0 ≤ i) (h1 : i < n) (hq : σ x i = (q : Int)) (hd : decode M.2.1 pc = .ok (.aaload, 1)) (hpc : pc + 1 = pc') (k : gWp M d mc ms Q L σ pc' ls (gR q :: st)) : gWp M d mc ms Q L σ pc ls (gI i :: gR x :: st) := by
  subst hpc
  intro p l e R s m args below meth c D adr0 b n0 Qf C hret adr H locs cells slots lsM hI hF
  have hi : gi32 i := gw0 hF.2.2
  refine va_aldq C.1 C.2.1 C.2.2.2.2.2.1 hI.1 x 3 (gWs_get hk) rfl (gvpin hi h0 h1) hd ?_
  rw [gnat32 hi h0]
  show W p l e R s m args below meth c H locs cells slots Qf (F0 m (pc + 1) lsM (va_rf (gRf adr (σ x ((i.toNat : Nat) : Int))) :: st.map (gC adr b)))
  rw [gcast h0, hq]
  have hr : va_rf (gRf adr (q : Int)) = gC adr b (gR q) := by unfold gRf; rw [if_neg (by omega)]; rfl
  rw [hr]
  refine k p l e R s m args below meth c D adr0 b n0 Qf C hret adr H locs cells slots lsM hI ⟨hF.1, hF.2.1, gwc ?_ (gw1 (gw1 hF.2.2))⟩
  have hg := hI.2.2.1 x _ hk i.toNat (by show i.toNat < n; omega)
  rw [gcast h0, hq] at hg
  have hg : -1 ≤ (q : Int) ∧ (q : Int) < L.length := hg
  show q < L.length
  omega
theorem gup0 {D : gD} {adr : Nat → Nat} {x n : Nat} {f : Int → Int} {i v : Int} (h : gi32 i) (h0 : 0 ≤ i) : (Sum.inl (D.2 0, n, Sum.inl (upd (fun j : Nat => Int32.ofInt (f j)) (Int32.ofInt i).toNatClampNeg (Int32.ofInt v))) : va_E) = gE D adr (.inr (0, n)) (fun j => if j = i then v else f j) := by
  rw [gUp_upd32 h h0]; rfl
theorem wg_iast {x n : Nat} {i v : Int} (hk : L[x]? = some (.inr (0, n))) (h0 : 0 ≤ i) (h1 : i < n) (hd : decode M.2.1 pc = .ok (.iastore, 1)) (hpc : pc + 1 = pc') (k : gWp M d mc ms Q L (gUp σ x i v) pc' ls st) : gWp M d mc ms Q L σ pc ls (gI v :: gI i :: gR x :: st) := by
  subst hpc
  intro p l e R s m args below meth c D adr0 b n0 Qf C hret adr H locs cells slots lsM hI hF
  have hi : gi32 i := gw0 (gw1 hF.2.2)
  have hv : gi32 v := gw0 hF.2.2
  refine va_iast C.1 C.2.1 C.2.2.2.2.2.1 hI.1 hI.2.1 hI.2.2.2.1 x 0 (gWs_get hk) rfl (gvpin hi h0 h1) hd fun H1 locs1 hP1 hD1 hS1 => ?_
  rw [gUp_upd32 hi h0] at hP1 hD1
  have hse : (gWs D adr L σ).set x (adr x, gE D adr (.inr (0, n)) (fun j => if j = i then v else σ x j)) = gWs D adr L (gUp σ x i v) := gWs_set hk
  have hP1 : va_P D.1 vwCl ((gWs D adr L σ).set x (adr x, gE D adr (.inr (0, n)) (fun j => if j = i then v else σ x j))) H1 := hP1
  have hD1 : va_D _ ((gWs D adr L σ).set x (adr x, gE D adr (.inr (0, n)) (fun j => if j = i then v else σ x j))) := hD1
  rw [hse] at hP1 hD1
  exact k p l e R s m args below meth c D adr0 b n0 Qf C hret adr H1 locs1 cells slots lsM ⟨hP1, hD1, hI.2.2.1.up hk h0 hv, hS1, hI.2.2.2.2⟩ ⟨hF.1, hF.2.1, gw1 (gw1 (gw1 hF.2.2))⟩
theorem gvnar {v : Int} (h : v = 0 ∨ v = 1) : vp_nar .boolean (Int32.ofInt v) = Int32.ofInt v := by rcases h with rfl | rfl <;> decide +kernel
theorem wg_zast {x n : Nat} {i v : Int} (hk : L[x]? = some (.inr (2, n))) (hvb : v = 0 ∨ v = 1) (h0 : 0 ≤ i) (h1 : i < n) (hd : decode M.2.1 pc = .ok (.bastore, 1)) (hpc : pc + 1 = pc') (k : gWp M d mc ms Q L (gUp σ x i v) pc' ls st) : gWp M d mc ms Q L σ pc ls (gI v :: gI i :: gR x :: st) := by
  subst hpc
  intro p l e R s m args below meth c D adr0 b n0 Qf C hret adr H locs cells slots lsM hI hF
  have hi : gi32 i := gw0 (gw1 hF.2.2)
  refine va_zast C.1 C.2.1 C.2.2.2.2.2.1 hI.1 hI.2.1 hI.2.2.2.1 x 2 (gWs_get hk) rfl (gvpin hi h0 h1) hd fun H1 locs1 hP1 hD1 hS1 => ?_
  rw [gvnar hvb, gUp_upd32 hi h0] at hP1 hD1
  have hse : (gWs D adr L σ).set x (adr x, gE D adr (.inr (2, n)) (fun j => if j = i then v else σ x j)) = gWs D adr L (gUp σ x i v) := gWs_set hk
  have hP1 : va_P D.1 vwCl ((gWs D adr L σ).set x (adr x, gE D adr (.inr (2, n)) (fun j => if j = i then v else σ x j))) H1 := hP1
  have hD1 : va_D _ ((gWs D adr L σ).set x (adr x, gE D adr (.inr (2, n)) (fun j => if j = i then v else σ x j))) := hD1
  rw [hse] at hP1 hD1
  exact k p l e R s m args below meth c D adr0 b n0 Qf C hret adr H1 locs1 cells slots lsM ⟨hP1, hD1, hI.2.2.1.up hk h0 hvb, hS1, hI.2.2.2.2⟩ ⟨hF.1, hF.2.1, gw1 (gw1 (gw1 hF.2.2))⟩
theorem gUp_upd64 {f : Int → Int} {i v : Int} (h : gi32 i) (h0 : 0 ≤ i) : vp_updL (fun j : Nat => Int64.ofInt (f j)) (Int32.ofInt i).toNatClampNeg (Int64.ofInt v) = fun j : Nat => Int64.ofInt (if (j : Int) = i then v else f j) := by
  rw [gnat32 h h0]
  funext j
  unfold vp_updL
  by_cases hj : j = i.toNat
  · rw [if_pos hj, if_pos (by omega)]
  · rw [if_neg hj, if_neg (by omega)]
theorem wg_last {x n : Nat} {i v : Int} (hk : L[x]? = some (.inr (1, n))) (h0 : 0 ≤ i) (h1 : i < n) (hd : decode M.2.1 pc = .ok (.lastore, 1)) (hpc : pc + 1 = pc') (k : gWp M d mc ms Q L (gUp σ x i v) pc' ls st) : gWp M d mc ms Q L σ pc ls (gJ v :: gI i :: gR x :: st) := by
  subst hpc
  intro p l e R s m args below meth c D adr0 b n0 Qf C hret adr H locs cells slots lsM hI hF
  have hi : gi32 i := gw0 (gw1 hF.2.2)
  have hv : gi64 v := gw0 hF.2.2
  refine va_last C.1 C.2.1 C.2.2.2.2.2.1 hI.1 hI.2.1 hI.2.2.2.1 x 1 (gWs_get hk) rfl (gvpin hi h0 h1) hd fun H1 locs1 hP1 hD1 hS1 => ?_
  rw [gUp_upd64 hi h0] at hP1 hD1
  have hse : (gWs D adr L σ).set x (adr x, gE D adr (.inr (1, n)) (fun j => if j = i then v else σ x j)) = gWs D adr L (gUp σ x i v) := gWs_set hk
  have hP1 : va_P D.1 vwCl ((gWs D adr L σ).set x (adr x, gE D adr (.inr (1, n)) (fun j => if j = i then v else σ x j))) H1 := hP1
  have hD1 : va_D _ ((gWs D adr L σ).set x (adr x, gE D adr (.inr (1, n)) (fun j => if j = i then v else σ x j))) := hD1
  rw [hse] at hP1 hD1
  exact k p l e R s m args below meth c D adr0 b n0 Qf C hret adr H1 locs1 cells slots lsM ⟨hP1, hD1, hI.2.2.1.up hk h0 hv, hS1, hI.2.2.2.2⟩ ⟨hF.1, hF.2.1, gw1 (gw1 (gw1 hF.2.2))⟩
theorem wg_alen {x n tc : Nat} (hk : L[x]? = some (.inr (tc, n))) (htc : tc < 4) (hn : gi32 n) (hd : decode M.2.1 pc = .ok (.arraylength, 1)) (hpc : pc + 1 = pc') (k : gWp M d mc ms Q L σ pc' ls (gI n :: st)) : gWp M d mc ms Q L σ pc ls (gR x :: st) := by
  subst hpc
  intro p l e R s m args below meth c D adr0 b n0 Qf C hret adr H locs cells slots lsM hI hF
  have hv : Int32.ofNat n = Int32.ofInt n := rfl
  have kk := k p l e R s m args below meth c D adr0 b n0 Qf C hret adr H locs cells slots lsM hI ⟨hF.1, hF.2.1, gwc hn (gw1 hF.2.2)⟩
  match tc, htc, hk with
  | 0, _, hk => exact va_alen C.1 C.2.1 C.2.2.2.2.2.1 hI.1 x 0 (gWs_get hk) rfl hv hd kk
  | 1, _, hk => exact va_alen C.1 C.2.1 C.2.2.2.2.2.1 hI.1 x 1 (gWs_get hk) rfl hv hd kk
  | 2, _, hk => exact va_alen C.1 C.2.1 C.2.2.2.2.2.1 hI.1 x 2 (gWs_get hk) rfl hv hd kk
  | 3, _, hk => exact va_alen C.1 C.2.1 C.2.2.2.2.2.1 hI.1 x 3 (gWs_get hk) rfl hv hd kk
/-- the script -/
theorem wg_slen {xs : List Int} (hM : M.2.2.2.2 = some xs) (hn : gi32 xs.length) (hd : decode M.2.1 pc = .ok (.arraylength, 1)) (hpc : pc + 1 = pc') (k : gWp M d mc ms Q L σ pc' ls (gI xs.length :: st)) : gWp M d mc ms Q L σ pc ls (gX 2 :: st) := by
  subst hpc
  intro p l e R s m args below meth c D adr0 b n0 Qf C hret adr H locs cells slots lsM hI hF
  obtain ⟨hX, hbl, hbA, -⟩ := C.2.2.2.2.2.2.2.2.2.2.2.1 xs hM
  exact va_slen C.1 C.2.1 hX hbl hbA hI.2.2.2.1 hd (k p l e R s m args below meth c D adr0 b n0 Qf C hret adr H locs cells slots lsM hI ⟨hF.1, hF.2.1, gwc hn (gw1 hF.2.2)⟩)
theorem wg_sld {xs : List Int} {i : Int} (hM : M.2.2.2.2 = some xs) (h0 : 0 ≤ i) (h1 : i < xs.length) (hd : decode M.2.1 pc = .ok (.iaload, 1)) (hpc : pc + 1 = pc') (k : gi32 (xs.getD i.toNat 0) → gWp M d mc ms Q L σ pc' ls (gI (xs.getD i.toNat 0) :: st)) : gWp M d mc ms Q L σ pc ls (gI i :: gX 2 :: st) := by
  subst hpc
  intro p l e R s m args below meth c D adr0 b n0 Qf C hret adr H locs cells slots lsM hI hF
  obtain ⟨hX, hbl, hbA, hxs⟩ := C.2.2.2.2.2.2.2.2.2.2.2.1 xs hM
  have hi : gi32 i := gw0 hF.2.2
  have hv : gi32 (xs.getD i.toNat 0) := by
    apply hxs
    rw [List.getD_eq_getElem?_getD, List.getElem?_eq_getElem (show i.toNat < xs.length by omega)]
    exact List.getElem_mem _
  refine va_sld C.1 C.2.1 hX hbl hbA hI.2.2.2.1 (gvpin hi h0 h1) hd ?_
  rw [gnat32 hi h0]
  exact k hv p l e R s m args below meth c D adr0 b n0 Qf C hret adr H locs cells slots lsM hI ⟨hF.1, hF.2.1, gwc hv (gw1 (gw1 hF.2.2))⟩
end GH
