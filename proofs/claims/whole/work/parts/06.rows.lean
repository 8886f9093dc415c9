/-! THE ROWS: an instruction each, over the abstract machine (written by wip/whole/gen/gen_rows.py) -/
theorem gw1 {P : gV → Prop} {a : gV} {st : List gV} (h : ∀ v ∈ a :: st, P v) : ∀ v ∈ st, P v := fun v hv => h v (List.mem_cons_of_mem _ hv)
theorem gw0 {P : gV → Prop} {a : gV} {st : List gV} (h : ∀ v ∈ a :: st, P v) : P a := h a List.mem_cons_self
theorem gwcI {n : Nat} {x : Int} {st : List gV} (h0 : gi32 x) (h : ∀ v ∈ st, gW n v) : ∀ v ∈ gI x :: st, gW n v := List.forall_mem_cons.mpr ⟨h0, h⟩
theorem gwcJ {n : Nat} {x : Int} {st : List gV} (h0 : gi64 x) (h : ∀ v ∈ st, gW n v) : ∀ v ∈ gJ x :: st, gW n v := List.forall_mem_cons.mpr ⟨h0, h⟩
theorem gwcX {n k : Nat} {st : List gV} (h : ∀ v ∈ st, gW n v) : ∀ v ∈ gX k :: st, gW n v := List.forall_mem_cons.mpr ⟨trivial, h⟩
theorem gwc {P : gV → Prop} {a : gV} {st : List gV} (h0 : P a) (h : ∀ v ∈ st, P v) : ∀ v ∈ a :: st, P v := List.forall_mem_cons.mpr ⟨h0, h⟩
def gIsJ (v : gV) : Bool := match v with
  | .inr (.inl _) => true
  | _ => false
/-- a local of one word, of two words, set -/
def gSt1 (ls : List gV) (i : Nat) (v : gV) : List gV := (if i = 0 then ls else if gIsJ (ls.getD (i - 1) (gX 1)) = true then ls.set (i - 1) (gX 1) else ls).set i v
def gSt2 (ls : List gV) (i : Nat) (v : gV) : List gV := (gSt1 ls i v).set (i + 1) (gX 1)
section GR
variable {M : gM} {d mc ms : Nat} {Q : gV → List gK → gH → Prop} {L : List gK} {σ : gH} {pc pc' : Nat} {ls st : List gV}
theorem gWp.stk {st' : List gV} (hw : (∀ v ∈ st, gW L.length v) → (∀ v ∈ ls, gW L.length v) → ∀ v ∈ st', gW L.length v)
    (hW : ∀ {p : Program} {l : Launch} {e : Env} {R : Room} {s : State} {m : MethodId} {args : Array Value} {below : List Frame} {meth : Method} {c : Code} {H : Heap} {locs : List Loc} {cells slots : Nat} {Qf : State → Prop} {lsM : Array Slot} {adr b : Nat → Nat}, p.tables.exec = Jvm.exec → c.code = M.2.1 → s.vm.findClass M.1.cls = some m.cls → (∀ w ∈ gG, w.before args s = true) → (∀ v ∈ st, gW L.length v) → gLs adr b M.2.2.1 ls lsM →
      W p l e R s m args below meth c H locs cells slots Qf (F0 m pc' lsM (st'.map (gC adr b))) → W p l e R s m args below meth c H locs cells slots Qf (F0 m pc lsM (st.map (gC adr b))))
    (k : gWp M d mc ms Q L σ pc' ls st') : gWp M d mc ms Q L σ pc ls st := by
  intro p l e R s m args below meth c D adr0 b n0 Qf C hret adr H locs cells slots lsM hI hF
  exact hW C.1 C.2.1 C.2.2.2.1 C.2.2.2.2.1 hF.2.2 hF.1 (k p l e R s m args below meth c D adr0 b n0 Qf C hret adr H locs cells slots lsM hI ⟨hF.1, hF.2.1, hw hF.2.2 hF.2.1⟩)
/-- a branch on two ways -/
theorem gWp.br {st1 : List gV} {t1 t2 : Nat} {C1 C2 : Prop} (hw : (∀ v ∈ st, gW L.length v) → ∀ v ∈ st1, gW L.length v)
    (hW : ∀ {p : Program} {l : Launch} {e : Env} {R : Room} {s : State} {m : MethodId} {args : Array Value} {below : List Frame} {meth : Method} {c : Code} {H : Heap} {locs : List Loc} {cells slots : Nat} {Qf : State → Prop} {lsM : Array Slot} {adr b : Nat → Nat}, p.tables.exec = Jvm.exec → c.code = M.2.1 → (∀ v ∈ st, gW L.length v) →
      (C1 → W p l e R s m args below meth c H locs cells slots Qf (F0 m t1 lsM (st1.map (gC adr b)))) → (C2 → W p l e R s m args below meth c H locs cells slots Qf (F0 m t2 lsM (st1.map (gC adr b)))) → W p l e R s m args below meth c H locs cells slots Qf (F0 m pc lsM (st.map (gC adr b))))
    (k1 : C1 → gWp M d mc ms Q L σ t1 ls st1) (k2 : C2 → gWp M d mc ms Q L σ t2 ls st1) : gWp M d mc ms Q L σ pc ls st := by
  intro p l e R s m args below meth c D adr0 b n0 Qf C hret adr H locs cells slots lsM hI hF
  exact hW C.1 C.2.1 hF.2.2 (fun h => k1 h p l e R s m args below meth c D adr0 b n0 Qf C hret adr H locs cells slots lsM hI ⟨hF.1, hF.2.1, hw hF.2.2⟩) (fun h => k2 h p l e R s m args below meth c D adr0 b n0 Qf C hret adr H locs cells slots lsM hI ⟨hF.1, hF.2.1, hw hF.2.2⟩)
theorem gls_in {adr b : Nat → Nat} {nL : Nat} {lsM : Array Slot} (h : gLs adr b nL ls lsM) {i : Nat} {v : gV} (hi : ls[i]? = some v) (hv : v ≠ gX 1) : lsM[i]? = some (.val (gC adr b v)) := h.2.2.2 i v hi hv
theorem glw {n : Nat} (h : ∀ v ∈ ls, gW n v) {i : Nat} {v : gV} (hi : ls[i]? = some v) : gW n v := h v (List.mem_of_getElem? hi)
theorem gne_of {v : gV} (h : (match v with | .inr (.inr (.inr _)) => false | _ => true) = true) : v ≠ gX 1 := fun e => by subst e; cases h

theorem wg_iconst {n : Int} (hn : gi32 n) (hd : decode M.2.1 pc = .ok (.iconst n, 1)) (hpc : pc + 1 = pc') (k : gWp M d mc ms Q L σ pc' ls (gI n :: st)) : gWp M d mc ms Q L σ pc ls (st) := by
  subst hpc
  exact gWp.stk (fun h hl => gwcI hn h) (fun hx hb ho ht h hl k => lv_iconst hx hb hd rfl k) k
theorem wg_bipush {n : Int} (hn : gi32 n) (hv : (Int8.ofInt n).toInt32 = Int32.ofInt n) (hd : decode M.2.1 pc = .ok (.bipush n, 2)) (hpc : pc + 2 = pc') (k : gWp M d mc ms Q L σ pc' ls (gI n :: st)) : gWp M d mc ms Q L σ pc ls (st) := by
  subst hpc
  exact gWp.stk (fun h hl => gwcI hn h) (fun hx hb ho ht h hl k => lv_bipush hx hb hd hv k) k
theorem wg_sipush {n : Int} (hn : gi32 n) (hv : (Int16.ofInt n).toInt32 = Int32.ofInt n) (hd : decode M.2.1 pc = .ok (.sipush n, 3)) (hpc : pc + 3 = pc') (k : gWp M d mc ms Q L σ pc' ls (gI n :: st)) : gWp M d mc ms Q L σ pc ls (st) := by
  subst hpc
  exact gWp.stk (fun h hl => gwcI hn h) (fun hx hb ho ht h hl k => lv_sipush hx hb hd hv k) k
theorem wg_ldc {n : Int} {i : Nat} (hn : gi32 n) (hc : Cond.constant M.1.cls i (Int32.ofInt n) ∈ gG) (hd : decode M.2.1 pc = .ok (.ldc i, 2)) (hpc : pc + 2 = pc') (k : gWp M d mc ms Q L σ pc' ls (gI n :: st)) : gWp M d mc ms Q L σ pc ls (st) := by
  subst hpc
  exact gWp.stk (fun h hl => gwcI hn h) (fun hx hb ho ht h hl k => lv_ldc hx hb ho (ht _ hc) hd k) k
theorem wg_lconst {n : Int} {f : Fin 2} (hn : gi64 n) (hv : Int64.ofNat (f : Nat) = Int64.ofInt n) (hd : decode M.2.1 pc = .ok (.lconst f, 1)) (hpc : pc + 1 = pc') (k : gWp M d mc ms Q L σ pc' ls (gJ n :: st)) : gWp M d mc ms Q L σ pc ls (st) := by
  subst hpc
  exact gWp.stk (fun h hl => gwcJ hn h) (fun hx hb ho ht h hl k => lv_lconst hx hb hd hv k) k
theorem wg_ldc2 {n : Int} {i : Nat} (hn : gi64 n) (hc : Cond.constantLong M.1.cls i (Int64.ofInt n) ∈ gG) (hd : decode M.2.1 pc = .ok (.ldc2_w i, 3)) (hpc : pc + 3 = pc') (k : gWp M d mc ms Q L σ pc' ls (gJ n :: st)) : gWp M d mc ms Q L σ pc ls (st) := by
  subst hpc
  exact gWp.stk (fun h hl => gwcJ hn h) (fun hx hb ho ht h hl k => lv_ldc2 hx hb ho (ht _ hc) hd k) k
theorem wg_null  (hd : decode M.2.1 pc = .ok (.aconst_null, 1)) (hpc : pc + 1 = pc') (k : gWp M d mc ms Q L σ pc' ls (gX 0 :: st)) : gWp M d mc ms Q L σ pc ls (st) := by
  subst hpc
  exact gWp.stk (fun h hl => gwcX h) (fun hx hb ho ht h hl k => lv_null hx hb hd k) k
theorem wg_iload {n : Int} {i : Nat} (hl0 : ls[i]? = some (gI n)) (hd : decode M.2.1 pc = .ok (.iload i, 2)) (hpc : pc + 2 = pc') (k : gWp M d mc ms Q L σ pc' ls (gI n :: st)) : gWp M d mc ms Q L σ pc ls (st) := by
  subst hpc
  exact gWp.stk (fun h hl => gwc (glw hl hl0) h) (fun hx hb ho ht h hl k => lv_iload hx hb hd (gls_in hl hl0 (gne_of rfl)) k) k
theorem wg_iload_n {n : Int} {i : Nat} {f : Fin 4} (hi : (f : Nat) = i) (hl0 : ls[i]? = some (gI n)) (hd : decode M.2.1 pc = .ok (.iload_n f, 1)) (hpc : pc + 1 = pc') (k : gWp M d mc ms Q L σ pc' ls (gI n :: st)) : gWp M d mc ms Q L σ pc ls (st) := by
  subst hpc
  exact gWp.stk (fun h hl => gwc (glw hl hl0) h) (fun hx hb ho ht h hl k => lv_iload_n hx hb hd hi (gls_in hl hl0 (gne_of rfl)) k) k
theorem wg_lload {n : Int} {i : Nat} (hl0 : ls[i]? = some (gJ n)) (hd : decode M.2.1 pc = .ok (.lload i, 2)) (hpc : pc + 2 = pc') (k : gWp M d mc ms Q L σ pc' ls (gJ n :: st)) : gWp M d mc ms Q L σ pc ls (st) := by
  subst hpc
  exact gWp.stk (fun h hl => gwc (glw hl hl0) h) (fun hx hb ho ht h hl k => lv_lload hx hb hd (gls_in hl hl0 (gne_of rfl)) k) k
theorem wg_lload_n {n : Int} {i : Nat} {f : Fin 4} (hi : (f : Nat) = i) (hl0 : ls[i]? = some (gJ n)) (hd : decode M.2.1 pc = .ok (.lload_n f, 1)) (hpc : pc + 1 = pc') (k : gWp M d mc ms Q L σ pc' ls (gJ n :: st)) : gWp M d mc ms Q L σ pc ls (st) := by
  subst hpc
  exact gWp.stk (fun h hl => gwc (glw hl hl0) h) (fun hx hb ho ht h hl k => lv_lload_n hx hb hd hi (gls_in hl hl0 (gne_of rfl)) k) k
theorem wg_aload {n : Nat} {i : Nat} (hl0 : ls[i]? = some (gR n)) (hd : decode M.2.1 pc = .ok (.aload i, 2)) (hpc : pc + 2 = pc') (k : gWp M d mc ms Q L σ pc' ls (gR n :: st)) : gWp M d mc ms Q L σ pc ls (st) := by
  subst hpc
  exact gWp.stk (fun h hl => gwc (glw hl hl0) h) (fun hx hb ho ht h hl k => lv_aload hx hb hd (gls_in hl hl0 (gne_of rfl)) k) k
theorem wg_aload_n {n : Nat} {i : Nat} {f : Fin 4} (hi : (f : Nat) = i) (hl0 : ls[i]? = some (gR n)) (hd : decode M.2.1 pc = .ok (.aload_n f, 1)) (hpc : pc + 1 = pc') (k : gWp M d mc ms Q L σ pc' ls (gR n :: st)) : gWp M d mc ms Q L σ pc ls (st) := by
  subst hpc
  exact gWp.stk (fun h hl => gwc (glw hl hl0) h) (fun hx hb ho ht h hl k => lv_aload_n hx hb hd hi (gls_in hl hl0 (gne_of rfl)) k) k
theorem gC_X {adr b : Nat → Nat} {k : Nat} (h : 2 ≤ k) : gC adr b (gX k) = .ref (b k) := if_neg (by omega)
theorem wg_aloadX_n {n i : Nat} {f : Fin 4} (hi : (f : Nat) = i) (h2 : 2 ≤ n) (hl0 : ls[i]? = some (gX n)) (hd : decode M.2.1 pc = .ok (.aload_n f, 1)) (hpc : pc + 1 = pc') (k : gWp M d mc ms Q L σ pc' ls (gX n :: st)) : gWp M d mc ms Q L σ pc ls (st) := by
  subst hpc
  exact gWp.stk (fun h hl => gwcX h) (fun hx hb ho ht h hl k => lv_aload_n hx hb hd hi (by rw [gls_in hl hl0 (by intro e; cases e; omega), gC_X h2]) (by rw [← gC_X (adr := _) h2]; exact k)) k
theorem wg_iadd {x y : Int}  (hd : decode M.2.1 pc = .ok (.iadd, 1)) (hpc : pc + 1 = pc') (k : gWp M d mc ms Q L σ pc' ls (gI (w32 (x + y)) :: st)) : gWp M d mc ms Q L σ pc ls (gI y :: gI x :: st) := by
  subst hpc
  exact gWp.stk (fun h hl => gwcI (w32_in _) (gw1 (gw1 h))) (fun hx hb ho ht h hl k => lv_iadd hx hb hd (by rw [gadd32]; exact k)) k
theorem wg_isub {x y : Int}  (hd : decode M.2.1 pc = .ok (.isub, 1)) (hpc : pc + 1 = pc') (k : gWp M d mc ms Q L σ pc' ls (gI (w32 (x - y)) :: st)) : gWp M d mc ms Q L σ pc ls (gI y :: gI x :: st) := by
  subst hpc
  exact gWp.stk (fun h hl => gwcI (w32_in _) (gw1 (gw1 h))) (fun hx hb ho ht h hl k => lv_isub hx hb hd (by rw [gsub32]; exact k)) k
theorem wg_imul {x y : Int}  (hd : decode M.2.1 pc = .ok (.imul, 1)) (hpc : pc + 1 = pc') (k : gWp M d mc ms Q L σ pc' ls (gI (w32 (x * y)) :: st)) : gWp M d mc ms Q L σ pc ls (gI y :: gI x :: st) := by
  subst hpc
  exact gWp.stk (fun h hl => gwcI (w32_in _) (gw1 (gw1 h))) (fun hx hb ho ht h hl k => lv_imul hx hb hd (by rw [gmul32]; exact k)) k
theorem wg_ladd {x y : Int}  (hd : decode M.2.1 pc = .ok (.ladd, 1)) (hpc : pc + 1 = pc') (k : gWp M d mc ms Q L σ pc' ls (gJ (w64 (x + y)) :: st)) : gWp M d mc ms Q L σ pc ls (gJ y :: gJ x :: st) := by
  subst hpc
  exact gWp.stk (fun h hl => gwcJ (w64_in _) (gw1 (gw1 h))) (fun hx hb ho ht h hl k => lv_ladd hx hb hd (by rw [gadd64]; exact k)) k
theorem wg_lsub {x y : Int}  (hd : decode M.2.1 pc = .ok (.lsub, 1)) (hpc : pc + 1 = pc') (k : gWp M d mc ms Q L σ pc' ls (gJ (w64 (x - y)) :: st)) : gWp M d mc ms Q L σ pc ls (gJ y :: gJ x :: st) := by
  subst hpc
  exact gWp.stk (fun h hl => gwcJ (w64_in _) (gw1 (gw1 h))) (fun hx hb ho ht h hl k => lv_lsub hx hb hd (by rw [gsub64]; exact k)) k
theorem wg_lmul {x y : Int}  (hd : decode M.2.1 pc = .ok (.lmul, 1)) (hpc : pc + 1 = pc') (k : gWp M d mc ms Q L σ pc' ls (gJ (w64 (x * y)) :: st)) : gWp M d mc ms Q L σ pc ls (gJ y :: gJ x :: st) := by
  subst hpc
  exact gWp.stk (fun h hl => gwcJ (w64_in _) (gw1 (gw1 h))) (fun hx hb ho ht h hl k => lv_lmul hx hb hd (by rw [gmul64]; exact k)) k
theorem wg_ineg {x : Int}  (hd : decode M.2.1 pc = .ok (.ineg, 1)) (hpc : pc + 1 = pc') (k : gWp M d mc ms Q L σ pc' ls (gI (w32 (-x)) :: st)) : gWp M d mc ms Q L σ pc ls (gI x :: st) := by
  subst hpc
  exact gWp.stk (fun h hl => gwcI (w32_in _) (gw1 h)) (fun hx hb ho ht h hl k => lv_ineg hx hb hd (by rw [gneg32]; exact k)) k
theorem wg_iand {x y : Int}  (hd : decode M.2.1 pc = .ok (.iand, 1)) (hpc : pc + 1 = pc') (k : gWp M d mc ms Q L σ pc' ls (gI (gB32 (fun a b => a &&& b) x y) :: st)) : gWp M d mc ms Q L σ pc ls (gI y :: gI x :: st) := by
  subst hpc
  exact gWp.stk (fun h hl => gwcI (gto32 _) (gw1 (gw1 h))) (fun hx hb ho ht h hl k => lv_iand hx hb hd (by rw [← gback32 (Int32.ofInt x &&& Int32.ofInt y)]; exact k)) k
theorem wg_ior {x y : Int}  (hd : decode M.2.1 pc = .ok (.ior, 1)) (hpc : pc + 1 = pc') (k : gWp M d mc ms Q L σ pc' ls (gI (gB32 (fun a b => a ||| b) x y) :: st)) : gWp M d mc ms Q L σ pc ls (gI y :: gI x :: st) := by
  subst hpc
  exact gWp.stk (fun h hl => gwcI (gto32 _) (gw1 (gw1 h))) (fun hx hb ho ht h hl k => lv_ior hx hb hd (by rw [← gback32 (Int32.ofInt x ||| Int32.ofInt y)]; exact k)) k
theorem wg_ixor {x y : Int}  (hd : decode M.2.1 pc = .ok (.ixor, 1)) (hpc : pc + 1 = pc') (k : gWp M d mc ms Q L σ pc' ls (gI (gB32 (fun a b => a ^^^ b) x y) :: st)) : gWp M d mc ms Q L σ pc ls (gI y :: gI x :: st) := by
  subst hpc
  exact gWp.stk (fun h hl => gwcI (gto32 _) (gw1 (gw1 h))) (fun hx hb ho ht h hl k => lv_ixor hx hb hd (by rw [← gback32 (Int32.ofInt x ^^^ Int32.ofInt y)]; exact k)) k
theorem wg_land {x y : Int}  (hd : decode M.2.1 pc = .ok (.land, 1)) (hpc : pc + 1 = pc') (k : gWp M d mc ms Q L σ pc' ls (gJ (gB64 (fun a b => a &&& b) x y) :: st)) : gWp M d mc ms Q L σ pc ls (gJ y :: gJ x :: st) := by
  subst hpc
  exact gWp.stk (fun h hl => gwcJ (gto64 _) (gw1 (gw1 h))) (fun hx hb ho ht h hl k => lv_land hx hb hd (by rw [← gback64 (Int64.ofInt x &&& Int64.ofInt y)]; exact k)) k
theorem wg_lor {x y : Int}  (hd : decode M.2.1 pc = .ok (.lor, 1)) (hpc : pc + 1 = pc') (k : gWp M d mc ms Q L σ pc' ls (gJ (gB64 (fun a b => a ||| b) x y) :: st)) : gWp M d mc ms Q L σ pc ls (gJ y :: gJ x :: st) := by
  subst hpc
  exact gWp.stk (fun h hl => gwcJ (gto64 _) (gw1 (gw1 h))) (fun hx hb ho ht h hl k => lv_lor hx hb hd (by rw [← gback64 (Int64.ofInt x ||| Int64.ofInt y)]; exact k)) k
theorem wg_lxor {x y : Int}  (hd : decode M.2.1 pc = .ok (.lxor, 1)) (hpc : pc + 1 = pc') (k : gWp M d mc ms Q L σ pc' ls (gJ (gB64 (fun a b => a ^^^ b) x y) :: st)) : gWp M d mc ms Q L σ pc ls (gJ y :: gJ x :: st) := by
  subst hpc
  exact gWp.stk (fun h hl => gwcJ (gto64 _) (gw1 (gw1 h))) (fun hx hb ho ht h hl k => lv_lxor hx hb hd (by rw [← gback64 (Int64.ofInt x ^^^ Int64.ofInt y)]; exact k)) k
theorem wg_ishl {x y : Int}  (hd : decode M.2.1 pc = .ok (.ishl, 1)) (hpc : pc + 1 = pc') (k : gWp M d mc ms Q L σ pc' ls (gI (gB32 (fun a b => a <<< (b &&& 31)) x y) :: st)) : gWp M d mc ms Q L σ pc ls (gI y :: gI x :: st) := by
  subst hpc
  exact gWp.stk (fun h hl => gwcI (gto32 _) (gw1 (gw1 h))) (fun hx hb ho ht h hl k => lv_ishl hx hb hd (by rw [← gback32 (Int32.ofInt x <<< (Int32.ofInt y &&& 31))]; exact k)) k
theorem wg_ishr {x y : Int}  (hd : decode M.2.1 pc = .ok (.ishr, 1)) (hpc : pc + 1 = pc') (k : gWp M d mc ms Q L σ pc' ls (gI (gB32 (fun a b => a >>> (b &&& 31)) x y) :: st)) : gWp M d mc ms Q L σ pc ls (gI y :: gI x :: st) := by
  subst hpc
  exact gWp.stk (fun h hl => gwcI (gto32 _) (gw1 (gw1 h))) (fun hx hb ho ht h hl k => lv_ishr hx hb hd (by rw [← gback32 (Int32.ofInt x >>> (Int32.ofInt y &&& 31))]; exact k)) k
theorem wg_iushr {x y : Int}  (hd : decode M.2.1 pc = .ok (.iushr, 1)) (hpc : pc + 1 = pc') (k : gWp M d mc ms Q L σ pc' ls (gI (gB32 (fun a b => (a.toUInt32 >>> (b.toUInt32 &&& Int32.toUInt32 31)).toInt32) x y) :: st)) : gWp M d mc ms Q L σ pc ls (gI y :: gI x :: st) := by
  subst hpc
  exact gWp.stk (fun h hl => gwcI (gto32 _) (gw1 (gw1 h))) (fun hx hb ho ht h hl k => lv_iushr hx hb hd (gback32 _).symm k) k
theorem wg_lshl {x y : Int}  (hd : decode M.2.1 pc = .ok (.lshl, 1)) (hpc : pc + 1 = pc') (k : gWp M d mc ms Q L σ pc' ls (gJ (gS64 (fun a b => a <<< b) x y) :: st)) : gWp M d mc ms Q L σ pc ls (gI y :: gJ x :: st) := by
  subst hpc
  exact gWp.stk (fun h hl => gwcJ (gto64 _) (gw1 (gw1 h))) (fun hx hb ho ht h hl k => lv_lshl hx hb hd (gback64 _).symm k) k
theorem wg_lshr {x y : Int}  (hd : decode M.2.1 pc = .ok (.lshr, 1)) (hpc : pc + 1 = pc') (k : gWp M d mc ms Q L σ pc' ls (gJ (gS64 (fun a b => a >>> b) x y) :: st)) : gWp M d mc ms Q L σ pc ls (gI y :: gJ x :: st) := by
  subst hpc
  exact gWp.stk (fun h hl => gwcJ (gto64 _) (gw1 (gw1 h))) (fun hx hb ho ht h hl k => lv_lshr hx hb hd (gback64 _).symm k) k
def gS64U (x y : Int) : Int := ((Int64.ofInt x).toUInt64 >>> ((Int32.ofInt y).toInt64.toUInt64 &&& Int64.toUInt64 63)).toInt64.toInt
theorem wg_lushr {x y : Int}  (hd : decode M.2.1 pc = .ok (.lushr, 1)) (hpc : pc + 1 = pc') (k : gWp M d mc ms Q L σ pc' ls (gJ (gS64U x y) :: st)) : gWp M d mc ms Q L σ pc ls (gI y :: gJ x :: st) := by
  subst hpc
  exact gWp.stk (fun h hl => gwcJ (gto64 _) (gw1 (gw1 h))) (fun hx hb ho ht h hl k => lv_lushr hx hb hd (gback64 _).symm k) k
theorem gdiv32 {a b : Int} (ha : gi32 a) (hb : gi32 b) : Int32.ofInt a / Int32.ofInt b = Int32.ofInt (w32 (a.tdiv b)) := by
  apply Int32.toInt_inj.mp
  rw [Int32.toInt_div, gof32 ha, gof32 hb, gof32 (w32_in _)]
  rfl
theorem gmod32 {a b : Int} (ha : gi32 a) (hb : gi32 b) : Int32.ofInt a - Int32.ofInt a / Int32.ofInt b * Int32.ofInt b = Int32.ofInt (w32 (a.tmod b)) := by
  rw [gdiv32 ha hb, gofw32, gofw32, ← Int32.ofInt_mul, ← Int32.ofInt_sub]
  congr 1
  have := Int.mul_tdiv_add_tmod a b
  rw [Int.mul_comm] at this
  omega
theorem gdiv64 {a b : Int} (ha : gi64 a) (hb : gi64 b) : Int64.ofInt a / Int64.ofInt b = Int64.ofInt (w64 (a.tdiv b)) := by
  apply Int64.toInt_inj.mp
  rw [Int64.toInt_div, gof64 ha, gof64 hb, gof64 (w64_in _)]
  rfl
theorem gmod64 {a b : Int} (ha : gi64 a) (hb : gi64 b) : Int64.ofInt a - Int64.ofInt a / Int64.ofInt b * Int64.ofInt b = Int64.ofInt (w64 (a.tmod b)) := by
  rw [gdiv64 ha hb, gofw64, gofw64, ← Int64.ofInt_mul, ← Int64.ofInt_sub]
  congr 1
  have := Int.mul_tdiv_add_tmod a b
  rw [Int.mul_comm] at this
  omega
theorem gne032 {b : Int} (hb : gi32 b) (h : b ≠ 0) : ¬ Int32.ofInt b = 0 := fun e => h ((geq32 hb (by decide)).mp (e : Int32.ofInt b = Int32.ofInt 0))
theorem gne064 {b : Int} (hb : gi64 b) (h : b ≠ 0) : ¬ Int64.ofInt b = 0 := fun e => h ((geq64 hb (by decide)).mp (e : Int64.ofInt b = Int64.ofInt 0))
theorem wg_idiv {x y : Int} (hy : y ≠ 0) (hd : decode M.2.1 pc = .ok (.idiv, 1)) (hpc : pc + 1 = pc') (k : gWp M d mc ms Q L σ pc' ls (gI (w32 (x.tdiv y)) :: st)) : gWp M d mc ms Q L σ pc ls (gI y :: gI x :: st) := by
  subst hpc
  exact gWp.stk (fun h hl => gwcI (w32_in _) (gw1 (gw1 h))) (fun hx hb ho ht h hl k => lv_idiv hx hb hd (gne032 (gw0 h) hy) (by rw [gdiv32 (gw0 (gw1 h)) (gw0 h)]; exact k)) k
theorem wg_irem {x y : Int} (hy : y ≠ 0) (hd : decode M.2.1 pc = .ok (.irem, 1)) (hpc : pc + 1 = pc') (k : gWp M d mc ms Q L σ pc' ls (gI (w32 (x.tmod y)) :: st)) : gWp M d mc ms Q L σ pc ls (gI y :: gI x :: st) := by
  subst hpc
  exact gWp.stk (fun h hl => gwcI (w32_in _) (gw1 (gw1 h))) (fun hx hb ho ht h hl k => lv_irem hx hb hd (gne032 (gw0 h) hy) (by rw [gmod32 (gw0 (gw1 h)) (gw0 h)]; exact k)) k
theorem wg_ldiv {x y : Int} (hy : y ≠ 0) (hd : decode M.2.1 pc = .ok (.ldiv, 1)) (hpc : pc + 1 = pc') (k : gWp M d mc ms Q L σ pc' ls (gJ (w64 (x.tdiv y)) :: st)) : gWp M d mc ms Q L σ pc ls (gJ y :: gJ x :: st) := by
  subst hpc
  exact gWp.stk (fun h hl => gwcJ (w64_in _) (gw1 (gw1 h))) (fun hx hb ho ht h hl k => lv_ldiv hx hb hd (gne064 (gw0 h) hy) (by rw [gdiv64 (gw0 (gw1 h)) (gw0 h)]; exact k)) k
theorem wg_lrem {x y : Int} (hy : y ≠ 0) (hd : decode M.2.1 pc = .ok (.lrem, 1)) (hpc : pc + 1 = pc') (k : gWp M d mc ms Q L σ pc' ls (gJ (w64 (x.tmod y)) :: st)) : gWp M d mc ms Q L σ pc ls (gJ y :: gJ x :: st) := by
  subst hpc
  exact gWp.stk (fun h hl => gwcJ (w64_in _) (gw1 (gw1 h))) (fun hx hb ho ht h hl k => lv_lrem hx hb hd (gne064 (gw0 h) hy) (by rw [gmod64 (gw0 (gw1 h)) (gw0 h)]; exact k)) k
theorem gi2l {x : Int} (h : gi32 x) : (Int32.ofInt x).toInt64 = Int64.ofInt x := by
  apply Int64.toInt_inj.mp
  rw [Int32.toInt_toInt64, gof32 h, gof64 ⟨by omega, by omega⟩]
theorem gl2i {x : Int} (h : gi64 x) : (Int64.ofInt x).toInt32 = Int32.ofInt (w32 x) := by
  apply Int32.toInt_inj.mp
  rw [Int64.toInt_toInt32, gof64 h, gof32 (w32_in _)]
  rfl
theorem wg_i2l {x : Int}  (hd : decode M.2.1 pc = .ok (.i2l, 1)) (hpc : pc + 1 = pc') (k : gWp M d mc ms Q L σ pc' ls (gJ x :: st)) : gWp M d mc ms Q L σ pc ls (gI x :: st) := by
  subst hpc
  exact gWp.stk (fun h hl => gwcJ (show gi64 x from ⟨Int.le_trans (by decide) (gw0 h : gi32 x).1, Int.lt_trans (gw0 h : gi32 x).2 (by decide)⟩) (gw1 h)) (fun hx hb ho ht h hl k => lv_i2l hx hb hd (gi2l (gw0 h)) k) k
theorem wg_l2i {x : Int}  (hd : decode M.2.1 pc = .ok (.l2i, 1)) (hpc : pc + 1 = pc') (k : gWp M d mc ms Q L σ pc' ls (gI (w32 x) :: st)) : gWp M d mc ms Q L σ pc ls (gJ x :: st) := by
  subst hpc
  exact gWp.stk (fun h hl => gwcI (w32_in _) (gw1 h)) (fun hx hb ho ht h hl k => lv_l2i hx hb hd (gl2i (gw0 h)) k) k
def gCmp (x y : Int) : Int := if x < y then -1 else if x = y then 0 else 1
theorem gcmp_in (x y : Int) : gi32 (gCmp x y) := by unfold gCmp; split; decide; split <;> decide
theorem gcmp64 {x y : Int} (hx : gi64 x) (hy : gi64 y) : lg_cmp (Int64.ofInt x) (Int64.ofInt y) = Int32.ofInt (gCmp x y) := by
  unfold lg_cmp gCmp
  simp only [glt64 hx hy, glt64 hy hx, geq64 hx hy]
  repeat' split
  all_goals first | rfl | omega
theorem wg_lcmp {x y : Int}  (hd : decode M.2.1 pc = .ok (.lcmp, 1)) (hpc : pc + 1 = pc') (k : gWp M d mc ms Q L σ pc' ls (gI (gCmp x y) :: st)) : gWp M d mc ms Q L σ pc ls (gJ y :: gJ x :: st) := by
  subst hpc
  exact gWp.stk (fun h hl => gwcI (gcmp_in _ _) (gw1 (gw1 h))) (fun hx hb ho ht h hl k => W.lcmp hx hb hd (by rw [gcmp64 (gw0 (gw1 h)) (gw0 h)]; exact k)) k
theorem wg_dup {x : Nat}  (hd : decode M.2.1 pc = .ok (.dup, 1)) (hpc : pc + 1 = pc') (k : gWp M d mc ms Q L σ pc' ls (gR x :: gR x :: st)) : gWp M d mc ms Q L σ pc ls (gR x :: st) := by
  subst hpc
  exact gWp.stk (fun h hl => gwc (gw0 h) h) (fun hx hb ho ht h hl k => lv_dup hx hb hd rfl k) k
theorem wg_dupI {x : Int}  (hd : decode M.2.1 pc = .ok (.dup, 1)) (hpc : pc + 1 = pc') (k : gWp M d mc ms Q L σ pc' ls (gI x :: gI x :: st)) : gWp M d mc ms Q L σ pc ls (gI x :: st) := by
  subst hpc
  exact gWp.stk (fun h hl => gwc (gw0 h) h) (fun hx hb ho ht h hl k => lv_dup hx hb hd rfl k) k
theorem wg_pop {x : Int}  (hd : decode M.2.1 pc = .ok (.pop, 1)) (hpc : pc + 1 = pc') (k : gWp M d mc ms Q L σ pc' ls (st)) : gWp M d mc ms Q L σ pc ls (gI x :: st) := by
  subst hpc
  exact gWp.stk (fun h hl => gw1 h) (fun hx hb ho ht h hl k => lv_pop hx hb hd rfl k) k
theorem wg_popR {x : Nat}  (hd : decode M.2.1 pc = .ok (.pop, 1)) (hpc : pc + 1 = pc') (k : gWp M d mc ms Q L σ pc' ls (st)) : gWp M d mc ms Q L σ pc ls (gR x :: st) := by
  subst hpc
  exact gWp.stk (fun h hl => gw1 h) (fun hx hb ho ht h hl k => lv_pop hx hb hd rfl k) k
theorem wg_dup2 {x : Nat} {y : Int}  (hd : decode M.2.1 pc = .ok (.dup2, 1)) (hpc : pc + 1 = pc') (k : gWp M d mc ms Q L σ pc' ls (gI y :: gR x :: gI y :: gR x :: st)) : gWp M d mc ms Q L σ pc ls (gI y :: gR x :: st) := by
  subst hpc
  exact gWp.stk (fun h hl => gwc (gw0 h) (gwc (gw0 (gw1 h)) h)) (fun hx hb ho ht h hl k => lv_dup2_11 hx hb hd rfl rfl k) k
theorem wg_dup2J {x : Int}  (hd : decode M.2.1 pc = .ok (.dup2, 1)) (hpc : pc + 1 = pc') (k : gWp M d mc ms Q L σ pc' ls (gJ x :: gJ x :: st)) : gWp M d mc ms Q L σ pc ls (gJ x :: st) := by
  subst hpc
  exact gWp.stk (fun h hl => gwc (gw0 h) h) (fun hx hb ho ht h hl k => lv_dup2_2 hx hb hd rfl k) k
theorem wg_dup_x1 {x : Nat} {y : Int}  (hd : decode M.2.1 pc = .ok (.dup_x1, 1)) (hpc : pc + 1 = pc') (k : gWp M d mc ms Q L σ pc' ls (gI y :: gR x :: gI y :: st)) : gWp M d mc ms Q L σ pc ls (gI y :: gR x :: st) := by
  subst hpc
  exact gWp.stk (fun h hl => gwc (gw0 h) (gwc (gw0 (gw1 h)) (gwc (gw0 h) (gw1 (gw1 h))))) (fun hx hb ho ht h hl k => lv_dup_x1 hx hb hd rfl rfl k) k
theorem wg_goto {off : Int} (hd : decode M.2.1 pc = .ok (.goto off, 3)) (ht : (pc : Int) + off = (pc' : Int)) (k : gWp M d mc ms Q L σ pc' ls st) : gWp M d mc ms Q L σ pc ls st :=
  gWp.stk (fun h _ => h) (fun hx hb _ _ _ _ k => lv_goto hx hb hd ht k) k
theorem wg_if_eq {x : Int} {off : Int} {t : Nat} (hd : decode M.2.1 pc = .ok (.ifCond .eq off, 3)) (ht : (pc : Int) + off = (t : Int)) (hpc : pc + 3 = pc') (k1 : x = 0 → gWp M d mc ms Q L σ t ls st) (k2 : ¬ x = 0 → gWp M d mc ms Q L σ pc' ls st) : gWp M d mc ms Q L σ pc ls (gI x :: st) := by
  subst hpc
  exact gWp.br (fun h => gw1 h) (fun hx hb h k1 k2 => lv_if_eq hx hb hd ht (fun z => k1 ((geq32 (gw0 h) (show gi32 0 by decide)).mp z)) (fun z => k2 (fun q => z ((geq32 (gw0 h) (show gi32 0 by decide)).mpr q)))) k1 k2
theorem wg_if_ne {x : Int} {off : Int} {t : Nat} (hd : decode M.2.1 pc = .ok (.ifCond .ne off, 3)) (ht : (pc : Int) + off = (t : Int)) (hpc : pc + 3 = pc') (k1 : ¬ x = 0 → gWp M d mc ms Q L σ t ls st) (k2 : x = 0 → gWp M d mc ms Q L σ pc' ls st) : gWp M d mc ms Q L σ pc ls (gI x :: st) := by
  subst hpc
  exact gWp.br (fun h => gw1 h) (fun hx hb h k1 k2 => lv_if_ne hx hb hd ht (fun z => k1 ((not_congr (geq32 (gw0 h) (show gi32 0 by decide))).mp z)) (fun z => k2 ((geq32 (gw0 h) (show gi32 0 by decide)).mp z))) k1 k2
theorem wg_if_lt {x : Int} {off : Int} {t : Nat} (hd : decode M.2.1 pc = .ok (.ifCond .lt off, 3)) (ht : (pc : Int) + off = (t : Int)) (hpc : pc + 3 = pc') (k1 : x < 0 → gWp M d mc ms Q L σ t ls st) (k2 : ¬ x < 0 → gWp M d mc ms Q L σ pc' ls st) : gWp M d mc ms Q L σ pc ls (gI x :: st) := by
  subst hpc
  exact gWp.br (fun h => gw1 h) (fun hx hb h k1 k2 => lv_if_lt hx hb hd ht (fun z => k1 ((glt32 (gw0 h) (show gi32 0 by decide)).mp z)) (fun z => k2 (fun q => z ((glt32 (gw0 h) (show gi32 0 by decide)).mpr q)))) k1 k2
theorem wg_if_ge {x : Int} {off : Int} {t : Nat} (hd : decode M.2.1 pc = .ok (.ifCond .ge off, 3)) (ht : (pc : Int) + off = (t : Int)) (hpc : pc + 3 = pc') (k1 : 0 ≤ x → gWp M d mc ms Q L σ t ls st) (k2 : ¬ 0 ≤ x → gWp M d mc ms Q L σ pc' ls st) : gWp M d mc ms Q L σ pc ls (gI x :: st) := by
  subst hpc
  exact gWp.br (fun h => gw1 h) (fun hx hb h k1 k2 => lv_if_ge hx hb hd ht (fun z => k1 ((gle32 (show gi32 0 by decide) (gw0 h)).mp z)) (fun z => k2 (fun q => z ((gle32 (show gi32 0 by decide) (gw0 h)).mpr q)))) k1 k2
theorem wg_if_gt {x : Int} {off : Int} {t : Nat} (hd : decode M.2.1 pc = .ok (.ifCond .gt off, 3)) (ht : (pc : Int) + off = (t : Int)) (hpc : pc + 3 = pc') (k1 : 0 < x → gWp M d mc ms Q L σ t ls st) (k2 : ¬ 0 < x → gWp M d mc ms Q L σ pc' ls st) : gWp M d mc ms Q L σ pc ls (gI x :: st) := by
  subst hpc
  exact gWp.br (fun h => gw1 h) (fun hx hb h k1 k2 => lv_if_gt hx hb hd ht (fun z => k1 ((glt32 (show gi32 0 by decide) (gw0 h)).mp z)) (fun z => k2 (fun q => z ((glt32 (show gi32 0 by decide) (gw0 h)).mpr q)))) k1 k2
theorem wg_if_le {x : Int} {off : Int} {t : Nat} (hd : decode M.2.1 pc = .ok (.ifCond .le off, 3)) (ht : (pc : Int) + off = (t : Int)) (hpc : pc + 3 = pc') (k1 : x ≤ 0 → gWp M d mc ms Q L σ t ls st) (k2 : ¬ x ≤ 0 → gWp M d mc ms Q L σ pc' ls st) : gWp M d mc ms Q L σ pc ls (gI x :: st) := by
  subst hpc
  exact gWp.br (fun h => gw1 h) (fun hx hb h k1 k2 => lv_if_le hx hb hd ht (fun z => k1 ((gle32 (gw0 h) (show gi32 0 by decide)).mp z)) (fun z => k2 (fun q => z ((gle32 (gw0 h) (show gi32 0 by decide)).mpr q)))) k1 k2
theorem wg_icmp_eq {x y : Int} {off : Int} {t : Nat} (hd : decode M.2.1 pc = .ok (.if_icmp .eq off, 3)) (ht : (pc : Int) + off = (t : Int)) (hpc : pc + 3 = pc') (k1 : x = y → gWp M d mc ms Q L σ t ls st) (k2 : ¬ x = y → gWp M d mc ms Q L σ pc' ls st) : gWp M d mc ms Q L σ pc ls (gI y :: gI x :: st) := by
  subst hpc
  exact gWp.br (fun h => gw1 (gw1 h)) (fun hx hb h k1 k2 => lv_icmp_eq hx hb hd ht (fun z => k1 ((geq32 (gw0 (gw1 h)) (gw0 h)).mp z)) (fun z => k2 (fun q => z ((geq32 (gw0 (gw1 h)) (gw0 h)).mpr q)))) k1 k2
theorem wg_icmp_ne {x y : Int} {off : Int} {t : Nat} (hd : decode M.2.1 pc = .ok (.if_icmp .ne off, 3)) (ht : (pc : Int) + off = (t : Int)) (hpc : pc + 3 = pc') (k1 : ¬ x = y → gWp M d mc ms Q L σ t ls st) (k2 : x = y → gWp M d mc ms Q L σ pc' ls st) : gWp M d mc ms Q L σ pc ls (gI y :: gI x :: st) := by
  subst hpc
  exact gWp.br (fun h => gw1 (gw1 h)) (fun hx hb h k1 k2 => lv_icmp_ne hx hb hd ht (fun z => k1 ((not_congr (geq32 (gw0 (gw1 h)) (gw0 h))).mp z)) (fun z => k2 ((geq32 (gw0 (gw1 h)) (gw0 h)).mp z))) k1 k2
theorem wg_icmp_lt {x y : Int} {off : Int} {t : Nat} (hd : decode M.2.1 pc = .ok (.if_icmp .lt off, 3)) (ht : (pc : Int) + off = (t : Int)) (hpc : pc + 3 = pc') (k1 : x < y → gWp M d mc ms Q L σ t ls st) (k2 : ¬ x < y → gWp M d mc ms Q L σ pc' ls st) : gWp M d mc ms Q L σ pc ls (gI y :: gI x :: st) := by
  subst hpc
  exact gWp.br (fun h => gw1 (gw1 h)) (fun hx hb h k1 k2 => lv_icmp_lt hx hb hd ht (fun z => k1 ((glt32 (gw0 (gw1 h)) (gw0 h)).mp z)) (fun z => k2 (fun q => z ((glt32 (gw0 (gw1 h)) (gw0 h)).mpr q)))) k1 k2
theorem wg_icmp_ge {x y : Int} {off : Int} {t : Nat} (hd : decode M.2.1 pc = .ok (.if_icmp .ge off, 3)) (ht : (pc : Int) + off = (t : Int)) (hpc : pc + 3 = pc') (k1 : y ≤ x → gWp M d mc ms Q L σ t ls st) (k2 : ¬ y ≤ x → gWp M d mc ms Q L σ pc' ls st) : gWp M d mc ms Q L σ pc ls (gI y :: gI x :: st) := by
  subst hpc
  exact gWp.br (fun h => gw1 (gw1 h)) (fun hx hb h k1 k2 => lv_icmp_ge hx hb hd ht (fun z => k1 ((gle32 (gw0 h) (gw0 (gw1 h))).mp z)) (fun z => k2 (fun q => z ((gle32 (gw0 h) (gw0 (gw1 h))).mpr q)))) k1 k2
theorem wg_icmp_gt {x y : Int} {off : Int} {t : Nat} (hd : decode M.2.1 pc = .ok (.if_icmp .gt off, 3)) (ht : (pc : Int) + off = (t : Int)) (hpc : pc + 3 = pc') (k1 : y < x → gWp M d mc ms Q L σ t ls st) (k2 : ¬ y < x → gWp M d mc ms Q L σ pc' ls st) : gWp M d mc ms Q L σ pc ls (gI y :: gI x :: st) := by
  subst hpc
  exact gWp.br (fun h => gw1 (gw1 h)) (fun hx hb h k1 k2 => lv_icmp_gt hx hb hd ht (fun z => k1 ((glt32 (gw0 h) (gw0 (gw1 h))).mp z)) (fun z => k2 (fun q => z ((glt32 (gw0 h) (gw0 (gw1 h))).mpr q)))) k1 k2
theorem wg_icmp_le {x y : Int} {off : Int} {t : Nat} (hd : decode M.2.1 pc = .ok (.if_icmp .le off, 3)) (ht : (pc : Int) + off = (t : Int)) (hpc : pc + 3 = pc') (k1 : x ≤ y → gWp M d mc ms Q L σ t ls st) (k2 : ¬ x ≤ y → gWp M d mc ms Q L σ pc' ls st) : gWp M d mc ms Q L σ pc ls (gI y :: gI x :: st) := by
  subst hpc
  exact gWp.br (fun h => gw1 (gw1 h)) (fun hx hb h k1 k2 => lv_icmp_le hx hb hd ht (fun z => k1 ((gle32 (gw0 (gw1 h)) (gw0 h)).mp z)) (fun z => k2 (fun q => z ((gle32 (gw0 (gw1 h)) (gw0 h)).mpr q)))) k1 k2
theorem wg_ifnull {x : Nat} {off : Int} (hd : decode M.2.1 pc = .ok (.ifnull off, 3)) (hpc : pc + 3 = pc') (k : gWp M d mc ms Q L σ pc' ls st) : gWp M d mc ms Q L σ pc ls (gR x :: st) := by
  subst hpc
  exact gWp.stk (fun h _ => gw1 h) (fun hx hb _ _ _ _ k => lv_ifnull hx hb hd k) k
theorem wg_ifnonnull {x : Nat} {off : Int} (hd : decode M.2.1 pc = .ok (.ifnonnull off, 3)) (ht : (pc : Int) + off = (pc' : Int)) (k : gWp M d mc ms Q L σ pc' ls st) : gWp M d mc ms Q L σ pc ls (gR x :: st) :=
  gWp.stk (fun h _ => gw1 h) (fun hx hb _ _ _ _ k => lv_ifnonnull hx hb hd ht k) k
theorem wg_ifnullN {off : Int} (hd : decode M.2.1 pc = .ok (.ifnull off, 3)) (ht : (pc : Int) + off = (pc' : Int)) (k : gWp M d mc ms Q L σ pc' ls st) : gWp M d mc ms Q L σ pc ls (gX 0 :: st) :=
  gWp.stk (fun h _ => gw1 h) (fun hx hb _ _ _ _ k => lv_ifnullN hx hb hd ht k) k
theorem wg_tableIn {dflt lo hi : Int} {offs : Array Int} {len : Nat} {x off : Int} (hd : decode M.2.1 pc = .ok (.tableswitch dflt lo hi offs, len)) (h1 : lo ≤ x) (h2 : x ≤ hi) (ho : offs[(x - lo).toNat]? = some off) (ht : (pc : Int) + off = (pc' : Int)) (k : gWp M d mc ms Q L σ pc' ls st) : gWp M d mc ms Q L σ pc ls (gI x :: st) :=
  gWp.stk (fun h _ => gw1 h) (fun hx hb _ _ h _ k => lv_tableIn hx hb hd (by rw [gof32 (gw0 h)]; omega) (by rw [gof32 (gw0 h)]; omega) (by rw [gof32 (gw0 h)]; exact ho) ht k) k
theorem wg_tableOut {dflt lo hi : Int} {offs : Array Int} {len : Nat} {x : Int} (hd : decode M.2.1 pc = .ok (.tableswitch dflt lo hi offs, len)) (h1 : x < lo ∨ hi < x) (ht : (pc : Int) + dflt = (pc' : Int)) (k : gWp M d mc ms Q L σ pc' ls st) : gWp M d mc ms Q L σ pc ls (gI x :: st) :=
  gWp.stk (fun h _ => gw1 h) (fun hx hb _ _ h _ k => lv_tableOut hx hb hd (by rw [gof32 (gw0 h)]; exact h1) ht k) k
theorem wg_lookup {dflt : Int} {ps : Array (Int × Int)} {len : Nat} {x off : Int} (hd : decode M.2.1 pc = .ok (.lookupswitch dflt ps, len)) (hp : (ps.toList.zip (ps.toList.drop 1)).all (fun (a, next) => a.1 < next.1) = true) (ho : Op.lookupswitch.offset ps.toList dflt x = off) (ht : (pc : Int) + off = (pc' : Int)) (k : gWp M d mc ms Q L σ pc' ls st) : gWp M d mc ms Q L σ pc ls (gI x :: st) :=
  gWp.stk (fun h _ => gw1 h) (fun hx hb _ _ h _ k => lv_lookup hx hb hd hp (by rw [gof32 (gw0 h)]; exact ho) ht k) k
end GR
