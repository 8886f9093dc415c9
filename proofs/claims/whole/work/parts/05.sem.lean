/-! THE ABSTRACT MACHINE: values, kinds of cells, stores; what they say of the machine's heap -/
abbrev gV : Type := Int ⊕ (Int ⊕ (Nat ⊕ Nat))
abbrev gI (n : Int) : gV := .inl n
abbrev gJ (n : Int) : gV := .inr (.inl n)
abbrev gR (k : Nat) : gV := .inr (.inr (.inl k))
/-- 0 null, 1 nothing, others: the addresses given beside the world (2 the script, 3 and on texts) -/
abbrev gX (k : Nat) : gV := .inr (.inr (.inr k))
def gC (adr b : Nat → Nat) (v : gV) : Value := match v with
  | .inl n => .int (Int32.ofInt n)
  | .inr (.inl n) => .long (Int64.ofInt n)
  | .inr (.inr (.inl k)) => .ref (adr k)
  | .inr (.inr (.inr k)) => if k < 2 then .null else .ref (b k)
abbrev gi32 (n : Int) : Prop := -2147483648 ≤ n ∧ n < 2147483648
abbrev gi64 (n : Int) : Prop := -9223372036854775808 ≤ n ∧ n < 9223372036854775808
def gW (n : Nat) (v : gV) : Prop := match v with
  | .inl x => gi32 x
  | .inr (.inl x) => gi64 x
  | .inr (.inr (.inl k)) => k < n
  | .inr (.inr (.inr _)) => True
abbrev gK : Type := Nat ⊕ (Nat × Nat)
abbrev gH : Type := Nat → Int → Int
def gUr (σ : gH) (k : Nat) (f : Int → Int) : gH := fun q => if q = k then f else σ q
def gUp (σ : gH) (k : Nat) (i v : Int) : gH := gUr σ k (fun j => if j = i then v else σ k j)
/-- a field's type by its descriptor: 0 int, 1 long, 2 boolean, 3 a reference -/
def gTy (d : String) : Nat := if d = "I" then 0 else if d = "J" then 1 else if d = "Z" then 2 else 3
def gN (ci : Nat) : Nat := match vwCl[ci]? with
  | some r => r.2.2
  | none => 0
def gFt (ci j : Nat) : Nat := match vwCl[ci]? with
  | some r => gTy (r.2.1 j).2.2.1
  | none => 0
def gVal (adr : Nat → Nat) (tc : Nat) (n : Int) : Value := match tc with
  | 0 => .int (Int32.ofInt n)
  | 1 => .long (Int64.ofInt n)
  | 2 => .int (Int32.ofInt n)
  | _ => if n < 0 then .null else .ref (adr n.toNat)
def gOk (n tc : Nat) (v : Int) : Prop := match tc with
  | 0 => gi32 v
  | 1 => gi64 v
  | 2 => v = 0 ∨ v = 1
  | _ => -1 ≤ v ∧ v < n
abbrev gD : Type := va_G × (Nat → ClassId)
def gRf (adr : Nat → Nat) (x : Int) : Option Nat := if x < 0 then none else some (adr x.toNat)
def gE (D : gD) (adr : Nat → Nat) (kd : gK) (f : Int → Int) : va_E := match kd with
  | .inl ci => .inr (ci, (List.range (gN ci)).map fun j => gVal adr (gFt ci j) (f j))
  | .inr (0, n) => .inl (D.2 0, n, .inl fun i => Int32.ofInt (f i))
  | .inr (1, n) => .inl (D.2 1, n, .inr (.inl fun i => Int64.ofInt (f i)))
  | .inr (2, n) => .inl (D.2 2, n, .inl fun i => Int32.ofInt (f i))
  | .inr (_, n) => .inl (D.2 3, n, .inr (.inr (.inr (.inr fun i => gRf adr (f i)))))
def gWs (D : gD) (adr : Nat → Nat) (L : List gK) (σ : gH) : va_W := (List.range L.length).map fun k => (adr k, gE D adr (L.getD k (.inl 0)) (σ k))
def gLen (kd : gK) : Nat := match kd with
  | .inl ci => gN ci
  | .inr q => q.2
def gTc (kd : gK) (j : Nat) : Nat := match kd with
  | .inl ci => gFt ci j
  | .inr q => q.1
/-- every cell holds values of its types -/
def gGood (L : List gK) (σ : gH) : Prop := ∀ (k : Nat) (kd : gK), L[k]? = some kd → ∀ j : Nat, j < gLen kd → gOk L.length (gTc kd j) (σ k j)
def gTys (D : gD) : List (ClassId × FieldType) := [(D.2 0, .int), (D.2 1, .long), (D.2 2, .boolean), (D.2 3, .object "GiftRegister$Law")]
def gA (adr0 : Nat → Nat) (n0 sz : Nat) : Nat → Prop := fun q => (∃ k, k < n0 ∧ adr0 k = q) ∨ sz ≤ q
/-- all words of the tables that keep -/
def gG : List Cond := lw_tbl.filter goodWord
theorem gG_in {w : Cond} (h : w ∈ lw_tbl) (hg : goodWord w = true) : w ∈ gG := List.mem_filter.mpr ⟨h, hg⟩
theorem gG_t (i : Nat) {w : Cond} (h : tables_1[i]? = some w) (hg : goodWord w = true) : w ∈ gG := gG_in (List.mem_append_right _ (List.mem_of_getElem? h)) hg
theorem gG_s (i : Nat) {w : Cond} (h : (k2_sels lw_privs)[i]? = some w) (hg : goodWord w = true) : w ∈ gG := gG_in (List.mem_append_left _ (List.mem_of_getElem? h)) hg
theorem gG_good : GoodIn gG gG := fun w h => ⟨h, good_of_word (List.mem_filter.mp h).2⟩
abbrev gM : Type := MethodName × ByteArray × Nat × Option FieldType × Option (List Int)
/-- words that the tables decide, and that hold on, though not among the good ones -/
def gNk (w : Cond) : Bool := match w with
  | .castable _ _ => true
  | .declares _ => true
  | .methodLinkNest _ _ _ _ => true
  | _ => false
def gStr : List (String × Nat × String) := [("GiftRegister", 187, "no such byte of OUT"), ("GiftRegister", 202, "no such gift is known then, or no such answer"), ("GiftRegister", 243, "no such entry is known then, or no such answer"), ("GiftRegister", 258, "too many votes are known then, or no such answer")]
def gWord : String := "gift meal journey share foreign back least most kin sum count post part kinpart not and or if within tell sit may year old link quorum "
def gWordB : List Int32 := [103, 105, 102, 116, 32, 109, 101, 97, 108, 32, 106, 111, 117, 114, 110, 101, 121, 32, 115, 104, 97, 114, 101, 32, 102, 111, 114, 101, 105, 103, 110, 32, 98, 97, 99, 107, 32, 108, 101, 97, 115, 116, 32, 109, 111, 115, 116, 32, 107, 105, 110, 32, 115, 117, 109, 32, 99, 111, 117, 110, 116, 32, 112, 111, 115, 116, 32, 112, 97, 114, 116, 32, 107, 105, 110, 112, 97, 114, 116, 32, 110, 111, 116, 32, 97, 110, 100, 32, 111, 114, 32, 105, 102, 32, 119, 105, 116, 104, 105, 110, 32, 116, 101, 108, 108, 32, 115, 105, 116, 32, 109, 97, 121, 32, 121, 101, 97, 114, 32, 111, 108, 100, 32, 108, 105, 110, 107, 32, 113, 117, 111, 114, 117, 109, 32]
/-- what holds beside the world, from the start on: words, statics of the JDK, texts -/
def gZ (b : Nat → Nat) (A : Nat → Prop) (U : State) : Prop :=
  (∀ w ∈ tables_1, gNk w = true → va_Nw w U) ∧ va_AO "GiftRegister$Law" U ∧ vx_Zq Bundle.tN "UNASSIGNED_STACK" Bundle.steD A U U.heap ∧ vx_Zq Bundle.tN "SUPPRESSED_SENTINEL" Bundle.listD A U U.heap ∧
  (∀ q ∈ gStr, ∃ sa, vk_R q.1 q.2.1 q.2.2 sa U) ∧ vk_R "GiftRegister$Tokens" 69 gWord (b 3) U ∧ vk_S 1 [gWordB.length] [gWordB] (fun _ => b 3) (fun _ => b 4) A U U.heap ∧ va_Z "java/lang/String" "COMPACT_STRINGS" "Z" (.int 1) A U U.heap ∧
  (va_Z "jdk/internal/util/Preconditions" "SIOOBE_FORMATTER" "Ljava/util/function/BiFunction;" .null A U U.heap ∨ va_Z "jdk/internal/util/Preconditions" "SIOOBE_FORMATTER" "Ljava/util/function/BiFunction;" (.ref (b 5)) A U U.heap)
theorem gNk_warm {w : Cond} (h : gNk w = true) {s U : State} (hW : s.WarmedH U.vm) (hZ : va_Nw w s) : va_Nw w U := by
  cases w <;> first | (exact absurd (show false = true from h) (by decide)) | exact va_Nw.warmC hW hZ | exact va_Nw.warmD hW hZ | exact va_Nw.warmM hW hZ
theorem gZ.step {b : Nat → Nat} {A A' : Nat → Prop} {s U : State} (h : gZ b A s) (hW : s.WarmedH U.vm) (hq : ∀ a : Nat, a < s.heap.size → ¬ A a → U.heap[a]? = s.heap[a]?) (hA : ∀ q, A' q → A q) : gZ b A' U := by
  obtain ⟨h1, h2, h3, h4, h5, h6, h7, h8, h9⟩ := h
  exact ⟨fun w hw hk => gNk_warm hk hW (h1 w hw hk), va_AO.moved hW.alike h2, ((h3.moved hW.alike).kept hq).narrow hA, ((h4.moved hW.alike).kept hq).narrow hA, fun q hq => (h5 q hq).imp fun sa h => vk_R.warm hW h, vk_R.warm hW h6, ((h7.moved hW.alike).kept hq).narrow hA, ((va_Z.moved hW.alike h8).kept hq).narrow hA, h9.imp (fun h => ((va_Z.moved hW.alike h).kept hq).narrow hA) (fun h => ((va_Z.moved hW.alike h).kept hq).narrow hA)⟩
theorem gZ.blind {b : Nat → Nat} {A : Nat → Prop} {a : Array Value} {U : State} {g : JFrame} {mk : MethodId} (h : gZ b A U) : gZ b A (U.calling g mk a) := by
  refine gZ.step h ?_ (fun _ _ _ => rfl) (fun _ h => h)
  exact State.WarmedH.refl U
def gLs (adr b : Nat → Nat) (nL : Nat) (ls : List gV) (lsM : Array Slot) : Prop := lsM.size = nL ∧ ls.length = nL ∧ lv_wf lsM ∧ ∀ (i : Nat) (v : gV), ls[i]? = some v → v ≠ gX 1 → lsM[i]? = some (.val (gC adr b v))
/-- the tables of handlers: of the law's four wrappers alone -/
def gTab (y : MethodName) : Option (List (Nat × Nat × Nat × Nat)) := if y.cls = "GiftRegisterLaw" then (if y.name = "octet" then some [(0, 9, 12, 13)] else if y.name = "judged" then some [(0, 12, 15, 13)] else if y.name = "entered" then some [(0, 12, 15, 13)] else if y.name = "chance" then some [(0, 9, 12, 13)] else none) else none
theorem gTab_none {y : MethodName} (h : y.cls ≠ "GiftRegisterLaw") : gTab y = none := if_neg h
def gRoom (d mc ms : Nat) : Room := { frames := d, cells := mc, slots := ms, locals := 64 * d }
/-- the body's fixed side -/
def gCtx (M : gM) (d : Nat) (p : Program) (l : Launch) (R : Room) (s : State) (m : MethodId) (args : Array Value) (meth : Method) (c : Code) (D : gD) (adr0 b : Nat → Nat) (n0 : Nat) : Prop :=
  p.tables.exec = Jvm.exec ∧ c.code = M.2.1 ∧ c.maxLocals = M.2.2.1 ∧ s.vm.findClass M.1.cls = some m.cls ∧ (∀ w ∈ gG, w.before args s = true) ∧ va_K D.1 vwCl (gTys D) s ∧ d ≤ R.frames ∧ 64 * d ≤ R.locals ∧ l.flags = flags0 ∧ (M.1.name = "<init>" → meth.name = "<init>") ∧ gZ b (gA adr0 n0 s.heap.size) s ∧
  (∀ xs : List Int, M.2.2.2.2 = some xs → va_X (b 2) xs.length (fun j => Int32.ofInt (xs.getD j 0)) s s.heap ∧ b 2 < s.heap.size ∧ ¬ gA adr0 n0 s.heap.size (b 2) ∧ ∀ x ∈ xs, gi32 x) ∧
  ∀ hh, gTab M.1 = some hh → c.exceptionTable.toList = tableOf hh
/-- the world of the body as it stands -/
def gIn (mc ms : Nat) (R : Room) (s : State) (D : gD) (adr0 : Nat → Nat) (n0 : Nat) (adr : Nat → Nat) (H : Heap) (locs : List Loc) (cells slots : Nat) (L : List gK) (σ : gH) : Prop :=
  va_P D.1 vwCl (gWs D adr L σ) H ∧ va_D (gA adr0 n0 s.heap.size) (gWs D adr L σ) ∧ gGood L σ ∧ va_S (gA adr0 n0 s.heap.size) s.heap H locs ∧ (∀ k, k < n0 → adr k = adr0 k) ∧ n0 ≤ L.length ∧ (∀ k, n0 ≤ k → k < L.length → s.heap.size ≤ adr k) ∧ cells + mc ≤ R.cells ∧ slots + ms ≤ R.slots
def gFr (adr b : Nat → Nat) (nL n : Nat) (ls st : List gV) (lsM : Array Slot) : Prop := gLs adr b nL ls lsM ∧ (∀ v ∈ ls, gW n v) ∧ ∀ v ∈ st, gW n v
/-- not an answer, but the place where a throw begins -/
def gEsc (v : gV) : Bool := match v with
  | .inr (.inr (.inr k)) => decide (9 ≤ k)
  | _ => false
def gEc (v : gV) : Nat := if gEsc v = true then 1 else 0
def gEs (v : gV) : Nat := if gEsc v = true then 6 else 0
def gRs (adr b : Nat → Nat) (v : gV) : List Value := if v = gX 1 ∨ gEsc v = true then [] else [gC adr b v]
def gRv (adr b : Nat → Nat) (v : gV) : Option Value := if v = gX 1 then none else some (gC adr b v)
/-- the return that belongs to a value -/
def gRd (code : ByteArray) (pc : Nat) (ret : Option FieldType) (v : gV) : Prop :=
  (ret = some .int ∧ decode code pc = .ok (.ireturn, 1) ∧ ∃ n, v = gI n) ∨ (∃ ty n, ret = some ty ∧ decode code pc = .ok (.ireturn, 1) ∧ v = gI n ∧ narrow ty (.int (Int32.ofInt n)) = .int (Int32.ofInt n)) ∨ (ret = some .long ∧ decode code pc = .ok (.lreturn, 1) ∧ ∃ n, v = gJ n) ∨
  (∃ C, ret = some (.object C) ∧ decode code pc = .ok (.areturn, 1) ∧ ∃ k, v = gR k) ∨ (ret = none ∧ decode code pc = .ok (.return_, 1) ∧ v = gX 1) ∨
  (v = gX (pc + 9) ∧ ∃ i, decode code pc = .ok (.new i, 3))
/-- from here, with these locals, this operand stack, this world: the body comes to its end, with an answer and a world of Q -/
def gWp (M : gM) (d mc ms : Nat) (Q : gV → List gK → gH → Prop) (L : List gK) (σ : gH) (pc : Nat) (ls st : List gV) : Prop :=
  ∀ (p : Program) (l : Launch) (e : Env) (R : Room) (s : State) (m : MethodId) (args : Array Value) (below : List Frame) (meth : Method) (c : Code) (D : gD) (adr0 b : Nat → Nat) (n0 : Nat) (Qf : State → Prop),
    gCtx M d p l R s m args meth c D adr0 b n0 →
    (∀ (v : gV) (L : List gK) (σ : gH) (adr : Nat → Nat) (H : Heap) (locs : List Loc) (cells slots : Nat) (lsM : Array Slot) (pc : Nat), Q v L σ → gIn (gEc v) (gEs v) R s D adr0 n0 adr H locs cells slots L σ → gW L.length v → gRd M.2.1 pc M.2.2.2.1 v → lsM.size = M.2.2.1 →
      W p l e R s m args below meth c H locs cells slots Qf (F0 m pc lsM (gRs adr b v))) →
    ∀ (adr : Nat → Nat) (H : Heap) (locs : List Loc) (cells slots : Nat) (lsM : Array Slot), gIn mc ms R s D adr0 n0 adr H locs cells slots L σ → gFr adr b M.2.2.1 L.length ls st lsM →
      W p l e R s m args below meth c H locs cells slots Qf (F0 m pc lsM (st.map (gC adr b)))
/-- a method's contract -/
def gPc (D : gD) (adr b : Nat → Nat) (sz : Nat) (L : List gK) (σ : gH) (av : List gV) : Array Value → State → Prop := fun a U =>
  a = (av.map (gC adr b)).toArray ∧ U.heap.size = sz ∧ va_P D.1 vwCl (gWs D adr L σ) U.heap ∧ va_D (gA adr L.length sz) (gWs D adr L σ) ∧ gGood L σ ∧ (∀ v ∈ av, gW L.length v) ∧ va_K D.1 vwCl (gTys D) U ∧ gZ b (gA adr L.length sz) U
def gRes (D : gD) (adr b : Nat → Nat) (L : List gK) (sz : Nat) (Q : gV → List gK → gH → Prop) (v : Option Value) (t : State) : Prop :=
  ∃ (w : gV) (L' : List gK) (σ' : gH) (adr' : Nat → Nat), v = gRv adr' b w ∧ Q w L' σ' ∧ va_P D.1 vwCl (gWs D adr' L' σ') t.heap ∧ va_D (gA adr L.length sz) (gWs D adr' L' σ') ∧ gGood L' σ' ∧ gW L'.length w ∧ (∀ k, k < L.length → adr' k = adr k) ∧ L.length ≤ L'.length ∧ ∀ k, L.length ≤ k → k < L'.length → sz ≤ adr' k
def gQc (D : gD) (adr b : Nat → Nat) (L : List gK) (sz : Nat) (Q : gV → List gK → gH → Prop) : Array Value → State → Outcome → State → Prop := fun _ st o t =>
  (∃ v, o = .returned v ∧ gRes D adr b L sz Q v t) ∧ va_F (gA adr L.length sz) st t
def gWords (M : gM) : List Cond := .code M.1 M.2.1 M.2.2.1 M.2.2.2.1 :: gG
def gMt (M : gM) (d mc ms : Nat) (av : List gV) (L : List gK) (σ : gH) (Q : gV → List gK → gH → Prop) : Prop :=
  ∀ (l : Launch), l.flags = flags0 → ∀ (D : gD) (adr b : Nat → Nat) (sz : Nat), Met l M.1 (gWords M) (gRoom d mc ms) (gPc D adr b sz L σ av) (gQc D adr b L sz Q) mc ms (gA adr L.length sz)
/-! numbers -/
def w32 (n : Int) : Int := Int.bmod n 4294967296
def w64 (n : Int) : Int := Int.bmod n 18446744073709551616
theorem w32_in (n : Int) : gi32 (w32 n) := by unfold gi32 w32; constructor <;> (simp only [Int.bmod]; split <;> omega)
theorem w64_in (n : Int) : gi64 (w64 n) := by unfold gi64 w64; constructor <;> (simp only [Int.bmod]; split <;> omega)
theorem w32_id {n : Int} (h : gi32 n) : w32 n = n := by unfold w32; simp only [Int.bmod]; split <;> omega
theorem w64_id {n : Int} (h : gi64 n) : w64 n = n := by unfold w64; simp only [Int.bmod]; split <;> omega
theorem gof32 {n : Int} (h : gi32 n) : (Int32.ofInt n).toInt = n := Int32.toInt_ofInt_of_le h.1 h.2
theorem gof64 {n : Int} (h : gi64 n) : (Int64.ofInt n).toInt = n := Int64.toInt_ofInt_of_le h.1 h.2
theorem gto32 (x : Int32) : gi32 x.toInt := ⟨Int32.le_toInt x, Int32.toInt_lt x⟩
theorem gto64 (x : Int64) : gi64 x.toInt := ⟨Int64.le_toInt x, Int64.toInt_lt x⟩
theorem gofw32 (n : Int) : Int32.ofInt (w32 n) = Int32.ofInt n := by
  apply Int32.toInt_inj.mp
  rw [gof32 (w32_in n), Int32.toInt_ofInt]
  rfl
theorem gofw64 (n : Int) : Int64.ofInt (w64 n) = Int64.ofInt n := by
  apply Int64.toInt_inj.mp
  rw [gof64 (w64_in n), Int64.toInt_ofInt]
  rfl
theorem gadd32 (a b : Int) : Int32.ofInt a + Int32.ofInt b = Int32.ofInt (w32 (a + b)) := by rw [gofw32, Int32.ofInt_add]
theorem gsub32 (a b : Int) : Int32.ofInt a - Int32.ofInt b = Int32.ofInt (w32 (a - b)) := by rw [gofw32, Int32.ofInt_sub]
theorem gmul32 (a b : Int) : Int32.ofInt a * Int32.ofInt b = Int32.ofInt (w32 (a * b)) := by rw [gofw32, Int32.ofInt_mul]
theorem gneg32 (a : Int) : -Int32.ofInt a = Int32.ofInt (w32 (-a)) := by rw [gofw32, Int32.ofInt_neg]
theorem gadd64 (a b : Int) : Int64.ofInt a + Int64.ofInt b = Int64.ofInt (w64 (a + b)) := by rw [gofw64, Int64.ofInt_add]
theorem gsub64 (a b : Int) : Int64.ofInt a - Int64.ofInt b = Int64.ofInt (w64 (a - b)) := by rw [gofw64, Int64.ofInt_sub]
theorem gmul64 (a b : Int) : Int64.ofInt a * Int64.ofInt b = Int64.ofInt (w64 (a * b)) := by rw [gofw64, Int64.ofInt_mul]
theorem gback32 (x : Int32) : Int32.ofInt x.toInt = x := Int32.ofInt_toInt x
theorem gback64 (x : Int64) : Int64.ofInt x.toInt = x := Int64.ofInt_toInt x
theorem glt32 {a b : Int} (ha : gi32 a) (hb : gi32 b) : Int32.ofInt a < Int32.ofInt b ↔ a < b := by rw [Int32.lt_iff_toInt_lt, gof32 ha, gof32 hb]
theorem gle32 {a b : Int} (ha : gi32 a) (hb : gi32 b) : Int32.ofInt a ≤ Int32.ofInt b ↔ a ≤ b := by rw [Int32.le_iff_toInt_le, gof32 ha, gof32 hb]
theorem geq32 {a b : Int} (ha : gi32 a) (hb : gi32 b) : Int32.ofInt a = Int32.ofInt b ↔ a = b := by rw [← Int32.toInt_inj, gof32 ha, gof32 hb]
theorem glt64 {a b : Int} (ha : gi64 a) (hb : gi64 b) : Int64.ofInt a < Int64.ofInt b ↔ a < b := by rw [Int64.lt_iff_toInt_lt, gof64 ha, gof64 hb]
theorem geq64 {a b : Int} (ha : gi64 a) (hb : gi64 b) : Int64.ofInt a = Int64.ofInt b ↔ a = b := by rw [← Int64.toInt_inj, gof64 ha, gof64 hb]
/-- operations by bits: as the machine's own, read as numbers -/
def gB32 (f : Int32 → Int32 → Int32) (a b : Int) : Int := (f (Int32.ofInt a) (Int32.ofInt b)).toInt
def gB64 (f : Int64 → Int64 → Int64) (a b : Int) : Int := (f (Int64.ofInt a) (Int64.ofInt b)).toInt
/-- a long shifted by an int -/
def gS64 (f : Int64 → Int64 → Int64) (a b : Int) : Int := (f (Int64.ofInt a) ((Int32.ofInt b).toInt64 &&& 63)).toInt
theorem gnat32 {i : Int} (h : gi32 i) (h0 : 0 ≤ i) : (Int32.ofInt i).toNatClampNeg = i.toNat := by
  unfold Int32.toNatClampNeg
  rw [gof32 h]
theorem gvpin {i : Int} {n : Nat} (h : gi32 i) (h0 : 0 ≤ i) (h1 : i < n) : vp_in (Int32.ofInt i) n := by
  intro hh
  rcases hh with hh | hh
  · have h2 : Int32.ofInt i < Int32.ofInt 0 := hh
    rw [glt32 h (by decide)] at h2
    omega
  · rw [gnat32 h h0] at hh
    omega
/-! worlds -/
theorem gWs_len {D : gD} {adr : Nat → Nat} {L : List gK} {σ : gH} : (gWs D adr L σ).length = L.length := by simp [gWs]
theorem gWs_get {D : gD} {adr : Nat → Nat} {L : List gK} {σ : gH} {k : Nat} {kd : gK} (h : L[k]? = some kd) : (gWs D adr L σ)[k]? = some (adr k, gE D adr kd (σ k)) := by
  have hk : k < L.length := (List.getElem?_eq_some_iff.mp h).1
  simp [gWs, List.getElem?_map, List.getElem?_range hk, List.getD, h]
theorem gWs_at {D : gD} {adr : Nat → Nat} {L : List gK} {σ : gH} {k : Nat} {q : Nat × va_E} (h : (gWs D adr L σ)[k]? = some q) : ∃ kd, L[k]? = some kd ∧ q = (adr k, gE D adr kd (σ k)) := by
  have hk : k < L.length := by rw [← gWs_len (D := D) (adr := adr) (σ := σ)]; exact (List.getElem?_eq_some_iff.mp h).1
  have h2 := gWs_get (D := D) (adr := adr) (σ := σ) (List.getElem?_eq_getElem hk)
  rw [h] at h2
  exact ⟨_, List.getElem?_eq_getElem hk, Option.some.inj h2⟩
theorem gWs_set {D : gD} {adr : Nat → Nat} {L : List gK} {σ : gH} {k : Nat} {kd : gK} {f : Int → Int} (h : L[k]? = some kd) : (gWs D adr L σ).set k (adr k, gE D adr kd f) = gWs D adr L (gUr σ k f) := by
  apply List.ext_getElem?
  intro i
  by_cases hi : i < L.length
  · by_cases hk : i = k
    · subst hk
      rw [List.getElem?_set_self (by rw [gWs_len]; exact hi), gWs_get h]
      simp [gUr]
    · rw [List.getElem?_set_ne (Ne.symm hk), gWs_get (List.getElem?_eq_getElem hi), gWs_get (List.getElem?_eq_getElem hi)]
      simp [gUr, hk]
  · rw [List.getElem?_eq_none (by simp [gWs_len]; omega), List.getElem?_eq_none (by simp [gWs_len]; omega)]
theorem gE_obj_set {D : gD} {adr : Nat → Nat} {ci j : Nat} {f : Int → Int} {v : Int} :
    (Sum.inr (ci, ((List.range (gN ci)).map fun j => gVal adr (gFt ci j) (f j)).set j (gVal adr (gFt ci j) v)) : va_E) = gE D adr (.inl ci) (fun i => if i = (j : Int) then v else f i) := by
  show (Sum.inr (ci, _) : va_E) = Sum.inr (ci, _)
  congr 2
  apply List.ext_getElem?
  intro i
  by_cases hi : i < gN ci
  · by_cases hk : i = j
    · subst hk
      rw [List.getElem?_set_self (by simpa using hi)]
      simp [List.getElem?_map, List.getElem?_range hi]
    · rw [List.getElem?_set_ne (Ne.symm hk)]
      have : ¬ ((i : Int) = (j : Int)) := by omega
      simp [List.getElem?_map, List.getElem?_range hi, this]
  · rw [List.getElem?_eq_none (by simp; omega), List.getElem?_eq_none (by simp; omega)]
theorem gE_obj_get {adr : Nat → Nat} {ci j : Nat} {f : Int → Int} (h : j < gN ci) : ((List.range (gN ci)).map fun j => gVal adr (gFt ci j) (f j))[j]? = some (gVal adr (gFt ci j) (f j)) := by
  simp [List.getElem?_map, List.getElem?_range h]
theorem gUp_upd32 {f : Int → Int} {i v : Int} (h : gi32 i) (h0 : 0 ≤ i) : upd (fun j : Nat => Int32.ofInt (f j)) (Int32.ofInt i).toNatClampNeg (Int32.ofInt v) = fun j : Nat => Int32.ofInt (if (j : Int) = i then v else f j) := by
  rw [gnat32 h h0]
  funext j
  unfold upd
  by_cases hj : j = i.toNat
  · rw [if_pos hj, if_pos (by omega)]
  · rw [if_neg hj, if_neg (by omega)]
theorem gGood.up {L : List gK} {σ : gH} {k : Nat} {kd : gK} {j v : Int} (h : gGood L σ) (hk : L[k]? = some kd) (hj : 0 ≤ j) (hv : gOk L.length (gTc kd j.toNat) v) : gGood L (gUp σ k j v) := by
  intro k2 kd2 h2 i hi
  unfold gUp gUr
  by_cases e : k2 = k
  · subst e
    rw [hk] at h2
    cases h2
    rw [if_pos rfl]
    by_cases e2 : (i : Int) = j
    · rw [if_pos e2]
      have : j.toNat = i := by omega
      rw [this] at hv
      exact hv
    · rw [if_neg e2]
      exact h k2 _ hk i hi
  · rw [if_neg e]
    exact h k2 kd2 h2 i hi
