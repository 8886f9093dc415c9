/-! chains: the best of them, by ways in order and by length -/
def fmI (g : Int → List (Int × List Int)) : Nat → List (Int × List Int)
  | 0 => []
  | n + 1 => fmI g n ++ g n
theorem fmI_s {g : Int → List (Int × List Int)} {i : Int} (h : 0 ≤ i) : fmI g (i + 1).toNat = fmI g i.toNat ++ g i := by
  have e : (i + 1).toNat = i.toNat + 1 := by omega
  have e2 : ((i.toNat : Nat) : Int) = i := Int.toNat_of_nonneg h
  rw [e]
  show fmI g i.toNat ++ g (i.toNat : Int) = _
  rw [e2]
theorem fmI_congr {f g : Int → List (Int × List Int)} : ∀ {n : Nat}, (∀ i : Int, 0 ≤ i → i < n → f i = g i) → fmI f n = fmI g n
  | 0, _ => rfl
  | n + 1, h => by
    show fmI f n ++ f n = fmI g n ++ g n
    rw [fmI_congr (fun i h0 h1 => h i h0 (by omega)), h n (by omega) (by omega)]
theorem fmI_ext {g : Int → List (Int × List Int)} {n : Nat} : ∀ {m : Nat}, n ≤ m → (∀ i : Int, n ≤ i → i < m → g i = []) → fmI g m = fmI g n
  | 0, h, _ => by rw [show n = 0 by omega]
  | m + 1, h, hz => by
    by_cases e : n = m + 1
    · rw [e]
    · show fmI g m ++ g m = _
      rw [fmI_ext (m := m) (by omega) (fun i a b => hz i a (by omega)), hz m (by omega) (by omega), List.append_nil]
theorem fmI_none {g : Int → List (Int × List Int)} (n : Nat) (h : ∀ i : Int, 0 ≤ i → i < n → g i = []) : fmI g n = [] := fmI_ext (n := 0) (Nat.zero_le n) (fun i a b => h i (by omega) b)
theorem fmI_one {g : Int → List (Int × List Int)} {n : Nat} {k : Int} (h0 : 0 ≤ k) (h1 : k < n) (h : ∀ i : Int, 0 ≤ i → i < n → i ≠ k → g i = []) : fmI g n = g k := by
  rw [fmI_ext (n := (k + 1).toNat) (m := n) (by omega) (fun i a b => h i (by omega) b (by omega)), fmI_s h0, fmI_none k.toNat (fun i a b => h i a (by omega) (by omega)), List.nil_append]
theorem fmI_filter {g : Int → List (Int × List Int)} {p : Int × List Int → Bool} : ∀ n : Nat, (fmI g n).filter p = fmI (fun i => (g i).filter p) n
  | 0 => rfl
  | n + 1 => by
    show (fmI g n ++ g n).filter p = fmI (fun i => (g i).filter p) n ++ (g n).filter p
    rw [List.filter_append, fmI_filter n]
theorem fmI_mem {g : Int → List (Int × List Int)} {c : Int × List Int} : ∀ {n : Nat}, c ∈ fmI g n → ∃ i : Int, 0 ≤ i ∧ i < n ∧ c ∈ g i
  | 0, h => nomatch h
  | n + 1, h => by
    rcases List.mem_append.mp (show c ∈ fmI g n ++ g n from h) with h | h
    · obtain ⟨i, a, b, k⟩ := fmI_mem h
      exact ⟨i, a, by omega, k⟩
    · exact ⟨n, by omega, by omega, h⟩
/-- a rising row of places names all that is there -/
theorem fmI_rise {T : Int → Int} {g : Int → List (Int × List Int)} : ∀ (m N : Nat), (∀ j : Int, 0 ≤ j → j < m → 0 ≤ T j ∧ T j < N) → (∀ i j : Int, 0 ≤ i → i < j → j < m → T i < T j) → (∀ z : Int, 0 ≤ z → z < N → g z ≠ [] → ∃ j : Int, 0 ≤ j ∧ j < m ∧ T j = z) → fmI (fun j => g (T j)) m = fmI g N
  | 0, N, _, _, h => by
    refine (fmI_none N fun i a b => ?_).symm
    by_cases e : g i = []
    · exact e
    · obtain ⟨j, j0, j1, _⟩ := h i a b e
      omega
  | m + 1, N, hT, hr, h => by
    have t := hT m (by omega) (by omega)
    show fmI (fun j => g (T j)) m ++ g (T m) = _
    have e : fmI g N = fmI g (T m + 1).toNat := fmI_ext (by omega) fun i a b => by
      by_cases e : g i = []
      · exact e
      · obtain ⟨j, j0, j1, e2⟩ := h i (by omega) b e
        by_cases l : j = m
        · subst l; omega
        · have := hr j m j0 (by omega) (by omega)
          omega
    rw [e, fmI_s t.1]
    congr 1
    refine fmI_rise m (T m).toNat (fun j a b => ?_) (fun i j a b c => hr i j a b (by omega)) (fun z a b c => ?_)
    · have := hT j a (by omega)
      have := hr j m a (by omega) (by omega)
      omega
    · obtain ⟨j, j0, j1, e2⟩ := h z a (by omega) c
      refine ⟨j, j0, ?_, e2⟩
      by_cases l : j = m
      · subst l; omega
      · omega
/-! the greatest, the first of those alike; the class's rule -/
def ops (a b : Int × List Int) : Int × List Int := if b.1 ≤ a.1 then a else b
def kbs (s c : Int × List Int) : Int × List Int := if s.2.length = 0 ∨ s.1 < c.1 ∨ (c.1 = s.1 ∧ c.2.length < s.2.length) then c else s
abbrev zcs : Int × List Int := (0, [])
theorem ops_l {a b : Int × List Int} (h : b.1 ≤ a.1) : ops a b = a := if_pos h
theorem ops_r {a b : Int × List Int} (h : a.1 < b.1) : ops a b = b := if_neg (by omega)
theorem ops_assoc (a b c : Int × List Int) : ops (ops a b) c = ops a (ops b c) := by
  by_cases h1 : b.1 ≤ a.1
  · rw [ops_l h1]
    by_cases h2 : c.1 ≤ b.1
    · rw [ops_l h2, ops_l (by omega), ops_l h1]
    · rw [ops_r (show b.1 < c.1 by omega)]
  · rw [ops_r (show a.1 < b.1 by omega)]
    by_cases h2 : c.1 ≤ b.1
    · rw [ops_l h2, ops_r (by omega)]
    · rw [ops_r (show b.1 < c.1 by omega), ops_r (by omega)]
theorem ops_or (a b : Int × List Int) : ops a b = a ∨ ops a b = b := by
  unfold ops
  split
  · exact Or.inl rfl
  · exact Or.inr rfl
theorem ops_z {a : Int × List Int} (h : a = zcs ∨ 0 < a.1) : ops zcs a = a := by
  rcases h with h | h
  · rw [h]; rfl
  · exact ops_r h
theorem ops_zr {a : Int × List Int} (h : a = zcs ∨ 0 < a.1) : ops a zcs = a := by
  rcases h with h | h
  · rw [h]; rfl
  · exact ops_l (show (0 : Int) ≤ a.1 by omega)
/-- none, or some of lengths from m on up to k -/
def okS (m k : Nat) (a : Int × List Int) : Prop := a = zcs ∨ (0 < a.1 ∧ m ≤ a.2.length ∧ a.2.length ≤ k)
theorem okS.pos {m k : Nat} {a : Int × List Int} (h : okS m k a) : a = zcs ∨ 0 < a.1 := h.imp id (fun q => q.1)
theorem okS.ops {m k : Nat} {a b : Int × List Int} (ha : okS m k a) (hb : okS m k b) : okS m k (ops a b) := by
  rcases ops_or a b with e | e
  · rw [e]; exact ha
  · rw [e]; exact hb
theorem okS.mono {m k m' k' : Nat} {a : Int × List Int} (h : okS m k a) (h1 : m' ≤ m) (h2 : k ≤ k') : okS m' k' a := h.imp id (fun q => ⟨q.1, by omega, by omega⟩)
theorem kbs_y {s c : Int × List Int} (h : s.2.length = 0 ∨ s.1 < c.1 ∨ (c.1 = s.1 ∧ c.2.length < s.2.length)) : kbs s c = c := if_pos h
theorem kbs_n {s c : Int × List Int} (h : ¬ (s.2.length = 0 ∨ s.1 < c.1 ∨ (c.1 = s.1 ∧ c.2.length < s.2.length))) : kbs s c = s := if_neg h
/-- one more of length j among those that are shorter, alike, longer -/
theorem kbs_ops {u r v c : Int × List Int} {j : Nat} (hj : 0 < j) (hu : okS 1 (j - 1) u) (hr : okS j j r) (hv : okS (j + 1) 9 v) (hc : 0 < c.1) (hl : c.2.length = j) : kbs (ops (ops u r) v) c = ops (ops u (ops r c)) v := by
  have zl : (zcs).2.length = 0 := rfl
  have z1 : (zcs).1 = 0 := rfl
  have fu : (u.1 = 0 ∧ u.2.length = 0) ∨ (0 < u.1 ∧ 1 ≤ u.2.length ∧ u.2.length ≤ j - 1) := hu.imp (fun e => by rw [e]; exact ⟨rfl, rfl⟩) id
  have fr : (r.1 = 0 ∧ r.2.length = 0) ∨ (0 < r.1 ∧ j ≤ r.2.length ∧ r.2.length ≤ j) := hr.imp (fun e => by rw [e]; exact ⟨rfl, rfl⟩) id
  have fv : (v.1 = 0 ∧ v.2.length = 0) ∨ (0 < v.1 ∧ j + 1 ≤ v.2.length ∧ v.2.length ≤ 9) := hv.imp (fun e => by rw [e]; exact ⟨rfl, rfl⟩) id
  by_cases h1 : r.1 ≤ u.1
  · rw [ops_l h1]
    by_cases h2 : v.1 ≤ u.1
    · rw [ops_l h2]
      by_cases h3 : c.1 ≤ u.1
      · have e : ops u (ops r c) = u := by
          rcases ops_or r c with e | e
          · rw [e, ops_l h1]
          · rw [e, ops_l h3]
        rw [e, ops_l h2, kbs_n (by omega)]
      · rw [ops_r (show r.1 < c.1 by omega), ops_r (show u.1 < c.1 by omega), ops_l (show v.1 ≤ c.1 by omega), kbs_y (by omega)]
    · rw [ops_r (show u.1 < v.1 by omega)]
      by_cases h3 : c.1 < v.1
      · have e : ops (ops u (ops r c)) v = v := by
          refine ops_r ?_
          rcases ops_or u (ops r c) with e | e
          · rw [e]; omega
          · rw [e]
            rcases ops_or r c with e | e
            · rw [e]; omega
            · rw [e]; exact h3
        rw [e, kbs_n (by omega)]
      · rw [ops_r (show r.1 < c.1 by omega), ops_r (show u.1 < c.1 by omega), ops_l (show v.1 ≤ c.1 by omega), kbs_y (by omega)]
  · rw [ops_r (show u.1 < r.1 by omega)]
    by_cases h2 : v.1 ≤ r.1
    · rw [ops_l h2]
      by_cases h3 : c.1 ≤ r.1
      · rw [ops_l h3, ops_r (show u.1 < r.1 by omega), ops_l h2, kbs_n (by omega)]
      · rw [ops_r (show r.1 < c.1 by omega), ops_r (show u.1 < c.1 by omega), ops_l (show v.1 ≤ c.1 by omega), kbs_y (by omega)]
    · rw [ops_r (show r.1 < v.1 by omega)]
      by_cases h3 : c.1 < v.1
      · have e : ops (ops u (ops r c)) v = v := by
          refine ops_r ?_
          rcases ops_or u (ops r c) with e | e
          · rw [e]; omega
          · rw [e]
            rcases ops_or r c with e | e
            · rw [e]; omega
            · rw [e]; exact h3
        rw [e, kbs_n (by omega)]
      · rw [ops_r (show r.1 < c.1 by omega), ops_r (show u.1 < c.1 by omega), ops_l (show v.1 ≤ c.1 by omega), kbs_y (by omega)]
abbrev flt (j : Nat) (L : List (Int × List Int)) : List (Int × List Int) := L.filter (fun c => decide (c.2.length = j))
theorem flt_y {j : Nat} {c : Int × List Int} {L : List (Int × List Int)} (h : c.2.length = j) : flt j (c :: L) = c :: flt j L := List.filter_cons_of_pos (by simp [h])
theorem flt_n {j : Nat} {c : Int × List Int} {L : List (Int × List Int)} (h : c.2.length ≠ j) : flt j (c :: L) = flt j L := List.filter_cons_of_neg (by simp [h])
theorem okS_z {m k : Nat} : okS m k zcs := Or.inl rfl
theorem kbs_fold : ∀ (L : List (Int × List Int)) (a b c d : Int × List Int), okS 2 2 a → okS 3 3 b → okS 4 4 c → okS 5 5 d → (∀ q ∈ L, 0 < q.1 ∧ 2 ≤ q.2.length ∧ q.2.length ≤ 5) →
    L.foldl kbs (ops (ops (ops a b) c) d) = ops (ops (ops ((flt 2 L).foldl ops a) ((flt 3 L).foldl ops b)) ((flt 4 L).foldl ops c)) ((flt 5 L).foldl ops d)
  | [], _, _, _, _, _, _, _, _, _ => rfl
  | q :: L, a, b, c, d, ha, hb, hc, hd, hL => by
    have hq := hL q List.mem_cons_self
    have hL' : ∀ x ∈ L, 0 < x.1 ∧ 2 ≤ x.2.length ∧ x.2.length ≤ 5 := fun x h => hL x (List.mem_cons_of_mem _ h)
    show L.foldl kbs (kbs (ops (ops (ops a b) c) d) q) = _
    rcases (show q.2.length = 2 ∨ q.2.length = 3 ∨ q.2.length = 4 ∨ q.2.length = 5 by omega) with e | e | e | e
    · have k : kbs (ops (ops (ops a b) c) d) q = ops (ops (ops (ops a q) b) c) d := by
        have x := kbs_ops (u := zcs) (r := a) (v := ops (ops b c) d) (c := q) (j := 2) (by omega) okS_z ha (((hb.mono (by omega) (by omega)).ops (hc.mono (by omega) (by omega))).ops (hd.mono (by omega) (by omega))) hq.1 e
        rw [ops_z ha.pos, ← ops_assoc, ← ops_assoc, ops_z (okS.pos (m := 2) (k := 2) (ha.ops (Or.inr ⟨hq.1, by omega, by omega⟩))), ← ops_assoc, ← ops_assoc] at x
        exact x
      rw [k, kbs_fold L (ops a q) b c d (ha.ops (Or.inr ⟨hq.1, by omega, by omega⟩)) hb hc hd hL', flt_y e, flt_n (by omega), flt_n (by omega), flt_n (by omega)]
      rfl
    · have k : kbs (ops (ops (ops a b) c) d) q = ops (ops (ops a (ops b q)) c) d := by
        have x := kbs_ops (u := a) (r := b) (v := ops c d) (c := q) (j := 3) (by omega) (ha.mono (by omega) (by omega)) hb ((hc.mono (by omega) (by omega)).ops (hd.mono (by omega) (by omega))) hq.1 e
        rw [← ops_assoc, ← ops_assoc] at x
        exact x
      rw [k, kbs_fold L a (ops b q) c d ha (hb.ops (Or.inr ⟨hq.1, by omega, by omega⟩)) hc hd hL', flt_n (by omega), flt_y e, flt_n (by omega), flt_n (by omega)]
      rfl
    · have k : kbs (ops (ops (ops a b) c) d) q = ops (ops (ops a b) (ops c q)) d := kbs_ops (u := ops a b) (r := c) (v := d) (c := q) (j := 4) (by omega) ((ha.mono (by omega) (by omega)).ops (hb.mono (by omega) (by omega))) hc (hd.mono (by omega) (by omega)) hq.1 e
      rw [k, kbs_fold L a b (ops c q) d ha hb (hc.ops (Or.inr ⟨hq.1, by omega, by omega⟩)) hd hL', flt_n (by omega), flt_n (by omega), flt_y e, flt_n (by omega)]
      rfl
    · have k : kbs (ops (ops (ops a b) c) d) q = ops (ops (ops a b) c) (ops d q) := by
        have o3 : okS 1 4 (ops (ops a b) c) := ((ha.mono (by omega) (by omega)).ops (hb.mono (by omega) (by omega))).ops (hc.mono (by omega) (by omega))
        have x := kbs_ops (u := ops (ops a b) c) (r := d) (v := zcs) (c := q) (j := 5) (by omega) o3 hd okS_z hq.1 e
        have o5 : okS 1 5 (ops (ops (ops a b) c) d) := (o3.mono (by omega) (by omega)).ops (hd.mono (by omega) (by omega))
        have o6 : okS 1 5 (ops (ops (ops a b) c) (ops d q)) := (o3.mono (by omega) (by omega)).ops ((hd.mono (by omega) (by omega)).ops (Or.inr ⟨hq.1, by omega, by omega⟩))
        rw [ops_zr o5.pos, ops_zr o6.pos] at x
        exact x
      rw [k, kbs_fold L a b c (ops d q) ha hb hc (hd.ops (Or.inr ⟨hq.1, by omega, by omega⟩)) hL', flt_n (by omega), flt_n (by omega), flt_n (by omega), flt_y e]
      rfl
theorem ops_fold : ∀ (L : List (Int × List Int)) (s : Int × List Int), (s = zcs ∨ 0 < s.1) → (∀ q ∈ L, 0 < q.1) → L.foldl ops s = ops s (L.foldl ops zcs) ∧ (L.foldl ops s = zcs ∨ 0 < (L.foldl ops s).1)
  | [], s, hs, _ => ⟨(ops_zr hs).symm, hs⟩
  | q :: L, s, hs, hL => by
    have hq := hL q List.mem_cons_self
    have hL' : ∀ x ∈ L, 0 < x.1 := fun x h => hL x (List.mem_cons_of_mem _ h)
    have hsq : ops s q = zcs ∨ 0 < (ops s q).1 := by
      rcases ops_or s q with e | e
      · rw [e]; exact hs
      · rw [e]; exact Or.inr hq
    have i1 := ops_fold L (ops s q) hsq hL'
    have i2 := ops_fold L (ops zcs q) (by rw [ops_r (show (zcs).1 < q.1 from hq)]; exact Or.inr hq) hL'
    refine ⟨?_, i1.2⟩
    show L.foldl ops (ops s q) = ops s (L.foldl ops (ops zcs q))
    rw [i1.1, i2.1, ops_r (show (zcs).1 < q.1 from hq), ops_assoc]
theorem flt_pos {j : Nat} {L : List (Int × List Int)} (h : ∀ q ∈ L, 0 < q.1) : ∀ q ∈ flt j L, 0 < q.1 := fun q hq => h q (List.mem_filter.mp hq).1
theorem kbs_all (L : List (Int × List Int)) (h : ∀ q ∈ L, 0 < q.1 ∧ 2 ≤ q.2.length ∧ q.2.length ≤ 5) : L.foldl kbs zcs = (flt 5 L).foldl ops ((flt 4 L).foldl ops ((flt 3 L).foldl ops ((flt 2 L).foldl ops zcs))) := by
  have hp : ∀ q ∈ L, 0 < q.1 := fun q a => (h q a).1
  have k := kbs_fold L zcs zcs zcs zcs okS_z okS_z okS_z okS_z h
  have e2 := ops_fold (flt 2 L) zcs (Or.inl rfl) (flt_pos hp)
  have e3 := ops_fold (flt 3 L) _ e2.2 (flt_pos hp)
  have e4 := ops_fold (flt 4 L) _ e3.2 (flt_pos hp)
  have e5 := ops_fold (flt 5 L) _ e4.2 (flt_pos hp)
  rw [e5.1, e4.1, e3.1]
  exact k
/-! the ways of the class, in its order -/
def clw4 (A : Int → Int → Int) (f : Int) : Nat → List Int → Int → Int → List (Int × List Int)
  | 0, _, _, _ => []
  | k + 1, pre, y, w => fmI (fun z => if z ∈ pre ∨ A y z = 0 then [] else (if z = f then [(w * A y z * (10000 : Int) ^ k, pre ++ [z])] else []) ++ clw4 A f k (pre ++ [z]) z (w * A y z)) 60
theorem clw4_in {A : Int → Int → Int} {f : Int} (hA : ∀ y z, 0 ≤ A y z) : ∀ (k : Nat) (pre : List Int) (y w : Int), 0 < w → ∀ c ∈ clw4 A f k pre y w, 0 < c.1 ∧ pre.length + 1 ≤ c.2.length ∧ c.2.length ≤ pre.length + k
  | 0, _, _, _, _, _, h => nomatch h
  | k + 1, pre, y, w, hw, c, h => by
    obtain ⟨z, z0, z1, h⟩ := fmI_mem h
    by_cases e : z ∈ pre ∨ A y z = 0
    · rw [if_pos e] at h
      exact nomatch h
    · rw [if_neg e] at h
      have ha : 0 < A y z := by
        have := hA y z
        have : A y z ≠ 0 := fun x => e (Or.inr x)
        omega
      have hwa : 0 < w * A y z := Int.mul_pos hw ha
      rcases List.mem_append.mp h with h | h
      · by_cases e2 : z = f
        · rw [if_pos e2] at h
          rw [List.mem_singleton.mp h]
          refine ⟨Int.mul_pos hwa (Int.pow_pos (by decide)), ?_, ?_⟩
          · simp
          · simp <;> omega
        · rw [if_neg e2] at h
          exact nomatch h
      · have r := clw4_in hA k (pre ++ [z]) z (w * A y z) hwa c h
        rw [List.length_append, List.length_singleton] at r
        exact ⟨r.1, by omega, by omega⟩
/-- the ways of j + 1 steps more -/
def lvw (A : Int → Int → Int) (f sc : Int) : Nat → List Int → Int → Int → List (Int × List Int)
  | 0, pre, y, w => if f ∈ pre ∨ A y f = 0 then [] else [(w * A y f * sc, pre ++ [f])]
  | j + 1, pre, y, w => fmI (fun z => if z ∈ pre ∨ z = f ∨ A y z = 0 then [] else lvw A f sc j (pre ++ [z]) z (w * A y z)) 60
theorem lvw_in {A : Int → Int → Int} {f sc : Int} : ∀ (j : Nat) (pre : List Int) (y w : Int), f ∈ pre → lvw A f sc j pre y w = []
  | 0, _, _, _, h => if_pos (Or.inl h)
  | j + 1, pre, y, w, h => fmI_none 60 fun z _ _ => by
    by_cases e : z ∈ pre ∨ z = f ∨ A y z = 0
    · rw [if_pos e]
    · rw [if_neg e, lvw_in j (pre ++ [z]) z (w * A y z) (List.mem_append_left _ h)]
theorem flt_none {j : Nat} {L : List (Int × List Int)} (h : ∀ c ∈ L, c.2.length ≠ j) : flt j L = [] := List.filter_eq_nil_iff.mpr fun c hc => by simp [h c hc]
theorem clw4_lvw {A : Int → Int → Int} {f : Int} (hA : ∀ y z, 0 ≤ A y z) (f0 : 0 ≤ f) (f1 : f < 60) : ∀ (k j : Nat) (pre : List Int) (y w : Int), 0 < w → j < k → flt (pre.length + 1 + j) (clw4 A f k pre y w) = lvw A f ((10000 : Int) ^ (k - 1 - j)) j pre y w
  | 0, _, _, _, _, _, h => by omega
  | k + 1, 0, pre, y, w, hw, _ => by
    show List.filter (fun c => decide (c.2.length = pre.length + 1)) (fmI _ 60) = _
    rw [fmI_filter, fmI_one (k := f) f0 f1 fun z z0 z1 hz => ?_]
    · show List.filter _ (if f ∈ pre ∨ A y f = 0 then [] else (if f = f then [(w * A y f * (10000 : Int) ^ k, pre ++ [f])] else []) ++ clw4 A f k (pre ++ [f]) f (w * A y f)) = (if f ∈ pre ∨ A y f = 0 then [] else [(w * A y f * (10000 : Int) ^ (k + 1 - 1 - 0), pre ++ [f])])
      by_cases e : f ∈ pre ∨ A y f = 0
      · rw [if_pos e, if_pos e]; rfl
      · have ha : 0 < A y f := by
          have := hA y f
          have : A y f ≠ 0 := fun x => e (Or.inr x)
          omega
        rw [if_neg e, if_neg e, if_pos rfl, List.filter_append, show List.filter (fun c => decide (c.2.length = pre.length + 1)) (clw4 A f k (pre ++ [f]) f (w * A y f)) = [] from flt_none fun c hc => by
          have r := clw4_in hA k (pre ++ [f]) f (w * A y f) (Int.mul_pos hw ha) c hc
          rw [List.length_append, List.length_singleton] at r
          omega, List.append_nil, List.filter_cons_of_pos (by simp)]
        rfl
    · by_cases e : z ∈ pre ∨ A y z = 0
      · rw [if_pos e]; rfl
      · have ha : 0 < A y z := by
          have := hA y z
          have : A y z ≠ 0 := fun x => e (Or.inr x)
          omega
        rw [if_neg e, if_neg hz, List.nil_append]
        refine flt_none fun c hc => ?_
        have r := clw4_in hA k (pre ++ [z]) z (w * A y z) (Int.mul_pos hw ha) c hc
        rw [List.length_append, List.length_singleton] at r
        omega
  | k + 1, j + 1, pre, y, w, hw, hj => by
    show List.filter (fun c => decide (c.2.length = pre.length + 1 + (j + 1))) (fmI _ 60) = fmI _ 60
    rw [fmI_filter]
    refine fmI_congr fun z z0 z1 => ?_
    by_cases e : z ∈ pre ∨ A y z = 0
    · rw [if_pos e, if_pos (e.imp id Or.inr)]; rfl
    · have ha : 0 < A y z := by
        have := hA y z
        have : A y z ≠ 0 := fun x => e (Or.inr x)
        omega
      have hh : List.filter (fun c => decide (c.2.length = pre.length + 1 + (j + 1))) (if z = f then [(w * A y z * (10000 : Int) ^ k, pre ++ [z])] else []) = [] := flt_none fun c hc => by
        by_cases e2 : z = f
        · rw [if_pos e2] at hc
          rw [List.mem_singleton.mp hc]
          simp
        · rw [if_neg e2] at hc
          exact nomatch hc
      rw [if_neg e, List.filter_append, hh, List.nil_append]
      have ih := clw4_lvw hA f0 f1 k j (pre ++ [z]) z (w * A y z) (Int.mul_pos hw ha) (by omega)
      rw [List.length_append, List.length_singleton, show pre.length + 1 + 1 + j = pre.length + 1 + (j + 1) by omega] at ih
      rw [show List.filter (fun c => decide (c.2.length = pre.length + 1 + (j + 1))) (clw4 A f k (pre ++ [z]) z (w * A y z)) = _ from ih, show k + 1 - 1 - (j + 1) = k - 1 - j by omega]
      by_cases e2 : z = f
      · rw [if_pos (Or.inr (Or.inl e2)), e2, lvw_in j _ _ _ (List.mem_append_right _ (List.mem_singleton.mpr rfl))]
      · rw [if_neg (fun q => q.elim (fun a => e (Or.inl a)) (fun b => b.elim e2 (fun c => e (Or.inr c))))]
/-- the best of all ways from x to f -/
noncomputable def BCH (A : Int → Int → Int) (x f : Int) : Int × List Int := (clw4 A f 4 [x] x 1).foldl kbs zcs
theorem BCH_lv {A : Int → Int → Int} {x f : Int} (hA : ∀ y z, 0 ≤ A y z) (f0 : 0 ≤ f) (f1 : f < 60) : BCH A x f = (lvw A f 1 3 [x] x 1).foldl ops ((lvw A f 10000 2 [x] x 1).foldl ops ((lvw A f 100000000 1 [x] x 1).foldl ops ((lvw A f 1000000000000 0 [x] x 1).foldl ops zcs))) := by
  have h := kbs_all (clw4 A f 4 [x] x 1) fun q hq => by
    have r := clw4_in hA 4 [x] x 1 (by decide) q hq
    have l : ([x] : List Int).length = 1 := rfl
    rw [l] at r
    exact ⟨r.1, by omega, by omega⟩
  have g : ∀ j : Nat, j < 4 → flt (2 + j) (clw4 A f 4 [x] x 1) = lvw A f ((10000 : Int) ^ (4 - 1 - j)) j [x] x 1 := fun j hj => clw4_lvw hA f0 f1 4 j [x] x 1 (by decide) hj
  have g0 := g 0 (by omega)
  have g1 := g 1 (by omega)
  have g2 := g 2 (by omega)
  have g3 := g 3 (by omega)
  rw [show BCH A x f = _ from h, show flt 2 (clw4 A f 4 [x] x 1) = _ from g0, show flt 3 (clw4 A f 4 [x] x 1) = _ from g1, show flt 4 (clw4 A f 4 [x] x 1) = _ from g2, show flt 5 (clw4 A f 4 [x] x 1) = _ from g3]
  rfl
/-! the ways of the reference, by length -/
section CHF
variable (A : Int → Int → Int) (n x f : Int)
def rk5 (a b c : Int) : List (Int × List Int) := if c = x ∨ c = f ∨ c = a ∨ c = b ∨ A b c = 0 ∨ A c f = 0 then [] else [(A x a * A a b * A b c * A c f, [x, a, b, c, f])]
def rk4 (a b : Int) : List (Int × List Int) := if A b f = 0 then [] else [(A x a * A a b * A b f * 10000, [x, a, b, f])]
def rk3 (a : Int) : List (Int × List Int) := if A a f = 0 then [] else [(A x a * A a f * 100000000, [x, a, f])]
def rk2 : List (Int × List Int) := if A x f = 0 then [] else [(A x f * 1000000000000, [x, f])]
def rb2 (l a b : Int) : List (Int × List Int) := if b = x ∨ b = f ∨ b = a ∨ A a b = 0 then [] else if l = 4 then rk4 A x f a b else fmI (rk5 A x f a b) n.toNat
def rb1 (l a : Int) : List (Int × List Int) := if a = f ∨ a = x ∨ A x a = 0 then [] else if l = 3 then rk3 A x f a else fmI (rb2 A n x f l a) n.toNat
end CHF
theorem rk5_out {A : Int → Int → Int} {n x f a b : Int} (ho : ∀ g f, n ≤ g ∨ n ≤ f → A g f = 0) (h0 : 0 ≤ n) (h1 : n ≤ 60) : fmI (rk5 A x f a b) n.toNat = fmI (rk5 A x f a b) 60 := (fmI_ext (by omega) fun i a b => if_pos (Or.inr (Or.inr (Or.inr (Or.inr (Or.inl (ho _ i (Or.inr (by omega))))))))).symm
theorem rb2_out {A : Int → Int → Int} {n x f l a : Int} (ho : ∀ g f, n ≤ g ∨ n ≤ f → A g f = 0) (h0 : 0 ≤ n) (h1 : n ≤ 60) : fmI (rb2 A n x f l a) n.toNat = fmI (rb2 A n x f l a) 60 := (fmI_ext (by omega) fun i a b => if_pos (Or.inr (Or.inr (Or.inr (ho _ i (Or.inr (by omega))))))).symm
theorem rb1_out {A : Int → Int → Int} {n x f l : Int} (ho : ∀ g f, n ≤ g ∨ n ≤ f → A g f = 0) (h0 : 0 ≤ n) (h1 : n ≤ 60) : fmI (rb1 A n x f l) n.toNat = fmI (rb1 A n x f l) 60 := (fmI_ext (by omega) fun i a b => if_pos (Or.inr (Or.inr (ho _ i (Or.inr (by omega)))))).symm
theorem lv_0 {A : Int → Int → Int} {x f : Int} (hn : x ≠ f) : lvw A f 1000000000000 0 [x] x 1 = rk2 A x f := by
  unfold rk2
  show (if f ∈ [x] ∨ A x f = 0 then [] else [(1 * A x f * 1000000000000, [x] ++ [f])]) = _
  by_cases e : A x f = 0
  · rw [if_pos e, if_pos (Or.inr e)]
  · rw [if_neg e, if_neg (by simp [e]; omega), Int.one_mul]; rfl
theorem lv_1 {A : Int → Int → Int} {n x f : Int} (ho : ∀ g f, n ≤ g ∨ n ≤ f → A g f = 0) (h0 : 0 ≤ n) (h1 : n ≤ 60) (hn : x ≠ f) : lvw A f 100000000 1 [x] x 1 = fmI (rb1 A n x f 3) n.toNat := by
  rw [rb1_out ho h0 h1]
  refine fmI_congr fun a _ _ => ?_
  show (if a ∈ [x] ∨ a = f ∨ A x a = 0 then [] else (if f ∈ [x] ++ [a] ∨ A a f = 0 then [] else [(1 * A x a * A a f * 100000000, [x] ++ [a] ++ [f])])) = if a = f ∨ a = x ∨ A x a = 0 then [] else if (3 : Int) = 3 then (if A a f = 0 then [] else [(A x a * A a f * 100000000, [x, a, f])]) else _
  by_cases e : a = f ∨ a = x ∨ A x a = 0
  · rw [if_pos e, if_pos (by simp only [List.mem_singleton]; omega)]
  · rw [if_neg e, if_neg (by simp only [List.mem_singleton]; omega), if_pos rfl, Int.one_mul]
    by_cases e2 : A a f = 0
    · rw [if_pos e2, if_pos (Or.inr e2)]
    · rw [if_neg e2, if_neg (by simp [e2]; omega)]; rfl
theorem lv_2 {A : Int → Int → Int} {n x f : Int} (ho : ∀ g f, n ≤ g ∨ n ≤ f → A g f = 0) (h0 : 0 ≤ n) (h1 : n ≤ 60) (hn : x ≠ f) : lvw A f 10000 2 [x] x 1 = fmI (rb1 A n x f 4) n.toNat := by
  rw [rb1_out ho h0 h1]
  refine fmI_congr fun a _ _ => ?_
  show (if a ∈ [x] ∨ a = f ∨ A x a = 0 then [] else fmI (fun z => if z ∈ [x] ++ [a] ∨ z = f ∨ A a z = 0 then [] else (if f ∈ [x] ++ [a] ++ [z] ∨ A z f = 0 then [] else [(1 * A x a * A a z * A z f * 10000, [x] ++ [a] ++ [z] ++ [f])])) 60) = if a = f ∨ a = x ∨ A x a = 0 then [] else if (4 : Int) = 3 then _ else fmI (rb2 A n x f 4 a) n.toNat
  by_cases e : a = f ∨ a = x ∨ A x a = 0
  · rw [if_pos e, if_pos (by simp only [List.mem_singleton]; omega)]
  · rw [if_neg e, if_neg (by simp only [List.mem_singleton]; omega), if_neg (by decide), rb2_out ho h0 h1, Int.one_mul]
    refine fmI_congr fun b _ _ => ?_
    show _ = if b = x ∨ b = f ∨ b = a ∨ A a b = 0 then [] else if (4 : Int) = 4 then (if A b f = 0 then [] else [(A x a * A a b * A b f * 10000, [x, a, b, f])]) else _
    by_cases e3 : b = x ∨ b = f ∨ b = a ∨ A a b = 0
    · rw [if_pos e3, if_pos (by simp only [List.mem_append, List.mem_singleton]; omega)]
    · rw [if_neg e3, if_neg (by simp only [List.mem_append, List.mem_singleton]; omega), if_pos rfl]
      by_cases e2 : A b f = 0
      · rw [if_pos e2, if_pos (Or.inr e2)]
      · rw [if_neg e2, if_neg (by simp [e2]; omega)]; rfl
theorem lv_3 {A : Int → Int → Int} {n x f : Int} (ho : ∀ g f, n ≤ g ∨ n ≤ f → A g f = 0) (h0 : 0 ≤ n) (h1 : n ≤ 60) (hn : x ≠ f) : lvw A f 1 3 [x] x 1 = fmI (rb1 A n x f 5) n.toNat := by
  rw [rb1_out ho h0 h1]
  refine fmI_congr fun a _ _ => ?_
  show (if a ∈ [x] ∨ a = f ∨ A x a = 0 then [] else fmI (fun z => if z ∈ [x] ++ [a] ∨ z = f ∨ A a z = 0 then [] else fmI (fun u => if u ∈ [x] ++ [a] ++ [z] ∨ u = f ∨ A z u = 0 then [] else (if f ∈ [x] ++ [a] ++ [z] ++ [u] ∨ A u f = 0 then [] else [(1 * A x a * A a z * A z u * A u f * 1, [x] ++ [a] ++ [z] ++ [u] ++ [f])])) 60) 60) = if a = f ∨ a = x ∨ A x a = 0 then [] else if (5 : Int) = 3 then _ else fmI (rb2 A n x f 5 a) n.toNat
  by_cases e : a = f ∨ a = x ∨ A x a = 0
  · rw [if_pos e, if_pos (by simp only [List.mem_singleton]; omega)]
  · rw [if_neg e, if_neg (by simp only [List.mem_singleton]; omega), if_neg (by decide), rb2_out ho h0 h1, Int.one_mul]
    refine fmI_congr fun b _ _ => ?_
    show _ = if b = x ∨ b = f ∨ b = a ∨ A a b = 0 then [] else if (5 : Int) = 4 then _ else fmI (rk5 A x f a b) n.toNat
    by_cases e3 : b = x ∨ b = f ∨ b = a ∨ A a b = 0
    · rw [if_pos e3, if_pos (by simp only [List.mem_append, List.mem_singleton]; omega)]
    · rw [if_neg e3, if_neg (by simp only [List.mem_append, List.mem_singleton]; omega), if_neg (by decide), rk5_out ho h0 h1]
      refine fmI_congr fun c _ _ => ?_
      show _ = if c = x ∨ c = f ∨ c = a ∨ c = b ∨ A b c = 0 ∨ A c f = 0 then [] else [(A x a * A a b * A b c * A c f, [x, a, b, c, f])]
      by_cases e4 : c = x ∨ c = f ∨ c = a ∨ c = b ∨ A b c = 0
      · rw [if_pos (show c = x ∨ c = f ∨ c = a ∨ c = b ∨ A b c = 0 ∨ A c f = 0 by omega), if_pos (by simp only [List.mem_append, List.mem_singleton]; omega)]
      · rw [if_neg (show ¬ (c ∈ [x] ++ [a] ++ [b] ∨ c = f ∨ A b c = 0) by simp only [List.mem_append, List.mem_singleton]; omega)]
        by_cases e2 : A c f = 0
        · rw [if_pos (Or.inr e2), if_pos (by omega)]
        · rw [if_neg (show ¬ (f ∈ [x] ++ [a] ++ [b] ++ [c] ∨ A c f = 0) by simp only [List.mem_append, List.mem_singleton]; omega), if_neg (by omega), Int.mul_one]; rfl
theorem BCH_r {A : Int → Int → Int} {n x f : Int} (hA : ∀ y z, 0 ≤ A y z) (ho : ∀ g f, n ≤ g ∨ n ≤ f → A g f = 0) (h0 : 0 ≤ n) (h1 : n ≤ 60) (hn : x ≠ f) (f0 : 0 ≤ f) (f1 : f < 60) : BCH A x f = (fmI (rb1 A n x f 5) n.toNat).foldl ops ((fmI (rb1 A n x f 4) n.toNat).foldl ops ((fmI (rb1 A n x f 3) n.toNat).foldl ops ((rk2 A x f).foldl ops zcs))) := by
  rw [BCH_lv hA f0 f1, lv_3 ho h0 h1 hn, lv_2 ho h0 h1 hn, lv_1 ho h0 h1 hn, lv_0 hn]
/-- without a way but to itself -/
theorem BCH_self {A : Int → Int → Int} {f : Int} : ∀ (k : Nat) (pre : List Int) (y w : Int), f ∈ pre → clw4 A f k pre y w = []
  | 0, _, _, _, _ => rfl
  | k + 1, pre, y, w, h => fmI_none 60 fun z _ _ => by
    by_cases e : z ∈ pre ∨ A y z = 0
    · rw [if_pos e]
    · rw [if_neg e, if_neg (fun q : z = f => e (Or.inl (q ▸ h))), BCH_self k _ _ _ (List.mem_append_left _ h)]; rfl
theorem BCH_ok {A : Int → Int → Int} {x f : Int} (hA : ∀ y z, 0 ≤ A y z) : okS 2 5 (BCH A x f) := by
  have g : ∀ (L : List (Int × List Int)) (s : Int × List Int), okS 2 5 s → (∀ q ∈ L, 0 < q.1 ∧ 2 ≤ q.2.length ∧ q.2.length ≤ 5) → okS 2 5 (L.foldl kbs s) := by
    intro L
    induction L with
    | nil => intro s hs _; exact hs
    | cons q L ih =>
      intro s hs h
      refine ih (kbs s q) ?_ (fun x hx => h x (List.mem_cons_of_mem _ hx))
      unfold kbs
      split
      · exact Or.inr (h q List.mem_cons_self)
      · exact hs
  refine g _ _ okS_z fun q hq => ?_
  have r := clw4_in hA 4 [x] x 1 (by decide) q hq
  have l : ([x] : List Int).length = 1 := rfl
  rw [l] at r
  exact ⟨r.1, by omega, by omega⟩
/-! a list in a row -/
def rowL (R : Int → Int) : Int → List Int → Prop
  | _, [] => True
  | k, a :: l => R k = a ∧ rowL R (k + 1) l
theorem rowL_app {R : Int → Int} {z : Int} : ∀ (l : List Int) (k : Int), rowL R k l → R (k + l.length) = z → rowL R k (l ++ [z])
  | [], k, _, h => ⟨by rw [← h]; simp, trivial⟩
  | a :: l, k, h, hz => ⟨h.1, rowL_app l (k + 1) h.2 (by rw [← hz]; congr 1; simp; omega)⟩
theorem rowL_congr {R R' : Int → Int} : ∀ (l : List Int) (k : Int), (∀ i, k ≤ i → i < k + l.length → R' i = R i) → rowL R k l → rowL R' k l
  | [], _, _, _ => trivial
  | a :: l, k, h, r => ⟨(h k (by omega) (by simp; omega)).trans r.1, rowL_congr l (k + 1) (fun i a b => h i (by omega) (by simp; omega)) r.2⟩
theorem rowL_eq {R R' : Int → Int} : ∀ (l : List Int) (k : Int), rowL R k l → rowL R' k l → ∀ i, k ≤ i → i < k + l.length → R i = R' i
  | [], k, _, _, i, a, b => by simp at b; omega
  | c :: l, k, h, h', i, a, b => by
    by_cases e : i = k
    · rw [e, h.1, h'.1]
    · exact rowL_eq l (k + 1) h.2 h'.2 i (by omega) (by simp at b; omega)
/-- how the best is held: how many, the product, the row -/
def BSt (n q : Int) (R : Int → Int) (s : Int × List Int) : Prop := n = s.2.length ∧ q = s.1 ∧ rowL R 0 s.2
abbrev bsC (n q l p : Int) : Prop := n = 0 ∨ q < p ∨ (p = q ∧ l < n)
def cpR (R P : Int → Int) (n : Int) : Int → Int := fun j => if 0 ≤ j ∧ j < n then P j else R j
theorem BSt.yes {n q l p : Int} {R P : Int → Int} {s : Int × List Int} {c : List Int} (h : BSt n q R s) (hl : l = c.length) (hc : bsC n q l p) (hP : rowL P 0 c) : BSt l p (cpR R P l) (kbs s (p, c)) := by
  rw [kbs_y (by
    obtain ⟨a, b, _⟩ := h
    show s.2.length = 0 ∨ s.1 < p ∨ (p = s.1 ∧ c.length < s.2.length)
    unfold bsC at hc
    omega)]
  refine ⟨hl, rfl, rowL_congr c 0 (fun i a b => ?_) hP⟩
  unfold cpR
  rw [if_pos ⟨a, by omega⟩]
theorem BSt.no {n q l p : Int} {R : Int → Int} {s : Int × List Int} {c : List Int} (h : BSt n q R s) (hl : l = c.length) (hc : ¬ bsC n q l p) : BSt n q R (kbs s (p, c)) := by
  rw [kbs_n (by
    obtain ⟨a, b, _⟩ := h
    show ¬ (s.2.length = 0 ∨ s.1 < p ∨ (p = s.1 ∧ c.length < s.2.length))
    unfold bsC at hc
    omega)]
  exact h
