/-! ways to one more: what a search has seen, how a way is gone back -/
section BFS0
variable {E G lo : Int} {F : Int → Int → Prop} {Y : Int → Prop}
/-- a search over the queue q of k entries; V: the gifts seen, each from an entry of the queue -/
def BFS (E G : Int) (F : Int → Int → Prop) (Y : Int → Prop) (lo : Int) (M N q cb : Int → Int) (k : Int) (V : Int → Prop) : Prop :=
  (∀ i, 0 ≤ i → i < k → lo ≤ q i ∧ q i < E) ∧ (∀ i j, 0 ≤ i → i < k → 0 ≤ j → j < k → q i = q j → i = j) ∧
  (∀ i, 0 ≤ i → i < k → M (q i) = -1 ∨ (V (M (q i)) ∧ ∃ j, 0 ≤ j ∧ j < i ∧ cb (M (q i)) = q j ∧ F (q j) (M (q i)) ∧ Y (M (q i)))) ∧
  ∀ g, 0 ≤ g → g < G → V g → N g ≠ -1 ∧ ∃ i, 0 ≤ i ∧ i < k ∧ q i = N g
theorem BFS_le {M N q cb : Int → Int} {k : Int} {V : Int → Prop} (h : BFS E G F Y lo M N q cb k V) (hlo : 0 ≤ lo) (h0 : 0 ≤ k) (hE : 0 ≤ E) : k ≤ E := by
  have c : ∀ n : Nat, sumI (fun _ => inI True) n = n := fun n => by
    rw [(sumI_congr (g := fun _ => 1) fun _ _ _ => inI_t trivial), sumI_const]
    omega
  have j := sum_inj (s := fun _ => True) (t := fun _ => True) q k.toNat E.toNat (fun e e0 e1 _ => by
    have r := h.1 e e0 (by omega)
    exact ⟨by omega, by omega, trivial⟩) (fun e e' a b c d _ _ r => h.2.1 e e' a (by omega) c (by omega) r)
  rw [c, c] at j
  omega
/-- a gift more is seen, who has it waits -/
theorem BFS_push {M N q cb : Int → Int} {k g c : Int} {V : Int → Prop} (h : BFS E G F Y lo M N q cb k V) (hN : MN E G M N) (hk : 0 ≤ k) (hg : 0 ≤ g ∧ g < G) (hY : Y g) (hV : ¬ V g) (hn : N g ≠ -1) (hlo : lo ≤ N g) (hc : 0 ≤ c ∧ c < k) (hF : F (q c) g) :
    BFS E G F Y lo M N (updI q k (N g)) (updI cb g (q c)) (k + 1) (fun z => V z ∨ z = g) := by
  have r := (hN.1 g hg.1 hg.2).resolve_left hn
  have qo : ∀ i, i ≠ k → updI q k (N g) i = q i := fun i hi => updI_ne hi
  have nq : ∀ i, 0 ≤ i → i < k → q i ≠ N g := fun i i0 i1 e => by
    have m : M (q i) = g := by rw [e]; exact r.2.2
    rcases h.2.2.1 i i0 i1 with a | a
    · omega
    · rw [m] at a; exact hV a.1
  refine ⟨fun i i0 i1 => ?_, fun i j i0 i1 j0 j1 e => ?_, fun i i0 i1 => ?_, fun z z0 z1 hz => ?_⟩
  · by_cases d : i = k
    · rw [d, updI_eq]; exact ⟨hlo, r.2.1⟩
    · rw [qo i d]; exact h.1 i i0 (by omega)
  · by_cases d : i = k
    · by_cases d2 : j = k
      · omega
      · rw [d, updI_eq, qo j d2] at e
        exact absurd e.symm (nq j j0 (by omega))
    · by_cases d2 : j = k
      · rw [d2, updI_eq, qo i d] at e
        exact absurd e (nq i i0 (by omega))
      · rw [qo i d, qo j d2] at e
        exact h.2.1 i j i0 (by omega) j0 (by omega) e
  · by_cases d : i = k
    · rw [d, updI_eq, r.2.2]
      exact Or.inr ⟨Or.inr rfl, c, hc.1, by omega, by rw [updI_eq, qo c (by omega)], by rw [qo c (by omega)]; exact hF, hY⟩
    · rw [qo i d]
      rcases h.2.2.1 i i0 (by omega) with a | ⟨v, j, j0, j1, a, b, y⟩
      · exact Or.inl a
      · have ng : M (q i) ≠ g := fun e => hV (e ▸ v)
        exact Or.inr ⟨Or.inl v, j, j0, j1, by rw [updI_ne ng, qo j (by omega)]; exact a, by rw [qo j (by omega)]; exact b, y⟩
  · rcases hz with hz | hz
    · obtain ⟨a, i, i0, i1, b⟩ := h.2.2.2 z z0 z1 hz
      exact ⟨a, i, i0, by omega, by rw [qo i (by omega)]; exact b⟩
    · rw [hz]
      exact ⟨hn, k, hk, by omega, updI_eq⟩
/-- all have been looked at: no way -/
theorem BFS_shut {M N q cb : Int → Int} {k : Int} {V : Int → Prop} (h : BFS E G F Y lo M N q cb k V) (hN : MN E G M N) (hlo : 0 ≤ lo) (hall : ∀ i g, 0 ≤ i → i < k → 0 ≤ g → g < G → Y g → F (q i) g → V g) : (∀ r, (∃ i, 0 ≤ i ∧ i < k ∧ q i = r) → lo ≤ r ∧ r < E) ∧ CLR E G F Y M (fun r => ∃ i, 0 ≤ i ∧ i < k ∧ q i = r) := by
  refine ⟨fun r ⟨i, i0, i1, e⟩ => by rw [← e]; exact h.1 i i0 i1, fun r g ⟨i, i0, i1, e⟩ g0 g1 hY hF => ?_⟩
  obtain ⟨a, j, j0, j1, b⟩ := h.2.2.2 g g0 g1 (hall i g i0 i1 g0 g1 hY (by rw [e]; exact hF))
  have r2 := (hN.1 g g0 g1).resolve_left a
  exact ⟨N g, ⟨j, j0, j1, b⟩, r2.1, r2.2.1, r2.2.2⟩
/-- on the way back: g is to be given to the entry from which it was seen -/
def MID (E G : Int) (F : Int → Int → Prop) (Y : Int → Prop) (lo : Int) (M0 q cb : Int → Int) (k g i : Int) (M N : Int → Int) : Prop :=
  (0 ≤ g ∧ g < G) ∧ (0 ≤ i ∧ i < k ∧ cb g = q i ∧ F (q i) g ∧ Y g) ∧ MT E G F M ∧ (∀ e, 0 ≤ e → e < E → M e ≠ g) ∧
  ((∀ z, 0 ≤ z → z < G → z ≠ g → N z = -1 ∨ (0 ≤ N z ∧ N z < E ∧ M (N z) = z)) ∧ ∀ e, 0 ≤ e → e < E → M e ≠ -1 → N (M e) = e) ∧
  (∀ j, 0 ≤ j → j ≤ i → M (q j) = M0 (q j)) ∧ (∀ e, 0 ≤ e → e < E → (M e = -1 ↔ M0 e = -1)) ∧ (∀ e, e < lo → M e = M0 e) ∧
  ∀ R, CLR E G F Y M0 R → (∀ r, R r → 0 ≤ r → r < E → M r = M0 r) ∧ ∀ r, R r → 0 ≤ r → r < E → M0 r ≠ g
/-- one more is joined, x -/
def AUG (E G : Int) (F : Int → Int → Prop) (Y : Int → Prop) (lo : Int) (M0 : Int → Int) (x : Int) (M N : Int → Int) : Prop :=
  MT E G F M ∧ MN E G M N ∧ (∀ e, e < lo → M e = M0 e) ∧ (lo ≤ x ∧ x < E ∧ M0 x = -1 ∧ M x ≠ -1 ∧ ∀ e, 0 ≤ e → e < E → e ≠ x → (M e = -1 ↔ M0 e = -1)) ∧ ∀ R, CLR E G F Y M0 R → ∀ r, R r → 0 ≤ r → r < E → M r = M0 r
theorem AUG.sz {M0 M N : Int → Int} {x : Int} (h : AUG E G F Y lo M0 x M N) (hlo : 0 ≤ lo) : szM E M = szM E M0 + 1 := szM_one (by have := h.2.2.2.1.1; omega) h.2.2.2.1.2.1 h.2.2.2.1.2.2.1 h.2.2.2.1.2.2.2.1 fun e e0 e1 he => (h.2.2.2.1.2.2.2.2 e e0 e1 he).symm
theorem MID_start {M N q cb : Int → Int} {k g c : Int} (hM : MT E G F M) (hN : MN E G M N) (hg : 0 ≤ g ∧ g < G) (hn : N g = -1) (hc : 0 ≤ c ∧ c < k) (hb : cb g = q c) (hF : F (q c) g) (hY : Y g) : MID E G F Y lo M q cb k g c M N := by
  have no : ∀ e, 0 ≤ e → e < E → M e ≠ g := fun e e0 e1 a => by
    have n := hN.2 e e0 e1 (by omega)
    rw [a, hn] at n
    omega
  exact ⟨hg, ⟨hc.1, hc.2, hb, hF, hY⟩, hM, no, ⟨fun z z0 z1 _ => hN.1 z z0 z1, hN.2⟩, fun _ _ _ => rfl, fun _ _ _ => Iff.rfl, fun _ _ => rfl, fun R _ => ⟨fun _ _ _ _ => rfl, fun r _ r0 r1 => no r r0 r1⟩⟩
/-- the entry from which g was seen takes it -/
theorem MID_step {M0 N0 q cb M N : Int → Int} {k g i : Int} {V : Int → Prop} (hM0 : MT E G F M0) (hB : BFS E G F Y lo M0 N0 q cb k V) (hlo : 0 ≤ lo) (h : MID E G F Y lo M0 q cb k g i M N) :
    (lo ≤ q i ∧ q i < E) ∧ M (q i) = M0 (q i) ∧ (M (q i) = -1 → AUG E G F Y lo M0 (q i) (updI M (q i) g) (updI N g (q i))) ∧
    (M (q i) ≠ -1 → (0 ≤ M (q i) ∧ M (q i) < G) ∧ ∃ j, 0 ≤ j ∧ j < i ∧ MID E G F Y lo M0 q cb k (M (q i)) j (updI M (q i) g) (updI N g (q i))) := by
  obtain ⟨hg, ⟨i0, i1, hb, hF, hY⟩, hM, hno, hN, hpre, hsame, hlow, hcl⟩ := h
  have qi := hB.1 i i0 i1
  have q0 : 0 ≤ q i := by omega
  have mq := hpre i i0 (Int.le_refl _)
  have Mo : ∀ e, e ≠ q i → updI M (q i) g e = M e := fun e he => updI_ne he
  have No : ∀ z, z ≠ g → updI N g (q i) z = N z := fun z hz => updI_ne hz
  have hM' : MT E G F (updI M (q i) g) := by
    refine ⟨fun e e0 e1 => ?_, fun e e' e0 e1 f0 f1 he hn => ?_⟩
    · by_cases c : e = q i
      · rw [c, updI_eq]; exact Or.inr ⟨hg.1, hg.2, hF⟩
      · rw [Mo e c]; exact hM.1 e e0 e1
    · by_cases c : e = q i
      · by_cases d : e' = q i
        · omega
        · rw [c, updI_eq, Mo e' d] at he
          exact absurd he.symm (hno e' f0 f1)
      · by_cases d : e' = q i
        · rw [d, updI_eq, Mo e c] at he
          exact absurd he (hno e e0 e1)
        · rw [Mo e c, Mo e' d] at he
          rw [Mo e c] at hn
          exact hM.2 e e' e0 e1 f0 f1 he hn
  have nR : ∀ R, CLR E G F Y M0 R → ¬ R (q i) := fun R hR r => by
    obtain ⟨r', r1, r2, r3, r4⟩ := hR (q i) g r hg.1 hg.2 hY hF
    exact (hcl R hR).2 r' r1 r2 r3 r4
  have clM : ∀ R, CLR E G F Y M0 R → ∀ r, R r → 0 ≤ r → r < E → updI M (q i) g r = M0 r := fun R hR r hr r0 r1 => by
    have n : r ≠ q i := fun e => nR R hR (e ▸ hr)
    rw [Mo r n]
    exact (hcl R hR).1 r hr r0 r1
  have low' : ∀ e, e < lo → updI M (q i) g e = M0 e := fun e he => by
    rw [Mo e (by omega)]; exact hlow e he
  have N2' : ∀ e, 0 ≤ e → e < E → updI M (q i) g e ≠ -1 → updI N g (q i) (updI M (q i) g e) = e := fun e e0 e1 he => by
    by_cases c : e = q i
    · rw [c, updI_eq, updI_eq]
    · rw [Mo e c] at he ⊢
      rw [No _ (hno e e0 e1)]
      exact hN.2 e e0 e1 he
  refine ⟨qi, mq, fun hm => ?_, fun hm => ?_⟩
  · refine ⟨hM', ⟨fun z z0 z1 => ?_, N2'⟩, low', ⟨qi.1, qi.2, by rw [← mq]; exact hm, by rw [updI_eq]; omega, fun e e0 e1 he => by rw [Mo e he]; exact hsame e e0 e1⟩, clM⟩
    by_cases c : z = g
    · rw [c, updI_eq]; exact Or.inr ⟨q0, qi.2, updI_eq⟩
    · rw [No z c]
      rcases hN.1 z z0 z1 c with a | a
      · exact Or.inl a
      · refine Or.inr ⟨a.1, a.2.1, ?_⟩
        rw [Mo _ (fun e => by rw [e] at a; omega)]
        exact a.2.2
  · have r := (hM.1 (q i) q0 qi.2).resolve_left hm
    refine ⟨⟨r.1, r.2.1⟩, ?_⟩
    rcases hB.2.2.1 i i0 i1 with a | ⟨v, j, j0, j1, a, b, y⟩
    · rw [mq] at hm; exact absurd a hm
    · refine ⟨j, j0, j1, ⟨r.1, r.2.1⟩, ⟨j0, by omega, by rw [mq]; exact a, by rw [mq]; exact b, by rw [mq]; exact y⟩, hM', fun e e0 e1 => ?_, ⟨fun z z0 z1 hz => ?_, N2'⟩, fun p p0 p1 => ?_, fun e e0 e1 => ?_, low', fun R hR => ⟨clM R hR, fun s hs s0 s1 e => ?_⟩⟩
      · by_cases c : e = q i
        · rw [c, updI_eq]; exact fun e => hno (q i) q0 qi.2 e.symm
        · rw [Mo e c]
          exact fun e9 => c (hM.2 e (q i) e0 e1 q0 qi.2 e9 (by rw [e9]; exact hm))
      · by_cases c : z = g
        · rw [c, updI_eq]; exact Or.inr ⟨q0, qi.2, updI_eq⟩
        · rw [No z c]
          rcases hN.1 z z0 z1 c with a | a
          · exact Or.inl a
          · refine Or.inr ⟨a.1, a.2.1, ?_⟩
            rw [Mo _ (fun e => hz (by rw [← a.2.2, e]))]
            exact a.2.2
      · have n : q p ≠ q i := fun e => by
          have := hB.2.1 p i p0 (by omega) i0 i1 e
          omega
        rw [Mo _ n]
        exact hpre p p0 (by omega)
      · by_cases c : e = q i
        · rw [c, updI_eq, ← mq]
          omega
        · rw [Mo e c]; exact hsame e e0 e1
      · rw [mq] at e
        have w := hM0.2 s (q i) s0 s1 q0 qi.2 e (by rw [e, ← mq]; exact hm)
        exact nR R hR (w ▸ hs)
end BFS0
