/-! entries laid beside gifts: the most, of such the first -/
noncomputable def inI (p : Prop) : Int := @ite Int p (Classical.propDecidable p) 1 0
theorem inI_t {p : Prop} (h : p) : inI p = 1 := if_pos h
theorem inI_f {p : Prop} (h : ¬ p) : inI p = 0 := if_neg h
theorem inI_in (p : Prop) : 0 ≤ inI p ∧ inI p ≤ 1 := by
  by_cases h : p
  · rw [inI_t h]; decide
  · rw [inI_f h]; decide
theorem inI_le {p q : Prop} (h : p → q) : inI p ≤ inI q := by
  by_cases a : p
  · rw [inI_t a, inI_t (h a)]; decide
  · rw [inI_f a]; exact (inI_in q).1
theorem sum_in {p : Int → Prop} : ∀ n : Nat, 0 ≤ sumI (fun i => inI (p i)) n ∧ sumI (fun i => inI (p i)) n ≤ n
  | 0 => ⟨Int.le_refl _, Int.le_refl _⟩
  | n + 1 => by
    have h := sum_in (p := p) n
    have k := inI_in (p n)
    show 0 ≤ sumI (fun i => inI (p i)) n + inI (p n) ∧ sumI (fun i => inI (p i)) n + inI (p n) ≤ ((n + 1 : Nat) : Int)
    omega
/-- at most one place -/
theorem sum_one {p : Int → Prop} (n : Nat) (h : ∀ i j : Int, 0 ≤ i → i < n → 0 ≤ j → j < n → p i → p j → i = j) : sumI (fun i => inI (p i)) n ≤ inI (∃ i : Int, 0 ≤ i ∧ i < n ∧ p i) := by
  by_cases e : ∃ i : Int, 0 ≤ i ∧ i < n ∧ p i
  · obtain ⟨i, i0, i1, hi⟩ := e
    rw [inI_t ⟨i, i0, i1, hi⟩, sumI_one (f := fun i => inI (p i)) i0 i1 (fun j j0 j1 hj => inI_f fun k => hj (h j i j0 j1 i0 i1 k hi)), inI_t hi]
    exact Int.le_refl _
  · rw [inI_f e, (sumI_congr (g := fun _ => 0) fun i a b => inI_f fun k => e ⟨i, a, b, k⟩), sumI_zero]
    exact Int.le_refl _
/-- as many, by an injection -/
theorem sum_inj {s t : Int → Prop} (f : Int → Int) (n m : Nat) (h1 : ∀ e : Int, 0 ≤ e → e < n → s e → 0 ≤ f e ∧ f e < m ∧ t (f e)) (h2 : ∀ e e' : Int, 0 ≤ e → e < n → 0 ≤ e' → e' < n → s e → s e' → f e = f e' → e = e') : sumI (fun e => inI (s e)) n ≤ sumI (fun r => inI (t r)) m := by
  have a : sumI (fun e => inI (s e)) n = sumI (fun e => sumI (fun r => inI (s e ∧ f e = r)) m) n := sumI_congr fun e e0 e1 => by
    by_cases c : s e
    · have k := h1 e e0 e1 c
      rw [inI_t c, sumI_one (f := fun r => inI (s e ∧ f e = r)) k.1 k.2.1 (fun r _ _ hr => inI_f fun q => hr q.2.symm), inI_t ⟨c, rfl⟩]
    · rw [inI_f c, (sumI_congr (g := fun _ => 0) fun r _ _ => inI_f fun q => c q.1), sumI_zero]
  rw [a, sumI_swap]
  refine sumI_le fun r r0 r1 => ?_
  refine Int.le_trans (sum_one n fun i j i0 i1 j0 j1 p q => h2 i j i0 i1 j0 j1 p.1 q.1 (p.2.trans q.2.symm)) (inI_le fun ⟨i, i0, i1, p, q⟩ => ?_)
  rw [← q]
  exact (h1 i i0 i1 p).2.2
section MAT
variable {E G : Int} {F : Int → Int → Prop}
/-- entries with gifts, each with one at most -/
def MT (E G : Int) (F : Int → Int → Prop) (M : Int → Int) : Prop := (∀ e, 0 ≤ e → e < E → M e = -1 ∨ (0 ≤ M e ∧ M e < G ∧ F e (M e))) ∧ ∀ e e', 0 ≤ e → e < E → 0 ≤ e' → e' < E → M e = M e' → M e ≠ -1 → e = e'
/-- who has a gift -/
def MN (E G : Int) (M N : Int → Int) : Prop := (∀ g, 0 ≤ g → g < G → N g = -1 ∨ (0 ≤ N g ∧ N g < E ∧ M (N g) = g)) ∧ ∀ e, 0 ≤ e → e < E → M e ≠ -1 → N (M e) = e
noncomputable def szM (E : Int) (M : Int → Int) : Int := sumI (fun e => inI (M e ≠ -1)) E.toNat
def MXM (E G : Int) (F : Int → Int → Prop) (M : Int → Int) : Prop := MT E G F M ∧ ∀ M', MT E G F M' → szM E M' ≤ szM E M
theorem szM_in {M : Int → Int} (h : 0 ≤ E) : 0 ≤ szM E M ∧ szM E M ≤ E := by
  have k := sum_in (p := fun e => M e ≠ -1) E.toNat
  unfold szM
  omega
theorem szM_congr {M M' : Int → Int} (h : ∀ e, 0 ≤ e → e < E → (M e = -1 ↔ M' e = -1)) : szM E M = szM E M' := sumI_congr fun e a b => by
  have k := h e a (by omega)
  by_cases c : M e = -1
  · rw [inI_f (fun q => q c), inI_f (fun q => q (k.mp c))]
  · rw [inI_t c, inI_t (fun q => c (k.mpr q))]
/-- one more is joined -/
theorem szM_one {M M' : Int → Int} {x : Int} (h0 : 0 ≤ x) (h1 : x < E) (hx : M x = -1) (hx' : M' x ≠ -1) (h : ∀ e, 0 ≤ e → e < E → e ≠ x → (M e = -1 ↔ M' e = -1)) : szM E M' = szM E M + 1 := by
  have k := sumI_upd (f := fun e => inI (M e ≠ -1)) (k := x) (v := 1) (n := E.toNat) h0 (by omega)
  have z : inI (M x ≠ -1) = 0 := inI_f fun q => q hx
  have e : szM E M' = sumI (fun i => if i = x then 1 else inI (M i ≠ -1)) E.toNat := sumI_congr fun i a b => by
    by_cases c : i = x
    · rw [if_pos c, c, inI_t hx']
    · have r := h i a (by omega) c
      rw [if_neg c]
      by_cases d : M i = -1
      · rw [inI_f (p := M i ≠ -1) (fun q => q d), inI_f (p := M' i ≠ -1) (fun q => q (r.mp d))]
      · rw [inI_t (p := M i ≠ -1) d, inI_t (p := M' i ≠ -1) (fun q => d (r.mpr q))]
  unfold szM at *
  rw [e, k]
  show _ - inI (M x ≠ -1) + 1 = _
  omega
/-- no way to one more: a set of entries that holds all gaps, and all whose gifts they fit -/
def CLR (E G : Int) (F : Int → Int → Prop) (Y : Int → Prop) (M : Int → Int) (R : Int → Prop) : Prop := ∀ r g, R r → 0 ≤ g → g < G → Y g → F r g → ∃ r', R r' ∧ 0 ≤ r' ∧ r' < E ∧ M r' = g
theorem konig {M N M' : Int → Int} {lo : Int} {Y : Int → Prop} {R : Int → Prop} (hM : MT E G F M) (hN : MN E G M N) (hM' : MT E G F M') (hlo : 0 ≤ lo) (hgap : ∀ e, lo ≤ e → e < E → M e = -1 → R e) (hR : ∀ r, R r → lo ≤ r ∧ r < E) (hc : CLR E G F Y M R) (hY : ∀ e, lo ≤ e → e < E → M' e ≠ -1 → Y (M' e)) :
    sumI (fun e => inI (lo ≤ e ∧ M' e ≠ -1)) E.toNat ≤ sumI (fun e => inI (lo ≤ e ∧ M e ≠ -1)) E.toNat := by
  have sp : ∀ A : Int → Int, sumI (fun e => inI (lo ≤ e ∧ A e ≠ -1)) E.toNat = sumI (fun e => inI ((lo ≤ e ∧ A e ≠ -1) ∧ R e)) E.toNat + sumI (fun e => inI ((lo ≤ e ∧ A e ≠ -1) ∧ ¬ R e)) E.toNat := fun A => by
    rw [← sumI_add]
    refine sumI_congr fun e _ _ => ?_
    by_cases c : R e
    · rw [inI_f (p := (lo ≤ e ∧ A e ≠ -1) ∧ ¬ R e) (fun q => q.2 c), Int.add_zero]
      exact Int.le_antisymm (inI_le fun q => ⟨q, c⟩) (inI_le fun q => q.1)
    · rw [inI_f (p := (lo ≤ e ∧ A e ≠ -1) ∧ R e) (fun q => c q.2), Int.zero_add]
      exact Int.le_antisymm (inI_le fun q => ⟨q, c⟩) (inI_le fun q => q.1)
  rw [sp M', sp M]
  have k1 : sumI (fun e => inI ((lo ≤ e ∧ M' e ≠ -1) ∧ R e)) E.toNat ≤ sumI (fun e => inI ((lo ≤ e ∧ M e ≠ -1) ∧ R e)) E.toNat := by
    have q : ∀ e, 0 ≤ e → e < E → (lo ≤ e ∧ M' e ≠ -1) ∧ R e → 0 ≤ N (M' e) ∧ N (M' e) < E ∧ R (N (M' e)) ∧ M (N (M' e)) = M' e := fun e e0 e1 h => by
      rcases hM'.1 e e0 e1 with a | a
      · exact absurd a h.1.2
      · obtain ⟨r', r1, r2, r3, r4⟩ := hc e (M' e) h.2 a.1 a.2.1 (hY e h.1.1 e1 h.1.2) a.2.2
        have n := hN.2 r' r2 r3 (by rw [r4]; exact h.1.2)
        rw [r4] at n
        rw [n]
        exact ⟨r2, r3, r1, r4⟩
    refine sum_inj (fun e => N (M' e)) _ _ (fun e e0 e1 h => ?_) (fun e e' e0 e1 f0 f1 h h' he => ?_)
    · have r := q e e0 (by omega) h
      have l := hR _ r.2.2.1
      exact ⟨r.1, by omega, ⟨l.1, by rw [r.2.2.2]; exact h.1.2⟩, r.2.2.1⟩
    · have r := q e e0 (by omega) h
      have r' := q e' f0 (by omega) h'
      have he2 : N (M' e) = N (M' e') := he
      refine hM'.2 e e' e0 (by omega) f0 (by omega) ?_ h.1.2
      rw [← r.2.2.2, he2, r'.2.2.2]
  have k2 : sumI (fun e => inI ((lo ≤ e ∧ M' e ≠ -1) ∧ ¬ R e)) E.toNat ≤ sumI (fun e => inI ((lo ≤ e ∧ M e ≠ -1) ∧ ¬ R e)) E.toNat := sumI_le fun e e0 e1 => inI_le fun q => ⟨⟨q.1.1, fun h => q.2 (hgap e q.1.1 (by omega) h)⟩, q.2⟩
  omega
/-- nothing ahead of the first: all there are -/
theorem konig0 {M N : Int → Int} {R : Int → Prop} (hM : MT E G F M) (hN : MN E G M N) (hgap : ∀ e, 0 ≤ e → e < E → M e = -1 → R e) (hR : ∀ r, R r → 0 ≤ r ∧ r < E) (hc : CLR E G F (fun _ => True) M R) : MXM E G F M := by
  refine ⟨hM, fun M' hM' => ?_⟩
  have k := konig hM hN hM' (Int.le_refl 0) hgap hR hc (fun _ _ _ _ => trivial)
  have c : ∀ A : Int → Int, szM E A = sumI (fun e => inI (0 ≤ e ∧ A e ≠ -1)) E.toNat := fun A => sumI_congr fun e e0 _ => Int.le_antisymm (inI_le fun q => ⟨e0, q⟩) (inI_le fun q => q.2)
  rw [c, c]
  exact k
/-- what is settled ahead of e is as good as it may be -/
def OPT (E G : Int) (F : Int → Int → Prop) (e : Int) (M : Int → Int) : Prop := ∀ M', MXM E G F M' → (∀ i, 0 ≤ i → i < e → M' i = M i) → M' e = -1 ∨ (M e ≠ -1 ∧ M e ≤ M' e)
def ISL (E G : Int) (F : Int → Int → Prop) (M : Int → Int) : Prop := MXM E G F M ∧ ∀ e, 0 ≤ e → e < E → OPT E G F e M
theorem ISL_one {M1 M2 : Int → Int} (h1 : ISL E G F M1) (h2 : ISL E G F M2) : ∀ n : Nat, ∀ e : Int, 0 ≤ e → e < n → e < E → M1 e = M2 e
  | 0, e, a, b, _ => by omega
  | n + 1, e, a, b, c => by
    by_cases d : e < n
    · exact ISL_one h1 h2 n e a d c
    · have ih := ISL_one h1 h2 n
      have k1 := h1.2 e a c M2 h2.1 (fun i i0 i1 => (ih i i0 (by omega) (by omega)).symm)
      have k2 := h2.2 e a c M1 h1.1 (fun i i0 i1 => ih i i0 (by omega) (by omega))
      omega
/-- the joining that the document asks for -/
noncomputable def LXM (E G : Int) (F : Int → Int → Prop) : Int → Int := @dite (Int → Int) (∃ M, ISL E G F M) (Classical.propDecidable _) (fun h => Classical.choose h) (fun _ _ => -1)
theorem LXM_eq {M : Int → Int} (h : ISL E G F M) : (∀ e, 0 ≤ e → e < E → M e = LXM E G F e) ∧ szM E M = szM E (LXM E G F) := by
  have c : ∃ M, ISL E G F M := ⟨M, h⟩
  have e : LXM E G F = Classical.choose c := dif_pos c
  have k := Classical.choose_spec c
  rw [e]
  have q : ∀ i, 0 ≤ i → i < E → M i = Classical.choose c i := fun i a b => ISL_one h k E.toNat i a (by omega) b
  exact ⟨q, szM_congr fun i a b => by rw [q i a b]⟩
/-- so far: the most, and what is ahead of e is settled -/
def PHS (E G : Int) (F : Int → Int → Prop) (e : Int) (M : Int → Int) : Prop := MXM E G F M ∧ ∀ i, 0 ≤ i → i < e → OPT E G F i M
theorem PHS.to {e : Int} {M M2 : Int → Int} (h : PHS E G F e M) (hx : MXM E G F M2) (ha : ∀ i, 0 ≤ i → i < e → M2 i = M i) (ho : OPT E G F e M2) : PHS E G F (e + 1) M2 := by
  refine ⟨hx, fun i i0 i1 => ?_⟩
  by_cases c : i = e
  · rw [c]; exact ho
  · intro M' h' a'
    rw [ha i i0 (by omega)]
    exact h.2 i i0 (by omega) M' h' (fun j j0 j1 => (a' j j0 j1).trans (ha j j0 (by omega)))
theorem PHS.isl {M : Int → Int} (h : PHS E G F E M) : ISL E G F M := h
/-- no gift ahead of g may be that of e -/
def NOG (E G : Int) (F : Int → Int → Prop) (e g : Int) (M : Int → Int) : Prop := ∀ M', MXM E G F M' → (∀ i, 0 ≤ i → i < e → M' i = M i) → ∀ z, 0 ≤ z → z < g → M' e ≠ z
theorem NOG.s {e g : Int} {M : Int → Int} (h : NOG E G F e g M) (k : ∀ M', MXM E G F M' → (∀ i, 0 ≤ i → i < e → M' i = M i) → M' e ≠ g) : NOG E G F e (g + 1) M := fun M' hx ha z z0 z1 => by
  by_cases c : z = g
  · rw [c]; exact k M' hx ha
  · exact h M' hx ha z z0 (by omega)
theorem NOG.miss {e g : Int} {M : Int → Int} (he : 0 ≤ e ∧ e < E) (hg : 0 ≤ g) (h : NOG E G F e g M) (k : ¬ F e g) : NOG E G F e (g + 1) M := h.s fun M' hx _ c => by
  rcases hx.1.1 e he.1 he.2 with q | q
  · omega
  · rw [c] at q; exact k q.2.2
theorem NOG.used {e g i : Int} {M : Int → Int} (he : 0 ≤ e ∧ e < E) (hg : 0 ≤ g) (h : NOG E G F e g M) (i0 : 0 ≤ i) (i1 : i < e) (k : M i = g) : NOG E G F e (g + 1) M := h.s fun M' hx ha c => by
  have q := hx.1.2 i e i0 (by omega) he.1 he.2 (by rw [ha i i0 i1, k, c]) (by rw [ha i i0 i1, k]; omega)
  omega
/-- e is settled on g -/
theorem OPT_at {e g : Int} {M M2 : Int → Int} (h : NOG E G F e g M) (hg : 0 ≤ g) (ha : ∀ i, 0 ≤ i → i < e → M2 i = M i) (h2 : M2 e = g) (he : 0 ≤ e ∧ e < E) : OPT E G F e M2 := fun M' hx a' => by
  rcases hx.1.1 e he.1 he.2 with q | q
  · exact Or.inl q
  · refine Or.inr ⟨by omega, ?_⟩
    by_cases c : M' e < M2 e
    · exact absurd rfl (h M' hx (fun i i0 i1 => (a' i i0 i1).trans (ha i i0 i1)) (M' e) q.1 (by omega))
    · omega
/-- no gift at all -/
theorem OPT_no {e : Int} {M : Int → Int} (h : NOG E G F e G M) (he : 0 ≤ e ∧ e < E) : OPT E G F e M := fun M' hx a' => by
  rcases hx.1.1 e he.1 he.2 with q | q
  · exact Or.inl q
  · exact absurd rfl (h M' hx a' (M' e) q.1 q.2.1)
/-- e takes g from whom it has -/
def tkM (M : Int → Int) (e g h : Int) : Int → Int := fun i => if i = e then g else if i = h then -1 else M i
theorem MT_take {M N : Int → Int} {e g : Int} (hM : MT E G F M) (hN : MN E G M N) (he : 0 ≤ e ∧ e < E) (hg : 0 ≤ g ∧ g < G) (hF : F e g) : MT E G F (tkM M e g (N g)) := by
  have no : ∀ i, 0 ≤ i → i < E → i ≠ N g → M i ≠ g := fun i i0 i1 hi c => hi (by rw [← c, hN.2 i i0 i1 (by omega)])
  unfold tkM
  refine ⟨fun i i0 i1 => ?_, fun i j i0 i1 j0 j1 hij hi => ?_⟩
  · dsimp only
    by_cases c : i = e
    · rw [if_pos c, c]; exact Or.inr ⟨hg.1, hg.2, hF⟩
    · rw [if_neg c]
      by_cases d : i = N g
      · rw [if_pos d]; exact Or.inl rfl
      · rw [if_neg d]; exact hM.1 i i0 i1
  · have hij2 : (if i = e then g else if i = N g then -1 else M i) = (if j = e then g else if j = N g then -1 else M j) := hij
    have hi2 : (if i = e then g else if i = N g then -1 else M i) ≠ -1 := hi
    by_cases c : i = e
    · by_cases d : j = e
      · omega
      · rw [if_pos c, if_neg d] at hij2
        by_cases d2 : j = N g
        · rw [if_pos d2] at hij2; omega
        · rw [if_neg d2] at hij2
          exact absurd hij2.symm (no j j0 j1 d2)
    · rw [if_neg c] at hij2 hi2
      by_cases c2 : i = N g
      · rw [if_pos c2] at hi2; exact absurd rfl hi2
      · rw [if_neg c2] at hij2 hi2
        by_cases d : j = e
        · rw [if_pos d] at hij2
          exact absurd hij2 (no i i0 i1 c2)
        · rw [if_neg d] at hij2
          by_cases d2 : j = N g
          · rw [if_pos d2] at hij2; exact absurd hij2 hi2
          · rw [if_neg d2] at hij2
            exact hM.2 i j i0 i1 j0 j1 hij2 hi2
theorem MN_take {M N N2 : Int → Int} {e g : Int} (hM : MT E G F M) (hN : MN E G M N) (he : 0 ≤ e ∧ e < E) (hg : 0 ≤ g ∧ g < G) (hgM : M e ≠ g) (h2 : ∀ z, 0 ≤ z → z < G → N2 z = if z = g then e else if z = M e then -1 else N z) : MN E G (tkM M e g (N g)) N2 := by
  unfold tkM
  refine ⟨fun z z0 z1 => ?_, fun i i0 i1 hi => ?_⟩
  · rw [h2 z z0 z1]
    by_cases c : z = g
    · rw [if_pos c]
      exact Or.inr ⟨he.1, he.2, by dsimp only; rw [if_pos rfl]; exact c.symm⟩
    · rw [if_neg c]
      by_cases d : z = M e
      · rw [if_pos d]; exact Or.inl rfl
      · rw [if_neg d]
        rcases hN.1 z z0 z1 with q | q
        · exact Or.inl q
        · refine Or.inr ⟨q.1, q.2.1, ?_⟩
          have n1 : N z ≠ e := fun k => d (by rw [← k]; exact q.2.2.symm)
          have n2 : N z ≠ N g := fun k => by
            rcases hN.1 g hg.1 hg.2 with r | r
            · omega
            · exact c (by rw [← q.2.2, k, r.2.2])
          dsimp only
          rw [if_neg n1, if_neg n2]
          exact q.2.2
  · have hi2 : (if i = e then g else if i = N g then -1 else M i) ≠ -1 := hi
    show N2 (if i = e then g else if i = N g then -1 else M i) = i
    by_cases c : i = e
    · rw [if_pos c, h2 g hg.1 hg.2, if_pos rfl]; exact c.symm
    · rw [if_neg c] at hi2 ⊢
      by_cases d : i = N g
      · rw [if_pos d] at hi2; exact absurd rfl hi2
      · rw [if_neg d] at hi2 ⊢
        have r := (hM.1 i i0 i1).resolve_left hi2
        have n := hN.2 i i0 i1 hi2
        rw [h2 _ r.1 r.2.1, if_neg (fun k => d (by rw [← k]; exact n.symm)), if_neg (fun k => c (hM.2 i e i0 i1 he.1 he.2 k hi2)), n]
/-- as many as ahead, if e had none or no one had g -/
theorem sz_take {M N : Int → Int} {e g : Int} (hM : MT E G F M) (hN : MN E G M N) (he : 0 ≤ e ∧ e < E) (hg : 0 ≤ g ∧ g < G) (hgM : M e ≠ g) :
    (N g = -1 → M e ≠ -1 → szM E (tkM M e g (N g)) = szM E M) ∧ (N g = -1 → M e = -1 → szM E (tkM M e g (N g)) = szM E M + 1) ∧ (N g ≠ -1 → M e = -1 → szM E (tkM M e g (N g)) = szM E M) ∧ (N g ≠ -1 → M e ≠ -1 → szM E M = szM E (tkM M e g (N g)) + 1) := by
  have te : tkM M e g (N g) e = g := if_pos rfl
  have tn : ∀ i, i ≠ e → i ≠ N g → tkM M e g (N g) i = M i := fun i a b => (if_neg a).trans (if_neg b)
  have th : N g ≠ -1 → 0 ≤ N g ∧ N g < E ∧ M (N g) = g ∧ N g ≠ e ∧ tkM M e g (N g) (N g) = -1 := fun h => by
    have q := (hN.1 g hg.1 hg.2).resolve_left h
    have n : N g ≠ e := fun k => hgM (by rw [← k]; exact q.2.2)
    exact ⟨q.1, q.2.1, q.2.2, n, (if_neg n).trans (if_pos rfl)⟩
  refine ⟨fun a b => szM_congr fun i i0 i1 => ?_, fun a b => szM_one he.1 he.2 b (by rw [te]; omega) fun i i0 i1 hi => ?_, fun a b => ?_, fun a b => ?_⟩
  · by_cases c : i = e
    · rw [c, te]; omega
    · rw [tn i c (by omega)]
  · rw [tn i hi (by omega)]
  · obtain ⟨h0, h1, h2, h3, h4⟩ := th a
    have mid : szM E (fun i => if i = N g then -1 else M i) + 1 = szM E M := (szM_one (M := fun i => if i = N g then -1 else M i) (M' := M) h0 h1 (if_pos rfl) (by rw [h2]; omega) fun i i0 i1 hi => by rw [if_neg hi]).symm
    have up : szM E (tkM M e g (N g)) = szM E (fun i => if i = N g then -1 else M i) + 1 := szM_one he.1 he.2 (by show (if e = N g then -1 else M e) = -1; rw [if_neg (fun k => h3 k.symm)]; exact b) (by rw [te]; omega) fun i i0 i1 hi => by
      show (if i = N g then -1 else M i) = -1 ↔ tkM M e g (N g) i = -1
      unfold tkM
      rw [if_neg hi]
    omega
  · obtain ⟨h0, h1, h2, h3, h4⟩ := th a
    refine szM_one (M := tkM M e g (N g)) h0 h1 h4 (by rw [h2]; omega) fun i i0 i1 hi => ?_
    by_cases c : i = e
    · rw [c, te]; omega
    · rw [tn i c hi]
/-- e can't have g: no way to one more behind it -/
theorem NOG.shut {e g : Int} {M N M1 N1 : Int → Int} {Y R : Int → Prop} (he : 0 ≤ e ∧ e < E) (h : NOG E G F e g M) (hx : MXM E G F M) (h1 : MT E G F M1) (n1 : MN E G M1 N1) (hs : szM E M = szM E M1 + 1) (ha : ∀ i, 0 ≤ i → i < e → M1 i = M i) (hge : M1 e = g)
    (hY : ∀ z, 0 ≤ z → z < G → (∀ i, 0 ≤ i → i ≤ e → M1 i ≠ z) → Y z) (hgap : ∀ i, e + 1 ≤ i → i < E → M1 i = -1 → R i) (hR : ∀ r, R r → e + 1 ≤ r ∧ r < E) (hc : CLR E G F Y M1 R) : NOG E G F e (g + 1) M := h.s fun M' hx' ha' c => by
  have ag : ∀ i, 0 ≤ i → i ≤ e → M' i = M1 i := fun i i0 i1 => by
    by_cases d : i = e
    · rw [d, c, hge]
    · rw [ha' i i0 (by omega), ha i i0 (by omega)]
  have k := konig (lo := e + 1) h1 n1 hx'.1 (by omega) hgap hR hc (fun i i0 i1 hi => by
    have r := (hx'.1.1 i (by omega) i1).resolve_left hi
    refine hY _ r.1 r.2.1 fun j j0 j1 q => ?_
    have w := hx'.1.2 j i j0 (by omega) (by omega) i1 (by rw [ag j j0 j1, q]) (by rw [ag j j0 j1, q]; exact hi)
    omega)
  have sp : ∀ A : Int → Int, szM E A = sumI (fun i => inI (i ≤ e ∧ A i ≠ -1)) E.toNat + sumI (fun i => inI (e + 1 ≤ i ∧ A i ≠ -1)) E.toNat := fun A => by
    rw [← sumI_add]
    refine sumI_congr fun i _ _ => ?_
    by_cases c : i ≤ e
    · rw [inI_f (p := e + 1 ≤ i ∧ A i ≠ -1) (fun q => by omega), Int.add_zero]
      exact Int.le_antisymm (inI_le fun q => ⟨c, q⟩) (inI_le fun q => q.2)
    · rw [inI_f (p := i ≤ e ∧ A i ≠ -1) (fun q => c q.1), Int.zero_add]
      exact Int.le_antisymm (inI_le fun q => ⟨by omega, q⟩) (inI_le fun q => q.2)
  have e1 : sumI (fun i => inI (i ≤ e ∧ M' i ≠ -1)) E.toNat = sumI (fun i => inI (i ≤ e ∧ M1 i ≠ -1)) E.toNat := sumI_congr fun i i0 _ => by
    by_cases d : i ≤ e
    · rw [ag i i0 d]
    · rw [inI_f (fun q => d q.1), inI_f (fun q => d q.1)]
  have s1 := sp M'
  have s2 := sp M1
  have w := hx'.2 M hx.1
  omega
end MAT
