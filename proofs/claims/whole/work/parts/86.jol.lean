/-! joined: the reference settles entry by entry (gen/mod_jol.py) -/
section JOL
variable {E G : Int} {F : Int → Int → Prop}
theorem CLR_or {Y : Int → Prop} {M : Int → Int} {R R' : Int → Prop} (h : CLR E G F Y M R) (h' : CLR E G F Y M R') : CLR E G F Y M (fun r => R r ∨ R' r) := fun r g hr g0 g1 hy hf => by
  rcases hr with hr | hr
  · obtain ⟨a, b, c⟩ := h r g hr g0 g1 hy hf
    exact ⟨a, Or.inl b, c⟩
  · obtain ⟨a, b, c⟩ := h' r g hr g0 g1 hy hf
    exact ⟨a, Or.inr b, c⟩
theorem MT_cg {M M' : Int → Int} (h : MT E G F M) (e : ∀ i, 0 ≤ i → i < E → M' i = M i) : MT E G F M' :=
  ⟨fun i a b => by rw [e i a b]; exact h.1 i a b, fun i j a b c d k n => by rw [e i a b, e j c d] at k; rw [e i a b] at n; exact h.2 i j a b c d k n⟩
theorem MN_cg {M M' N N' : Int → Int} (h : MN E G M N) (e : ∀ i, 0 ≤ i → i < E → M' i = M i) (f : ∀ z, 0 ≤ z → z < G → N' z = N z) (hM : MT E G F M) : MN E G M' N' :=
  ⟨fun z a b => by
    rw [f z a b]
    rcases h.1 z a b with k | k
    · exact Or.inl k
    · exact Or.inr ⟨k.1, k.2.1, by rw [e _ k.1 k.2.1]; exact k.2.2⟩, fun i a b n => by
    rw [e i a b] at n ⊢
    have r := (hM.1 i a b).resolve_left n
    rw [f _ r.1 r.2.1]
    exact h.2 i a b n⟩
theorem tk_low {M N : Int → Int} {e g : Int} (hN : MN E G M N) (hg : 0 ≤ g ∧ g < G) (hu : ∀ i, 0 ≤ i → i < e → M i ≠ g) : ∀ i, 0 ≤ i → i < e → tkM M e g (N g) i = M i := fun i i0 i1 => by
  unfold tkM
  rw [if_neg (by omega)]
  by_cases c : i = N g
  · exfalso
    rcases hN.1 g hg.1 hg.2 with k | k
    · omega
    · rw [← c] at k; exact hu i i0 i1 k.2.2
  · rw [if_neg c]
/-- e has g at once -/
theorem les_done {M N M2 N2 : Int → Int} {e g : Int} (hP : PHS E G F e M) (hno : NOG E G F e g M) (hN : MN E G M N) (he : 0 ≤ e ∧ e < E) (hg : 0 ≤ g ∧ g < G) (hF : F e g) (hgM : M e ≠ g) (hu : ∀ i, 0 ≤ i → i < e → M i ≠ g) (hc : N g = -1 ∨ M e = -1)
    (h2 : ∀ i, 0 ≤ i → i < E → M2 i = tkM M e g (N g) i) (n2 : ∀ z, 0 ≤ z → z < G → N2 z = if z = g then e else if z = M e then -1 else N z) : PHS E G F (e + 1) M2 ∧ MN E G M2 N2 ∧ ∀ i, 0 ≤ i → i < e → M2 i = M i := by
  have hM := hP.1.1
  have t1 := MT_take hM hN he hg hF
  have t2 := MN_take hM hN he hg hgM n2
  have sz := sz_take hM hN he hg hgM
  have s2 : szM E M2 = szM E (tkM M e g (N g)) := szM_congr fun i a b => by rw [h2 i a b]
  have m2 := MT_cg t1 h2
  have s : szM E M2 = szM E M := by
    have w := hP.1.2 _ t1
    by_cases a : N g = -1
    · by_cases b : M e = -1
      · have := sz.2.1 a b; omega
      · have := sz.1 a b; omega
    · have := sz.2.2.1 a (hc.resolve_left a); omega
  have low : ∀ i, 0 ≤ i → i < e → M2 i = M i := fun i a b => (h2 i a (by omega)).trans (tk_low hN hg hu i a b)
  refine ⟨hP.to ⟨m2, fun M' h' => by rw [s]; exact hP.1.2 M' h'⟩ low (OPT_at hno hg.1 low ((h2 e he.1 he.2).trans (if_pos rfl)) he), MN_cg t2 h2 (fun _ _ _ => rfl) t1, low⟩
/-- e has g, and one behind it another -/
theorem les_aug {M N M2 N2 : Int → Int} {Y : Int → Prop} {e g x : Int} (hP : PHS E G F e M) (hno : NOG E G F e g M) (hN : MN E G M N) (he : 0 ≤ e ∧ e < E) (hg : 0 ≤ g ∧ g < G) (hgM : M e ≠ g) (hu : ∀ i, 0 ≤ i → i < e → M i ≠ g) (hc : N g ≠ -1) (hc2 : M e ≠ -1)
    (h : AUG E G F Y (e + 1) (tkM M e g (N g)) x M2 N2) : PHS E G F (e + 1) M2 ∧ MN E G M2 N2 ∧ ∀ i, 0 ≤ i → i < e → M2 i = M i := by
  have sz := (sz_take hP.1.1 hN he hg hgM).2.2.2 hc hc2
  have s2 := h.sz (by omega)
  have low : ∀ i, 0 ≤ i → i < e → M2 i = M i := fun i a b => (h.2.2.1 i (by omega)).trans (tk_low hN hg hu i a b)
  exact ⟨hP.to ⟨h.1, fun M' h' => by have := hP.1.2 M' h'; omega⟩ low (OPT_at hno hg.1 low ((h.2.2.1 e (by omega)).trans (if_pos rfl)) he), h.2.1, low⟩
/-- what is free behind e once it has g -/
def FRE (e : Int) (M1 : Int → Int) (z : Int) : Prop := ∀ i, 0 ≤ i → i ≤ e → M1 i ≠ z
theorem FRE_N {M1 N1 : Int → Int} {e : Int} (hN : MN E G M1 N1) : ∀ z, 0 ≤ z → z < G → FRE e M1 z → N1 z = -1 ∨ e + 1 ≤ N1 z := fun z a b h => by
  rcases hN.1 z a b with k | k
  · exact Or.inl k
  · refine Or.inr ?_
    by_cases c : N1 z ≤ e
    · exact absurd k.2.2 (h _ k.1 c)
    · omega
theorem les_shut {M N : Int → Int} {R : Int → Prop} {e g : Int} (hP : PHS E G F e M) (hno : NOG E G F e g M) (hN : MN E G M N) (he : 0 ≤ e ∧ e < E) (hg : 0 ≤ g ∧ g < G) (hF : F e g) (hgM : M e ≠ g) (hu : ∀ i, 0 ≤ i → i < e → M i ≠ g) (hc : N g ≠ -1) (hc2 : M e ≠ -1) {N1 : Int → Int} (n1 : ∀ z, 0 ≤ z → z < G → N1 z = if z = g then e else if z = M e then -1 else N z)
    (hgap : ∀ i, e + 1 ≤ i → i < E → tkM M e g (N g) i = -1 → R i) (hR : ∀ r, R r → e + 1 ≤ r ∧ r < E) (hcl : CLR E G F (FRE e (tkM M e g (N g))) (tkM M e g (N g)) R) : NOG E G F e (g + 1) M :=
  NOG.shut (N := N) he hno hP.1 (MT_take hP.1.1 hN he hg hF) (MN_take hP.1.1 hN he hg hgM n1) ((sz_take hP.1.1 hN he hg hgM).2.2.2 hc hc2) (tk_low hN hg hu) (if_pos rfl) (fun z a b h => h) hgap hR hcl
theorem tk_row {M : Int → Int} {e g h : Int} (hn : h ≠ e) : updI (updI M e g) h (-1) = tkM M e g h := funext fun i => by
  unfold tkM updI
  by_cases a : i = h
  · rw [if_pos a, if_neg (by omega), if_pos a]
  · rw [if_neg a]
    by_cases b : i = e
    · rw [if_pos b, if_pos b]
    · rw [if_neg b, if_neg b, if_neg a]
end JOL
theorem rows4 {σ : gH} : σ = gUr (gUr (gUr (gUr σ 201 (σ 201)) 202 (σ 202)) 199 (σ 199)) 200 (σ 200) := by
  rw [show gUr σ 201 (σ 201) = σ from gUr_id, show gUr σ 202 (σ 202) = σ from gUr_id, show gUr σ 199 (σ 199) = σ from gUr_id, show gUr σ 200 (σ 200) = σ from gUr_id]
theorem rows5 {σ : gH} : σ = gUr (gUr (gUr (gUr (gUr σ 201 (σ 201)) 202 (σ 202)) 199 (σ 199)) 200 (σ 200)) 198 (σ 198) := by
  rw [← rows4, show gUr σ 198 (σ 198) = σ from gUr_id]
theorem q_finds2 {σ : gH} {E G lo : Int} {F : Int → Int → Prop} {Y : Int → Prop} (hE : 0 ≤ E ∧ E ≤ 100) (hG : 0 ≤ G ∧ G ≤ 120) (hlo : 0 ≤ lo) (e42 : σ 133 42 = G) (hF : ∀ e g, 0 ≤ e → e < E → 0 ≤ g → g < G → (σ 197 (120 * e + g) ≠ 0 ↔ F e g)) (hY : ∀ g, 0 ≤ g → g < G → (σ 198 g = 0 ↔ Y g)) (hM : MT E G F (σ 199)) (hN : MN E G (σ 199) (σ 200)) (x : Int) (hx : lo ≤ x ∧ x < E) (hm : σ 199 x = -1) (hYN : ∀ g, 0 ≤ g → g < G → Y g → σ 200 g = -1 ∨ lo ≤ σ 200 g) : Mt mX12_finds 1 [gR 133, gI x] σ (fun v σ' => ∃ (b : Int) (M2 N2 C Q : Int → Int), v = gI b ∧ σ' = gUr (gUr (gUr (gUr σ 201 C) 202 Q) 199 M2) 200 N2 ∧ ((b = 1 ∧ AUG E G F Y lo (σ 199) x M2 N2) ∨ (b = 0 ∧ M2 = σ 199 ∧ N2 = σ 200 ∧ ∃ R : Int → Prop, R x ∧ (∀ r, R r → lo ≤ r ∧ r < E) ∧ CLR E G F Y (σ 199) R))) :=
  (q_finds hE hG hlo e42 hF hY hM hN x hx hm hYN).mono fun v σ' ⟨M2, N2, C, Q, e, h⟩ => by
    rcases h with h | h
    · exact ⟨1, M2, N2, C, Q, h.1, e, Or.inl ⟨rfl, h.2⟩⟩
    · exact ⟨0, M2, N2, C, Q, h.1, e, Or.inr ⟨rfl, h.2⟩⟩
set_option maxHeartbeats 4000000 in
theorem q_findsBehind {σ : gH} {E G lo : Int} {F : Int → Int → Prop} {Y : Int → Prop} (hE : 0 ≤ E ∧ E ≤ 100) (hG : 0 ≤ G ∧ G ≤ 120) (hlo : 0 ≤ lo) (e42 : σ 133 42 = G) (hF : ∀ e g, 0 ≤ e → e < E → 0 ≤ g → g < G → (σ 197 (120 * e + g) ≠ 0 ↔ F e g)) (hY : ∀ g, 0 ≤ g → g < G → (σ 198 g = 0 ↔ Y g)) (hM : MT E G F (σ 199)) (hN : MN E G (σ 199) (σ 200)) (e : Int) (he : 0 ≤ e ∧ e < E) (hle : lo = e + 1) (e99 : σ 133 99 = E) (hYN : ∀ g, 0 ≤ g → g < G → Y g → σ 200 g = -1 ∨ lo ≤ σ 200 g) : Mt mX12_findsBehind 2 [gR 133, gI e] σ (fun v σ' => ∃ (b : Int) (M2 N2 C Q : Int → Int), v = gI b ∧ σ' = gUr (gUr (gUr (gUr σ 201 C) 202 Q) 199 M2) 200 N2 ∧ ((b = 1 ∧ ∃ x, AUG E G F Y (e + 1) (σ 199) x M2 N2) ∨ (b = 0 ∧ M2 = σ 199 ∧ N2 = σ 200 ∧ ∃ R : Int → Prop, (∀ i, e + 1 ≤ i → i < E → σ 199 i = -1 → R i) ∧ (∀ r, R r → e + 1 ≤ r ∧ r < E) ∧ CLR E G F Y (σ 199) R))) := by
  refine Mt.walk (ls := [gR 133, gI e, gX 1]) pn_X12 rfl (fun _ _ h => by obtain ⟨_, _, _, _, _, h, _⟩ := h; cases h) (Nat.le_of_ble_eq_true rfl) rfl ?_
  refine w_iload_n (pc' := 1) (i := 1) (by rfl) (by rfl) dX12_findsBehind_0 rfl ?_
  refine w_iconst (pc' := 2) (by decide) dX12_findsBehind_1 rfl ?_
  refine v_iadd (pc' := 3) (by omega) dX12_findsBehind_2 rfl ?_
  refine w_istore_n (pc' := 4) (i := 2) (ls' := [gR 133, gI e, gI (e + 1)]) (by rfl) (by decide) (by rfl) dX12_findsBehind_3 rfl ?_
  have hl_4 : ∀ (mm : Nat) (x : Int) (C Q : Int → Int) (R : Int → Prop), (E - x).toNat = mm → (e + 1 ≤ x) → (x ≤ E) → (∀ i, e + 1 ≤ i → i < x → σ 199 i = -1 → R i) → (∀ r, R r → e + 1 ≤ r ∧ r < E) → (CLR E G F Y (σ 199) R) → Wp mX12_findsBehind 2 (fun v σ' => ∃ (b : Int) (M2 N2 C Q : Int → Int), v = gI b ∧ σ' = gUr (gUr (gUr (gUr σ 201 C) 202 Q) 199 M2) 200 N2 ∧ ((b = 1 ∧ ∃ x, AUG E G F Y (e + 1) (σ 199) x M2 N2) ∨ (b = 0 ∧ M2 = σ 199 ∧ N2 = σ 200 ∧ ∃ R : Int → Prop, (∀ i, e + 1 ≤ i → i < E → σ 199 i = -1 → R i) ∧ (∀ r, R r → e + 1 ≤ r ∧ r < E) ∧ CLR E G F Y (σ 199) R))) (gUr (gUr (gUr (gUr σ 201 C) 202 Q) 199 (σ 199)) 200 (σ 200)) 4 [gR 133, gI e, gI x] [] := by
    intro m_4
    induction m_4 using Nat.strongRecOn with
    | _ m_4 ih_4 =>
      intro x C Q R hmeas_4 x0 x1 hg hR hcl
      refine w_iload_n (pc' := 5) (i := 2) (by rfl) (by rfl) dX12_findsBehind_4 rfl ?_
      refine w_aload_n (pc' := 6) (i := 0) (by rfl) (by rfl) dX12_findsBehind_5 rfl ?_
      refine v_getI (pc' := 9) (ji := 99) rfl fg_X12_562 kd_133 dX12_findsBehind_6 rfl ?_
      show Wp _ _ _ _ _ _ [gI (σ 133 99), gI x]
      refine w_icmp_ge (pc' := 12) (t := 38) dX12_findsBehind_9 rfl rfl (fun c_9 => ?_) (fun c_9 => ?_)
      · skip
        refine w_iconst (pc' := 39) (by decide) dX12_findsBehind_38 rfl ?_
        refine w_zreturn rfl (.inl rfl) dX12_findsBehind_39 ?_
        refine ⟨0, σ 199, σ 200, C, Q, rfl, rfl, Or.inr ⟨rfl, rfl, rfl, R, fun i a b c => hg i a (by omega) c, hR, hcl⟩⟩
      · skip
        refine w_aload_n (pc' := 13) (i := 0) (by rfl) (by rfl) dX12_findsBehind_12 rfl ?_
        refine w_getS (pc' := 16) (q := 199) fg_X12_217 kd_133 sf_X12_102 gr_133_102 dX12_findsBehind_13 rfl ?_
        refine w_iload_n (pc' := 17) (i := 2) (by rfl) (by rfl) dX12_findsBehind_16 rfl ?_
        refine w_iald (pc' := 18) kd_199 (by omega) (by omega) dX12_findsBehind_17 rfl ?_
        show Wp _ _ _ _ _ _ [gI ((σ 199) x)]
        refine w_iconst (pc' := 19) (by decide) dX12_findsBehind_18 rfl ?_
        refine w_icmp_ne (pc' := 22) (t := 32) dX12_findsBehind_19 rfl rfl (fun c_19 => ?_) (fun c_19 => ?_)
        · skip
          refine v_iinc (pc' := 35) (x := x) (ls' := [gR 133, gI e, gI (x + 1)]) (by omega) (by decide) (by rfl) (by rfl) dX12_findsBehind_32 rfl ?_
          refine w_goto (pc' := 4) dX12_findsBehind_35 rfl ?_
          
          exact ih_4 _ (by omega) (x + 1) C Q R rfl (by omega) (by omega) (by intro i a b c; by_cases k : i = x; (first | (exfalso; rw [k] at c; omega) | (rw [k]; exact Or.inr r1)); (first | exact hg i a (by omega) c | exact Or.inl (hg i a (by omega) c))) (by first | exact hR | (intro r h; rcases h with h | h; exact hR r h; have := r2 r h; omega)) (by first | exact hcl | exact CLR_or hcl r3)
        · skip
          refine w_aload_n (pc' := 23) (i := 0) (by rfl) (by rfl) dX12_findsBehind_22 rfl ?_
          refine w_iload_n (pc' := 24) (i := 2) (by rfl) (by rfl) dX12_findsBehind_23 rfl ?_
          refine w_callV (pc' := 27) (d' := 1) (av := [gI x]) mi_mX12_finds lk_X12_571 rfl ci_X12 kd_133 rfl (Nat.le_of_ble_eq_true rfl) (Nat.le_of_ble_eq_true rfl) dX12_findsBehind_24 rfl (q_finds2 (σ := gUr (gUr (gUr (gUr σ 201 C) 202 Q) 199 (σ 199)) 200 (σ 200)) hE hG hlo e42 hF hY hM hN x (by omega) (show (σ 199) x = -1 by omega) hYN) (fun v_24 σ_24 q_24 => ?_)
          obtain ⟨b24, M24, N24, C24, Q24, rfl, rfl, hr24⟩ := q_24
          refine Wp.heq (σ' := gUr (gUr (gUr (gUr σ 201 C24) 202 Q24) 199 M24) 200 N24) ((congrArg (fun z => gUr z 200 N24) ((congrArg (fun z => gUr z 199 M24) ((congrArg (fun z => gUr z 202 Q24) ((gUr_cr (by decide)).trans (congrArg (fun z => gUr z 200 (σ 200)) ((gUr_cr (by decide)).trans (congrArg (fun z => gUr z 199 (σ 199)) ((gUr_cr (by decide)).trans (congrArg (fun z => gUr z 202 Q) gUr_same))))))).trans ((gUr_cr (by decide)).trans (congrArg (fun z => gUr z 200 (σ 200)) ((gUr_cr (by decide)).trans (congrArg (fun z => gUr z 199 (σ 199)) gUr_same)))))).trans ((gUr_cr (by decide)).trans (congrArg (fun z => gUr z 200 (σ 200)) gUr_same)))).trans gUr_same) ?_
          show Wp _ _ _ _ _ _ [gI b24]
          refine w_if_eq (pc' := 30) (t := 32) dX12_findsBehind_27 rfl rfl (fun c_27 => ?_) (fun c_27 => ?_)
          · skip
            refine v_iinc (pc' := 35) (x := x) (ls' := [gR 133, gI e, gI (x + 1)]) (by omega) (by decide) (by rfl) (by rfl) dX12_findsBehind_32 rfl ?_
            refine w_goto (pc' := 4) dX12_findsBehind_35 rfl ?_
            obtain ⟨w1, w2, w3, R9, r1, r2, r3⟩ := hr24.resolve_left (by intro k; omega)
            rw [show M24 = σ 199 from w2, show N24 = σ 200 from w3]
            exact ih_4 _ (by omega) (x + 1) C24 Q24 (fun r => R r ∨ R9 r) rfl (by omega) (by omega) (by intro i a b c; by_cases k : i = x; (first | (exfalso; rw [k] at c; omega) | (rw [k]; exact Or.inr r1)); (first | exact hg i a (by omega) c | exact Or.inl (hg i a (by omega) c))) (by first | exact hR | (intro r h; rcases h with h | h; exact hR r h; have := r2 r h; omega)) (by first | exact hcl | exact CLR_or hcl r3)
          · skip
            refine w_iconst (pc' := 31) (by decide) dX12_findsBehind_30 rfl ?_
            refine w_zreturn rfl (.inr rfl) dX12_findsBehind_31 ?_
            have w := hr24.resolve_right (fun k => by omega)
            subst hle
            exact ⟨1, M24, N24, C24, Q24, rfl, rfl, Or.inl ⟨rfl, x, w.2⟩⟩
  refine Wp.heq (σ' := gUr (gUr (gUr (gUr σ 201 (σ 201)) 202 (σ 202)) 199 (σ 199)) 200 (σ 200)) rows4 ?_
  exact hl_4 _ (e + 1) (σ 201) (σ 202) (fun _ => False) rfl (by omega) (by omega) (by intro i a b; omega) (by intro r h; exact h.elim) (by intro r g h; exact h.elim)
