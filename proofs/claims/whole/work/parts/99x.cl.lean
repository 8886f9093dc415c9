/-! law: class and reference (gen/mod_cl.py) -/
def RSA (A : gH) : Int := if A 57 3 = 0 then A 68 2 else -1 - A 66 3
noncomputable def RES (T : Int → Int) (L : Int) (S0 : gH) : Int := @dite Int (∃ A, RCH T L S0 A ∧ FIN A) (Classical.propDecidable _) (fun h => RSA (Classical.choose h)) (fun _ => 0)
theorem RES_eq {T : Int → Int} {L : Int} {S0 A : gH} (h : RCH T L S0 A) (hA : FIN A) : RES T L S0 = RSA A := by
  have hx : ∃ A, RCH T L S0 A ∧ FIN A := ⟨A, h, hA⟩
  unfold RES
  rw [dif_pos hx]
  have c := Classical.choose_spec hx
  rw [c.1.one c.2 h hA]
theorem DEC_cg {B B' : Int → Int} : ∀ {n : Nat}, (∀ i : Int, 0 ≤ i → i < n → B i = B' i) → DEC B n = DEC B' n
  | 0, _ => rfl
  | n + 1, h => by
    show DEC B n * 10 + B n - 48 = DEC B' n * 10 + B' n - 48
    rw [DEC_cg (fun i a b => h i a (by omega)), h n (by omega) (by omega)]
theorem TOKN_cg {T T' : Int → Int} {L p a q k v : Int} (hp : 0 ≤ p) (e : ∀ i, 0 ≤ i → i < L → T i = T' i) (h : TOKN T L (EDG L) p a q k v) : TOKN T' L (EDG L) p a q k v := by
  have hE := EDG_in L
  rcases h with ⟨h1, h2⟩ | ⟨h1, h2, h3, h4, h5⟩
  · exact Or.inl ⟨fun i a b => by rw [← e i (by omega) (by omega)]; exact h1 i a b, h2⟩
  · have ea := e a (by omega) (by omega)
    refine Or.inr ⟨fun i x y => by rw [← e i (by omega) (by omega)]; exact h1 i x y, h2, h3, by rw [← ea]; exact h4, ?_⟩
    rcases h5 with ⟨x1, x2, x3⟩ | ⟨x1, x2, x3, x4⟩
    · refine Or.inl ⟨by rw [← ea]; exact x1, ⟨x2.1, x2.2.1, fun i y z => by rw [← e i (by omega) (by have := x2.2.1; omega)]; exact x2.2.2.1 i y z, fun y => by rw [← e q (by have := x2.1; omega) y]; exact x2.2.2.2 y⟩, ?_⟩
      have hq := x2.2.1
      have hB : ∀ j, 0 ≤ j → j < q - a → T (a + j) = T' (a + j) := fun j y z => e _ (by omega) (by omega)
      rcases x3 with ⟨y1, y2, y3⟩ | ⟨y1, y2, y3, y4, y5⟩ | ⟨⟨i, i1, i2, i3⟩, y2, y3⟩
      · refine Or.inl ⟨fun i y z => by rw [← e i (by omega) (by omega)]; exact y1 i y z, y2, ?_⟩
        have W : ∀ i, WAT (fun j => T (a + j)) (q - a) i ↔ WAT (fun j => T' (a + j)) (q - a) i := fun i => by
          unfold WAT
          constructor
          · intro z
            exact ⟨z.1, z.2.1, fun k0 a0 b0 => (hB k0 a0 b0).symm.trans (z.2.2 k0 a0 b0)⟩
          · intro z
            exact ⟨z.1, z.2.1, fun k0 a0 b0 => (hB k0 a0 b0).trans (z.2.2 k0 a0 b0)⟩
        rcases y3 with y3 | ⟨i, i0, i1, w, z⟩
        · exact Or.inl ⟨y3.1, fun i a0 b0 c0 => y3.2 i a0 b0 ((W i).mpr c0)⟩
        · exact Or.inr ⟨i, i0, i1, (W i).mp w, z⟩
      · refine Or.inr (Or.inl ⟨fun i y z => by rw [← e i (by omega) (by omega)]; exact y1 i y z, y2, y3, y4, ?_⟩)
        rw [y5]
        exact DEC_cg fun j y z => hB j y (by omega)
      · refine Or.inr (Or.inr ⟨⟨i, i1, i2, by rw [← e i (by omega) (by omega)]; exact i3⟩, ?_, y3⟩)
        rcases y2 with ⟨j, j1, j2, j3⟩ | y2
        · exact Or.inl ⟨j, j1, j2, by rw [← e j (by omega) (by omega)]; exact j3⟩
        · exact Or.inr y2
    · exact Or.inr ⟨by rw [← ea]; exact x1, x2, x3, by rw [← ea]; exact x4⟩
theorem TRC_cg {T T' : Int → Int} {L : Int} {S0 : gH} (I0 : INV L S0) (e : ∀ i, 0 ≤ i → i < L → T i = T' i) : ∀ {n : Nat} {A : gH}, TRC T L n S0 A → TRC T' L n S0 A
  | 0, _, h => h
  | n + 1, A, h => by
    obtain ⟨M, m1, m2, a, q, k, v, t, x⟩ := h
    have IM := (I0.trc m1) (Classical.not_not.mp fun c => m2 (Or.inl c))
    exact ⟨M, TRC_cg I0 e m1, m2, a, q, k, v, TOKN_cg IM.1.2.2.2.1 e t, x⟩
theorem RCH_cg {T T' : Int → Int} {L : Int} {S0 A : gH} (I0 : INV L S0) (e : ∀ i, 0 ≤ i → i < L → T i = T' i) (h : RCH T L S0 A) : RCH T' L S0 A := by
  obtain ⟨n, t⟩ := h
  exact ⟨n, TRC_cg I0 e t⟩
/-- the draft's days stay -/
theorem ite68 {p : Prop} [Decidable p] {A B : gH × Int} {j r : Int} (ha : A.1 68 j = r) (hb : B.1 68 j = r) : (if p then A else B).1 68 j = r := by
  by_cases c : p
  · rw [if_pos c]; exact ha
  · rw [if_neg c]; exact hb
theorem TAK_68 {S : gH} {k v j : Int} (hj : j = 0 ∨ j = 1) : (TAK S k v).1 68 j = S 68 j := by
  have hs := stJ_in (S 57 8)
  have e : ∀ x : Int, (gUp (gUp S 68 (stJ (S 57 8)) x) 57 6 9) 68 j = S 68 j := fun x => if_neg (by omega)
  unfold TAK LTE LTR LTI LTD LTO LTL LTS LTF
  repeat' refine ite68 ?_ ?_
  all_goals first | exact e _ | (rcases hj with rfl | rfl <;> rfl)
theorem RCH_68 {T : Int → Int} {L : Int} {S0 A : gH} (h : RCH T L S0 A) : A 68 0 = S0 68 0 ∧ A 68 1 = S0 68 1 := by
  obtain ⟨n, t⟩ := h
  induction n generalizing A with
  | zero => have e : S0 = A := t; rw [e]; exact ⟨rfl, rfl⟩
  | succ n ih =>
    obtain ⟨M, m1, m2, a, q, k, v, t, x⟩ := t
    have i := ih m1
    have g : ∀ j, j = 0 ∨ j = 1 → A 68 j = M 68 j := fun j hj => by
      rw [x]
      show (TAK (ADV M a q k v) k v).1 68 j = M 68 j
      rw [TAK_68 hj]; rfl
    rw [g 0 (Or.inl rfl), g 1 (Or.inr rfl)]
    exact i
theorem kt_addE {c : Nat} {σ : gH} (hc : isD c) (hn2 : 0 ≤ σ 57 2 ∧ σ 57 2 < 6) (hcn : σ 58 (σ 57 2) = (c : Int)) (f k n : Int) (hf : isDy f) (hn : 0 ≤ n ∧ n ≤ 540) : Mt mX5_add 10 [gR 57, gI f, gI k, gR 1, gI n] σ (fun v σ' => ∃ r : Int, v = gI r ∧ ∃ σl A, AG c (gUp σ 57 5 (c : Int)) σl A ∧ RCH (σ 1) n (BEG (SOF c (gUp σ 57 5 (c : Int))) f k n) A ∧ FIN A ∧ r = RSA A ∧ (A 57 3 ≠ 0 → σ' = σl) ∧ (A 57 3 = 0 → σ' = gUp σl 57 2 (σ 57 2 + 1))) := by
  refine (kt_add hc hn2 hcn f k n hf hn).mono fun v σ' h => ?_
  obtain ⟨σl, A, h1, h2, h3, h4⟩ := h
  refine ⟨RSA A, ?_, σl, A, h1, h2, h3, rfl, fun x => ?_, fun x => ?_⟩
  · unfold RSA
    rcases h4 with h4 | h4
    · rw [if_neg h4.1]; exact h4.2.1
    · rw [if_pos h4.1]; exact h4.2.1
  · rcases h4 with h4 | h4
    · exact h4.2.2
    · exact absurd h4.1 x
  · rcases h4 with h4 | h4
    · exact absurd x h4.1
    · exact h4.2.2
theorem kc_law {c : Nat} {σ : gH} (hc : isD c) (hn2 : 0 ≤ σ 57 2 ∧ σ 57 2 < 6) (hcn : σ 58 (σ 57 2) = (c : Int)) (f : Int) (hf : isDy f) (hn : 0 ≤ σ 0 1 ∧ σ 0 1 ≤ 540) : Mt mX11_law 30 [gR 0, gI f] σ (fun v σ' => ∃ σl A, AG c (gUp (gUp σ 0 1 0) 57 5 (c : Int)) σl A ∧ RCH (σ 1) (σ 0 1) (BEG (SOF c (gUp (gUp σ 0 1 0) 57 5 (c : Int))) f (σ 0 4) (σ 0 1)) A ∧ FIN A ∧ v = gI (RSA A) ∧ (A 57 3 ≠ 0 → σ' = σl) ∧ (A 57 3 = 0 → σ' = gUp σl 57 2 (σ 57 2 + 1))) := by
  refine Mt.walk (ls := [gR 0, gI f, gX 1]) pn_X11 rfl (fun _ _ h => by obtain ⟨_, _, _, _, _, h, _⟩ := h; cases h) (Nat.le_of_ble_eq_true rfl) rfl ?_
  refine w_aload_n (pc' := 1) (i := 0) (by rfl) (by rfl) dX11_law_0 rfl ?_
  refine v_getI (pc' := 4) (ji := 1) rfl fg_X11_89 kd_0 dX11_law_1 rfl ?_
  refine w_istore_n (pc' := 5) (i := 2) (ls' := [gR 0, gI f, gI (σ 0 1)]) (by rfl) (by decide) (by rfl) dX11_law_4 rfl ?_
  refine w_aload_n (pc' := 6) (i := 0) (by rfl) (by rfl) dX11_law_5 rfl ?_
  refine w_iconst (pc' := 7) (by decide) dX11_law_6 rfl ?_
  refine v_putI (pc' := 10) (ji := 1) rfl fp_X11_89 kd_0 sf_X11_1 dX11_law_7 rfl ?_
  refine w_aload_n (pc' := 11) (i := 0) (by rfl) (by rfl) dX11_law_10 rfl ?_
  refine w_getS (pc' := 14) (q := 57) fg_X11_58 kd_0 sf_X11_10 gr_0_10 dX11_law_11 rfl ?_
  refine w_iload_n (pc' := 15) (i := 1) (by rfl) (by rfl) dX11_law_14 rfl ?_
  refine w_aload_n (pc' := 16) (i := 0) (by rfl) (by rfl) dX11_law_15 rfl ?_
  refine v_getI (pc' := 19) (ji := 4) rfl fg_X11_96 kd_0 dX11_law_16 rfl ?_
  show Wp _ _ _ _ _ _ [gI (σ 0 4), gI f, gR 57]
  refine w_aload_n (pc' := 20) (i := 0) (by rfl) (by rfl) dX11_law_19 rfl ?_
  refine w_getS (pc' := 23) (q := 1) fg_X11_9 kd_0 sf_X11_0 gr_0_0 dX11_law_20 rfl ?_
  refine w_iload_n (pc' := 24) (i := 2) (by rfl) (by rfl) dX11_law_23 rfl ?_
  refine w_callV (pc' := 27) (d' := 10) (av := [gI f, gI (σ 0 4), gR 1, gI (σ 0 1)]) mi_mX5_add lk_X11_161 rfl ci_X5 kd_57 rfl (Nat.le_of_ble_eq_true rfl) (Nat.le_of_ble_eq_true rfl) dX11_law_24 rfl (kt_addE (σ := gUp σ 0 1 0) hc hn2 hcn f (σ 0 4) (σ 0 1) hf hn) (fun v_24 σ24 q_24 => ?_)
  obtain ⟨r9, rfl, hX⟩ := q_24
  show Wp _ _ _ _ _ _ [gI r9]
  refine v_ireturn rfl dX11_law_27 ?_
  obtain ⟨σl, A, h1, h2, h3, h4, h5, h6⟩ := hX
  exact ⟨σl, A, h1, h2, h3, by rw [h4], h5, h6⟩
theorem kc_lawN {c : Nat} {σ : gH} (hc : isD c) (hn2 : 0 ≤ σ 57 2 ∧ σ 57 2 ≤ 6) (hcn : σ 57 2 < 6 → σ 58 (σ 57 2) = (c : Int)) (f : Int) (hf : ¬ (σ 57 2 < 6 ∧ isDy f)) : Mt mX11_law 30 [gR 0, gI f] σ (rE (gI (-1000)) (gUp σ 0 1 0)) := by
  refine Mt.walk (ls := [gR 0, gI f, gX 1]) pn_X11 rfl (fun _ _ h => by cases h.1) (Nat.le_of_ble_eq_true rfl) rfl ?_
  refine w_aload_n (pc' := 1) (i := 0) (by rfl) (by rfl) dX11_law_0 rfl ?_
  refine v_getI (pc' := 4) (ji := 1) rfl fg_X11_89 kd_0 dX11_law_1 rfl ?_
  refine w_istore_n (pc' := 5) (i := 2) (ls' := [gR 0, gI f, gI (σ 0 1)]) (by rfl) (by decide) (by rfl) dX11_law_4 rfl ?_
  refine w_aload_n (pc' := 6) (i := 0) (by rfl) (by rfl) dX11_law_5 rfl ?_
  refine w_iconst (pc' := 7) (by decide) dX11_law_6 rfl ?_
  refine v_putI (pc' := 10) (ji := 1) rfl fp_X11_89 kd_0 sf_X11_1 dX11_law_7 rfl ?_
  refine w_aload_n (pc' := 11) (i := 0) (by rfl) (by rfl) dX11_law_10 rfl ?_
  refine w_getS (pc' := 14) (q := 57) fg_X11_58 kd_0 sf_X11_10 gr_0_10 dX11_law_11 rfl ?_
  refine w_iload_n (pc' := 15) (i := 1) (by rfl) (by rfl) dX11_law_14 rfl ?_
  refine w_aload_n (pc' := 16) (i := 0) (by rfl) (by rfl) dX11_law_15 rfl ?_
  refine v_getI (pc' := 19) (ji := 4) rfl fg_X11_96 kd_0 dX11_law_16 rfl ?_
  show Wp _ _ _ _ _ _ [gI (σ 0 4), gI f, gR 57]
  refine w_aload_n (pc' := 20) (i := 0) (by rfl) (by rfl) dX11_law_19 rfl ?_
  refine w_getS (pc' := 23) (q := 1) fg_X11_9 kd_0 sf_X11_0 gr_0_0 dX11_law_20 rfl ?_
  refine w_iload_n (pc' := 24) (i := 2) (by rfl) (by rfl) dX11_law_23 rfl ?_
  refine v_callVE (pc' := 27) (st' := [gI (-1000)]) (d' := 10) (av := [gI f, gI (σ 0 4), gR 1, gI (σ 0 1)]) mi_mX5_add lk_X11_161 rfl ci_X5 kd_57 rfl (Nat.le_of_ble_eq_true rfl) (Nat.le_of_ble_eq_true rfl) dX11_law_24 rfl rfl (kt_addN (σ := gUp σ 0 1 0) hc hn2 hcn f (σ 0 4) (σ 0 1) hf) ?_
  refine v_ireturn rfl dX11_law_27 ?_
  exact ⟨rfl, rfl⟩
