/-! joined: the reference's search and change (gen/mod_jom.py) -/
section JOM
variable {E G lo : Int} {F : Int → Int → Prop} {Y : Int → Prop}
theorem BFS.cong {M N q cb : Int → Int} {k : Int} {V V' : Int → Prop} (h : BFS E G F Y lo M N q cb k V) (hv : ∀ z, V z ↔ V' z) : BFS E G F Y lo M N q cb k V' := by
  have e : V = V' := funext fun z => propext (hv z)
  rw [← e]; exact h
theorem BFS_cb {M N q cb : Int → Int} {k g v : Int} {V : Int → Prop} (h : BFS E G F Y lo M N q cb k V) (hV : ¬ V g) : BFS E G F Y lo M N q (updI cb g v) k V := by
  refine ⟨h.1, h.2.1, fun i i0 i1 => ?_, h.2.2.2⟩
  rcases h.2.2.1 i i0 i1 with a | ⟨w, j, j0, j1, a, b, y⟩
  · exact Or.inl a
  · have ng : M (q i) ≠ g := fun e => hV (e ▸ w)
    exact Or.inr ⟨w, j, j0, j1, by rw [updI_ne ng]; exact a, b, y⟩
theorem BFS_init {M N q cb : Int → Int} {x : Int} {V : Int → Prop} (hx : lo ≤ x ∧ x < E) (hq : q 0 = x) (hm : M x = -1) (hV : ∀ z, 0 ≤ z → z < G → ¬ V z) : BFS E G F Y lo M N q cb 1 V :=
  ⟨fun i i0 i1 => by rw [show i = 0 by omega, hq]; exact hx, fun i j i0 i1 j0 j1 _ => by omega, fun i i0 i1 => Or.inl (by rw [show i = 0 by omega, hq]; exact hm), fun g g0 g1 hv => absurd hv (hV g g0 g1)⟩
/-- a gift more is seen and stands as seen -/
theorem BFS_see {M N q cb : Int → Int} {k g c : Int} (h : BFS E G F Y lo M N q cb k (fun z => cb z ≠ -1)) (hN : MN E G M N) (hlo : 0 ≤ lo) (hk : 0 ≤ k) (hg : 0 ≤ g ∧ g < G) (hY : Y g) (hV : cb g = -1) (hn : N g ≠ -1) (hl : lo ≤ N g) (hc : 0 ≤ c ∧ c < k) (hF : F (q c) g) :
    BFS E G F Y lo M N (updI q k (N g)) (updI cb g (q c)) (k + 1) (fun z => updI cb g (q c) z ≠ -1) := by
  refine (BFS_push h hN hk hg hY (fun a => a hV) hn hl hc hF).cong fun z => ?_
  have q0 := h.1 c hc.1 hc.2
  by_cases e : z = g
  · rw [e, updI_eq]
    exact ⟨fun _ => by omega, fun _ => Or.inr rfl⟩
  · rw [updI_ne e]
    exact ⟨fun a => a.resolve_right e, Or.inl⟩
end JOM
set_option maxHeartbeats 4000000 in
theorem q_change {σ : gH} {E G lo : Int} {F : Int → Int → Prop} {Y : Int → Prop} (hE : 0 ≤ E ∧ E ≤ 100) (hG : 0 ≤ G ∧ G ≤ 120) (hlo : 0 ≤ lo) {M0 N0 : Int → Int} {k : Int} {V : Int → Prop} (g0 x i0 : Int) (hM0 : MT E G F M0) (hB : BFS E G F Y lo M0 N0 (σ 202) (σ 201) k V) (hmid : MID E G F Y lo M0 (σ 202) (σ 201) k g0 i0 (σ 199) (σ 200)) (hx : ∀ j, 0 ≤ j → j < k → (M0 (σ 202 j) = -1 ↔ σ 202 j = x)) : Mt mX12_change 0 [gR 133, gI g0, gI x] σ (fun v σ' => v = gX 1 ∧ ∃ M N, σ' = gUr (gUr σ 199 M) 200 N ∧ AUG E G F Y lo M0 x M N) := by
  refine Mt.walk (ls := [gR 133, gI g0, gI x, gX 1, gX 1, gX 1, gX 1]) pn_X12 rfl (fun _ _ h => by cases h.1) (Nat.le_of_ble_eq_true rfl) rfl ?_
  refine w_iload_n (pc' := 1) (i := 1) (by rfl) (by rfl) dX12_change_0 rfl ?_
  refine w_istore_n (pc' := 2) (i := 3) (ls' := [gR 133, gI g0, gI x, gI g0, gX 1, gX 1, gX 1]) (by rfl) (by decide) (by rfl) dX12_change_1 rfl ?_
  refine w_iconst (pc' := 3) (by decide) dX12_change_2 rfl ?_
  refine w_istore (pc' := 5) (ls' := [gR 133, gI g0, gI x, gI g0, gI 1, gX 1, gX 1]) (by decide) (by rfl) dX12_change_3 rfl ?_
  have hl_5 : ∀ (mm : Nat) (g m i : Int) (M N : Int → Int), (i + m).toNat = mm → (m = 0 ∨ m = 1) → (m = 1 → MID E G F Y lo M0 (σ 202) (σ 201) k g i M N) → (m = 0 → AUG E G F Y lo M0 x M N) → Wp mX12_change 0 (fun v σ' => v = gX 1 ∧ ∃ M N, σ' = gUr (gUr σ 199 M) 200 N ∧ AUG E G F Y lo M0 x M N) (gUr (gUr σ 199 M) 200 N) 5 [gR 133, gI g0, gI x, gI g, gI m, gX 1, gX 1] [] := by
    intro m_5
    induction m_5 using Nat.strongRecOn with
    | _ m_5 ih_5 =>
      intro g m i M N hmeas_5 hm h1 h0
      refine w_iload (pc' := 7) (by rfl) dX12_change_5 rfl ?_
      refine w_if_eq (pc' := 10) (t := 62) dX12_change_7 rfl rfl (fun c_7 => ?_) (fun c_7 => ?_)
      · skip
        refine w_return rfl dX12_change_62 ?_
        exact ⟨rfl, M, N, rfl, h0 (by omega)⟩
      · skip
        have m1 : m = 1 := by omega
        have hmd := h1 m1
        have hst : ∀ _ : Unit, _ := fun _ => MID_step hM0 hB hlo hmd
        have hq := (hst ()).1
        have mq := (hst ()).2.1
        have eb : σ 201 g = σ 202 i := hmd.2.1.2.2.1
        have hgr := hmd.1
        refine w_aload_n (pc' := 11) (i := 0) (by rfl) (by rfl) dX12_change_10 rfl ?_
        refine w_getS (pc' := 14) (q := 201) fg_X12_223 kd_133 sf_X12_104 gr_133_104 dX12_change_11 rfl ?_
        refine w_iload_n (pc' := 15) (i := 3) (by rfl) (by rfl) dX12_change_14 rfl ?_
        refine w_iald (pc' := 16) kd_201 (by omega) (by omega) dX12_change_15 rfl ?_
        show Wp _ _ _ _ _ _ [gI (σ 201 g)]
        rw [eb]
        refine w_istore (pc' := 18) (ls' := [gR 133, gI g0, gI x, gI g, gI m, gI (σ 202 i), gX 1]) (by decide) (by rfl) dX12_change_16 rfl ?_
        refine w_aload_n (pc' := 19) (i := 0) (by rfl) (by rfl) dX12_change_18 rfl ?_
        refine w_getS (pc' := 22) (q := 199) fg_X12_217 kd_133 sf_X12_102 gr_133_102 dX12_change_19 rfl ?_
        refine w_iload (pc' := 24) (by rfl) dX12_change_22 rfl ?_
        refine w_iald (pc' := 25) kd_199 (by omega) (by omega) dX12_change_24 rfl ?_
        show Wp _ _ _ _ _ _ [gI (M (σ 202 i))]
        refine w_istore (pc' := 27) (ls' := [gR 133, gI g0, gI x, gI g, gI m, gI (σ 202 i), gI (M (σ 202 i))]) (by decide) (by rfl) dX12_change_25 rfl ?_
        refine w_aload_n (pc' := 28) (i := 0) (by rfl) (by rfl) dX12_change_27 rfl ?_
        refine w_getS (pc' := 31) (q := 199) fg_X12_217 kd_133 sf_X12_102 gr_133_102 dX12_change_28 rfl ?_
        refine w_iload (pc' := 33) (by rfl) dX12_change_31 rfl ?_
        refine w_iload_n (pc' := 34) (i := 3) (by rfl) (by rfl) dX12_change_33 rfl ?_
        refine w_iast (pc' := 35) kd_199 (by omega) (by omega) dX12_change_34 rfl ?_
        refine Wp.heq (σ' := gUr (gUr σ 199 (updI M (σ 202 i) g)) 200 N) ((gUp_cr (by decide)).trans (congrArg (fun z => gUr z 200 N) gUp_row)) ?_
        refine w_aload_n (pc' := 36) (i := 0) (by rfl) (by rfl) dX12_change_35 rfl ?_
        refine w_getS (pc' := 39) (q := 200) fg_X12_220 kd_133 sf_X12_103 gr_133_103 dX12_change_36 rfl ?_
        refine w_iload_n (pc' := 40) (i := 3) (by rfl) (by rfl) dX12_change_39 rfl ?_
        refine w_iload (pc' := 42) (by rfl) dX12_change_40 rfl ?_
        refine w_iast (pc' := 43) kd_200 (by omega) (by omega) dX12_change_42 rfl ?_
        refine Wp.heq (σ' := gUr (gUr σ 199 (updI M (σ 202 i) g)) 200 (updI N g (σ 202 i))) gUp_row ?_
        refine w_iload (pc' := 45) (by rfl) dX12_change_43 rfl ?_
        refine w_iload_n (pc' := 46) (i := 2) (by rfl) (by rfl) dX12_change_45 rfl ?_
        refine w_icmp_eq (pc' := 49) (t := 53) dX12_change_46 rfl rfl (fun c_46 => ?_) (fun c_46 => ?_)
        · skip
          refine w_iconst (pc' := 54) (by decide) dX12_change_53 rfl ?_
          refine w_istore (pc' := 56) (ls' := [gR 133, gI g0, gI x, gI g, gI 0, gI (σ 202 i), gI (M (σ 202 i))]) (by decide) (by rfl) dX12_change_54 rfl ?_
          refine w_iload (pc' := 58) (by rfl) dX12_change_56 rfl ?_
          refine w_istore_n (pc' := 59) (i := 3) (ls' := [gR 133, gI g0, gI x, gI (M (σ 202 i)), gI 0, gI (σ 202 i), gI (M (σ 202 i))]) (by rfl) (by decide) (by rfl) dX12_change_58 rfl ?_
          refine w_goto (pc' := 5) dX12_change_59 rfl ?_
          refine Wp.lose (ls' := [gR 133, gI g0, gI x, gI (M (σ 202 i)), gI 0, gX 1, gX 1]) ⟨.inr rfl, ⟨.inr rfl, ⟨.inr rfl, ⟨.inr rfl, ⟨.inr rfl, ⟨.inl rfl, ⟨.inl rfl, trivial⟩⟩⟩⟩⟩⟩⟩ ?_
          have ha := (hst ()).2.2.1 (by rw [mq]; exact (hx i hmd.2.1.1 hmd.2.1.2.1).mpr c_46)
          exact ih_5 _ (by have := hmd.2.1.1; omega) (M (σ 202 i)) 0 i (updI M (σ 202 i) g) (updI N g (σ 202 i)) rfl (by omega) (by first | omega | (intro _; exact hj)) (by first | omega | (intro _; rw [c_46] at ha ⊢; exact ha))
        · skip
          refine w_iconst (pc' := 50) (by decide) dX12_change_49 rfl ?_
          refine w_goto (pc' := 54) dX12_change_50 rfl ?_
          refine w_istore (pc' := 56) (ls' := [gR 133, gI g0, gI x, gI g, gI 1, gI (σ 202 i), gI (M (σ 202 i))]) (by decide) (by rfl) dX12_change_54 rfl ?_
          refine w_iload (pc' := 58) (by rfl) dX12_change_56 rfl ?_
          refine w_istore_n (pc' := 59) (i := 3) (ls' := [gR 133, gI g0, gI x, gI (M (σ 202 i)), gI 1, gI (σ 202 i), gI (M (σ 202 i))]) (by rfl) (by decide) (by rfl) dX12_change_58 rfl ?_
          refine w_goto (pc' := 5) dX12_change_59 rfl ?_
          refine Wp.lose (ls' := [gR 133, gI g0, gI x, gI (M (σ 202 i)), gI 1, gX 1, gX 1]) ⟨.inr rfl, ⟨.inr rfl, ⟨.inr rfl, ⟨.inr rfl, ⟨.inr rfl, ⟨.inl rfl, ⟨.inl rfl, trivial⟩⟩⟩⟩⟩⟩⟩ ?_
          obtain ⟨j, j0, j1, hj⟩ := ((hst ()).2.2.2 (by rw [mq]; intro e; exact c_46 ((hx i hmd.2.1.1 hmd.2.1.2.1).mp e))).2
          exact ih_5 _ (by have := hmd.2.1.1; omega) (M (σ 202 i)) 1 j (updI M (σ 202 i) g) (updI N g (σ 202 i)) rfl (by omega) (by first | omega | (intro _; exact hj)) (by first | omega | (intro _; rw [c_46] at ha ⊢; exact ha))
  refine Wp.heq (σ' := gUr (gUr σ 199 (σ 199)) 200 (σ 200)) (show σ = gUr (gUr σ 199 (σ 199)) 200 ((gUr σ 199 (σ 199)) 200) by rw [gUr_id, gUr_id]) ?_
  exact hl_5 _ g0 1 i0 (σ 199) (σ 200) rfl (by omega) (by intro _; exact hmid) (by omega)
set_option maxHeartbeats 4000000 in
theorem q_finds {σ : gH} {E G lo : Int} {F : Int → Int → Prop} {Y : Int → Prop} (hE : 0 ≤ E ∧ E ≤ 100) (hG : 0 ≤ G ∧ G ≤ 120) (hlo : 0 ≤ lo) (e42 : σ 133 42 = G) (hF : ∀ e g, 0 ≤ e → e < E → 0 ≤ g → g < G → (σ 197 (120 * e + g) ≠ 0 ↔ F e g)) (hY : ∀ g, 0 ≤ g → g < G → (σ 198 g = 0 ↔ Y g)) (hM : MT E G F (σ 199)) (hN : MN E G (σ 199) (σ 200)) (x : Int) (hx : lo ≤ x ∧ x < E) (hm : σ 199 x = -1) (hYN : ∀ g, 0 ≤ g → g < G → Y g → σ 200 g = -1 ∨ lo ≤ σ 200 g) : Mt mX12_finds 1 [gR 133, gI x] σ (fun v σ' => ∃ M2 N2 C Q, σ' = gUr (gUr (gUr (gUr σ 201 C) 202 Q) 199 M2) 200 N2 ∧ ((v = gI 1 ∧ AUG E G F Y lo (σ 199) x M2 N2) ∨ (v = gI 0 ∧ M2 = σ 199 ∧ N2 = σ 200 ∧ ∃ R : Int → Prop, R x ∧ (∀ r, R r → lo ≤ r ∧ r < E) ∧ CLR E G F Y (σ 199) R))) := by
  refine Mt.walk (ls := [gR 133, gI x, gX 1, gX 1, gX 1]) pn_X12 rfl (fun _ _ h => by obtain ⟨_, _, _, _, _, h⟩ := h; rcases h with h | h <;> cases h.1) (Nat.le_of_ble_eq_true rfl) rfl ?_
  refine w_iconst (pc' := 1) (by decide) dX12_finds_0 rfl ?_
  refine w_istore_n (pc' := 2) (i := 2) (ls' := [gR 133, gI x, gI 0, gX 1, gX 1]) (by rfl) (by decide) (by rfl) dX12_finds_1 rfl ?_
  have hl_2 : ∀ (mm : Nat) (i : Int) (C : Int → Int), (G - i).toNat = mm → (0 ≤ i) → (i ≤ G) → (∀ z, 0 ≤ z → z < i → C z = -1) → Wp mX12_finds 1 (fun v σ' => ∃ M2 N2 C Q, σ' = gUr (gUr (gUr (gUr σ 201 C) 202 Q) 199 M2) 200 N2 ∧ ((v = gI 1 ∧ AUG E G F Y lo (σ 199) x M2 N2) ∨ (v = gI 0 ∧ M2 = σ 199 ∧ N2 = σ 200 ∧ ∃ R : Int → Prop, R x ∧ (∀ r, R r → lo ≤ r ∧ r < E) ∧ CLR E G F Y (σ 199) R))) (gUr σ 201 C) 2 [gR 133, gI x, gI i, gX 1, gX 1] [] := by
    intro m_2
    induction m_2 using Nat.strongRecOn with
    | _ m_2 ih_2 =>
      intro i C hmeas_2 i0 i1 hC
      refine w_iload_n (pc' := 3) (i := 2) (by rfl) (by rfl) dX12_finds_2 rfl ?_
      refine w_aload_n (pc' := 4) (i := 0) (by rfl) (by rfl) dX12_finds_3 rfl ?_
      refine v_getI (pc' := 7) (ji := 42) rfl fg_X12_313 kd_133 dX12_finds_4 rfl ?_
      show Wp _ _ _ _ _ _ [gI (σ 133 42), gI i]
      refine w_icmp_ge (pc' := 10) (t := 23) dX12_finds_7 rfl rfl (fun c_7 => ?_) (fun c_7 => ?_)
      · skip
        refine Wp.heq (σ' := gUr (gUr σ 201 C) 202 (σ 202)) gUr_id.symm ?_
        refine w_aload_n (pc' := 24) (i := 0) (by rfl) (by rfl) dX12_finds_23 rfl ?_
        refine w_getS (pc' := 27) (q := 202) fg_X12_226 kd_133 sf_X12_105 gr_133_105 dX12_finds_24 rfl ?_
        refine w_iconst (pc' := 28) (by decide) dX12_finds_27 rfl ?_
        refine w_iload_n (pc' := 29) (i := 1) (by rfl) (by rfl) dX12_finds_28 rfl ?_
        refine w_iast (pc' := 30) kd_202 (by omega) (by omega) dX12_finds_29 rfl ?_
        refine Wp.heq (σ' := gUr (gUr σ 201 C) 202 (updI (σ 202) 0 x)) gUp_row ?_
        refine w_iconst (pc' := 31) (by decide) dX12_finds_30 rfl ?_
        refine w_istore_n (pc' := 32) (i := 2) (ls' := [gR 133, gI x, gI 1, gX 1, gX 1]) (by rfl) (by decide) (by rfl) dX12_finds_31 rfl ?_
        refine w_iconst (pc' := 33) (by decide) dX12_finds_32 rfl ?_
        refine w_istore_n (pc' := 34) (i := 3) (ls' := [gR 133, gI x, gI 1, gI 0, gX 1]) (by rfl) (by decide) (by rfl) dX12_finds_33 rfl ?_
        have hl_34 : ∀ (mm : Nat) (k c : Int) (C4 Q4 : Int → Int), (E - c).toNat = mm → (1 ≤ k) → (0 ≤ c) → (c ≤ k) → (BFS E G F Y lo (σ 199) (σ 200) Q4 C4 k (fun z => C4 z ≠ -1)) → (∀ j, 0 ≤ j → j < k → (σ 199 (Q4 j) = -1 ↔ Q4 j = x)) → (Q4 0 = x) → (∀ i z, 0 ≤ i → i < c → 0 ≤ z → z < G → Y z → F (Q4 i) z → C4 z ≠ -1) → Wp mX12_finds 1 (fun v σ' => ∃ M2 N2 C Q, σ' = gUr (gUr (gUr (gUr σ 201 C) 202 Q) 199 M2) 200 N2 ∧ ((v = gI 1 ∧ AUG E G F Y lo (σ 199) x M2 N2) ∨ (v = gI 0 ∧ M2 = σ 199 ∧ N2 = σ 200 ∧ ∃ R : Int → Prop, R x ∧ (∀ r, R r → lo ≤ r ∧ r < E) ∧ CLR E G F Y (σ 199) R))) (gUr (gUr σ 201 C4) 202 Q4) 34 [gR 133, gI x, gI k, gI c, gX 1] [] := by
          intro m_34
          induction m_34 using Nat.strongRecOn with
          | _ m_34 ih_34 =>
            intro k c C4 Q4 hmeas_34 k1 c0 c1 hB hq0 hx0 hp
            have kE := BFS_le hB hlo (by omega) (by omega)
            refine w_iload_n (pc' := 35) (i := 3) (by rfl) (by rfl) dX12_finds_34 rfl ?_
            refine w_iload_n (pc' := 36) (i := 2) (by rfl) (by rfl) dX12_finds_35 rfl ?_
            refine w_icmp_ge (pc' := 39) (t := 159) dX12_finds_36 rfl rfl (fun c_36 => ?_) (fun c_36 => ?_)
            · skip
              refine w_iconst (pc' := 160) (by decide) dX12_finds_159 rfl ?_
              refine w_zreturn rfl (.inl rfl) dX12_finds_160 ?_
              obtain ⟨s1, s2⟩ := BFS_shut hB hN hlo (fun i z a b z0 z1 hy hf => hp i z a (by omega) z0 z1 hy hf)
              refine ⟨σ 199, σ 200, C4, Q4, ?_, Or.inr ⟨rfl, rfl, rfl, _, ⟨0, Int.le_refl _, by omega, hx0⟩, s1, s2⟩⟩
              show gUr (gUr σ 201 C4) 202 Q4 = gUr (gUr (gUr (gUr σ 201 C4) 202 Q4) 199 ((gUr (gUr σ 201 C4) 202 Q4) 199)) 200 ((gUr (gUr (gUr σ 201 C4) 202 Q4) 199 ((gUr (gUr σ 201 C4) 202 Q4) 199)) 200)
              rw [gUr_id, gUr_id]
            · skip
              refine w_iconst (pc' := 40) (by decide) dX12_finds_39 rfl ?_
              refine w_istore (pc' := 42) (ls' := [gR 133, gI x, gI k, gI c, gI 0]) (by decide) (by rfl) dX12_finds_40 rfl ?_
              have hl_42 : ∀ (mm : Nat) (k5 g : Int) (C5 Q5 : Int → Int), (G - g).toNat = mm → (c < k5) → (0 ≤ g) → (g ≤ G) → (BFS E G F Y lo (σ 199) (σ 200) Q5 C5 k5 (fun z => C5 z ≠ -1)) → (∀ j, 0 ≤ j → j < k5 → (σ 199 (Q5 j) = -1 ↔ Q5 j = x)) → (Q5 0 = x) → (∀ i z, 0 ≤ i → i < c → 0 ≤ z → z < G → Y z → F (Q5 i) z → C5 z ≠ -1) → (∀ z, 0 ≤ z → z < g → Y z → F (Q5 c) z → C5 z ≠ -1) → Wp mX12_finds 1 (fun v σ' => ∃ M2 N2 C Q, σ' = gUr (gUr (gUr (gUr σ 201 C) 202 Q) 199 M2) 200 N2 ∧ ((v = gI 1 ∧ AUG E G F Y lo (σ 199) x M2 N2) ∨ (v = gI 0 ∧ M2 = σ 199 ∧ N2 = σ 200 ∧ ∃ R : Int → Prop, R x ∧ (∀ r, R r → lo ≤ r ∧ r < E) ∧ CLR E G F Y (σ 199) R))) (gUr (gUr σ 201 C5) 202 Q5) 42 [gR 133, gI x, gI k5, gI c, gI g] [] := by
                intro m_42
                induction m_42 using Nat.strongRecOn with
                | _ m_42 ih_42 =>
                  intro k5 g C5 Q5 hmeas_42 kk g0 g1 hB5 hq5 hx5 hp5 hp6
                  have kE5 := BFS_le hB5 hlo (by omega) (by omega)
                  have hqc := hB5.1 c c0 kk
                  have hFg : ∀ _ : Unit, g < G → (σ 197 (120 * (Q5 c) + g) ≠ 0 ↔ F (Q5 c) g) := fun _ h => hF (Q5 c) g (by omega) hqc.2 g0 h
                  have hYg : ∀ _ : Unit, g < G → (σ 198 g = 0 ↔ Y g) := fun _ h => hY g g0 h
                  refine w_iload (pc' := 44) (by rfl) dX12_finds_42 rfl ?_
                  refine w_aload_n (pc' := 45) (i := 0) (by rfl) (by rfl) dX12_finds_44 rfl ?_
                  refine v_getI (pc' := 48) (ji := 42) rfl fg_X12_313 kd_133 dX12_finds_45 rfl ?_
                  show Wp _ _ _ _ _ _ [gI (σ 133 42), gI g]
                  refine w_icmp_ge (pc' := 51) (t := 153) dX12_finds_48 rfl rfl (fun c_48 => ?_) (fun c_48 => ?_)
                  · skip
                    refine v_iinc (pc' := 156) (x := c) (ls' := [gR 133, gI x, gI k5, gI (c + 1), gI g]) (by omega) (by decide) (by rfl) (by rfl) dX12_finds_153 rfl ?_
                    refine w_goto (pc' := 34) dX12_finds_156 rfl ?_
                    refine Wp.lose (ls' := [gR 133, gI x, gI k5, gI (c + 1), gX 1]) ⟨.inr rfl, ⟨.inr rfl, ⟨.inr rfl, ⟨.inr rfl, ⟨.inl rfl, trivial⟩⟩⟩⟩⟩ ?_
                    exact ih_34 _ (by omega) k5 (c + 1) C5 Q5 rfl (by omega) (by omega) (by omega) (by exact hB5) (by exact hq5) (by exact hx5) (by intro i z a b z0 z1 hy hf; by_cases e : i = c; (rw [e] at hf; exact hp6 z z0 (by omega) hy hf); exact hp5 i z a (by omega) z0 z1 hy hf)
                  · skip
                    refine w_aload_n (pc' := 52) (i := 0) (by rfl) (by rfl) dX12_finds_51 rfl ?_
                    refine w_getS (pc' := 55) (q := 197) fg_X12_211 kd_133 sf_X12_100 gr_133_100 dX12_finds_52 rfl ?_
                    refine w_bipush (pc' := 57) (by decide) (by decide) dX12_finds_55 rfl ?_
                    refine w_aload_n (pc' := 58) (i := 0) (by rfl) (by rfl) dX12_finds_57 rfl ?_
                    refine w_getS (pc' := 61) (q := 202) fg_X12_226 kd_133 sf_X12_105 gr_133_105 dX12_finds_58 rfl ?_
                    refine w_iload_n (pc' := 62) (i := 3) (by rfl) (by rfl) dX12_finds_61 rfl ?_
                    refine w_iald (pc' := 63) kd_202 (by omega) (by omega) dX12_finds_62 rfl ?_
                    show Wp _ _ _ _ _ _ [gI (Q5 c), gI 120, gR 197]
                    refine v_imul (pc' := 64) (by omega) dX12_finds_63 rfl ?_
                    refine w_iload (pc' := 66) (by rfl) dX12_finds_64 rfl ?_
                    refine v_iadd (pc' := 67) (by omega) dX12_finds_66 rfl ?_
                    refine w_zald (pc' := 68) kd_197 (by omega) (by omega) dX12_finds_67 rfl (fun z_67 => ?_)
                    show Wp _ _ _ _ _ _ [gI (σ 197 ((120 * (Q5 c)) + g))]
                    refine w_if_eq (pc' := 71) (t := 147) dX12_finds_68 rfl rfl (fun c_68 => ?_) (fun c_68 => ?_)
                    · skip
                      refine v_iinc (pc' := 150) (x := g) (ls' := [gR 133, gI x, gI k5, gI c, gI (g + 1)]) (by omega) (by decide) (by rfl) (by rfl) dX12_finds_147 rfl ?_
                      refine w_goto (pc' := 42) dX12_finds_150 rfl ?_
                      exact ih_42 _ (by omega) k5 (g + 1) C5 Q5 rfl (by omega) (by omega) (by omega) (by first | exact hB5 | exact hB6) (by first | exact hq5 | (intro j j0 j1; by_cases e : j = k5; (rw [e, updI_eq, hNg.2.2]; exact ⟨fun w => by omega, fun w => by have w2 := hNg.2.2; rw [w, hm] at w2; omega⟩); rw [updI_ne e]; exact hq5 j j0 (by omega))) (by first | exact hx5 | (rw [updI_ne (by omega)]; exact hx5)) (by first | exact hp5 | (intro i z a b z0 z1 hy2 hf2; rw [updI_ne (show i ≠ k5 by omega)] at hf2; by_cases e : z = g; (rw [e, updI_eq]; omega); rw [updI_ne e]; exact hp5 i z a b z0 z1 hy2 hf2)) (by intro z z0 z1 hy2 hf2; by_cases e : z = g; (first | (rw [e, updI_eq]; omega) | (exfalso; rw [e] at hf2; have := (hFg () (by omega)).mpr hf2; omega) | (exfalso; rw [e] at hy2; have := (hYg () (by omega)).mpr hy2; omega) | (rw [e]; omega)); (first | exact hp6 z z0 (by omega) hy2 hf2 | (rw [updI_ne (show c ≠ k5 by omega)] at hf2; rw [updI_ne e]; exact hp6 z z0 (by omega) hy2 hf2)))
                    · skip
                      refine w_aload_n (pc' := 72) (i := 0) (by rfl) (by rfl) dX12_finds_71 rfl ?_
                      refine w_getS (pc' := 75) (q := 198) fg_X12_214 kd_133 sf_X12_101 gr_133_101 dX12_finds_72 rfl ?_
                      refine w_iload (pc' := 77) (by rfl) dX12_finds_75 rfl ?_
                      refine w_zald (pc' := 78) kd_198 (by omega) (by omega) dX12_finds_77 rfl (fun z_77 => ?_)
                      show Wp _ _ _ _ _ _ [gI (σ 198 g)]
                      refine w_if_ne (pc' := 81) (t := 147) dX12_finds_78 rfl rfl (fun c_78 => ?_) (fun c_78 => ?_)
                      · skip
                        refine v_iinc (pc' := 150) (x := g) (ls' := [gR 133, gI x, gI k5, gI c, gI (g + 1)]) (by omega) (by decide) (by rfl) (by rfl) dX12_finds_147 rfl ?_
                        refine w_goto (pc' := 42) dX12_finds_150 rfl ?_
                        exact ih_42 _ (by omega) k5 (g + 1) C5 Q5 rfl (by omega) (by omega) (by omega) (by first | exact hB5 | exact hB6) (by first | exact hq5 | (intro j j0 j1; by_cases e : j = k5; (rw [e, updI_eq, hNg.2.2]; exact ⟨fun w => by omega, fun w => by have w2 := hNg.2.2; rw [w, hm] at w2; omega⟩); rw [updI_ne e]; exact hq5 j j0 (by omega))) (by first | exact hx5 | (rw [updI_ne (by omega)]; exact hx5)) (by first | exact hp5 | (intro i z a b z0 z1 hy2 hf2; rw [updI_ne (show i ≠ k5 by omega)] at hf2; by_cases e : z = g; (rw [e, updI_eq]; omega); rw [updI_ne e]; exact hp5 i z a b z0 z1 hy2 hf2)) (by intro z z0 z1 hy2 hf2; by_cases e : z = g; (first | (rw [e, updI_eq]; omega) | (exfalso; rw [e] at hf2; have := (hFg () (by omega)).mpr hf2; omega) | (exfalso; rw [e] at hy2; have := (hYg () (by omega)).mpr hy2; omega) | (rw [e]; omega)); (first | exact hp6 z z0 (by omega) hy2 hf2 | (rw [updI_ne (show c ≠ k5 by omega)] at hf2; rw [updI_ne e]; exact hp6 z z0 (by omega) hy2 hf2)))
                      · skip
                        refine w_aload_n (pc' := 82) (i := 0) (by rfl) (by rfl) dX12_finds_81 rfl ?_
                        refine w_getS (pc' := 85) (q := 201) fg_X12_223 kd_133 sf_X12_104 gr_133_104 dX12_finds_82 rfl ?_
                        refine w_iload (pc' := 87) (by rfl) dX12_finds_85 rfl ?_
                        refine w_iald (pc' := 88) kd_201 (by omega) (by omega) dX12_finds_87 rfl ?_
                        show Wp _ _ _ _ _ _ [gI (C5 g)]
                        refine w_iconst (pc' := 89) (by decide) dX12_finds_88 rfl ?_
                        refine w_icmp_eq (pc' := 92) (t := 95) dX12_finds_89 rfl rfl (fun c_89 => ?_) (fun c_89 => ?_)
                        · skip
                          refine w_aload_n (pc' := 96) (i := 0) (by rfl) (by rfl) dX12_finds_95 rfl ?_
                          refine w_getS (pc' := 99) (q := 201) fg_X12_223 kd_133 sf_X12_104 gr_133_104 dX12_finds_96 rfl ?_
                          refine w_iload (pc' := 101) (by rfl) dX12_finds_99 rfl ?_
                          refine w_aload_n (pc' := 102) (i := 0) (by rfl) (by rfl) dX12_finds_101 rfl ?_
                          refine w_getS (pc' := 105) (q := 202) fg_X12_226 kd_133 sf_X12_105 gr_133_105 dX12_finds_102 rfl ?_
                          refine w_iload_n (pc' := 106) (i := 3) (by rfl) (by rfl) dX12_finds_105 rfl ?_
                          refine w_iald (pc' := 107) kd_202 (by omega) (by omega) dX12_finds_106 rfl ?_
                          show Wp _ _ _ _ _ _ [gI (Q5 c), gI g, gR 201]
                          refine w_iast (pc' := 108) kd_201 (by omega) (by omega) dX12_finds_107 rfl ?_
                          refine Wp.heq (σ' := gUr (gUr σ 201 (updI C5 g (Q5 c))) 202 Q5) ((gUp_cr (by decide)).trans (congrArg (fun z => gUr z 202 Q5) gUp_row)) ?_
                          have hf : F (Q5 c) g := (hFg () (by omega)).mp (by omega)
                          have hy : Y g := (hYg () (by omega)).mp (by omega)
                          
                          refine w_aload_n (pc' := 109) (i := 0) (by rfl) (by rfl) dX12_finds_108 rfl ?_
                          refine w_getS (pc' := 112) (q := 200) fg_X12_220 kd_133 sf_X12_103 gr_133_103 dX12_finds_109 rfl ?_
                          refine w_iload (pc' := 114) (by rfl) dX12_finds_112 rfl ?_
                          refine w_iald (pc' := 115) kd_200 (by omega) (by omega) dX12_finds_114 rfl ?_
                          show Wp _ _ _ _ _ _ [gI (σ 200 g)]
                          refine w_iconst (pc' := 116) (by decide) dX12_finds_115 rfl ?_
                          refine w_icmp_eq (pc' := 119) (t := 138) dX12_finds_116 rfl rfl (fun c_116 => ?_) (fun c_116 => ?_)
                          · skip
                            have hBc := BFS_cb (v := Q5 c) hB5 (g := g) (fun w => w (by omega))
                            have hmid := MID_start (lo := lo) (cb := updI C5 g (Q5 c)) hM hN ⟨g0, by omega⟩ (by omega) ⟨c0, kk⟩ updI_eq hf hy
                            refine w_aload_n (pc' := 139) (i := 0) (by rfl) (by rfl) dX12_finds_138 rfl ?_
                            refine w_iload (pc' := 141) (by rfl) dX12_finds_139 rfl ?_
                            refine w_iload_n (pc' := 142) (i := 1) (by rfl) (by rfl) dX12_finds_141 rfl ?_
                            refine w_callV (pc' := 145) (d' := 0) (av := [gI g, gI x]) mi_mX12_change lk_X12_565 rfl ci_X12 kd_133 rfl (Nat.le_of_ble_eq_true rfl) (Nat.le_of_ble_eq_true rfl) dX12_finds_142 rfl (q_change (σ := gUr (gUr σ 201 (updI C5 g (Q5 c))) 202 Q5) hE hG hlo g x c hM hBc hmid hq5) (fun v_142 σ_142 q_142 => ?_)
                            obtain ⟨rfl, M9, N9, rfl, hAU⟩ := q_142
                            show Wp _ _ _ _ _ _ []
                            refine w_iconst (pc' := 146) (by decide) dX12_finds_145 rfl ?_
                            refine w_zreturn rfl (.inr rfl) dX12_finds_146 ?_
                            exact ⟨M9, N9, _, Q5, rfl, Or.inl ⟨rfl, hAU⟩⟩
                          · skip
                            have hNg := (hN.1 g g0 (by omega)).resolve_left (by omega)
                            have hB6 := BFS_see hB5 hN hlo (by omega) ⟨g0, by omega⟩ hy (by omega) (by omega) ((hYN g g0 (by omega) hy).resolve_left (by omega)) ⟨c0, kk⟩ hf
                            have kE6 := BFS_le hB6 hlo (by omega) (by omega)
                            refine w_aload_n (pc' := 120) (i := 0) (by rfl) (by rfl) dX12_finds_119 rfl ?_
                            refine w_getS (pc' := 123) (q := 202) fg_X12_226 kd_133 sf_X12_105 gr_133_105 dX12_finds_120 rfl ?_
                            refine w_iload_n (pc' := 124) (i := 2) (by rfl) (by rfl) dX12_finds_123 rfl ?_
                            refine w_aload_n (pc' := 125) (i := 0) (by rfl) (by rfl) dX12_finds_124 rfl ?_
                            refine w_getS (pc' := 128) (q := 200) fg_X12_220 kd_133 sf_X12_103 gr_133_103 dX12_finds_125 rfl ?_
                            refine w_iload (pc' := 130) (by rfl) dX12_finds_128 rfl ?_
                            refine w_iald (pc' := 131) kd_200 (by omega) (by omega) dX12_finds_130 rfl ?_
                            show Wp _ _ _ _ _ _ [gI (σ 200 g), gI k5, gR 202]
                            refine w_iast (pc' := 132) kd_202 (by omega) (by omega) dX12_finds_131 rfl ?_
                            refine Wp.heq (σ' := gUr (gUr σ 201 (updI C5 g (Q5 c))) 202 (updI Q5 k5 (σ 200 g))) gUp_row ?_
                            refine v_iinc (pc' := 135) (x := k5) (ls' := [gR 133, gI x, gI (k5 + 1), gI c, gI g]) (by omega) (by decide) (by rfl) (by rfl) dX12_finds_132 rfl ?_
                            refine w_goto (pc' := 147) dX12_finds_135 rfl ?_
                            refine v_iinc (pc' := 150) (x := g) (ls' := [gR 133, gI x, gI (k5 + 1), gI c, gI (g + 1)]) (by omega) (by decide) (by rfl) (by rfl) dX12_finds_147 rfl ?_
                            refine w_goto (pc' := 42) dX12_finds_150 rfl ?_
                            exact ih_42 _ (by omega) (k5 + 1) (g + 1) (updI C5 g (Q5 c)) (updI Q5 k5 (σ 200 g)) rfl (by omega) (by omega) (by omega) (by first | exact hB5 | exact hB6) (by first | exact hq5 | (intro j j0 j1; by_cases e : j = k5; (rw [e, updI_eq, hNg.2.2]; exact ⟨fun w => by omega, fun w => by have w2 := hNg.2.2; rw [w, hm] at w2; omega⟩); rw [updI_ne e]; exact hq5 j j0 (by omega))) (by first | exact hx5 | (rw [updI_ne (by omega)]; exact hx5)) (by first | exact hp5 | (intro i z a b z0 z1 hy2 hf2; rw [updI_ne (show i ≠ k5 by omega)] at hf2; by_cases e : z = g; (rw [e, updI_eq]; omega); rw [updI_ne e]; exact hp5 i z a b z0 z1 hy2 hf2)) (by intro z z0 z1 hy2 hf2; by_cases e : z = g; (first | (rw [e, updI_eq]; omega) | (exfalso; rw [e] at hf2; have := (hFg () (by omega)).mpr hf2; omega) | (exfalso; rw [e] at hy2; have := (hYg () (by omega)).mpr hy2; omega) | (rw [e]; omega)); (first | exact hp6 z z0 (by omega) hy2 hf2 | (rw [updI_ne (show c ≠ k5 by omega)] at hf2; rw [updI_ne e]; exact hp6 z z0 (by omega) hy2 hf2)))
                        · skip
                          refine w_goto (pc' := 147) dX12_finds_92 rfl ?_
                          refine v_iinc (pc' := 150) (x := g) (ls' := [gR 133, gI x, gI k5, gI c, gI (g + 1)]) (by omega) (by decide) (by rfl) (by rfl) dX12_finds_147 rfl ?_
                          refine w_goto (pc' := 42) dX12_finds_150 rfl ?_
                          exact ih_42 _ (by omega) k5 (g + 1) C5 Q5 rfl (by omega) (by omega) (by omega) (by first | exact hB5 | exact hB6) (by first | exact hq5 | (intro j j0 j1; by_cases e : j = k5; (rw [e, updI_eq, hNg.2.2]; exact ⟨fun w => by omega, fun w => by have w2 := hNg.2.2; rw [w, hm] at w2; omega⟩); rw [updI_ne e]; exact hq5 j j0 (by omega))) (by first | exact hx5 | (rw [updI_ne (by omega)]; exact hx5)) (by first | exact hp5 | (intro i z a b z0 z1 hy2 hf2; rw [updI_ne (show i ≠ k5 by omega)] at hf2; by_cases e : z = g; (rw [e, updI_eq]; omega); rw [updI_ne e]; exact hp5 i z a b z0 z1 hy2 hf2)) (by intro z z0 z1 hy2 hf2; by_cases e : z = g; (first | (rw [e, updI_eq]; omega) | (exfalso; rw [e] at hf2; have := (hFg () (by omega)).mpr hf2; omega) | (exfalso; rw [e] at hy2; have := (hYg () (by omega)).mpr hy2; omega) | (rw [e]; omega)); (first | exact hp6 z z0 (by omega) hy2 hf2 | (rw [updI_ne (show c ≠ k5 by omega)] at hf2; rw [updI_ne e]; exact hp6 z z0 (by omega) hy2 hf2)))
              exact hl_42 _ k 0 C4 Q4 rfl (by omega) (by omega) (by omega) (by exact hB) (by exact hq0) (by exact hx0) (by exact hp) (by intro z a b; omega)
        exact hl_34 _ 1 0 C (updI (σ 202) 0 x) rfl (by omega) (by omega) (by omega) (by exact BFS_init hx updI_eq hm (fun z a b w => w (hC z a (by omega)))) (by intro j j0 j1; rw [show j = 0 by omega, updI_eq]; exact ⟨fun _ => rfl, fun _ => hm⟩) (by exact updI_eq) (by intro i z a b; omega)
      · skip
        refine w_aload_n (pc' := 11) (i := 0) (by rfl) (by rfl) dX12_finds_10 rfl ?_
        refine w_getS (pc' := 14) (q := 201) fg_X12_223 kd_133 sf_X12_104 gr_133_104 dX12_finds_11 rfl ?_
        refine w_iload_n (pc' := 15) (i := 2) (by rfl) (by rfl) dX12_finds_14 rfl ?_
        refine w_iconst (pc' := 16) (by decide) dX12_finds_15 rfl ?_
        refine w_iast (pc' := 17) kd_201 (by omega) (by omega) dX12_finds_16 rfl ?_
        refine Wp.heq (σ' := gUr σ 201 (updI C i (-1))) gUp_row ?_
        refine v_iinc (pc' := 20) (x := i) (ls' := [gR 133, gI x, gI (i + 1), gX 1, gX 1]) (by omega) (by decide) (by rfl) (by rfl) dX12_finds_17 rfl ?_
        refine w_goto (pc' := 2) dX12_finds_20 rfl ?_
        exact ih_2 _ (by omega) (i + 1) (updI C i (-1)) rfl (by omega) (by omega) (by intro z a b; by_cases e : z = i; (rw [e, updI_eq]); rw [updI_ne e]; exact hC z a (by omega))
  refine Wp.heq (σ' := gUr σ 201 (σ 201)) gUr_id.symm ?_
  exact hl_2 _ 0 (σ 201) rfl (by omega) (by omega) (by intro z a b; omega)
