/-! joined: the reference's search and change (gen/mod_jom.py) -/
section JOM
variable {E G lo : Int} {F : Int → Int → Prop} {Y : Int → Prop}
theorem BFS.cong {M N q cb : Int → Int} {k : Int} {V V' : Int → Prop} (h : BFS E G F Y lo M N q cb k V) (hv : ∀ z, V z ↔ V' z) : BFS E G F Y lo M N q cb k V' := by
  have e : V = V' := funext fun z => propext (hv z)
  rw [← e]; exact h
theorem BFS_cb {M N q cb : Int → Int} {k g v : Int} {V : Int → Prop} (h : BFS E G F Y lo M N q cb k V) (hV : ¬ V g) : BFS E G F Y lo M N q (updI cb g v) k V := by
  refine ⟨h.1, h.2.1, fun i i0 i1 => ?_, h.2.2.2⟩
  rcases h.2.2.1 i i0 i1 with a | ⟨w, j, j0, j1, a, b, y⟩
  · exact Or.inl a
  · have ng : M (q i) ≠ g := fun e => hV (e ▸ w)
    exact Or.inr ⟨w, j, j0, j1, by rw [updI_ne ng]; exact a, b, y⟩
theorem BFS_init {M N q cb : Int → Int} {x : Int} {V : Int → Prop} (hx : lo ≤ x ∧ x < E) (hq : q 0 = x) (hm : M x = -1) (hV : ∀ z, 0 ≤ z → z < G → ¬ V z) : BFS E G F Y lo M N q cb 1 V :=
  ⟨fun i i0 i1 => by rw [show i = 0 by omega, hq]; exact hx, fun i j i0 i1 j0 j1 _ => by omega, fun i i0 i1 => Or.inl (by rw [show i = 0 by omega, hq]; exact hm), fun g g0 g1 hv => absurd hv (hV g g0 g1)⟩
/-- a gift more is seen and stands as seen -/
theorem BFS_see {M N q cb : Int → Int} {k g c : Int} (h : BFS E G F Y lo M N q cb k (fun z => cb z ≠ -1)) (hN : MN E G M N) (hlo : 0 ≤ lo) (hk : 0 ≤ k) (hg : 0 ≤ g ∧ g < G) (hY : Y g) (hV : cb g = -1) (hn : N g ≠ -1) (hl : lo ≤ N g) (hc : 0 ≤ c ∧ c < k) (hF : F (q c) g) :
    BFS E G F Y lo M N (updI q k (N g)) (updI cb g (q c)) (k + 1) (fun z => updI cb g (q c) z ≠ -1) := by
  refine (BFS_push h hN hk hg hY (fun a => a hV) hn hl hc hF).cong fun z => ?_
  have q0 := h.1 c hc.1 hc.2
  by_cases e : z = g
  · rw [e, updI_eq]
    exact ⟨fun _ => by omega, fun _ => Or.inr rfl⟩
  · rw [updI_ne e]
    exact ⟨fun a => a.resolve_right e, Or.inl⟩
end JOM
set_option maxHeartbeats 4000000 in
theorem q_change {σ : gH} {E G lo : Int} {F : Int → Int → Prop} {Y : Int → Prop} (hE : 0 ≤ E ∧ E ≤ 100) (hG : 0 ≤ G ∧ G ≤ 120) (hlo : 0 ≤ lo) {M0 N0 : Int → Int} {k : Int} {V : Int → Prop} (g0 x i0 : Int) (hM0 : MT E G F M0) (hB : BFS E G F Y lo M0 N0 (σ 202) (σ 201) k V) (hmid : MID E G F Y lo M0 (σ 202) (σ 201) k g0 i0 (σ 199) (σ 200)) (hx : ∀ j, 0 ≤ j → j < k → (M0 (σ 202 j) = -1 ↔ σ 202 j = x)) : Mt mX12_change 0 [gR 133, gI g0, gI x] σ (fun v σ' => v = gX 1 ∧ ∃ M N, σ' = gUr (gUr σ 199 M) 200 N ∧ AUG E G F Y lo M0 x M N) := by
  refine Mt.walk (ls := [gR 133, gI g0, gI x, gX 1, gX 1, gX 1, gX 1]) pn_X12 rfl (fun _ _ h => by cases h.1) (Nat.le_of_ble_eq_true rfl) rfl ?_
  refine w_iload_n (pc' := 1) (i := 1) (by rfl) (by rfl) dX12_change_0 rfl ?_
  refine w_istore_n (pc' := 2) (i := 3) (ls' := [gR 133, gI g0, gI x, gI g0, gX 1, gX 1, gX 1]) (by rfl) (by decide) (by rfl) dX12_change_1 rfl ?_
  refine w_iconst (pc' := 3) (by decide) dX12_change_2 rfl ?_
  refine w_istore (pc' := 5) (ls' := [gR 133, gI g0, gI x, gI g0, gI 1, gX 1, gX 1]) (by decide) (by rfl) dX12_change_3 rfl ?_
  have hl_5 : ∀ (mm : Nat) (g m i : Int) (M N : Int → Int), (i + m).toNat = mm → (m = 0 ∨ m = 1) → (m = 1 → MID E G F Y lo M0 (σ 202) (σ 201) k g i M N) → (m = 0 → AUG E G F Y lo M0 x M N) → Wp mX12_change 0 (fun v σ' => v = gX 1 ∧ ∃ M N, σ' = gUr (gUr σ 199 M) 200 N ∧ AUG E G F Y lo M0 x M N) (gUr (gUr σ 199 M) 200 N) 5 [gR 133, gI g0, gI x, gI g, gI m, gX 1, gX 1] [] := by
    intro m_5
    induction m_5 using Nat.strongRecOn with
    | _ m_5 ih_5 =>
      intro g m i M N hmeas_5 hm h1 h0
      refine w_iload (pc' := 7) (by rfl) dX12_change_5 rfl ?_
      refine w_if_eq (pc' := 10) (t := 62) dX12_change_7 rfl rfl (fun c_7 => ?_) (fun c_7 => ?_)
      · skip
        refine w_return rfl dX12_change_62 ?_
        exact ⟨rfl, M, N, rfl, h0 (by omega)⟩
      · skip
        have m1 : m = 1 := by omega
        have hmd := h1 m1
        have hst : ∀ _ : Unit, _ := fun _ => MID_step hM0 hB hlo hmd
        have hq := (hst ()).1
        have mq := (hst ()).2.1
        have eb : σ 201 g = σ 202 i := hmd.2.1.2.2.1
        have hgr := hmd.1
        refine w_aload_n (pc' := 11) (i := 0) (by rfl) (by rfl) dX12_change_10 rfl ?_
        refine w_getS (pc' := 14) (q := 201) fg_X12_223 kd_133 sf_X12_104 gr_133_104 dX12_change_11 rfl ?_
        refine w_iload_n (pc' := 15) (i := 3) (by rfl) (by rfl) dX12_change_14 rfl ?_
        refine w_iald (pc' := 16) kd_201 (by omega) (by omega) dX12_change_15 rfl ?_
        show Wp _ _ _ _ _ _ [gI (σ 201 g)]
        rw [eb]
        refine w_istore (pc' := 18) (ls' := [gR 133, gI g0, gI x, gI g, gI m, gI (σ 202 i), gX 1]) (by decide) (by rfl) dX12_change_16 rfl ?_
        refine w_aload_n (pc' := 19) (i := 0) (by rfl) (by rfl) dX12_change_18 rfl ?_
        refine w_getS (pc' := 22) (q := 199) fg_X12_217 kd_133 sf_X12_102 gr_133_102 dX12_change_19 rfl ?_
        refine w_iload (pc' := 24) (by rfl) dX12_change_22 rfl ?_
        refine w_iald (pc' := 25) kd_199 (by omega) (by omega) dX12_change_24 rfl ?_
        show Wp _ _ _ _ _ _ [gI (M (σ 202 i))]
        refine w_istore (pc' := 27) (ls' := [gR 133, gI g0, gI x, gI g, gI m, gI (σ 202 i), gI (M (σ 202 i))]) (by decide) (by rfl) dX12_change_25 rfl ?_
        refine w_aload_n (pc' := 28) (i := 0) (by rfl) (by rfl) dX12_change_27 rfl ?_
        refine w_getS (pc' := 31) (q := 199) fg_X12_217 kd_133 sf_X12_102 gr_133_102 dX12_change_28 rfl ?_
        refine w_iload (pc' := 33) (by rfl) dX12_change_31 rfl ?_
        refine w_iload_n (pc' := 34) (i := 3) (by rfl) (by rfl) dX12_change_33 rfl ?_
        refine w_iast (pc' := 35) kd_199 (by omega) (by omega) dX12_change_34 rfl ?_
        refine Wp.heq (σ' := gUr (gUr σ 199 (updI M (σ 202 i) g)) 200 N) ((gUp_cr (by decide)).trans (congrArg (fun z => gUr z 200 N) gUp_row)) ?_
        refine w_aload_n (pc' := 36) (i := 0) (by rfl) (by rfl) dX12_change_35 rfl ?_
        refine w_getS (pc' := 39) (q := 200) fg_X12_220 kd_133 sf_X12_103 gr_133_103 dX12_change_36 rfl ?_
        refine w_iload_n (pc' := 40) (i := 3) (by rfl) (by rfl) dX12_change_39 rfl ?_
        refine w_iload (pc' := 42) (by rfl) dX12_change_40 rfl ?_
        refine w_iast (pc' := 43) kd_200 (by omega) (by omega) dX12_change_42 rfl ?_
        refine Wp.heq (σ' := gUr (gUr σ 199 (updI M (σ 202 i) g)) 200 (updI N g (σ 202 i))) gUp_row ?_
        refine w_iload (pc' := 45) (by rfl) dX12_change_43 rfl ?_
        refine w_iload_n (pc' := 46) (i := 2) (by rfl) (by rfl) dX12_change_45 rfl ?_
        refine w_icmp_eq (pc' := 49) (t := 53) dX12_change_46 rfl rfl (fun c_46 => ?_) (fun c_46 => ?_)
        · skip
          refine w_iconst (pc' := 54) (by decide) dX12_change_53 rfl ?_
          refine w_istore (pc' := 56) (ls' := [gR 133, gI g0, gI x, gI g, gI 0, gI (σ 202 i), gI (M (σ 202 i))]) (by decide) (by rfl) dX12_change_54 rfl ?_
          refine w_iload (pc' := 58) (by rfl) dX12_change_56 rfl ?_
          refine w_istore_n (pc' := 59) (i := 3) (ls' := [gR 133, gI g0, gI x, gI (M (σ 202 i)), gI 0, gI (σ 202 i), gI (M (σ 202 i))]) (by rfl) (by decide) (by rfl) dX12_change_58 rfl ?_
          refine w_goto (pc' := 5) dX12_change_59 rfl ?_
          refine Wp.lose (ls' := [gR 133, gI g0, gI x, gI (M (σ 202 i)), gI 0, gX 1, gX 1]) ⟨.inr rfl, ⟨.inr rfl, ⟨.inr rfl, ⟨.inr rfl, ⟨.inr rfl, ⟨.inl rfl, ⟨.inl rfl, trivial⟩⟩⟩⟩⟩⟩⟩ ?_
          have ha := (hst ()).2.2.1 (by rw [mq]; exact (hx i hmd.2.1.1 hmd.2.1.2.1).mpr c_46)
          exact ih_5 _ (by have := hmd.2.1.1; omega) (M (σ 202 i)) 0 i (updI M (σ 202 i) g) (updI N g (σ 202 i)) rfl (by omega) (by first | omega | (intro _; exact hj)) (by first | omega | (intro _; rw [c_46] at ha ⊢; exact ha))
        · skip
          refine w_iconst (pc' := 50) (by decide) dX12_change_49 rfl ?_
          refine w_goto (pc' := 54) dX12_change_50 rfl ?_
          refine w_istore (pc' := 56) (ls' := [gR 133, gI g0, gI x, gI g, gI 1, gI (σ 202 i), gI (M (σ 202 i))]) (by decide) (by rfl) dX12_change_54 rfl ?_
          refine w_iload (pc' := 58) (by rfl) dX12_change_56 rfl ?_
          refine w_istore_n (pc' := 59) (i := 3) (ls' := [gR 133, gI g0, gI x, gI (M (σ 202 i)), gI 1, gI (σ 202 i), gI (M (σ 202 i))]) (by rfl) (by decide) (by rfl) dX12_change_58 rfl ?_
          refine w_goto (pc' := 5) dX12_change_59 rfl ?_
          refine Wp.lose (ls' := [gR 133, gI g0, gI x, gI (M (σ 202 i)), gI 1, gX 1, gX 1]) ⟨.inr rfl, ⟨.inr rfl, ⟨.inr rfl, ⟨.inr rfl, ⟨.inr rfl, ⟨.inl rfl, ⟨.inl rfl, trivial⟩⟩⟩⟩⟩⟩⟩ ?_
          obtain ⟨j, j0, j1, hj⟩ := ((hst ()).2.2.2 (by rw [mq]; intro e; exact c_46 ((hx i hmd.2.1.1 hmd.2.1.2.1).mp e))).2
          exact ih_5 _ (by have := hmd.2.1.1; omega) (M (σ 202 i)) 1 j (updI M (σ 202 i) g) (updI N g (σ 202 i)) rfl (by omega) (by first | omega | (intro _; exact hj)) (by first | omega | (intro _; rw [c_46] at ha ⊢; exact ha))
  refine Wp.heq (σ' := gUr (gUr σ 199 (σ 199)) 200 (σ 200)) (show σ = gUr (gUr σ 199 (σ 199)) 200 ((gUr σ 199 (σ 199)) 200) by rw [gUr_id, gUr_id]) ?_
  exact hl_5 _ g0 1 i0 (σ 199) (σ 200) rfl (by omega) (by intro _; exact hmid) (by omega)
