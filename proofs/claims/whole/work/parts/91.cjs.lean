/-! joined: the class searches and shifts (gen/mod_cjs.py) -/
/-- the gifts seen: open, and not unseen any more -/
def VU (Y : Int → Prop) (U : Int → Int) (z : Int) : Prop := (0 ≤ z ∧ z < 120) ∧ Y z ∧ ¬ oBt U z
theorem VU_clr {Y : Int → Prop} {U : Int → Int} {g : Int} (g0 : 0 ≤ g) (g1 : g < 120) (hY : Y g) (z : Int) : (VU Y U z ∨ z = g) ↔ VU Y (updI U (w32 (Int.tdiv g 64)) (gB64 (fun a b => a &&& b) (U (w32 (Int.tdiv g 64))) (gB64 (fun a b => a ^^^ b) (gS64 (fun a b => a <<< b) 1 (w32 (Int.tmod g 64))) (-1)))) z := by
  unfold VU
  constructor
  · rintro (⟨a, b, c⟩ | rfl)
    · exact ⟨a, b, fun k => c ((oBt_clr g0 g1 a.1 a.2).mp k).1⟩
    · exact ⟨⟨g0, g1⟩, hY, fun k => ((oBt_clr g0 g1 g0 g1).mp k).2 rfl⟩
  · rintro ⟨a, b, c⟩
    by_cases d : z = g
    · exact Or.inr d
    · exact Or.inl ⟨a, b, fun k => c ((oBt_clr g0 g1 a.1 a.2).mpr ⟨k, d⟩)⟩
theorem oBt_cp {R O : Int → Int} {z : Int} (h0 : 0 ≤ z) (h1 : z < 120) : oBt (cpR R O 2) z ↔ oBt O z := by
  have m := hfmd h0 h1
  unfold oBt cpR
  rw [if_pos (by omega)]
theorem kj_await {σ : gH} (x : Int) (hx : 0 ≤ x ∧ x < 100) (hw : 0 ≤ σ 112 16 ∧ σ 112 16 < 100) : Mt mX6_await 0 [gR 112, gI x] σ (rE (gX 1) (gUp (gUp σ 124 (σ 112 16) x) 112 16 (σ 112 16 + 1))) := by
  refine Mt.walk (ls := [gR 112, gI x]) pn_X6 rfl (fun _ _ h => by cases h.1) (Nat.le_of_ble_eq_true rfl) rfl ?_
  refine w_aload_n (pc' := 1) (i := 0) (by rfl) (by rfl) dX6_await_0 rfl ?_
  refine v_getI (pc' := 4) (ji := 16) rfl fg_X6_147 kd_112 dX6_await_1 rfl ?_
  refine w_if_lt (pc' := 7) (t := 36) dX6_await_4 rfl rfl (fun c_4 => ?_) (fun c_4 => ?_)
  · skip
    refine w_return rfl dX6_await_36 ?_
    first | (exfalso; omega) | exact ⟨rfl, rfl⟩
  · skip
    refine w_aload_n (pc' := 8) (i := 0) (by rfl) (by rfl) dX6_await_7 rfl ?_
    refine v_getI (pc' := 11) (ji := 16) rfl fg_X6_147 kd_112 dX6_await_8 rfl ?_
    refine w_bipush (pc' := 13) (by decide) (by decide) dX6_await_11 rfl ?_
    refine w_icmp_ge (pc' := 16) (t := 36) dX6_await_13 rfl rfl (fun c_13 => ?_) (fun c_13 => ?_)
    · skip
      refine w_return rfl dX6_await_36 ?_
      first | (exfalso; omega) | exact ⟨rfl, rfl⟩
    · skip
      refine w_aload_n (pc' := 17) (i := 0) (by rfl) (by rfl) dX6_await_16 rfl ?_
      refine w_getS (pc' := 20) (q := 124) fg_X6_46 kd_112 sf_X6_15 gr_112_15 dX6_await_17 rfl ?_
      refine w_aload_n (pc' := 21) (i := 0) (by rfl) (by rfl) dX6_await_20 rfl ?_
      refine v_getI (pc' := 24) (ji := 16) rfl fg_X6_147 kd_112 dX6_await_21 rfl ?_
      refine w_iload_n (pc' := 25) (i := 1) (by rfl) (by rfl) dX6_await_24 rfl ?_
      refine w_iast (pc' := 26) kd_124 (by omega) (by omega) dX6_await_25 rfl ?_
      refine w_aload_n (pc' := 27) (i := 0) (by rfl) (by rfl) dX6_await_26 rfl ?_
      refine w_dup (pc' := 28) dX6_await_27 rfl ?_
      refine v_getI (pc' := 31) (ji := 16) rfl fg_X6_147 kd_112 dX6_await_28 rfl ?_
      show Wp _ _ _ _ _ _ [gI (σ 112 16), gR 112]
      refine w_iconst (pc' := 32) (by decide) dX6_await_31 rfl ?_
      refine v_iadd (pc' := 33) (by omega) dX6_await_32 rfl ?_
      refine v_putI (pc' := 36) (ji := 16) rfl fp_X6_147 kd_112 sf_X6_16 dX6_await_33 rfl ?_
      refine w_return rfl dX6_await_36 ?_
      first | (exfalso; omega) | exact ⟨rfl, rfl⟩
set_option maxHeartbeats 4000000 in
theorem kj_shift {σ : gH} {E lo : Int} {F : Int → Int → Prop} {Y : Int → Prop} (hE : 0 ≤ E ∧ E ≤ 100) (hlo : 0 ≤ lo) {M0 N0 : Int → Int} {k : Int} {V : Int → Prop} (g0 i0 : Int) (hsz : σ 112 8 = E) (hk : k ≤ 100) (hM0 : MT E 120 F M0) (hB : BFS E 120 F Y lo M0 N0 (σ 124) (σ 123) k V) (hmid : MID E 120 F Y lo M0 (σ 124) (σ 123) k g0 i0 (σ 121) (σ 122)) : Mt mX6_shift 2 [gR 112, gI g0] σ (fun v σ' => v = gX 1 ∧ ∃ M N x, σ' = gUr (gUr σ 121 M) 122 N ∧ AUG E 120 F Y lo M0 x M N) := by
  refine Mt.walk (ls := [gR 112, gI g0, gX 1, gX 1, gX 1, gX 1]) pn_X6 rfl (fun _ _ h => by cases h.1) (Nat.le_of_ble_eq_true rfl) rfl ?_
  have hi0 := hmid.2.1.1
  have hi1 := hmid.2.1.2.1
  refine w_iload_n (pc' := 1) (i := 1) (by rfl) (by rfl) dX6_shift_0 rfl ?_
  refine w_istore_n (pc' := 2) (i := 2) (ls' := [gR 112, gI g0, gI g0, gX 1, gX 1, gX 1]) (by rfl) (by decide) (by rfl) dX6_shift_1 rfl ?_
  refine w_iconst (pc' := 3) (by decide) dX6_shift_2 rfl ?_
  refine w_istore_n (pc' := 4) (i := 3) (ls' := [gR 112, gI g0, gI g0, gI 0, gX 1, gX 1]) (by rfl) (by decide) (by rfl) dX6_shift_3 rfl ?_
  have hl_4 : ∀ (mm : Nat) (g n i : Int) (M N : Int → Int), (100 - n).toNat = mm → (0 ≤ n) → (0 ≤ g → MID E 120 F Y lo M0 (σ 124) (σ 123) k g i M N ∧ n + i ≤ 99) → (g < 0 → ∃ x, AUG E 120 F Y lo M0 x M N) → Wp mX6_shift 2 (fun v σ' => v = gX 1 ∧ ∃ M N x, σ' = gUr (gUr σ 121 M) 122 N ∧ AUG E 120 F Y lo M0 x M N) (gUr (gUr σ 121 M) 122 N) 4 [gR 112, gI g0, gI g, gI n, gX 1, gX 1] [] := by
    intro m_4
    induction m_4 using Nat.strongRecOn with
    | _ m_4 ih_4 =>
      intro g n i M N hmeas_4 n0 h1 h0
      refine w_iload_n (pc' := 5) (i := 3) (by rfl) (by rfl) dX6_shift_4 rfl ?_
      refine w_bipush (pc' := 7) (by decide) (by decide) dX6_shift_5 rfl ?_
      refine w_icmp_ge (pc' := 10) (t := 49) dX6_shift_7 rfl rfl (fun c_7 => ?_) (fun c_7 => ?_)
      · skip
        refine w_return rfl dX6_shift_49 ?_
        by_cases c : g < 0
        · obtain ⟨x, hx⟩ := h0 c
          exact ⟨rfl, M, N, x, rfl, hx⟩
        · exfalso
          have w := h1 (by omega)
          have w1 := w.1.1
          have w2 := w.1.2.1.1
          omega
      · skip
        refine w_iload_n (pc' := 11) (i := 2) (by rfl) (by rfl) dX6_shift_10 rfl ?_
        refine v_callSE (pc' := 14) (st' := [gI (gb (0 ≤ g ∧ g < 120))]) (d' := 0) (av := [gI g]) ms_mX6_isGift st_mX6_isGift lk_X6_138 rfl rfl (Nat.le_of_ble_eq_true rfl) (Nat.le_of_ble_eq_true rfl) dX6_shift_11 rfl rfl (kj_isGift (gUr (gUr σ 121 M) 122 N) g) ?_
        refine v_if_eqB (pc' := 17) (t := 49) dX6_shift_14 rfl rfl (fun c_14 => ?_) (fun c_14 => ?_)
        · skip
          refine w_return rfl dX6_shift_49 ?_
          by_cases c : g < 0
          · obtain ⟨x, hx⟩ := h0 c
            exact ⟨rfl, M, N, x, rfl, hx⟩
          · exfalso
            have w := h1 (by omega)
            have w1 := w.1.1
            have w2 := w.1.2.1.1
            omega
        · skip
          have hmd := (h1 (by omega)).1
          have hni := (h1 (by omega)).2
          have hst : ∀ _ : Unit, _ := fun _ => MID_step hM0 hB hlo hmd
          have hq := (hst ()).1
          have mq := (hst ()).2.1
          have eb : σ 123 g = σ 124 i := hmd.2.1.2.2.1
          have hgr := hmd.1
          have hi9 := hmd.2.1.1
          refine w_aload_n (pc' := 18) (i := 0) (by rfl) (by rfl) dX6_shift_17 rfl ?_
          refine w_getS (pc' := 21) (q := 123) fg_X6_43 kd_112 sf_X6_14 gr_112_14 dX6_shift_18 rfl ?_
          refine w_iload_n (pc' := 22) (i := 2) (by rfl) (by rfl) dX6_shift_21 rfl ?_
          refine w_iald (pc' := 23) kd_123 (by omega) (by omega) dX6_shift_22 rfl ?_
          show Wp _ _ _ _ _ _ [gI (σ 123 g)]
          rw [eb]
          refine w_istore (pc' := 25) (ls' := [gR 112, gI g0, gI g, gI n, gI (σ 124 i), gX 1]) (by decide) (by rfl) dX6_shift_23 rfl ?_
          refine w_aload_n (pc' := 26) (i := 0) (by rfl) (by rfl) dX6_shift_25 rfl ?_
          refine w_iload (pc' := 28) (by rfl) dX6_shift_26 rfl ?_
          refine v_callVE (pc' := 31) (st' := [gI (M (σ 124 i))]) (d' := 1) (av := [gI (σ 124 i)]) mi_mX6_giftJoined lk_X6_150 rfl ci_X6 kd_112 rfl (Nat.le_of_ble_eq_true rfl) (Nat.le_of_ble_eq_true rfl) dX6_shift_28 rfl rfl (kj_giftJoined (σ := gUr (gUr σ 121 M) 122 N) (σ 124 i) (by omega) (show (σ 124 i) < σ 112 8 from by omega)) ?_
          refine w_istore (pc' := 33) (ls' := [gR 112, gI g0, gI g, gI n, gI (σ 124 i), gI (M (σ 124 i))]) (by decide) (by rfl) dX6_shift_31 rfl ?_
          refine w_aload_n (pc' := 34) (i := 0) (by rfl) (by rfl) dX6_shift_33 rfl ?_
          refine w_iload (pc' := 36) (by rfl) dX6_shift_34 rfl ?_
          refine w_iload_n (pc' := 37) (i := 2) (by rfl) (by rfl) dX6_shift_36 rfl ?_
          refine w_callV (pc' := 40) (d' := 1) (av := [gI (σ 124 i), gI g]) mi_mX6_put lk_X6_166 rfl ci_X6 kd_112 rfl (Nat.le_of_ble_eq_true rfl) (Nat.le_of_ble_eq_true rfl) dX6_shift_37 rfl (kj_put (σ := gUr (gUr σ 121 M) 122 N) (σ 124 i) g (by omega) (show (σ 124 i) < σ 112 8 from by omega) (by omega)) (fun v_37 σ_37 q_37 => ?_)
          obtain ⟨rfl, rfl⟩ := q_37
          refine Wp.heq (σ' := gUr (gUr σ 121 (updI M (σ 124 i) g)) 122 (updI N g (σ 124 i))) ((congrArg (fun z => gUp z 122 g (σ 124 i)) ((gUp_cr (by decide)).trans (congrArg (fun z => gUr z 122 N) gUp_row))).trans gUp_row) ?_
          show Wp _ _ _ _ _ _ []
          refine w_iload (pc' := 42) (by rfl) dX6_shift_40 rfl ?_
          refine w_istore_n (pc' := 43) (i := 2) (ls' := [gR 112, gI g0, gI (M (σ 124 i)), gI n, gI (σ 124 i), gI (M (σ 124 i))]) (by rfl) (by decide) (by rfl) dX6_shift_42 rfl ?_
          refine v_iinc (pc' := 46) (x := n) (ls' := [gR 112, gI g0, gI (M (σ 124 i)), gI (n + 1), gI (σ 124 i), gI (M (σ 124 i))]) (by omega) (by decide) (by rfl) (by rfl) dX6_shift_43 rfl ?_
          refine w_goto (pc' := 4) dX6_shift_46 rfl ?_
          refine Wp.lose (ls' := [gR 112, gI g0, gI (M (σ 124 i)), gI (n + 1), gX 1, gX 1]) ⟨.inr rfl, ⟨.inr rfl, ⟨.inr rfl, ⟨.inr rfl, ⟨.inl rfl, ⟨.inl rfl, trivial⟩⟩⟩⟩⟩⟩ ?_
          obtain ⟨j, hj1, hj0⟩ : ∃ j : Int, (0 ≤ M (σ 124 i) → MID E 120 F Y lo M0 (σ 124) (σ 123) k (M (σ 124 i)) j (updI M (σ 124 i) g) (updI N g (σ 124 i)) ∧ n + 1 + j ≤ 99) ∧ (M (σ 124 i) < 0 → ∃ x, AUG E 120 F Y lo M0 x (updI M (σ 124 i) g) (updI N g (σ 124 i))) := by
            by_cases c : M (σ 124 i) = -1
            · exact ⟨0, fun h => by omega, fun _ => ⟨_, (hst ()).2.2.1 c⟩⟩
            · obtain ⟨r, j, j0, j1, hj⟩ := (hst ()).2.2.2 c
              exact ⟨j, fun _ => ⟨hj, by omega⟩, fun h => by omega⟩
          exact ih_4 _ (by omega) (M (σ 124 i)) (n + 1) j (updI M (σ 124 i) g) (updI N g (σ 124 i)) rfl (by omega) (by exact hj1) (by exact hj0)
  refine Wp.heq (σ' := gUr (gUr σ 121 (σ 121)) 122 (σ 122)) (by rw [show gUr σ 121 (σ 121) = σ from gUr_id, show gUr σ 122 (σ 122) = σ from gUr_id]) ?_
  exact hl_4 _ g0 0 i0 (σ 121) (σ 122) rfl (by omega) (by intro _; exact ⟨hmid, by omega⟩) (by have := hmid.1.1; omega)
theorem rowsR {σ : gH} : σ = gUp (gUr (gUr (gUr σ 120 (σ 120)) 123 (σ 123)) 124 (σ 124)) 112 16 (σ 112 16) := by
  rw [show gUr σ 120 (σ 120) = σ from gUr_id, show gUr σ 123 (σ 123) = σ from gUr_id, show gUr σ 124 (σ 124) = σ from gUr_id, show gUp σ 112 16 (σ 112 16) = σ from gUp_id]
set_option maxHeartbeats 4000000 in
theorem kj_reach {σ : gH} {E lo : Int} {F : Int → Int → Prop} {Y : Int → Prop} (hE : 0 ≤ E ∧ E ≤ 100) (hlo : 0 ≤ lo) (hF : ∀ e g, 0 ≤ e → e < E → 0 ≤ g → g < 120 → (fBt (σ 118) e g ↔ F e g)) (hM : MT E 120 F (σ 121)) (hN : MN E 120 (σ 121) (σ 122)) (hYN : ∀ g, 0 ≤ g → g < 120 → Y g → σ 122 g = -1 ∨ lo ≤ σ 122 g) (hsz : σ 112 8 = E) (c : Int) (hc : 0 ≤ c ∧ c < σ 112 16) (hB0 : BFS E 120 F Y lo (σ 121) (σ 122) (σ 124) (σ 123) (σ 112 16) (VU Y (σ 120))) (hU0 : ∀ z, 0 ≤ z → z < 120 → oBt (σ 120) z → Y z) : Mt mX6_reachFrom 2 [gR 112, gI (σ 124 c)] σ (fun v σ' => ∃ (v0 : Int) (U C Q : Int → Int) (w : Int), v = gI v0 ∧ σ' = gUp (gUr (gUr (gUr σ 120 U) 123 C) 124 Q) 112 16 w ∧ σ 112 16 ≤ w ∧ (∀ i, 0 ≤ i → i < σ 112 16 → Q i = σ 124 i) ∧ (∀ z, 0 ≤ z → z < 120 → oBt U z → Y z ∧ oBt (σ 120) z) ∧ ((v0 = -1 ∧ BFS E 120 F Y lo (σ 121) (σ 122) Q C w (VU Y U) ∧ ∀ z, 0 ≤ z → z < 120 → Y z → F (σ 124 c) z → ¬ oBt U z) ∨ ((0 ≤ v0 ∧ v0 < 120) ∧ w ≤ 100 ∧ (∃ V, BFS E 120 F Y lo (σ 121) (σ 122) Q C w V) ∧ MID E 120 F Y lo (σ 121) Q C w v0 c (σ 121) (σ 122)))) := by
  refine Mt.walk (ls := [gR 112, gI (σ 124 c), gX 1]) pn_X6 rfl (fun _ _ h => by obtain ⟨_, _, _, _, _, h, _⟩ := h; cases h) (Nat.le_of_ble_eq_true rfl) rfl ?_
  refine w_iconst (pc' := 1) (by decide) dX6_reachFrom_0 rfl ?_
  refine w_istore_n (pc' := 2) (i := 2) (ls' := [gR 112, gI (σ 124 c), gI 0]) (by rfl) (by decide) (by rfl) dX6_reachFrom_1 rfl ?_
  have hl_2 : ∀ (mm : Nat) (g : Int) (U C Q : Int → Int) (w : Int), (120 - g).toNat = mm → (0 ≤ g) → (g ≤ 120) → (BFS E 120 F Y lo (σ 121) (σ 122) Q C w (VU Y U)) → (∀ z, 0 ≤ z → z < 120 → oBt U z → Y z ∧ oBt (σ 120) z) → (∀ i, 0 ≤ i → i < σ 112 16 → Q i = σ 124 i) → (σ 112 16 ≤ w) → (∀ z, 0 ≤ z → z < g → Y z → F (σ 124 c) z → ¬ oBt U z) → Wp mX6_reachFrom 2 (fun v σ' => ∃ (v0 : Int) (U C Q : Int → Int) (w : Int), v = gI v0 ∧ σ' = gUp (gUr (gUr (gUr σ 120 U) 123 C) 124 Q) 112 16 w ∧ σ 112 16 ≤ w ∧ (∀ i, 0 ≤ i → i < σ 112 16 → Q i = σ 124 i) ∧ (∀ z, 0 ≤ z → z < 120 → oBt U z → Y z ∧ oBt (σ 120) z) ∧ ((v0 = -1 ∧ BFS E 120 F Y lo (σ 121) (σ 122) Q C w (VU Y U) ∧ ∀ z, 0 ≤ z → z < 120 → Y z → F (σ 124 c) z → ¬ oBt U z) ∨ ((0 ≤ v0 ∧ v0 < 120) ∧ w ≤ 100 ∧ (∃ V, BFS E 120 F Y lo (σ 121) (σ 122) Q C w V) ∧ MID E 120 F Y lo (σ 121) Q C w v0 c (σ 121) (σ 122)))) (gUp (gUr (gUr (gUr σ 120 U) 123 C) 124 Q) 112 16 w) 2 [gR 112, gI (σ 124 c), gI g] [] := by
    intro m_2
    induction m_2 using Nat.strongRecOn with
    | _ m_2 ih_2 =>
      intro g U C Q w hmeas_2 g0 g1 hB hU hpr hw hd
      have wE := BFS_le hB hlo (by omega) hE.1
      have hqc := hB.1 c hc.1 (by omega)
      have eqc := hpr c hc.1 hc.2
      have hFg : ∀ _ : Unit, g < 120 → (fBt (σ 118) (σ 124 c) g ↔ F (σ 124 c) g) := fun _ h => hF (σ 124 c) g (by omega) (by omega) g0 h
      refine w_iload_n (pc' := 3) (i := 2) (by rfl) (by rfl) dX6_reachFrom_2 rfl ?_
      refine w_bipush (pc' := 5) (by decide) (by decide) dX6_reachFrom_3 rfl ?_
      refine w_icmp_ge (pc' := 8) (t := 78) dX6_reachFrom_5 rfl rfl (fun c_5 => ?_) (fun c_5 => ?_)
      · skip
        refine w_iconst (pc' := 79) (by decide) dX6_reachFrom_78 rfl ?_
        refine v_ireturn rfl dX6_reachFrom_79 ?_
        exact ⟨-1, U, C, Q, w, rfl, rfl, hw, hpr, hU, Or.inl ⟨rfl, hB, fun z a b => hd z a (by omega)⟩⟩
      · skip
        have hm := hfmd g0 (show g < 120 by omega)
        refine w_aload_n (pc' := 9) (i := 0) (by rfl) (by rfl) dX6_reachFrom_8 rfl ?_
        refine w_iload_n (pc' := 10) (i := 1) (by rfl) (by rfl) dX6_reachFrom_9 rfl ?_
        refine w_iload_n (pc' := 11) (i := 2) (by rfl) (by rfl) dX6_reachFrom_10 rfl ?_
        refine w_aload_n (pc' := 12) (i := 0) (by rfl) (by rfl) dX6_reachFrom_11 rfl ?_
        refine w_getS (pc' := 15) (q := 120) fg_X6_34 kd_112 sf_X6_11 gr_112_11 dX6_reachFrom_12 rfl ?_
        refine v_callVE (pc' := 18) (st' := [gI (inI (fBt (σ 118) (σ 124 c) g ∧ oBt U g))]) (d' := 1) (av := [gI (σ 124 c), gI g, gR 120]) mi_mX6_isChoice lk_X6_162 rfl ci_X6 kd_112 rfl (Nat.le_of_ble_eq_true rfl) (Nat.le_of_ble_eq_true rfl) dX6_reachFrom_15 rfl rfl (k_isChoice120 (σ := gUp (gUr (gUr (gUr σ 120 U) 123 C) 124 Q) 112 16 w) (σ 124 c) g (by omega) (show (σ 124 c) < σ 112 8 from by omega) (by omega)) ?_
        refine w_if_eq (pc' := 21) (t := 72) dX6_reachFrom_18 rfl rfl (fun c_18 => ?_) (fun c_18 => ?_)
        · skip
          refine v_iinc (pc' := 75) (x := g) (ls' := [gR 112, gI (σ 124 c), gI (g + 1)]) (by omega) (by decide) (by rfl) (by rfl) dX6_reachFrom_72 rfl ?_
          refine w_goto (pc' := 2) dX6_reachFrom_75 rfl ?_
          exact ih_2 _ (by omega) (g + 1) U C Q w rfl (by omega) (by omega) (by first | exact hB6 | exact hB) (by first | exact hU6 | exact hU) (by first | (intro i a b; rw [updI_ne (show i ≠ w by omega)]; exact hpr i a b) | exact hpr) (by omega) (by first | (intro z a b hy hf; by_cases e : z = g; (rw [e] at hf ⊢; exact fun k => inI_0.mp c_18 ⟨(hFg () (by omega)).mpr hf, k⟩); exact hd z a (by omega) hy hf) | (intro z a b hy hf; by_cases e : z = g; (rw [e]; exact fun k => ((oBt_clr g0 (by omega) g0 (by omega)).mp k).2 rfl); exact fun k => hd z a (by omega) hy hf ((oBt_clr g0 (by omega) a (by omega)).mp k).1))
        · skip
          have hch := inI_1 c_18
          have hf : F (σ 124 c) g := (hFg () (by omega)).mp hch.1
          have hy : Y g := (hU g g0 (by omega) hch.2).1
          have nv : ¬ VU Y U g := fun k => k.2.2 hch.2
          have hU6 : ∀ z, 0 ≤ z → z < 120 → oBt (updI U (w32 (Int.tdiv g 64)) (gB64 (fun a b => a &&& b) (U (w32 (Int.tdiv g 64))) (gB64 (fun a b => a ^^^ b) (gS64 (fun a b => a <<< b) 1 (w32 (Int.tmod g 64))) (-1)))) z → Y z ∧ oBt (σ 120) z := fun z a b k => hU z a b ((oBt_clr g0 (by omega) a b).mp k).1
          have hqF : F (Q c) g := by rw [eqc]; exact hf
          refine w_aload_n (pc' := 22) (i := 0) (by rfl) (by rfl) dX6_reachFrom_21 rfl ?_
          refine w_getS (pc' := 25) (q := 120) fg_X6_34 kd_112 sf_X6_11 gr_112_11 dX6_reachFrom_22 rfl ?_
          refine w_iload_n (pc' := 26) (i := 2) (by rfl) (by rfl) dX6_reachFrom_25 rfl ?_
          refine w_bipush (pc' := 28) (by decide) (by decide) dX6_reachFrom_26 rfl ?_
          refine w_idiv (pc' := 29) (by omega) dX6_reachFrom_28 rfl ?_
          refine w_dup2 (pc' := 30) dX6_reachFrom_29 rfl ?_
          refine w_lald (pc' := 31) kd_120 (by omega) (by omega) dX6_reachFrom_30 rfl ?_
          show Wp _ _ _ _ _ _ [gJ (U (w32 (g.tdiv 64))), gI (w32 (g.tdiv 64)), gR 120]
          refine w_lconst (n := 1) (pc' := 32) (by decide) (by decide) dX6_reachFrom_31 rfl ?_
          refine w_iload_n (pc' := 33) (i := 2) (by rfl) (by rfl) dX6_reachFrom_32 rfl ?_
          refine w_bipush (pc' := 35) (by decide) (by decide) dX6_reachFrom_33 rfl ?_
          refine w_irem (pc' := 36) (by omega) dX6_reachFrom_35 rfl ?_
          refine w_lshl (pc' := 37) dX6_reachFrom_36 rfl ?_
          refine w_ldc2 (pc' := 40) (by decide) ct_X6_84 dX6_reachFrom_37 rfl ?_
          refine w_lxor (pc' := 41) dX6_reachFrom_40 rfl ?_
          refine w_land (pc' := 42) dX6_reachFrom_41 rfl ?_
          refine w_last (pc' := 43) kd_120 (by omega) (by omega) dX6_reachFrom_42 rfl ?_
          refine Wp.heq (σ' := gUp (gUr (gUr (gUr σ 120 (updI U (w32 (g.tdiv 64)) (gB64 (fun a b => a &&& b) (U (w32 (g.tdiv 64))) (gB64 (fun a b => a ^^^ b) (gS64 (fun a b => a <<< b) 1 (w32 (g.tmod 64))) (-1))))) 123 C) 124 Q) 112 16 w) ((gUp_cu (by decide)).trans (congrArg (fun z => gUp z 112 16 w) ((gUp_cr (by decide)).trans (congrArg (fun z => gUr z 124 Q) ((gUp_cr (by decide)).trans (congrArg (fun z => gUr z 123 C) gUp_row)))))) ?_
          refine w_aload_n (pc' := 44) (i := 0) (by rfl) (by rfl) dX6_reachFrom_43 rfl ?_
          refine w_getS (pc' := 47) (q := 123) fg_X6_43 kd_112 sf_X6_14 gr_112_14 dX6_reachFrom_44 rfl ?_
          refine w_iload_n (pc' := 48) (i := 2) (by rfl) (by rfl) dX6_reachFrom_47 rfl ?_
          refine w_iload_n (pc' := 49) (i := 1) (by rfl) (by rfl) dX6_reachFrom_48 rfl ?_
          refine w_iast (pc' := 50) kd_123 (by omega) (by omega) dX6_reachFrom_49 rfl ?_
          refine Wp.heq (σ' := gUp (gUr (gUr (gUr σ 120 (updI U (w32 (g.tdiv 64)) (gB64 (fun a b => a &&& b) (U (w32 (g.tdiv 64))) (gB64 (fun a b => a ^^^ b) (gS64 (fun a b => a <<< b) 1 (w32 (g.tmod 64))) (-1))))) 123 (updI C g (σ 124 c))) 124 Q) 112 16 w) ((gUp_cu (by decide)).trans (congrArg (fun z => gUp z 112 16 w) ((gUp_cr (by decide)).trans (congrArg (fun z => gUr z 124 Q) gUp_row)))) ?_
          refine w_aload_n (pc' := 51) (i := 0) (by rfl) (by rfl) dX6_reachFrom_50 rfl ?_
          refine w_getS (pc' := 54) (q := 122) fg_X6_40 kd_112 sf_X6_13 gr_112_13 dX6_reachFrom_51 rfl ?_
          refine w_iload_n (pc' := 55) (i := 2) (by rfl) (by rfl) dX6_reachFrom_54 rfl ?_
          refine w_iald (pc' := 56) kd_122 (by omega) (by omega) dX6_reachFrom_55 rfl ?_
          show Wp _ _ _ _ _ _ [gI (σ 122 g)]
          refine w_iconst (pc' := 57) (by decide) dX6_reachFrom_56 rfl ?_
          refine w_icmp_ne (pc' := 60) (t := 62) dX6_reachFrom_57 rfl rfl (fun c_57 => ?_) (fun c_57 => ?_)
          · skip
            have hNg := (hN.1 g g0 (by omega)).resolve_left (show ¬ σ 122 g = -1 by omega)
            have hB6 : BFS E 120 F Y lo (σ 121) (σ 122) (updI Q w (σ 122 g)) (updI C g (σ 124 c)) (w + 1) (VU Y (updI U (w32 (Int.tdiv g 64)) (gB64 (fun a b => a &&& b) (U (w32 (Int.tdiv g 64))) (gB64 (fun a b => a ^^^ b) (gS64 (fun a b => a <<< b) 1 (w32 (Int.tmod g 64))) (-1))))) := by
              have k := (BFS_push hB hN (by omega) ⟨g0, by omega⟩ hy nv (show σ 122 g ≠ -1 by omega) ((hYN g g0 (by omega) hy).resolve_left (show ¬ σ 122 g = -1 by omega)) (show 0 ≤ c ∧ c < w by omega) hqF).cong (VU_clr g0 (by omega) hy)
              rw [eqc] at k
              exact k
            have wE6 := BFS_le hB6 hlo (by omega) hE.1
            refine w_aload_n (pc' := 63) (i := 0) (by rfl) (by rfl) dX6_reachFrom_62 rfl ?_
            refine w_aload_n (pc' := 64) (i := 0) (by rfl) (by rfl) dX6_reachFrom_63 rfl ?_
            refine w_getS (pc' := 67) (q := 122) fg_X6_40 kd_112 sf_X6_13 gr_112_13 dX6_reachFrom_64 rfl ?_
            refine w_iload_n (pc' := 68) (i := 2) (by rfl) (by rfl) dX6_reachFrom_67 rfl ?_
            refine w_iald (pc' := 69) kd_122 (by omega) (by omega) dX6_reachFrom_68 rfl ?_
            show Wp _ _ _ _ _ _ [gI (σ 122 g), gR 112]
            refine w_callV (pc' := 72) (d' := 0) (av := [gI (σ 122 g)]) mi_mX6_await lk_X6_153 rfl ci_X6 kd_112 rfl (Nat.le_of_ble_eq_true rfl) (Nat.le_of_ble_eq_true rfl) dX6_reachFrom_69 rfl (kj_await (σ := gUp (gUr (gUr (gUr σ 120 (updI U (w32 (g.tdiv 64)) (gB64 (fun a b => a &&& b) (U (w32 (g.tdiv 64))) (gB64 (fun a b => a ^^^ b) (gS64 (fun a b => a <<< b) 1 (w32 (g.tmod 64))) (-1))))) 123 (updI C g (σ 124 c))) 124 Q) 112 16 w) (σ 122 g) (by omega) (show 0 ≤ w ∧ w < 100 by omega)) (fun v_69 σ_69 q_69 => ?_)
            obtain ⟨rfl, rfl⟩ := q_69
            refine Wp.heq (σ' := gUp (gUr (gUr (gUr σ 120 (updI U (w32 (g.tdiv 64)) (gB64 (fun a b => a &&& b) (U (w32 (g.tdiv 64))) (gB64 (fun a b => a ^^^ b) (gS64 (fun a b => a <<< b) 1 (w32 (g.tmod 64))) (-1))))) 123 (updI C g (σ 124 c))) 124 (updI Q w (σ 122 g))) 112 16 (w + 1)) ((congrArg (fun z => gUp z 112 16 (w + 1)) ((gUp_cu (by decide)).trans (congrArg (fun z => gUp z 112 16 w) gUp_row))).trans gUp_same) ?_
            show Wp _ _ _ _ _ _ []
            refine v_iinc (pc' := 75) (x := g) (ls' := [gR 112, gI (σ 124 c), gI (g + 1)]) (by omega) (by decide) (by rfl) (by rfl) dX6_reachFrom_72 rfl ?_
            refine w_goto (pc' := 2) dX6_reachFrom_75 rfl ?_
            exact ih_2 _ (by omega) (g + 1) (updI U (w32 (g.tdiv 64)) (gB64 (fun a b => a &&& b) (U (w32 (g.tdiv 64))) (gB64 (fun a b => a ^^^ b) (gS64 (fun a b => a <<< b) 1 (w32 (g.tmod 64))) (-1)))) (updI C g (σ 124 c)) (updI Q w (σ 122 g)) (w + 1) rfl (by omega) (by omega) (by first | exact hB6 | exact hB) (by first | exact hU6 | exact hU) (by first | (intro i a b; rw [updI_ne (show i ≠ w by omega)]; exact hpr i a b) | exact hpr) (by omega) (by first | (intro z a b hy hf; by_cases e : z = g; (rw [e] at hf ⊢; exact fun k => inI_0.mp c_18 ⟨(hFg () (by omega)).mpr hf, k⟩); exact hd z a (by omega) hy hf) | (intro z a b hy hf; by_cases e : z = g; (rw [e]; exact fun k => ((oBt_clr g0 (by omega) g0 (by omega)).mp k).2 rfl); exact fun k => hd z a (by omega) hy hf ((oBt_clr g0 (by omega) a (by omega)).mp k).1))
          · skip
            have hBc := BFS_cb (v := σ 124 c) hB nv
            have hmid := MID_start (lo := lo) (cb := updI C g (σ 124 c)) (q := Q) hM hN ⟨g0, by omega⟩ (show σ 122 g = -1 by omega) (show 0 ≤ c ∧ c < w by omega) (by rw [updI_eq, eqc]) hqF hy
            refine w_iload_n (pc' := 61) (i := 2) (by rfl) (by rfl) dX6_reachFrom_60 rfl ?_
            refine v_ireturn rfl dX6_reachFrom_61 ?_
            exact ⟨g, updI U (w32 (g.tdiv 64)) (gB64 (fun a b => a &&& b) (U (w32 (g.tdiv 64))) (gB64 (fun a b => a ^^^ b) (gS64 (fun a b => a <<< b) 1 (w32 (g.tmod 64))) (-1))), updI C g (σ 124 c), Q, w, rfl, rfl, hw, hpr, hU6, Or.inr ⟨⟨g0, by omega⟩, by omega, ⟨_, hBc⟩, hmid⟩⟩
  refine Wp.heq (σ' := gUp (gUr (gUr (gUr σ 120 (σ 120)) 123 (σ 123)) 124 (σ 124)) 112 16 (σ 112 16)) rowsR ?_
  exact hl_2 _ 0 (σ 120) (σ 123) (σ 124) (σ 112 16) rfl (by omega) (by omega) (by exact hB0) (by intro z a b h; exact ⟨hU0 z a b h, h⟩) (by intro i a b; rfl) (by omega) (by intro z a b; omega)
