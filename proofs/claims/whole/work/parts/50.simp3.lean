/-! feed, gift, fault, count (gen/mod_simp3.py) -/
def byt (n s : Int) : Int := gB32 (fun a b => a &&& b) (gB32 (fun a b => a >>> (b &&& 31)) n s) 255
def put4 (T : Int → Int) (L n : Int) : Int → Int := updI (updI (updI (updI T L (byt n 24)) (L + 1) (byt n 16)) (L + 1 + 1) (byt n 8)) (L + 1 + 1 + 1) (byt n 0)
/-- the tapes of both, up to a place -/
def TA (T' T : Int → Int) (L : Int) : Prop := ∀ i, 0 ≤ i → i < L → T' i = T i ∧ 0 ≤ T i ∧ T i ≤ 255
theorem TA.step {T' T : Int → Int} {L b : Int} (h : TA T' T L) (hb : 0 ≤ b ∧ b ≤ 255) : TA (updI T' L b) (updI T L b) (L + 1) := by
  intro i h0 h1
  by_cases e : i = L
  · rw [e, updI_eq, updI_eq]; exact ⟨rfl, hb⟩
  · rw [updI_ne e, updI_ne e]; exact h i h0 (by omega)
theorem TA.put {T' T : Int → Int} {L n : Int} (h : TA T' T L) : TA (put4 T' L n) (put4 T L n) (L + 1 + 1 + 1 + 1) := (((h.step (byte_in _)).step (byte_in _)).step (byte_in _)).step (byte_in _)
theorem k_put (σ : gH) (T : Int → Int) (L n : Int) (hL : 0 ≤ L ∧ L ≤ 536) : Mt mX11_putNumber 0 [gR 0, gI n] (gUr (gUp σ 0 1 L) 1 T) (rE (gX 1) (gUr (gUp σ 0 1 (L + 1 + 1 + 1 + 1)) 1 (put4 T L n))) := by
  refine Mt.walk (ls := [gR 0, gI n, gX 1]) pn_X11 rfl (fun _ _ h => by cases h.1) (Nat.le_of_ble_eq_true rfl) rfl ?_
  refine w_bipush (pc' := 2) (by decide) (by decide) dX11_putNumber_0 rfl ?_
  refine w_istore_n (pc' := 3) (i := 2) (ls' := [gR 0, gI n, gI 24]) (by rfl) (by decide) (by rfl) dX11_putNumber_2 rfl ?_
  refine w_iload_n (pc' := 4) (i := 2) (by rfl) (by rfl) dX11_putNumber_3 rfl ?_
  refine w_if_lt (pc' := 7) (t := 56) dX11_putNumber_4 rfl rfl (fun c_4 => ?_) (fun c_4 => ?_)
  · skip
    exact absurd c_4 (by decide)
  · skip
    refine w_aload_n (pc' := 8) (i := 0) (by rfl) (by rfl) dX11_putNumber_7 rfl ?_
    refine v_getI (pc' := 11) (ji := 1) rfl fg_X11_89 kd_0 dX11_putNumber_8 rfl ?_
    show Wp _ _ _ _ _ _ [gI L]
    refine w_if_lt (pc' := 14) (t := 50) dX11_putNumber_11 rfl rfl (fun c_11 => ?_) (fun c_11 => ?_)
    · skip
      refine v_iinc (pc' := 53) (x := 24) (ls' := [gR 0, gI n, gI 16]) (by omega) (by decide) (by rfl) (by rfl) dX11_putNumber_50 rfl ?_
      refine w_goto (pc' := 3) dX11_putNumber_53 rfl ?_
      refine w_iload_n (pc' := 4) (i := 2) (by rfl) (by rfl) dX11_putNumber_3 rfl ?_
      refine w_if_lt (pc' := 7) (t := 56) dX11_putNumber_4 rfl rfl (fun c_4 => ?_) (fun c_4 => ?_)
      · skip
        exact absurd c_4 (by decide)
      · skip
        refine w_aload_n (pc' := 8) (i := 0) (by rfl) (by rfl) dX11_putNumber_7 rfl ?_
        refine v_getI (pc' := 11) (ji := 1) rfl fg_X11_89 kd_0 dX11_putNumber_8 rfl ?_
        show Wp _ _ _ _ _ _ [gI L]
        refine w_if_lt (pc' := 14) (t := 50) dX11_putNumber_11 rfl rfl (fun c_11 => ?_) (fun c_11 => ?_)
        · skip
          refine v_iinc (pc' := 53) (x := 16) (ls' := [gR 0, gI n, gI 8]) (by omega) (by decide) (by rfl) (by rfl) dX11_putNumber_50 rfl ?_
          refine w_goto (pc' := 3) dX11_putNumber_53 rfl ?_
          refine w_iload_n (pc' := 4) (i := 2) (by rfl) (by rfl) dX11_putNumber_3 rfl ?_
          refine w_if_lt (pc' := 7) (t := 56) dX11_putNumber_4 rfl rfl (fun c_4 => ?_) (fun c_4 => ?_)
          · skip
            exact absurd c_4 (by decide)
          · skip
            refine w_aload_n (pc' := 8) (i := 0) (by rfl) (by rfl) dX11_putNumber_7 rfl ?_
            refine v_getI (pc' := 11) (ji := 1) rfl fg_X11_89 kd_0 dX11_putNumber_8 rfl ?_
            show Wp _ _ _ _ _ _ [gI L]
            refine w_if_lt (pc' := 14) (t := 50) dX11_putNumber_11 rfl rfl (fun c_11 => ?_) (fun c_11 => ?_)
            · skip
              refine v_iinc (pc' := 53) (x := 8) (ls' := [gR 0, gI n, gI 0]) (by omega) (by decide) (by rfl) (by rfl) dX11_putNumber_50 rfl ?_
              refine w_goto (pc' := 3) dX11_putNumber_53 rfl ?_
              refine w_iload_n (pc' := 4) (i := 2) (by rfl) (by rfl) dX11_putNumber_3 rfl ?_
              refine w_if_lt (pc' := 7) (t := 56) dX11_putNumber_4 rfl rfl (fun c_4 => ?_) (fun c_4 => ?_)
              · skip
                exact absurd c_4 (by decide)
              · skip
                refine w_aload_n (pc' := 8) (i := 0) (by rfl) (by rfl) dX11_putNumber_7 rfl ?_
                refine v_getI (pc' := 11) (ji := 1) rfl fg_X11_89 kd_0 dX11_putNumber_8 rfl ?_
                show Wp _ _ _ _ _ _ [gI L]
                refine w_if_lt (pc' := 14) (t := 50) dX11_putNumber_11 rfl rfl (fun c_11 => ?_) (fun c_11 => ?_)
                · skip
                  refine v_iinc (pc' := 53) (x := 0) (ls' := [gR 0, gI n, gI (-8)]) (by omega) (by decide) (by rfl) (by rfl) dX11_putNumber_50 rfl ?_
                  refine w_goto (pc' := 3) dX11_putNumber_53 rfl ?_
                  refine w_iload_n (pc' := 4) (i := 2) (by rfl) (by rfl) dX11_putNumber_3 rfl ?_
                  refine w_if_lt (pc' := 7) (t := 56) dX11_putNumber_4 rfl rfl (fun c_4 => ?_) (fun c_4 => ?_)
                  · skip
                    refine w_return rfl dX11_putNumber_56 ?_
                    first | (exfalso; omega) | exact ⟨rfl, rfl⟩
                  · skip
                    exact absurd c_4 (by decide)
                · skip
                  refine w_aload_n (pc' := 15) (i := 0) (by rfl) (by rfl) dX11_putNumber_14 rfl ?_
                  refine v_getI (pc' := 18) (ji := 1) rfl fg_X11_89 kd_0 dX11_putNumber_15 rfl ?_
                  show Wp _ _ _ _ _ _ [gI L]
                  refine w_sipush (pc' := 21) (by decide) (by decide) dX11_putNumber_18 rfl ?_
                  refine w_icmp_ge (pc' := 24) (t := 50) dX11_putNumber_21 rfl rfl (fun c_21 => ?_) (fun c_21 => ?_)
                  · skip
                    refine v_iinc (pc' := 53) (x := 0) (ls' := [gR 0, gI n, gI (-8)]) (by omega) (by decide) (by rfl) (by rfl) dX11_putNumber_50 rfl ?_
                    refine w_goto (pc' := 3) dX11_putNumber_53 rfl ?_
                    refine w_iload_n (pc' := 4) (i := 2) (by rfl) (by rfl) dX11_putNumber_3 rfl ?_
                    refine w_if_lt (pc' := 7) (t := 56) dX11_putNumber_4 rfl rfl (fun c_4 => ?_) (fun c_4 => ?_)
                    · skip
                      refine w_return rfl dX11_putNumber_56 ?_
                      first | (exfalso; omega) | exact ⟨rfl, rfl⟩
                    · skip
                      exact absurd c_4 (by decide)
                  · skip
                    refine w_aload_n (pc' := 25) (i := 0) (by rfl) (by rfl) dX11_putNumber_24 rfl ?_
                    refine w_getS (pc' := 28) (q := 1) fg_X11_9 kd_0 sf_X11_0 gr_0_0 dX11_putNumber_25 rfl ?_
                    refine w_aload_n (pc' := 29) (i := 0) (by rfl) (by rfl) dX11_putNumber_28 rfl ?_
                    refine v_getI (pc' := 32) (ji := 1) rfl fg_X11_89 kd_0 dX11_putNumber_29 rfl ?_
                    show Wp _ _ _ _ _ _ [gI L, gR 1]
                    refine w_iload_n (pc' := 33) (i := 1) (by rfl) (by rfl) dX11_putNumber_32 rfl ?_
                    refine w_iload_n (pc' := 34) (i := 2) (by rfl) (by rfl) dX11_putNumber_33 rfl ?_
                    refine w_ishr (pc' := 35) dX11_putNumber_34 rfl ?_
                    refine w_sipush (pc' := 38) (by decide) (by decide) dX11_putNumber_35 rfl ?_
                    refine w_iand (pc' := 39) dX11_putNumber_38 rfl ?_
                    refine w_iast (pc' := 40) kd_1 (by omega) (by omega) dX11_putNumber_39 rfl ?_
                    refine Wp.heq (σ' := gUr (gUp σ 0 1 L) 1 (updI T L (gB32 (fun a b => a &&& b) (gB32 (fun a b => a >>> (b &&& 31)) n 0) 255))) gUp_row ?_
                    refine w_aload_n (pc' := 41) (i := 0) (by rfl) (by rfl) dX11_putNumber_40 rfl ?_
                    refine w_dup (pc' := 42) dX11_putNumber_41 rfl ?_
                    refine v_getI (pc' := 45) (ji := 1) rfl fg_X11_89 kd_0 dX11_putNumber_42 rfl ?_
                    show Wp _ _ _ _ _ _ [gI L, gR 0]
                    refine w_iconst (pc' := 46) (by decide) dX11_putNumber_45 rfl ?_
                    refine v_iadd (pc' := 47) (by omega) dX11_putNumber_46 rfl ?_
                    refine v_putI (pc' := 50) (ji := 1) rfl fp_X11_89 kd_0 sf_X11_1 dX11_putNumber_47 rfl ?_
                    refine Wp.heq (σ' := gUr (gUp σ 0 1 (L + 1)) 1 (updI T L (gB32 (fun a b => a &&& b) (gB32 (fun a b => a >>> (b &&& 31)) n 0) 255))) ((gUp_cr (by decide)).trans (congrArg (fun z => gUr z 1 (updI T L (gB32 (fun a b => a &&& b) (gB32 (fun a b => a >>> (b &&& 31)) n 0) 255))) gUp_same)) ?_
                    refine v_iinc (pc' := 53) (x := 0) (ls' := [gR 0, gI n, gI (-8)]) (by omega) (by decide) (by rfl) (by rfl) dX11_putNumber_50 rfl ?_
                    refine w_goto (pc' := 3) dX11_putNumber_53 rfl ?_
                    refine w_iload_n (pc' := 4) (i := 2) (by rfl) (by rfl) dX11_putNumber_3 rfl ?_
                    refine w_if_lt (pc' := 7) (t := 56) dX11_putNumber_4 rfl rfl (fun c_4 => ?_) (fun c_4 => ?_)
                    · skip
                      refine w_return rfl dX11_putNumber_56 ?_
                      first | (exfalso; omega) | exact ⟨rfl, rfl⟩
                    · skip
                      exact absurd c_4 (by decide)
            · skip
              refine w_aload_n (pc' := 15) (i := 0) (by rfl) (by rfl) dX11_putNumber_14 rfl ?_
              refine v_getI (pc' := 18) (ji := 1) rfl fg_X11_89 kd_0 dX11_putNumber_15 rfl ?_
              show Wp _ _ _ _ _ _ [gI L]
              refine w_sipush (pc' := 21) (by decide) (by decide) dX11_putNumber_18 rfl ?_
              refine w_icmp_ge (pc' := 24) (t := 50) dX11_putNumber_21 rfl rfl (fun c_21 => ?_) (fun c_21 => ?_)
              · skip
                refine v_iinc (pc' := 53) (x := 8) (ls' := [gR 0, gI n, gI 0]) (by omega) (by decide) (by rfl) (by rfl) dX11_putNumber_50 rfl ?_
                refine w_goto (pc' := 3) dX11_putNumber_53 rfl ?_
                refine w_iload_n (pc' := 4) (i := 2) (by rfl) (by rfl) dX11_putNumber_3 rfl ?_
                refine w_if_lt (pc' := 7) (t := 56) dX11_putNumber_4 rfl rfl (fun c_4 => ?_) (fun c_4 => ?_)
                · skip
                  exact absurd c_4 (by decide)
                · skip
                  refine w_aload_n (pc' := 8) (i := 0) (by rfl) (by rfl) dX11_putNumber_7 rfl ?_
                  refine v_getI (pc' := 11) (ji := 1) rfl fg_X11_89 kd_0 dX11_putNumber_8 rfl ?_
                  show Wp _ _ _ _ _ _ [gI L]
                  refine w_if_lt (pc' := 14) (t := 50) dX11_putNumber_11 rfl rfl (fun c_11 => ?_) (fun c_11 => ?_)
                  · skip
                    refine v_iinc (pc' := 53) (x := 0) (ls' := [gR 0, gI n, gI (-8)]) (by omega) (by decide) (by rfl) (by rfl) dX11_putNumber_50 rfl ?_
                    refine w_goto (pc' := 3) dX11_putNumber_53 rfl ?_
                    refine w_iload_n (pc' := 4) (i := 2) (by rfl) (by rfl) dX11_putNumber_3 rfl ?_
                    refine w_if_lt (pc' := 7) (t := 56) dX11_putNumber_4 rfl rfl (fun c_4 => ?_) (fun c_4 => ?_)
                    · skip
                      refine w_return rfl dX11_putNumber_56 ?_
                      first | (exfalso; omega) | exact ⟨rfl, rfl⟩
                    · skip
                      exact absurd c_4 (by decide)
                  · skip
                    refine w_aload_n (pc' := 15) (i := 0) (by rfl) (by rfl) dX11_putNumber_14 rfl ?_
                    refine v_getI (pc' := 18) (ji := 1) rfl fg_X11_89 kd_0 dX11_putNumber_15 rfl ?_
                    show Wp _ _ _ _ _ _ [gI L]
                    refine w_sipush (pc' := 21) (by decide) (by decide) dX11_putNumber_18 rfl ?_
                    refine w_icmp_ge (pc' := 24) (t := 50) dX11_putNumber_21 rfl rfl (fun c_21 => ?_) (fun c_21 => ?_)
                    · skip
                      refine v_iinc (pc' := 53) (x := 0) (ls' := [gR 0, gI n, gI (-8)]) (by omega) (by decide) (by rfl) (by rfl) dX11_putNumber_50 rfl ?_
                      refine w_goto (pc' := 3) dX11_putNumber_53 rfl ?_
                      refine w_iload_n (pc' := 4) (i := 2) (by rfl) (by rfl) dX11_putNumber_3 rfl ?_
                      refine w_if_lt (pc' := 7) (t := 56) dX11_putNumber_4 rfl rfl (fun c_4 => ?_) (fun c_4 => ?_)
                      · skip
                        refine w_return rfl dX11_putNumber_56 ?_
                        first | (exfalso; omega) | exact ⟨rfl, rfl⟩
                      · skip
                        exact absurd c_4 (by decide)
                    · skip
                      refine w_aload_n (pc' := 25) (i := 0) (by rfl) (by rfl) dX11_putNumber_24 rfl ?_
                      refine w_getS (pc' := 28) (q := 1) fg_X11_9 kd_0 sf_X11_0 gr_0_0 dX11_putNumber_25 rfl ?_
                      refine w_aload_n (pc' := 29) (i := 0) (by rfl) (by rfl) dX11_putNumber_28 rfl ?_
                      refine v_getI (pc' := 32) (ji := 1) rfl fg_X11_89 kd_0 dX11_putNumber_29 rfl ?_
                      show Wp _ _ _ _ _ _ [gI L, gR 1]
                      refine w_iload_n (pc' := 33) (i := 1) (by rfl) (by rfl) dX11_putNumber_32 rfl ?_
                      refine w_iload_n (pc' := 34) (i := 2) (by rfl) (by rfl) dX11_putNumber_33 rfl ?_
                      refine w_ishr (pc' := 35) dX11_putNumber_34 rfl ?_
                      refine w_sipush (pc' := 38) (by decide) (by decide) dX11_putNumber_35 rfl ?_
                      refine w_iand (pc' := 39) dX11_putNumber_38 rfl ?_
                      refine w_iast (pc' := 40) kd_1 (by omega) (by omega) dX11_putNumber_39 rfl ?_
                      refine Wp.heq (σ' := gUr (gUp σ 0 1 L) 1 (updI T L (gB32 (fun a b => a &&& b) (gB32 (fun a b => a >>> (b &&& 31)) n 0) 255))) gUp_row ?_
                      refine w_aload_n (pc' := 41) (i := 0) (by rfl) (by rfl) dX11_putNumber_40 rfl ?_
                      refine w_dup (pc' := 42) dX11_putNumber_41 rfl ?_
                      refine v_getI (pc' := 45) (ji := 1) rfl fg_X11_89 kd_0 dX11_putNumber_42 rfl ?_
                      show Wp _ _ _ _ _ _ [gI L, gR 0]
                      refine w_iconst (pc' := 46) (by decide) dX11_putNumber_45 rfl ?_
                      refine v_iadd (pc' := 47) (by omega) dX11_putNumber_46 rfl ?_
                      refine v_putI (pc' := 50) (ji := 1) rfl fp_X11_89 kd_0 sf_X11_1 dX11_putNumber_47 rfl ?_
                      refine Wp.heq (σ' := gUr (gUp σ 0 1 (L + 1)) 1 (updI T L (gB32 (fun a b => a &&& b) (gB32 (fun a b => a >>> (b &&& 31)) n 0) 255))) ((gUp_cr (by decide)).trans (congrArg (fun z => gUr z 1 (updI T L (gB32 (fun a b => a &&& b) (gB32 (fun a b => a >>> (b &&& 31)) n 0) 255))) gUp_same)) ?_
                      refine v_iinc (pc' := 53) (x := 0) (ls' := [gR 0, gI n, gI (-8)]) (by omega) (by decide) (by rfl) (by rfl) dX11_putNumber_50 rfl ?_
                      refine w_goto (pc' := 3) dX11_putNumber_53 rfl ?_
                      refine w_iload_n (pc' := 4) (i := 2) (by rfl) (by rfl) dX11_putNumber_3 rfl ?_
                      refine w_if_lt (pc' := 7) (t := 56) dX11_putNumber_4 rfl rfl (fun c_4 => ?_) (fun c_4 => ?_)
                      · skip
                        refine w_return rfl dX11_putNumber_56 ?_
                        first | (exfalso; omega) | exact ⟨rfl, rfl⟩
                      · skip
                        exact absurd c_4 (by decide)
              · skip
                refine w_aload_n (pc' := 25) (i := 0) (by rfl) (by rfl) dX11_putNumber_24 rfl ?_
                refine w_getS (pc' := 28) (q := 1) fg_X11_9 kd_0 sf_X11_0 gr_0_0 dX11_putNumber_25 rfl ?_
                refine w_aload_n (pc' := 29) (i := 0) (by rfl) (by rfl) dX11_putNumber_28 rfl ?_
                refine v_getI (pc' := 32) (ji := 1) rfl fg_X11_89 kd_0 dX11_putNumber_29 rfl ?_
                show Wp _ _ _ _ _ _ [gI L, gR 1]
                refine w_iload_n (pc' := 33) (i := 1) (by rfl) (by rfl) dX11_putNumber_32 rfl ?_
                refine w_iload_n (pc' := 34) (i := 2) (by rfl) (by rfl) dX11_putNumber_33 rfl ?_
                refine w_ishr (pc' := 35) dX11_putNumber_34 rfl ?_
                refine w_sipush (pc' := 38) (by decide) (by decide) dX11_putNumber_35 rfl ?_
                refine w_iand (pc' := 39) dX11_putNumber_38 rfl ?_
                refine w_iast (pc' := 40) kd_1 (by omega) (by omega) dX11_putNumber_39 rfl ?_
                refine Wp.heq (σ' := gUr (gUp σ 0 1 L) 1 (updI T L (gB32 (fun a b => a &&& b) (gB32 (fun a b => a >>> (b &&& 31)) n 8) 255))) gUp_row ?_
                refine w_aload_n (pc' := 41) (i := 0) (by rfl) (by rfl) dX11_putNumber_40 rfl ?_
                refine w_dup (pc' := 42) dX11_putNumber_41 rfl ?_
                refine v_getI (pc' := 45) (ji := 1) rfl fg_X11_89 kd_0 dX11_putNumber_42 rfl ?_
                show Wp _ _ _ _ _ _ [gI L, gR 0]
                refine w_iconst (pc' := 46) (by decide) dX11_putNumber_45 rfl ?_
                refine v_iadd (pc' := 47) (by omega) dX11_putNumber_46 rfl ?_
                refine v_putI (pc' := 50) (ji := 1) rfl fp_X11_89 kd_0 sf_X11_1 dX11_putNumber_47 rfl ?_
                refine Wp.heq (σ' := gUr (gUp σ 0 1 (L + 1)) 1 (updI T L (gB32 (fun a b => a &&& b) (gB32 (fun a b => a >>> (b &&& 31)) n 8) 255))) ((gUp_cr (by decide)).trans (congrArg (fun z => gUr z 1 (updI T L (gB32 (fun a b => a &&& b) (gB32 (fun a b => a >>> (b &&& 31)) n 8) 255))) gUp_same)) ?_
                refine v_iinc (pc' := 53) (x := 8) (ls' := [gR 0, gI n, gI 0]) (by omega) (by decide) (by rfl) (by rfl) dX11_putNumber_50 rfl ?_
                refine w_goto (pc' := 3) dX11_putNumber_53 rfl ?_
                refine w_iload_n (pc' := 4) (i := 2) (by rfl) (by rfl) dX11_putNumber_3 rfl ?_
                refine w_if_lt (pc' := 7) (t := 56) dX11_putNumber_4 rfl rfl (fun c_4 => ?_) (fun c_4 => ?_)
                · skip
                  exact absurd c_4 (by decide)
                · skip
                  refine w_aload_n (pc' := 8) (i := 0) (by rfl) (by rfl) dX11_putNumber_7 rfl ?_
                  refine v_getI (pc' := 11) (ji := 1) rfl fg_X11_89 kd_0 dX11_putNumber_8 rfl ?_
                  show Wp _ _ _ _ _ _ [gI (L + 1)]
                  refine w_if_lt (pc' := 14) (t := 50) dX11_putNumber_11 rfl rfl (fun c_11 => ?_) (fun c_11 => ?_)
                  · skip
                    refine v_iinc (pc' := 53) (x := 0) (ls' := [gR 0, gI n, gI (-8)]) (by omega) (by decide) (by rfl) (by rfl) dX11_putNumber_50 rfl ?_
                    refine w_goto (pc' := 3) dX11_putNumber_53 rfl ?_
                    refine w_iload_n (pc' := 4) (i := 2) (by rfl) (by rfl) dX11_putNumber_3 rfl ?_
                    refine w_if_lt (pc' := 7) (t := 56) dX11_putNumber_4 rfl rfl (fun c_4 => ?_) (fun c_4 => ?_)
                    · skip
                      refine w_return rfl dX11_putNumber_56 ?_
                      first | (exfalso; omega) | exact ⟨rfl, rfl⟩
                    · skip
                      exact absurd c_4 (by decide)
                  · skip
                    refine w_aload_n (pc' := 15) (i := 0) (by rfl) (by rfl) dX11_putNumber_14 rfl ?_
                    refine v_getI (pc' := 18) (ji := 1) rfl fg_X11_89 kd_0 dX11_putNumber_15 rfl ?_
                    show Wp _ _ _ _ _ _ [gI (L + 1)]
                    refine w_sipush (pc' := 21) (by decide) (by decide) dX11_putNumber_18 rfl ?_
                    refine w_icmp_ge (pc' := 24) (t := 50) dX11_putNumber_21 rfl rfl (fun c_21 => ?_) (fun c_21 => ?_)
                    · skip
                      refine v_iinc (pc' := 53) (x := 0) (ls' := [gR 0, gI n, gI (-8)]) (by omega) (by decide) (by rfl) (by rfl) dX11_putNumber_50 rfl ?_
                      refine w_goto (pc' := 3) dX11_putNumber_53 rfl ?_
                      refine w_iload_n (pc' := 4) (i := 2) (by rfl) (by rfl) dX11_putNumber_3 rfl ?_
                      refine w_if_lt (pc' := 7) (t := 56) dX11_putNumber_4 rfl rfl (fun c_4 => ?_) (fun c_4 => ?_)
                      · skip
                        refine w_return rfl dX11_putNumber_56 ?_
                        first | (exfalso; omega) | exact ⟨rfl, rfl⟩
                      · skip
                        exact absurd c_4 (by decide)
                    · skip
                      refine w_aload_n (pc' := 25) (i := 0) (by rfl) (by rfl) dX11_putNumber_24 rfl ?_
                      refine w_getS (pc' := 28) (q := 1) fg_X11_9 kd_0 sf_X11_0 gr_0_0 dX11_putNumber_25 rfl ?_
                      refine w_aload_n (pc' := 29) (i := 0) (by rfl) (by rfl) dX11_putNumber_28 rfl ?_
                      refine v_getI (pc' := 32) (ji := 1) rfl fg_X11_89 kd_0 dX11_putNumber_29 rfl ?_
                      show Wp _ _ _ _ _ _ [gI (L + 1), gR 1]
                      refine w_iload_n (pc' := 33) (i := 1) (by rfl) (by rfl) dX11_putNumber_32 rfl ?_
                      refine w_iload_n (pc' := 34) (i := 2) (by rfl) (by rfl) dX11_putNumber_33 rfl ?_
                      refine w_ishr (pc' := 35) dX11_putNumber_34 rfl ?_
                      refine w_sipush (pc' := 38) (by decide) (by decide) dX11_putNumber_35 rfl ?_
                      refine w_iand (pc' := 39) dX11_putNumber_38 rfl ?_
                      refine w_iast (pc' := 40) kd_1 (by omega) (by omega) dX11_putNumber_39 rfl ?_
                      refine Wp.heq (σ' := gUr (gUp σ 0 1 (L + 1)) 1 (updI (updI T L (gB32 (fun a b => a &&& b) (gB32 (fun a b => a >>> (b &&& 31)) n 8) 255)) (L + 1) (gB32 (fun a b => a &&& b) (gB32 (fun a b => a >>> (b &&& 31)) n 0) 255))) gUp_row ?_
                      refine w_aload_n (pc' := 41) (i := 0) (by rfl) (by rfl) dX11_putNumber_40 rfl ?_
                      refine w_dup (pc' := 42) dX11_putNumber_41 rfl ?_
                      refine v_getI (pc' := 45) (ji := 1) rfl fg_X11_89 kd_0 dX11_putNumber_42 rfl ?_
                      show Wp _ _ _ _ _ _ [gI (L + 1), gR 0]
                      refine w_iconst (pc' := 46) (by decide) dX11_putNumber_45 rfl ?_
                      refine v_iadd (pc' := 47) (by omega) dX11_putNumber_46 rfl ?_
                      refine v_putI (pc' := 50) (ji := 1) rfl fp_X11_89 kd_0 sf_X11_1 dX11_putNumber_47 rfl ?_
                      refine Wp.heq (σ' := gUr (gUp σ 0 1 ((L + 1) + 1)) 1 (updI (updI T L (gB32 (fun a b => a &&& b) (gB32 (fun a b => a >>> (b &&& 31)) n 8) 255)) (L + 1) (gB32 (fun a b => a &&& b) (gB32 (fun a b => a >>> (b &&& 31)) n 0) 255))) ((gUp_cr (by decide)).trans (congrArg (fun z => gUr z 1 (updI (updI T L (gB32 (fun a b => a &&& b) (gB32 (fun a b => a >>> (b &&& 31)) n 8) 255)) (L + 1) (gB32 (fun a b => a &&& b) (gB32 (fun a b => a >>> (b &&& 31)) n 0) 255))) gUp_same)) ?_
                      refine v_iinc (pc' := 53) (x := 0) (ls' := [gR 0, gI n, gI (-8)]) (by omega) (by decide) (by rfl) (by rfl) dX11_putNumber_50 rfl ?_
                      refine w_goto (pc' := 3) dX11_putNumber_53 rfl ?_
                      refine w_iload_n (pc' := 4) (i := 2) (by rfl) (by rfl) dX11_putNumber_3 rfl ?_
                      refine w_if_lt (pc' := 7) (t := 56) dX11_putNumber_4 rfl rfl (fun c_4 => ?_) (fun c_4 => ?_)
                      · skip
                        refine w_return rfl dX11_putNumber_56 ?_
                        first | (exfalso; omega) | exact ⟨rfl, rfl⟩
                      · skip
                        exact absurd c_4 (by decide)
        · skip
          refine w_aload_n (pc' := 15) (i := 0) (by rfl) (by rfl) dX11_putNumber_14 rfl ?_
          refine v_getI (pc' := 18) (ji := 1) rfl fg_X11_89 kd_0 dX11_putNumber_15 rfl ?_
          show Wp _ _ _ _ _ _ [gI L]
          refine w_sipush (pc' := 21) (by decide) (by decide) dX11_putNumber_18 rfl ?_
          refine w_icmp_ge (pc' := 24) (t := 50) dX11_putNumber_21 rfl rfl (fun c_21 => ?_) (fun c_21 => ?_)
          · skip
            refine v_iinc (pc' := 53) (x := 16) (ls' := [gR 0, gI n, gI 8]) (by omega) (by decide) (by rfl) (by rfl) dX11_putNumber_50 rfl ?_
            refine w_goto (pc' := 3) dX11_putNumber_53 rfl ?_
            refine w_iload_n (pc' := 4) (i := 2) (by rfl) (by rfl) dX11_putNumber_3 rfl ?_
            refine w_if_lt (pc' := 7) (t := 56) dX11_putNumber_4 rfl rfl (fun c_4 => ?_) (fun c_4 => ?_)
            · skip
              exact absurd c_4 (by decide)
            · skip
              refine w_aload_n (pc' := 8) (i := 0) (by rfl) (by rfl) dX11_putNumber_7 rfl ?_
              refine v_getI (pc' := 11) (ji := 1) rfl fg_X11_89 kd_0 dX11_putNumber_8 rfl ?_
              show Wp _ _ _ _ _ _ [gI L]
              refine w_if_lt (pc' := 14) (t := 50) dX11_putNumber_11 rfl rfl (fun c_11 => ?_) (fun c_11 => ?_)
              · skip
                refine v_iinc (pc' := 53) (x := 8) (ls' := [gR 0, gI n, gI 0]) (by omega) (by decide) (by rfl) (by rfl) dX11_putNumber_50 rfl ?_
                refine w_goto (pc' := 3) dX11_putNumber_53 rfl ?_
                refine w_iload_n (pc' := 4) (i := 2) (by rfl) (by rfl) dX11_putNumber_3 rfl ?_
                refine w_if_lt (pc' := 7) (t := 56) dX11_putNumber_4 rfl rfl (fun c_4 => ?_) (fun c_4 => ?_)
                · skip
                  exact absurd c_4 (by decide)
                · skip
                  refine w_aload_n (pc' := 8) (i := 0) (by rfl) (by rfl) dX11_putNumber_7 rfl ?_
                  refine v_getI (pc' := 11) (ji := 1) rfl fg_X11_89 kd_0 dX11_putNumber_8 rfl ?_
                  show Wp _ _ _ _ _ _ [gI L]
                  refine w_if_lt (pc' := 14) (t := 50) dX11_putNumber_11 rfl rfl (fun c_11 => ?_) (fun c_11 => ?_)
                  · skip
                    refine v_iinc (pc' := 53) (x := 0) (ls' := [gR 0, gI n, gI (-8)]) (by omega) (by decide) (by rfl) (by rfl) dX11_putNumber_50 rfl ?_
                    refine w_goto (pc' := 3) dX11_putNumber_53 rfl ?_
                    refine w_iload_n (pc' := 4) (i := 2) (by rfl) (by rfl) dX11_putNumber_3 rfl ?_
                    refine w_if_lt (pc' := 7) (t := 56) dX11_putNumber_4 rfl rfl (fun c_4 => ?_) (fun c_4 => ?_)
                    · skip
                      refine w_return rfl dX11_putNumber_56 ?_
                      first | (exfalso; omega) | exact ⟨rfl, rfl⟩
                    · skip
                      exact absurd c_4 (by decide)
                  · skip
                    refine w_aload_n (pc' := 15) (i := 0) (by rfl) (by rfl) dX11_putNumber_14 rfl ?_
                    refine v_getI (pc' := 18) (ji := 1) rfl fg_X11_89 kd_0 dX11_putNumber_15 rfl ?_
                    show Wp _ _ _ _ _ _ [gI L]
                    refine w_sipush (pc' := 21) (by decide) (by decide) dX11_putNumber_18 rfl ?_
                    refine w_icmp_ge (pc' := 24) (t := 50) dX11_putNumber_21 rfl rfl (fun c_21 => ?_) (fun c_21 => ?_)
                    · skip
                      refine v_iinc (pc' := 53) (x := 0) (ls' := [gR 0, gI n, gI (-8)]) (by omega) (by decide) (by rfl) (by rfl) dX11_putNumber_50 rfl ?_
                      refine w_goto (pc' := 3) dX11_putNumber_53 rfl ?_
                      refine w_iload_n (pc' := 4) (i := 2) (by rfl) (by rfl) dX11_putNumber_3 rfl ?_
                      refine w_if_lt (pc' := 7) (t := 56) dX11_putNumber_4 rfl rfl (fun c_4 => ?_) (fun c_4 => ?_)
                      · skip
                        refine w_return rfl dX11_putNumber_56 ?_
                        first | (exfalso; omega) | exact ⟨rfl, rfl⟩
                      · skip
                        exact absurd c_4 (by decide)
                    · skip
                      refine w_aload_n (pc' := 25) (i := 0) (by rfl) (by rfl) dX11_putNumber_24 rfl ?_
                      refine w_getS (pc' := 28) (q := 1) fg_X11_9 kd_0 sf_X11_0 gr_0_0 dX11_putNumber_25 rfl ?_
                      refine w_aload_n (pc' := 29) (i := 0) (by rfl) (by rfl) dX11_putNumber_28 rfl ?_
                      refine v_getI (pc' := 32) (ji := 1) rfl fg_X11_89 kd_0 dX11_putNumber_29 rfl ?_
                      show Wp _ _ _ _ _ _ [gI L, gR 1]
                      refine w_iload_n (pc' := 33) (i := 1) (by rfl) (by rfl) dX11_putNumber_32 rfl ?_
                      refine w_iload_n (pc' := 34) (i := 2) (by rfl) (by rfl) dX11_putNumber_33 rfl ?_
                      refine w_ishr (pc' := 35) dX11_putNumber_34 rfl ?_
                      refine w_sipush (pc' := 38) (by decide) (by decide) dX11_putNumber_35 rfl ?_
                      refine w_iand (pc' := 39) dX11_putNumber_38 rfl ?_
                      refine w_iast (pc' := 40) kd_1 (by omega) (by omega) dX11_putNumber_39 rfl ?_
                      refine Wp.heq (σ' := gUr (gUp σ 0 1 L) 1 (updI T L (gB32 (fun a b => a &&& b) (gB32 (fun a b => a >>> (b &&& 31)) n 0) 255))) gUp_row ?_
                      refine w_aload_n (pc' := 41) (i := 0) (by rfl) (by rfl) dX11_putNumber_40 rfl ?_
                      refine w_dup (pc' := 42) dX11_putNumber_41 rfl ?_
                      refine v_getI (pc' := 45) (ji := 1) rfl fg_X11_89 kd_0 dX11_putNumber_42 rfl ?_
                      show Wp _ _ _ _ _ _ [gI L, gR 0]
                      refine w_iconst (pc' := 46) (by decide) dX11_putNumber_45 rfl ?_
                      refine v_iadd (pc' := 47) (by omega) dX11_putNumber_46 rfl ?_
                      refine v_putI (pc' := 50) (ji := 1) rfl fp_X11_89 kd_0 sf_X11_1 dX11_putNumber_47 rfl ?_
                      refine Wp.heq (σ' := gUr (gUp σ 0 1 (L + 1)) 1 (updI T L (gB32 (fun a b => a &&& b) (gB32 (fun a b => a >>> (b &&& 31)) n 0) 255))) ((gUp_cr (by decide)).trans (congrArg (fun z => gUr z 1 (updI T L (gB32 (fun a b => a &&& b) (gB32 (fun a b => a >>> (b &&& 31)) n 0) 255))) gUp_same)) ?_
                      refine v_iinc (pc' := 53) (x := 0) (ls' := [gR 0, gI n, gI (-8)]) (by omega) (by decide) (by rfl) (by rfl) dX11_putNumber_50 rfl ?_
                      refine w_goto (pc' := 3) dX11_putNumber_53 rfl ?_
                      refine w_iload_n (pc' := 4) (i := 2) (by rfl) (by rfl) dX11_putNumber_3 rfl ?_
                      refine w_if_lt (pc' := 7) (t := 56) dX11_putNumber_4 rfl rfl (fun c_4 => ?_) (fun c_4 => ?_)
                      · skip
                        refine w_return rfl dX11_putNumber_56 ?_
                        first | (exfalso; omega) | exact ⟨rfl, rfl⟩
                      · skip
                        exact absurd c_4 (by decide)
              · skip
                refine w_aload_n (pc' := 15) (i := 0) (by rfl) (by rfl) dX11_putNumber_14 rfl ?_
                refine v_getI (pc' := 18) (ji := 1) rfl fg_X11_89 kd_0 dX11_putNumber_15 rfl ?_
                show Wp _ _ _ _ _ _ [gI L]
                refine w_sipush (pc' := 21) (by decide) (by decide) dX11_putNumber_18 rfl ?_
                refine w_icmp_ge (pc' := 24) (t := 50) dX11_putNumber_21 rfl rfl (fun c_21 => ?_) (fun c_21 => ?_)
                · skip
                  refine v_iinc (pc' := 53) (x := 8) (ls' := [gR 0, gI n, gI 0]) (by omega) (by decide) (by rfl) (by rfl) dX11_putNumber_50 rfl ?_
                  refine w_goto (pc' := 3) dX11_putNumber_53 rfl ?_
                  refine w_iload_n (pc' := 4) (i := 2) (by rfl) (by rfl) dX11_putNumber_3 rfl ?_
                  refine w_if_lt (pc' := 7) (t := 56) dX11_putNumber_4 rfl rfl (fun c_4 => ?_) (fun c_4 => ?_)
                  · skip
                    exact absurd c_4 (by decide)
                  · skip
                    refine w_aload_n (pc' := 8) (i := 0) (by rfl) (by rfl) dX11_putNumber_7 rfl ?_
                    refine v_getI (pc' := 11) (ji := 1) rfl fg_X11_89 kd_0 dX11_putNumber_8 rfl ?_
                    show Wp _ _ _ _ _ _ [gI L]
                    refine w_if_lt (pc' := 14) (t := 50) dX11_putNumber_11 rfl rfl (fun c_11 => ?_) (fun c_11 => ?_)
                    · skip
                      refine v_iinc (pc' := 53) (x := 0) (ls' := [gR 0, gI n, gI (-8)]) (by omega) (by decide) (by rfl) (by rfl) dX11_putNumber_50 rfl ?_
                      refine w_goto (pc' := 3) dX11_putNumber_53 rfl ?_
                      refine w_iload_n (pc' := 4) (i := 2) (by rfl) (by rfl) dX11_putNumber_3 rfl ?_
                      refine w_if_lt (pc' := 7) (t := 56) dX11_putNumber_4 rfl rfl (fun c_4 => ?_) (fun c_4 => ?_)
                      · skip
                        refine w_return rfl dX11_putNumber_56 ?_
                        first | (exfalso; omega) | exact ⟨rfl, rfl⟩
                      · skip
                        exact absurd c_4 (by decide)
                    · skip
                      refine w_aload_n (pc' := 15) (i := 0) (by rfl) (by rfl) dX11_putNumber_14 rfl ?_
                      refine v_getI (pc' := 18) (ji := 1) rfl fg_X11_89 kd_0 dX11_putNumber_15 rfl ?_
                      show Wp _ _ _ _ _ _ [gI L]
                      refine w_sipush (pc' := 21) (by decide) (by decide) dX11_putNumber_18 rfl ?_
                      refine w_icmp_ge (pc' := 24) (t := 50) dX11_putNumber_21 rfl rfl (fun c_21 => ?_) (fun c_21 => ?_)
                      · skip
                        refine v_iinc (pc' := 53) (x := 0) (ls' := [gR 0, gI n, gI (-8)]) (by omega) (by decide) (by rfl) (by rfl) dX11_putNumber_50 rfl ?_
                        refine w_goto (pc' := 3) dX11_putNumber_53 rfl ?_
                        refine w_iload_n (pc' := 4) (i := 2) (by rfl) (by rfl) dX11_putNumber_3 rfl ?_
                        refine w_if_lt (pc' := 7) (t := 56) dX11_putNumber_4 rfl rfl (fun c_4 => ?_) (fun c_4 => ?_)
                        · skip
                          refine w_return rfl dX11_putNumber_56 ?_
                          first | (exfalso; omega) | exact ⟨rfl, rfl⟩
                        · skip
                          exact absurd c_4 (by decide)
                      · skip
                        refine w_aload_n (pc' := 25) (i := 0) (by rfl) (by rfl) dX11_putNumber_24 rfl ?_
                        refine w_getS (pc' := 28) (q := 1) fg_X11_9 kd_0 sf_X11_0 gr_0_0 dX11_putNumber_25 rfl ?_
                        refine w_aload_n (pc' := 29) (i := 0) (by rfl) (by rfl) dX11_putNumber_28 rfl ?_
                        refine v_getI (pc' := 32) (ji := 1) rfl fg_X11_89 kd_0 dX11_putNumber_29 rfl ?_
                        show Wp _ _ _ _ _ _ [gI L, gR 1]
                        refine w_iload_n (pc' := 33) (i := 1) (by rfl) (by rfl) dX11_putNumber_32 rfl ?_
                        refine w_iload_n (pc' := 34) (i := 2) (by rfl) (by rfl) dX11_putNumber_33 rfl ?_
                        refine w_ishr (pc' := 35) dX11_putNumber_34 rfl ?_
                        refine w_sipush (pc' := 38) (by decide) (by decide) dX11_putNumber_35 rfl ?_
                        refine w_iand (pc' := 39) dX11_putNumber_38 rfl ?_
                        refine w_iast (pc' := 40) kd_1 (by omega) (by omega) dX11_putNumber_39 rfl ?_
                        refine Wp.heq (σ' := gUr (gUp σ 0 1 L) 1 (updI T L (gB32 (fun a b => a &&& b) (gB32 (fun a b => a >>> (b &&& 31)) n 0) 255))) gUp_row ?_
                        refine w_aload_n (pc' := 41) (i := 0) (by rfl) (by rfl) dX11_putNumber_40 rfl ?_
                        refine w_dup (pc' := 42) dX11_putNumber_41 rfl ?_
                        refine v_getI (pc' := 45) (ji := 1) rfl fg_X11_89 kd_0 dX11_putNumber_42 rfl ?_
                        show Wp _ _ _ _ _ _ [gI L, gR 0]
                        refine w_iconst (pc' := 46) (by decide) dX11_putNumber_45 rfl ?_
                        refine v_iadd (pc' := 47) (by omega) dX11_putNumber_46 rfl ?_
                        refine v_putI (pc' := 50) (ji := 1) rfl fp_X11_89 kd_0 sf_X11_1 dX11_putNumber_47 rfl ?_
                        refine Wp.heq (σ' := gUr (gUp σ 0 1 (L + 1)) 1 (updI T L (gB32 (fun a b => a &&& b) (gB32 (fun a b => a >>> (b &&& 31)) n 0) 255))) ((gUp_cr (by decide)).trans (congrArg (fun z => gUr z 1 (updI T L (gB32 (fun a b => a &&& b) (gB32 (fun a b => a >>> (b &&& 31)) n 0) 255))) gUp_same)) ?_
                        refine v_iinc (pc' := 53) (x := 0) (ls' := [gR 0, gI n, gI (-8)]) (by omega) (by decide) (by rfl) (by rfl) dX11_putNumber_50 rfl ?_
                        refine w_goto (pc' := 3) dX11_putNumber_53 rfl ?_
                        refine w_iload_n (pc' := 4) (i := 2) (by rfl) (by rfl) dX11_putNumber_3 rfl ?_
                        refine w_if_lt (pc' := 7) (t := 56) dX11_putNumber_4 rfl rfl (fun c_4 => ?_) (fun c_4 => ?_)
                        · skip
                          refine w_return rfl dX11_putNumber_56 ?_
                          first | (exfalso; omega) | exact ⟨rfl, rfl⟩
                        · skip
                          exact absurd c_4 (by decide)
                · skip
                  refine w_aload_n (pc' := 25) (i := 0) (by rfl) (by rfl) dX11_putNumber_24 rfl ?_
                  refine w_getS (pc' := 28) (q := 1) fg_X11_9 kd_0 sf_X11_0 gr_0_0 dX11_putNumber_25 rfl ?_
                  refine w_aload_n (pc' := 29) (i := 0) (by rfl) (by rfl) dX11_putNumber_28 rfl ?_
                  refine v_getI (pc' := 32) (ji := 1) rfl fg_X11_89 kd_0 dX11_putNumber_29 rfl ?_
                  show Wp _ _ _ _ _ _ [gI L, gR 1]
                  refine w_iload_n (pc' := 33) (i := 1) (by rfl) (by rfl) dX11_putNumber_32 rfl ?_
                  refine w_iload_n (pc' := 34) (i := 2) (by rfl) (by rfl) dX11_putNumber_33 rfl ?_
                  refine w_ishr (pc' := 35) dX11_putNumber_34 rfl ?_
                  refine w_sipush (pc' := 38) (by decide) (by decide) dX11_putNumber_35 rfl ?_
                  refine w_iand (pc' := 39) dX11_putNumber_38 rfl ?_
                  refine w_iast (pc' := 40) kd_1 (by omega) (by omega) dX11_putNumber_39 rfl ?_
                  refine Wp.heq (σ' := gUr (gUp σ 0 1 L) 1 (updI T L (gB32 (fun a b => a &&& b) (gB32 (fun a b => a >>> (b &&& 31)) n 8) 255))) gUp_row ?_
                  refine w_aload_n (pc' := 41) (i := 0) (by rfl) (by rfl) dX11_putNumber_40 rfl ?_
                  refine w_dup (pc' := 42) dX11_putNumber_41 rfl ?_
                  refine v_getI (pc' := 45) (ji := 1) rfl fg_X11_89 kd_0 dX11_putNumber_42 rfl ?_
                  show Wp _ _ _ _ _ _ [gI L, gR 0]
                  refine w_iconst (pc' := 46) (by decide) dX11_putNumber_45 rfl ?_
                  refine v_iadd (pc' := 47) (by omega) dX11_putNumber_46 rfl ?_
                  refine v_putI (pc' := 50) (ji := 1) rfl fp_X11_89 kd_0 sf_X11_1 dX11_putNumber_47 rfl ?_
                  refine Wp.heq (σ' := gUr (gUp σ 0 1 (L + 1)) 1 (updI T L (gB32 (fun a b => a &&& b) (gB32 (fun a b => a >>> (b &&& 31)) n 8) 255))) ((gUp_cr (by decide)).trans (congrArg (fun z => gUr z 1 (updI T L (gB32 (fun a b => a &&& b) (gB32 (fun a b => a >>> (b &&& 31)) n 8) 255))) gUp_same)) ?_
                  refine v_iinc (pc' := 53) (x := 8) (ls' := [gR 0, gI n, gI 0]) (by omega) (by decide) (by rfl) (by rfl) dX11_putNumber_50 rfl ?_
                  refine w_goto (pc' := 3) dX11_putNumber_53 rfl ?_
                  refine w_iload_n (pc' := 4) (i := 2) (by rfl) (by rfl) dX11_putNumber_3 rfl ?_
                  refine w_if_lt (pc' := 7) (t := 56) dX11_putNumber_4 rfl rfl (fun c_4 => ?_) (fun c_4 => ?_)
                  · skip
                    exact absurd c_4 (by decide)
                  · skip
                    refine w_aload_n (pc' := 8) (i := 0) (by rfl) (by rfl) dX11_putNumber_7 rfl ?_
                    refine v_getI (pc' := 11) (ji := 1) rfl fg_X11_89 kd_0 dX11_putNumber_8 rfl ?_
                    show Wp _ _ _ _ _ _ [gI (L + 1)]
                    refine w_if_lt (pc' := 14) (t := 50) dX11_putNumber_11 rfl rfl (fun c_11 => ?_) (fun c_11 => ?_)
                    · skip
                      refine v_iinc (pc' := 53) (x := 0) (ls' := [gR 0, gI n, gI (-8)]) (by omega) (by decide) (by rfl) (by rfl) dX11_putNumber_50 rfl ?_
                      refine w_goto (pc' := 3) dX11_putNumber_53 rfl ?_
                      refine w_iload_n (pc' := 4) (i := 2) (by rfl) (by rfl) dX11_putNumber_3 rfl ?_
                      refine w_if_lt (pc' := 7) (t := 56) dX11_putNumber_4 rfl rfl (fun c_4 => ?_) (fun c_4 => ?_)
                      · skip
                        refine w_return rfl dX11_putNumber_56 ?_
                        first | (exfalso; omega) | exact ⟨rfl, rfl⟩
                      · skip
                        exact absurd c_4 (by decide)
                    · skip
                      refine w_aload_n (pc' := 15) (i := 0) (by rfl) (by rfl) dX11_putNumber_14 rfl ?_
                      refine v_getI (pc' := 18) (ji := 1) rfl fg_X11_89 kd_0 dX11_putNumber_15 rfl ?_
                      show Wp _ _ _ _ _ _ [gI (L + 1)]
                      refine w_sipush (pc' := 21) (by decide) (by decide) dX11_putNumber_18 rfl ?_
                      refine w_icmp_ge (pc' := 24) (t := 50) dX11_putNumber_21 rfl rfl (fun c_21 => ?_) (fun c_21 => ?_)
                      · skip
                        refine v_iinc (pc' := 53) (x := 0) (ls' := [gR 0, gI n, gI (-8)]) (by omega) (by decide) (by rfl) (by rfl) dX11_putNumber_50 rfl ?_
                        refine w_goto (pc' := 3) dX11_putNumber_53 rfl ?_
                        refine w_iload_n (pc' := 4) (i := 2) (by rfl) (by rfl) dX11_putNumber_3 rfl ?_
                        refine w_if_lt (pc' := 7) (t := 56) dX11_putNumber_4 rfl rfl (fun c_4 => ?_) (fun c_4 => ?_)
                        · skip
                          refine w_return rfl dX11_putNumber_56 ?_
                          first | (exfalso; omega) | exact ⟨rfl, rfl⟩
                        · skip
                          exact absurd c_4 (by decide)
                      · skip
                        refine w_aload_n (pc' := 25) (i := 0) (by rfl) (by rfl) dX11_putNumber_24 rfl ?_
                        refine w_getS (pc' := 28) (q := 1) fg_X11_9 kd_0 sf_X11_0 gr_0_0 dX11_putNumber_25 rfl ?_
                        refine w_aload_n (pc' := 29) (i := 0) (by rfl) (by rfl) dX11_putNumber_28 rfl ?_
                        refine v_getI (pc' := 32) (ji := 1) rfl fg_X11_89 kd_0 dX11_putNumber_29 rfl ?_
                        show Wp _ _ _ _ _ _ [gI (L + 1), gR 1]
                        refine w_iload_n (pc' := 33) (i := 1) (by rfl) (by rfl) dX11_putNumber_32 rfl ?_
                        refine w_iload_n (pc' := 34) (i := 2) (by rfl) (by rfl) dX11_putNumber_33 rfl ?_
                        refine w_ishr (pc' := 35) dX11_putNumber_34 rfl ?_
                        refine w_sipush (pc' := 38) (by decide) (by decide) dX11_putNumber_35 rfl ?_
                        refine w_iand (pc' := 39) dX11_putNumber_38 rfl ?_
                        refine w_iast (pc' := 40) kd_1 (by omega) (by omega) dX11_putNumber_39 rfl ?_
                        refine Wp.heq (σ' := gUr (gUp σ 0 1 (L + 1)) 1 (updI (updI T L (gB32 (fun a b => a &&& b) (gB32 (fun a b => a >>> (b &&& 31)) n 8) 255)) (L + 1) (gB32 (fun a b => a &&& b) (gB32 (fun a b => a >>> (b &&& 31)) n 0) 255))) gUp_row ?_
                        refine w_aload_n (pc' := 41) (i := 0) (by rfl) (by rfl) dX11_putNumber_40 rfl ?_
                        refine w_dup (pc' := 42) dX11_putNumber_41 rfl ?_
                        refine v_getI (pc' := 45) (ji := 1) rfl fg_X11_89 kd_0 dX11_putNumber_42 rfl ?_
                        show Wp _ _ _ _ _ _ [gI (L + 1), gR 0]
                        refine w_iconst (pc' := 46) (by decide) dX11_putNumber_45 rfl ?_
                        refine v_iadd (pc' := 47) (by omega) dX11_putNumber_46 rfl ?_
                        refine v_putI (pc' := 50) (ji := 1) rfl fp_X11_89 kd_0 sf_X11_1 dX11_putNumber_47 rfl ?_
                        refine Wp.heq (σ' := gUr (gUp σ 0 1 ((L + 1) + 1)) 1 (updI (updI T L (gB32 (fun a b => a &&& b) (gB32 (fun a b => a >>> (b &&& 31)) n 8) 255)) (L + 1) (gB32 (fun a b => a &&& b) (gB32 (fun a b => a >>> (b &&& 31)) n 0) 255))) ((gUp_cr (by decide)).trans (congrArg (fun z => gUr z 1 (updI (updI T L (gB32 (fun a b => a &&& b) (gB32 (fun a b => a >>> (b &&& 31)) n 8) 255)) (L + 1) (gB32 (fun a b => a &&& b) (gB32 (fun a b => a >>> (b &&& 31)) n 0) 255))) gUp_same)) ?_
                        refine v_iinc (pc' := 53) (x := 0) (ls' := [gR 0, gI n, gI (-8)]) (by omega) (by decide) (by rfl) (by rfl) dX11_putNumber_50 rfl ?_
                        refine w_goto (pc' := 3) dX11_putNumber_53 rfl ?_
                        refine w_iload_n (pc' := 4) (i := 2) (by rfl) (by rfl) dX11_putNumber_3 rfl ?_
                        refine w_if_lt (pc' := 7) (t := 56) dX11_putNumber_4 rfl rfl (fun c_4 => ?_) (fun c_4 => ?_)
                        · skip
                          refine w_return rfl dX11_putNumber_56 ?_
                          first | (exfalso; omega) | exact ⟨rfl, rfl⟩
                        · skip
                          exact absurd c_4 (by decide)
          · skip
            refine w_aload_n (pc' := 25) (i := 0) (by rfl) (by rfl) dX11_putNumber_24 rfl ?_
            refine w_getS (pc' := 28) (q := 1) fg_X11_9 kd_0 sf_X11_0 gr_0_0 dX11_putNumber_25 rfl ?_
            refine w_aload_n (pc' := 29) (i := 0) (by rfl) (by rfl) dX11_putNumber_28 rfl ?_
            refine v_getI (pc' := 32) (ji := 1) rfl fg_X11_89 kd_0 dX11_putNumber_29 rfl ?_
            show Wp _ _ _ _ _ _ [gI L, gR 1]
            refine w_iload_n (pc' := 33) (i := 1) (by rfl) (by rfl) dX11_putNumber_32 rfl ?_
            refine w_iload_n (pc' := 34) (i := 2) (by rfl) (by rfl) dX11_putNumber_33 rfl ?_
            refine w_ishr (pc' := 35) dX11_putNumber_34 rfl ?_
            refine w_sipush (pc' := 38) (by decide) (by decide) dX11_putNumber_35 rfl ?_
            refine w_iand (pc' := 39) dX11_putNumber_38 rfl ?_
            refine w_iast (pc' := 40) kd_1 (by omega) (by omega) dX11_putNumber_39 rfl ?_
            refine Wp.heq (σ' := gUr (gUp σ 0 1 L) 1 (updI T L (gB32 (fun a b => a &&& b) (gB32 (fun a b => a >>> (b &&& 31)) n 16) 255))) gUp_row ?_
            refine w_aload_n (pc' := 41) (i := 0) (by rfl) (by rfl) dX11_putNumber_40 rfl ?_
            refine w_dup (pc' := 42) dX11_putNumber_41 rfl ?_
            refine v_getI (pc' := 45) (ji := 1) rfl fg_X11_89 kd_0 dX11_putNumber_42 rfl ?_
            show Wp _ _ _ _ _ _ [gI L, gR 0]
            refine w_iconst (pc' := 46) (by decide) dX11_putNumber_45 rfl ?_
            refine v_iadd (pc' := 47) (by omega) dX11_putNumber_46 rfl ?_
            refine v_putI (pc' := 50) (ji := 1) rfl fp_X11_89 kd_0 sf_X11_1 dX11_putNumber_47 rfl ?_
            refine Wp.heq (σ' := gUr (gUp σ 0 1 (L + 1)) 1 (updI T L (gB32 (fun a b => a &&& b) (gB32 (fun a b => a >>> (b &&& 31)) n 16) 255))) ((gUp_cr (by decide)).trans (congrArg (fun z => gUr z 1 (updI T L (gB32 (fun a b => a &&& b) (gB32 (fun a b => a >>> (b &&& 31)) n 16) 255))) gUp_same)) ?_
            refine v_iinc (pc' := 53) (x := 16) (ls' := [gR 0, gI n, gI 8]) (by omega) (by decide) (by rfl) (by rfl) dX11_putNumber_50 rfl ?_
            refine w_goto (pc' := 3) dX11_putNumber_53 rfl ?_
            refine w_iload_n (pc' := 4) (i := 2) (by rfl) (by rfl) dX11_putNumber_3 rfl ?_
            refine w_if_lt (pc' := 7) (t := 56) dX11_putNumber_4 rfl rfl (fun c_4 => ?_) (fun c_4 => ?_)
            · skip
              exact absurd c_4 (by decide)
            · skip
              refine w_aload_n (pc' := 8) (i := 0) (by rfl) (by rfl) dX11_putNumber_7 rfl ?_
              refine v_getI (pc' := 11) (ji := 1) rfl fg_X11_89 kd_0 dX11_putNumber_8 rfl ?_
              show Wp _ _ _ _ _ _ [gI (L + 1)]
              refine w_if_lt (pc' := 14) (t := 50) dX11_putNumber_11 rfl rfl (fun c_11 => ?_) (fun c_11 => ?_)
              · skip
                refine v_iinc (pc' := 53) (x := 8) (ls' := [gR 0, gI n, gI 0]) (by omega) (by decide) (by rfl) (by rfl) dX11_putNumber_50 rfl ?_
                refine w_goto (pc' := 3) dX11_putNumber_53 rfl ?_
                refine w_iload_n (pc' := 4) (i := 2) (by rfl) (by rfl) dX11_putNumber_3 rfl ?_
                refine w_if_lt (pc' := 7) (t := 56) dX11_putNumber_4 rfl rfl (fun c_4 => ?_) (fun c_4 => ?_)
                · skip
                  exact absurd c_4 (by decide)
                · skip
                  refine w_aload_n (pc' := 8) (i := 0) (by rfl) (by rfl) dX11_putNumber_7 rfl ?_
                  refine v_getI (pc' := 11) (ji := 1) rfl fg_X11_89 kd_0 dX11_putNumber_8 rfl ?_
                  show Wp _ _ _ _ _ _ [gI (L + 1)]
                  refine w_if_lt (pc' := 14) (t := 50) dX11_putNumber_11 rfl rfl (fun c_11 => ?_) (fun c_11 => ?_)
                  · skip
                    refine v_iinc (pc' := 53) (x := 0) (ls' := [gR 0, gI n, gI (-8)]) (by omega) (by decide) (by rfl) (by rfl) dX11_putNumber_50 rfl ?_
                    refine w_goto (pc' := 3) dX11_putNumber_53 rfl ?_
                    refine w_iload_n (pc' := 4) (i := 2) (by rfl) (by rfl) dX11_putNumber_3 rfl ?_
                    refine w_if_lt (pc' := 7) (t := 56) dX11_putNumber_4 rfl rfl (fun c_4 => ?_) (fun c_4 => ?_)
                    · skip
                      refine w_return rfl dX11_putNumber_56 ?_
                      first | (exfalso; omega) | exact ⟨rfl, rfl⟩
                    · skip
                      exact absurd c_4 (by decide)
                  · skip
                    refine w_aload_n (pc' := 15) (i := 0) (by rfl) (by rfl) dX11_putNumber_14 rfl ?_
                    refine v_getI (pc' := 18) (ji := 1) rfl fg_X11_89 kd_0 dX11_putNumber_15 rfl ?_
                    show Wp _ _ _ _ _ _ [gI (L + 1)]
                    refine w_sipush (pc' := 21) (by decide) (by decide) dX11_putNumber_18 rfl ?_
                    refine w_icmp_ge (pc' := 24) (t := 50) dX11_putNumber_21 rfl rfl (fun c_21 => ?_) (fun c_21 => ?_)
                    · skip
                      refine v_iinc (pc' := 53) (x := 0) (ls' := [gR 0, gI n, gI (-8)]) (by omega) (by decide) (by rfl) (by rfl) dX11_putNumber_50 rfl ?_
                      refine w_goto (pc' := 3) dX11_putNumber_53 rfl ?_
                      refine w_iload_n (pc' := 4) (i := 2) (by rfl) (by rfl) dX11_putNumber_3 rfl ?_
                      refine w_if_lt (pc' := 7) (t := 56) dX11_putNumber_4 rfl rfl (fun c_4 => ?_) (fun c_4 => ?_)
                      · skip
                        refine w_return rfl dX11_putNumber_56 ?_
                        first | (exfalso; omega) | exact ⟨rfl, rfl⟩
                      · skip
                        exact absurd c_4 (by decide)
                    · skip
                      refine w_aload_n (pc' := 25) (i := 0) (by rfl) (by rfl) dX11_putNumber_24 rfl ?_
                      refine w_getS (pc' := 28) (q := 1) fg_X11_9 kd_0 sf_X11_0 gr_0_0 dX11_putNumber_25 rfl ?_
                      refine w_aload_n (pc' := 29) (i := 0) (by rfl) (by rfl) dX11_putNumber_28 rfl ?_
                      refine v_getI (pc' := 32) (ji := 1) rfl fg_X11_89 kd_0 dX11_putNumber_29 rfl ?_
                      show Wp _ _ _ _ _ _ [gI (L + 1), gR 1]
                      refine w_iload_n (pc' := 33) (i := 1) (by rfl) (by rfl) dX11_putNumber_32 rfl ?_
                      refine w_iload_n (pc' := 34) (i := 2) (by rfl) (by rfl) dX11_putNumber_33 rfl ?_
                      refine w_ishr (pc' := 35) dX11_putNumber_34 rfl ?_
                      refine w_sipush (pc' := 38) (by decide) (by decide) dX11_putNumber_35 rfl ?_
                      refine w_iand (pc' := 39) dX11_putNumber_38 rfl ?_
                      refine w_iast (pc' := 40) kd_1 (by omega) (by omega) dX11_putNumber_39 rfl ?_
                      refine Wp.heq (σ' := gUr (gUp σ 0 1 (L + 1)) 1 (updI (updI T L (gB32 (fun a b => a &&& b) (gB32 (fun a b => a >>> (b &&& 31)) n 16) 255)) (L + 1) (gB32 (fun a b => a &&& b) (gB32 (fun a b => a >>> (b &&& 31)) n 0) 255))) gUp_row ?_
                      refine w_aload_n (pc' := 41) (i := 0) (by rfl) (by rfl) dX11_putNumber_40 rfl ?_
                      refine w_dup (pc' := 42) dX11_putNumber_41 rfl ?_
                      refine v_getI (pc' := 45) (ji := 1) rfl fg_X11_89 kd_0 dX11_putNumber_42 rfl ?_
                      show Wp _ _ _ _ _ _ [gI (L + 1), gR 0]
                      refine w_iconst (pc' := 46) (by decide) dX11_putNumber_45 rfl ?_
                      refine v_iadd (pc' := 47) (by omega) dX11_putNumber_46 rfl ?_
                      refine v_putI (pc' := 50) (ji := 1) rfl fp_X11_89 kd_0 sf_X11_1 dX11_putNumber_47 rfl ?_
                      refine Wp.heq (σ' := gUr (gUp σ 0 1 ((L + 1) + 1)) 1 (updI (updI T L (gB32 (fun a b => a &&& b) (gB32 (fun a b => a >>> (b &&& 31)) n 16) 255)) (L + 1) (gB32 (fun a b => a &&& b) (gB32 (fun a b => a >>> (b &&& 31)) n 0) 255))) ((gUp_cr (by decide)).trans (congrArg (fun z => gUr z 1 (updI (updI T L (gB32 (fun a b => a &&& b) (gB32 (fun a b => a >>> (b &&& 31)) n 16) 255)) (L + 1) (gB32 (fun a b => a &&& b) (gB32 (fun a b => a >>> (b &&& 31)) n 0) 255))) gUp_same)) ?_
                      refine v_iinc (pc' := 53) (x := 0) (ls' := [gR 0, gI n, gI (-8)]) (by omega) (by decide) (by rfl) (by rfl) dX11_putNumber_50 rfl ?_
                      refine w_goto (pc' := 3) dX11_putNumber_53 rfl ?_
                      refine w_iload_n (pc' := 4) (i := 2) (by rfl) (by rfl) dX11_putNumber_3 rfl ?_
                      refine w_if_lt (pc' := 7) (t := 56) dX11_putNumber_4 rfl rfl (fun c_4 => ?_) (fun c_4 => ?_)
                      · skip
                        refine w_return rfl dX11_putNumber_56 ?_
                        first | (exfalso; omega) | exact ⟨rfl, rfl⟩
                      · skip
                        exact absurd c_4 (by decide)
              · skip
                refine w_aload_n (pc' := 15) (i := 0) (by rfl) (by rfl) dX11_putNumber_14 rfl ?_
                refine v_getI (pc' := 18) (ji := 1) rfl fg_X11_89 kd_0 dX11_putNumber_15 rfl ?_
                show Wp _ _ _ _ _ _ [gI (L + 1)]
                refine w_sipush (pc' := 21) (by decide) (by decide) dX11_putNumber_18 rfl ?_
                refine w_icmp_ge (pc' := 24) (t := 50) dX11_putNumber_21 rfl rfl (fun c_21 => ?_) (fun c_21 => ?_)
                · skip
                  refine v_iinc (pc' := 53) (x := 8) (ls' := [gR 0, gI n, gI 0]) (by omega) (by decide) (by rfl) (by rfl) dX11_putNumber_50 rfl ?_
                  refine w_goto (pc' := 3) dX11_putNumber_53 rfl ?_
                  refine w_iload_n (pc' := 4) (i := 2) (by rfl) (by rfl) dX11_putNumber_3 rfl ?_
                  refine w_if_lt (pc' := 7) (t := 56) dX11_putNumber_4 rfl rfl (fun c_4 => ?_) (fun c_4 => ?_)
                  · skip
                    exact absurd c_4 (by decide)
                  · skip
                    refine w_aload_n (pc' := 8) (i := 0) (by rfl) (by rfl) dX11_putNumber_7 rfl ?_
                    refine v_getI (pc' := 11) (ji := 1) rfl fg_X11_89 kd_0 dX11_putNumber_8 rfl ?_
                    show Wp _ _ _ _ _ _ [gI (L + 1)]
                    refine w_if_lt (pc' := 14) (t := 50) dX11_putNumber_11 rfl rfl (fun c_11 => ?_) (fun c_11 => ?_)
                    · skip
                      refine v_iinc (pc' := 53) (x := 0) (ls' := [gR 0, gI n, gI (-8)]) (by omega) (by decide) (by rfl) (by rfl) dX11_putNumber_50 rfl ?_
                      refine w_goto (pc' := 3) dX11_putNumber_53 rfl ?_
                      refine w_iload_n (pc' := 4) (i := 2) (by rfl) (by rfl) dX11_putNumber_3 rfl ?_
                      refine w_if_lt (pc' := 7) (t := 56) dX11_putNumber_4 rfl rfl (fun c_4 => ?_) (fun c_4 => ?_)
                      · skip
                        refine w_return rfl dX11_putNumber_56 ?_
                        first | (exfalso; omega) | exact ⟨rfl, rfl⟩
                      · skip
                        exact absurd c_4 (by decide)
                    · skip
                      refine w_aload_n (pc' := 15) (i := 0) (by rfl) (by rfl) dX11_putNumber_14 rfl ?_
                      refine v_getI (pc' := 18) (ji := 1) rfl fg_X11_89 kd_0 dX11_putNumber_15 rfl ?_
                      show Wp _ _ _ _ _ _ [gI (L + 1)]
                      refine w_sipush (pc' := 21) (by decide) (by decide) dX11_putNumber_18 rfl ?_
                      refine w_icmp_ge (pc' := 24) (t := 50) dX11_putNumber_21 rfl rfl (fun c_21 => ?_) (fun c_21 => ?_)
                      · skip
                        refine v_iinc (pc' := 53) (x := 0) (ls' := [gR 0, gI n, gI (-8)]) (by omega) (by decide) (by rfl) (by rfl) dX11_putNumber_50 rfl ?_
                        refine w_goto (pc' := 3) dX11_putNumber_53 rfl ?_
                        refine w_iload_n (pc' := 4) (i := 2) (by rfl) (by rfl) dX11_putNumber_3 rfl ?_
                        refine w_if_lt (pc' := 7) (t := 56) dX11_putNumber_4 rfl rfl (fun c_4 => ?_) (fun c_4 => ?_)
                        · skip
                          refine w_return rfl dX11_putNumber_56 ?_
                          first | (exfalso; omega) | exact ⟨rfl, rfl⟩
                        · skip
                          exact absurd c_4 (by decide)
                      · skip
                        refine w_aload_n (pc' := 25) (i := 0) (by rfl) (by rfl) dX11_putNumber_24 rfl ?_
                        refine w_getS (pc' := 28) (q := 1) fg_X11_9 kd_0 sf_X11_0 gr_0_0 dX11_putNumber_25 rfl ?_
                        refine w_aload_n (pc' := 29) (i := 0) (by rfl) (by rfl) dX11_putNumber_28 rfl ?_
                        refine v_getI (pc' := 32) (ji := 1) rfl fg_X11_89 kd_0 dX11_putNumber_29 rfl ?_
                        show Wp _ _ _ _ _ _ [gI (L + 1), gR 1]
                        refine w_iload_n (pc' := 33) (i := 1) (by rfl) (by rfl) dX11_putNumber_32 rfl ?_
                        refine w_iload_n (pc' := 34) (i := 2) (by rfl) (by rfl) dX11_putNumber_33 rfl ?_
                        refine w_ishr (pc' := 35) dX11_putNumber_34 rfl ?_
                        refine w_sipush (pc' := 38) (by decide) (by decide) dX11_putNumber_35 rfl ?_
                        refine w_iand (pc' := 39) dX11_putNumber_38 rfl ?_
                        refine w_iast (pc' := 40) kd_1 (by omega) (by omega) dX11_putNumber_39 rfl ?_
                        refine Wp.heq (σ' := gUr (gUp σ 0 1 (L + 1)) 1 (updI (updI T L (gB32 (fun a b => a &&& b) (gB32 (fun a b => a >>> (b &&& 31)) n 16) 255)) (L + 1) (gB32 (fun a b => a &&& b) (gB32 (fun a b => a >>> (b &&& 31)) n 0) 255))) gUp_row ?_
                        refine w_aload_n (pc' := 41) (i := 0) (by rfl) (by rfl) dX11_putNumber_40 rfl ?_
                        refine w_dup (pc' := 42) dX11_putNumber_41 rfl ?_
                        refine v_getI (pc' := 45) (ji := 1) rfl fg_X11_89 kd_0 dX11_putNumber_42 rfl ?_
                        show Wp _ _ _ _ _ _ [gI (L + 1), gR 0]
                        refine w_iconst (pc' := 46) (by decide) dX11_putNumber_45 rfl ?_
                        refine v_iadd (pc' := 47) (by omega) dX11_putNumber_46 rfl ?_
                        refine v_putI (pc' := 50) (ji := 1) rfl fp_X11_89 kd_0 sf_X11_1 dX11_putNumber_47 rfl ?_
                        refine Wp.heq (σ' := gUr (gUp σ 0 1 ((L + 1) + 1)) 1 (updI (updI T L (gB32 (fun a b => a &&& b) (gB32 (fun a b => a >>> (b &&& 31)) n 16) 255)) (L + 1) (gB32 (fun a b => a &&& b) (gB32 (fun a b => a >>> (b &&& 31)) n 0) 255))) ((gUp_cr (by decide)).trans (congrArg (fun z => gUr z 1 (updI (updI T L (gB32 (fun a b => a &&& b) (gB32 (fun a b => a >>> (b &&& 31)) n 16) 255)) (L + 1) (gB32 (fun a b => a &&& b) (gB32 (fun a b => a >>> (b &&& 31)) n 0) 255))) gUp_same)) ?_
                        refine v_iinc (pc' := 53) (x := 0) (ls' := [gR 0, gI n, gI (-8)]) (by omega) (by decide) (by rfl) (by rfl) dX11_putNumber_50 rfl ?_
                        refine w_goto (pc' := 3) dX11_putNumber_53 rfl ?_
                        refine w_iload_n (pc' := 4) (i := 2) (by rfl) (by rfl) dX11_putNumber_3 rfl ?_
                        refine w_if_lt (pc' := 7) (t := 56) dX11_putNumber_4 rfl rfl (fun c_4 => ?_) (fun c_4 => ?_)
                        · skip
                          refine w_return rfl dX11_putNumber_56 ?_
                          first | (exfalso; omega) | exact ⟨rfl, rfl⟩
                        · skip
                          exact absurd c_4 (by decide)
                · skip
                  refine w_aload_n (pc' := 25) (i := 0) (by rfl) (by rfl) dX11_putNumber_24 rfl ?_
                  refine w_getS (pc' := 28) (q := 1) fg_X11_9 kd_0 sf_X11_0 gr_0_0 dX11_putNumber_25 rfl ?_
                  refine w_aload_n (pc' := 29) (i := 0) (by rfl) (by rfl) dX11_putNumber_28 rfl ?_
                  refine v_getI (pc' := 32) (ji := 1) rfl fg_X11_89 kd_0 dX11_putNumber_29 rfl ?_
                  show Wp _ _ _ _ _ _ [gI (L + 1), gR 1]
                  refine w_iload_n (pc' := 33) (i := 1) (by rfl) (by rfl) dX11_putNumber_32 rfl ?_
                  refine w_iload_n (pc' := 34) (i := 2) (by rfl) (by rfl) dX11_putNumber_33 rfl ?_
                  refine w_ishr (pc' := 35) dX11_putNumber_34 rfl ?_
                  refine w_sipush (pc' := 38) (by decide) (by decide) dX11_putNumber_35 rfl ?_
                  refine w_iand (pc' := 39) dX11_putNumber_38 rfl ?_
                  refine w_iast (pc' := 40) kd_1 (by omega) (by omega) dX11_putNumber_39 rfl ?_
                  refine Wp.heq (σ' := gUr (gUp σ 0 1 (L + 1)) 1 (updI (updI T L (gB32 (fun a b => a &&& b) (gB32 (fun a b => a >>> (b &&& 31)) n 16) 255)) (L + 1) (gB32 (fun a b => a &&& b) (gB32 (fun a b => a >>> (b &&& 31)) n 8) 255))) gUp_row ?_
                  refine w_aload_n (pc' := 41) (i := 0) (by rfl) (by rfl) dX11_putNumber_40 rfl ?_
                  refine w_dup (pc' := 42) dX11_putNumber_41 rfl ?_
                  refine v_getI (pc' := 45) (ji := 1) rfl fg_X11_89 kd_0 dX11_putNumber_42 rfl ?_
                  show Wp _ _ _ _ _ _ [gI (L + 1), gR 0]
                  refine w_iconst (pc' := 46) (by decide) dX11_putNumber_45 rfl ?_
                  refine v_iadd (pc' := 47) (by omega) dX11_putNumber_46 rfl ?_
                  refine v_putI (pc' := 50) (ji := 1) rfl fp_X11_89 kd_0 sf_X11_1 dX11_putNumber_47 rfl ?_
                  refine Wp.heq (σ' := gUr (gUp σ 0 1 ((L + 1) + 1)) 1 (updI (updI T L (gB32 (fun a b => a &&& b) (gB32 (fun a b => a >>> (b &&& 31)) n 16) 255)) (L + 1) (gB32 (fun a b => a &&& b) (gB32 (fun a b => a >>> (b &&& 31)) n 8) 255))) ((gUp_cr (by decide)).trans (congrArg (fun z => gUr z 1 (updI (updI T L (gB32 (fun a b => a &&& b) (gB32 (fun a b => a >>> (b &&& 31)) n 16) 255)) (L + 1) (gB32 (fun a b => a &&& b) (gB32 (fun a b => a >>> (b &&& 31)) n 8) 255))) gUp_same)) ?_
                  refine v_iinc (pc' := 53) (x := 8) (ls' := [gR 0, gI n, gI 0]) (by omega) (by decide) (by rfl) (by rfl) dX11_putNumber_50 rfl ?_
                  refine w_goto (pc' := 3) dX11_putNumber_53 rfl ?_
                  refine w_iload_n (pc' := 4) (i := 2) (by rfl) (by rfl) dX11_putNumber_3 rfl ?_
                  refine w_if_lt (pc' := 7) (t := 56) dX11_putNumber_4 rfl rfl (fun c_4 => ?_) (fun c_4 => ?_)
                  · skip
                    exact absurd c_4 (by decide)
                  · skip
                    refine w_aload_n (pc' := 8) (i := 0) (by rfl) (by rfl) dX11_putNumber_7 rfl ?_
                    refine v_getI (pc' := 11) (ji := 1) rfl fg_X11_89 kd_0 dX11_putNumber_8 rfl ?_
                    show Wp _ _ _ _ _ _ [gI ((L + 1) + 1)]
                    refine w_if_lt (pc' := 14) (t := 50) dX11_putNumber_11 rfl rfl (fun c_11 => ?_) (fun c_11 => ?_)
                    · skip
                      refine v_iinc (pc' := 53) (x := 0) (ls' := [gR 0, gI n, gI (-8)]) (by omega) (by decide) (by rfl) (by rfl) dX11_putNumber_50 rfl ?_
                      refine w_goto (pc' := 3) dX11_putNumber_53 rfl ?_
                      refine w_iload_n (pc' := 4) (i := 2) (by rfl) (by rfl) dX11_putNumber_3 rfl ?_
                      refine w_if_lt (pc' := 7) (t := 56) dX11_putNumber_4 rfl rfl (fun c_4 => ?_) (fun c_4 => ?_)
                      · skip
                        refine w_return rfl dX11_putNumber_56 ?_
                        first | (exfalso; omega) | exact ⟨rfl, rfl⟩
                      · skip
                        exact absurd c_4 (by decide)
                    · skip
                      refine w_aload_n (pc' := 15) (i := 0) (by rfl) (by rfl) dX11_putNumber_14 rfl ?_
                      refine v_getI (pc' := 18) (ji := 1) rfl fg_X11_89 kd_0 dX11_putNumber_15 rfl ?_
                      show Wp _ _ _ _ _ _ [gI ((L + 1) + 1)]
                      refine w_sipush (pc' := 21) (by decide) (by decide) dX11_putNumber_18 rfl ?_
                      refine w_icmp_ge (pc' := 24) (t := 50) dX11_putNumber_21 rfl rfl (fun c_21 => ?_) (fun c_21 => ?_)
                      · skip
                        refine v_iinc (pc' := 53) (x := 0) (ls' := [gR 0, gI n, gI (-8)]) (by omega) (by decide) (by rfl) (by rfl) dX11_putNumber_50 rfl ?_
                        refine w_goto (pc' := 3) dX11_putNumber_53 rfl ?_
                        refine w_iload_n (pc' := 4) (i := 2) (by rfl) (by rfl) dX11_putNumber_3 rfl ?_
                        refine w_if_lt (pc' := 7) (t := 56) dX11_putNumber_4 rfl rfl (fun c_4 => ?_) (fun c_4 => ?_)
                        · skip
                          refine w_return rfl dX11_putNumber_56 ?_
                          first | (exfalso; omega) | exact ⟨rfl, rfl⟩
                        · skip
                          exact absurd c_4 (by decide)
                      · skip
                        refine w_aload_n (pc' := 25) (i := 0) (by rfl) (by rfl) dX11_putNumber_24 rfl ?_
                        refine w_getS (pc' := 28) (q := 1) fg_X11_9 kd_0 sf_X11_0 gr_0_0 dX11_putNumber_25 rfl ?_
                        refine w_aload_n (pc' := 29) (i := 0) (by rfl) (by rfl) dX11_putNumber_28 rfl ?_
                        refine v_getI (pc' := 32) (ji := 1) rfl fg_X11_89 kd_0 dX11_putNumber_29 rfl ?_
                        show Wp _ _ _ _ _ _ [gI ((L + 1) + 1), gR 1]
                        refine w_iload_n (pc' := 33) (i := 1) (by rfl) (by rfl) dX11_putNumber_32 rfl ?_
                        refine w_iload_n (pc' := 34) (i := 2) (by rfl) (by rfl) dX11_putNumber_33 rfl ?_
                        refine w_ishr (pc' := 35) dX11_putNumber_34 rfl ?_
                        refine w_sipush (pc' := 38) (by decide) (by decide) dX11_putNumber_35 rfl ?_
                        refine w_iand (pc' := 39) dX11_putNumber_38 rfl ?_
                        refine w_iast (pc' := 40) kd_1 (by omega) (by omega) dX11_putNumber_39 rfl ?_
                        refine Wp.heq (σ' := gUr (gUp σ 0 1 ((L + 1) + 1)) 1 (updI (updI (updI T L (gB32 (fun a b => a &&& b) (gB32 (fun a b => a >>> (b &&& 31)) n 16) 255)) (L + 1) (gB32 (fun a b => a &&& b) (gB32 (fun a b => a >>> (b &&& 31)) n 8) 255)) ((L + 1) + 1) (gB32 (fun a b => a &&& b) (gB32 (fun a b => a >>> (b &&& 31)) n 0) 255))) gUp_row ?_
                        refine w_aload_n (pc' := 41) (i := 0) (by rfl) (by rfl) dX11_putNumber_40 rfl ?_
                        refine w_dup (pc' := 42) dX11_putNumber_41 rfl ?_
                        refine v_getI (pc' := 45) (ji := 1) rfl fg_X11_89 kd_0 dX11_putNumber_42 rfl ?_
                        show Wp _ _ _ _ _ _ [gI ((L + 1) + 1), gR 0]
                        refine w_iconst (pc' := 46) (by decide) dX11_putNumber_45 rfl ?_
                        refine v_iadd (pc' := 47) (by omega) dX11_putNumber_46 rfl ?_
                        refine v_putI (pc' := 50) (ji := 1) rfl fp_X11_89 kd_0 sf_X11_1 dX11_putNumber_47 rfl ?_
                        refine Wp.heq (σ' := gUr (gUp σ 0 1 (((L + 1) + 1) + 1)) 1 (updI (updI (updI T L (gB32 (fun a b => a &&& b) (gB32 (fun a b => a >>> (b &&& 31)) n 16) 255)) (L + 1) (gB32 (fun a b => a &&& b) (gB32 (fun a b => a >>> (b &&& 31)) n 8) 255)) ((L + 1) + 1) (gB32 (fun a b => a &&& b) (gB32 (fun a b => a >>> (b &&& 31)) n 0) 255))) ((gUp_cr (by decide)).trans (congrArg (fun z => gUr z 1 (updI (updI (updI T L (gB32 (fun a b => a &&& b) (gB32 (fun a b => a >>> (b &&& 31)) n 16) 255)) (L + 1) (gB32 (fun a b => a &&& b) (gB32 (fun a b => a >>> (b &&& 31)) n 8) 255)) ((L + 1) + 1) (gB32 (fun a b => a &&& b) (gB32 (fun a b => a >>> (b &&& 31)) n 0) 255))) gUp_same)) ?_
                        refine v_iinc (pc' := 53) (x := 0) (ls' := [gR 0, gI n, gI (-8)]) (by omega) (by decide) (by rfl) (by rfl) dX11_putNumber_50 rfl ?_
                        refine w_goto (pc' := 3) dX11_putNumber_53 rfl ?_
                        refine w_iload_n (pc' := 4) (i := 2) (by rfl) (by rfl) dX11_putNumber_3 rfl ?_
                        refine w_if_lt (pc' := 7) (t := 56) dX11_putNumber_4 rfl rfl (fun c_4 => ?_) (fun c_4 => ?_)
                        · skip
                          refine w_return rfl dX11_putNumber_56 ?_
                          first | (exfalso; omega) | exact ⟨rfl, rfl⟩
                        · skip
                          exact absurd c_4 (by decide)
    · skip
      refine w_aload_n (pc' := 15) (i := 0) (by rfl) (by rfl) dX11_putNumber_14 rfl ?_
      refine v_getI (pc' := 18) (ji := 1) rfl fg_X11_89 kd_0 dX11_putNumber_15 rfl ?_
      show Wp _ _ _ _ _ _ [gI L]
      refine w_sipush (pc' := 21) (by decide) (by decide) dX11_putNumber_18 rfl ?_
      refine w_icmp_ge (pc' := 24) (t := 50) dX11_putNumber_21 rfl rfl (fun c_21 => ?_) (fun c_21 => ?_)
      · skip
        refine v_iinc (pc' := 53) (x := 24) (ls' := [gR 0, gI n, gI 16]) (by omega) (by decide) (by rfl) (by rfl) dX11_putNumber_50 rfl ?_
        refine w_goto (pc' := 3) dX11_putNumber_53 rfl ?_
        refine w_iload_n (pc' := 4) (i := 2) (by rfl) (by rfl) dX11_putNumber_3 rfl ?_
        refine w_if_lt (pc' := 7) (t := 56) dX11_putNumber_4 rfl rfl (fun c_4 => ?_) (fun c_4 => ?_)
        · skip
          exact absurd c_4 (by decide)
        · skip
          refine w_aload_n (pc' := 8) (i := 0) (by rfl) (by rfl) dX11_putNumber_7 rfl ?_
          refine v_getI (pc' := 11) (ji := 1) rfl fg_X11_89 kd_0 dX11_putNumber_8 rfl ?_
          show Wp _ _ _ _ _ _ [gI L]
          refine w_if_lt (pc' := 14) (t := 50) dX11_putNumber_11 rfl rfl (fun c_11 => ?_) (fun c_11 => ?_)
          · skip
            refine v_iinc (pc' := 53) (x := 16) (ls' := [gR 0, gI n, gI 8]) (by omega) (by decide) (by rfl) (by rfl) dX11_putNumber_50 rfl ?_
            refine w_goto (pc' := 3) dX11_putNumber_53 rfl ?_
            refine w_iload_n (pc' := 4) (i := 2) (by rfl) (by rfl) dX11_putNumber_3 rfl ?_
            refine w_if_lt (pc' := 7) (t := 56) dX11_putNumber_4 rfl rfl (fun c_4 => ?_) (fun c_4 => ?_)
            · skip
              exact absurd c_4 (by decide)
            · skip
              refine w_aload_n (pc' := 8) (i := 0) (by rfl) (by rfl) dX11_putNumber_7 rfl ?_
              refine v_getI (pc' := 11) (ji := 1) rfl fg_X11_89 kd_0 dX11_putNumber_8 rfl ?_
              show Wp _ _ _ _ _ _ [gI L]
              refine w_if_lt (pc' := 14) (t := 50) dX11_putNumber_11 rfl rfl (fun c_11 => ?_) (fun c_11 => ?_)
              · skip
                refine v_iinc (pc' := 53) (x := 8) (ls' := [gR 0, gI n, gI 0]) (by omega) (by decide) (by rfl) (by rfl) dX11_putNumber_50 rfl ?_
                refine w_goto (pc' := 3) dX11_putNumber_53 rfl ?_
                refine w_iload_n (pc' := 4) (i := 2) (by rfl) (by rfl) dX11_putNumber_3 rfl ?_
                refine w_if_lt (pc' := 7) (t := 56) dX11_putNumber_4 rfl rfl (fun c_4 => ?_) (fun c_4 => ?_)
                · skip
                  exact absurd c_4 (by decide)
                · skip
                  refine w_aload_n (pc' := 8) (i := 0) (by rfl) (by rfl) dX11_putNumber_7 rfl ?_
                  refine v_getI (pc' := 11) (ji := 1) rfl fg_X11_89 kd_0 dX11_putNumber_8 rfl ?_
                  show Wp _ _ _ _ _ _ [gI L]
                  refine w_if_lt (pc' := 14) (t := 50) dX11_putNumber_11 rfl rfl (fun c_11 => ?_) (fun c_11 => ?_)
                  · skip
                    refine v_iinc (pc' := 53) (x := 0) (ls' := [gR 0, gI n, gI (-8)]) (by omega) (by decide) (by rfl) (by rfl) dX11_putNumber_50 rfl ?_
                    refine w_goto (pc' := 3) dX11_putNumber_53 rfl ?_
                    refine w_iload_n (pc' := 4) (i := 2) (by rfl) (by rfl) dX11_putNumber_3 rfl ?_
                    refine w_if_lt (pc' := 7) (t := 56) dX11_putNumber_4 rfl rfl (fun c_4 => ?_) (fun c_4 => ?_)
                    · skip
                      refine w_return rfl dX11_putNumber_56 ?_
                      first | (exfalso; omega) | exact ⟨rfl, rfl⟩
                    · skip
                      exact absurd c_4 (by decide)
                  · skip
                    refine w_aload_n (pc' := 15) (i := 0) (by rfl) (by rfl) dX11_putNumber_14 rfl ?_
                    refine v_getI (pc' := 18) (ji := 1) rfl fg_X11_89 kd_0 dX11_putNumber_15 rfl ?_
                    show Wp _ _ _ _ _ _ [gI L]
                    refine w_sipush (pc' := 21) (by decide) (by decide) dX11_putNumber_18 rfl ?_
                    refine w_icmp_ge (pc' := 24) (t := 50) dX11_putNumber_21 rfl rfl (fun c_21 => ?_) (fun c_21 => ?_)
                    · skip
                      refine v_iinc (pc' := 53) (x := 0) (ls' := [gR 0, gI n, gI (-8)]) (by omega) (by decide) (by rfl) (by rfl) dX11_putNumber_50 rfl ?_
                      refine w_goto (pc' := 3) dX11_putNumber_53 rfl ?_
                      refine w_iload_n (pc' := 4) (i := 2) (by rfl) (by rfl) dX11_putNumber_3 rfl ?_
                      refine w_if_lt (pc' := 7) (t := 56) dX11_putNumber_4 rfl rfl (fun c_4 => ?_) (fun c_4 => ?_)
                      · skip
                        refine w_return rfl dX11_putNumber_56 ?_
                        first | (exfalso; omega) | exact ⟨rfl, rfl⟩
                      · skip
                        exact absurd c_4 (by decide)
                    · skip
                      refine w_aload_n (pc' := 25) (i := 0) (by rfl) (by rfl) dX11_putNumber_24 rfl ?_
                      refine w_getS (pc' := 28) (q := 1) fg_X11_9 kd_0 sf_X11_0 gr_0_0 dX11_putNumber_25 rfl ?_
                      refine w_aload_n (pc' := 29) (i := 0) (by rfl) (by rfl) dX11_putNumber_28 rfl ?_
                      refine v_getI (pc' := 32) (ji := 1) rfl fg_X11_89 kd_0 dX11_putNumber_29 rfl ?_
                      show Wp _ _ _ _ _ _ [gI L, gR 1]
                      refine w_iload_n (pc' := 33) (i := 1) (by rfl) (by rfl) dX11_putNumber_32 rfl ?_
                      refine w_iload_n (pc' := 34) (i := 2) (by rfl) (by rfl) dX11_putNumber_33 rfl ?_
                      refine w_ishr (pc' := 35) dX11_putNumber_34 rfl ?_
                      refine w_sipush (pc' := 38) (by decide) (by decide) dX11_putNumber_35 rfl ?_
                      refine w_iand (pc' := 39) dX11_putNumber_38 rfl ?_
                      refine w_iast (pc' := 40) kd_1 (by omega) (by omega) dX11_putNumber_39 rfl ?_
                      refine Wp.heq (σ' := gUr (gUp σ 0 1 L) 1 (updI T L (gB32 (fun a b => a &&& b) (gB32 (fun a b => a >>> (b &&& 31)) n 0) 255))) gUp_row ?_
                      refine w_aload_n (pc' := 41) (i := 0) (by rfl) (by rfl) dX11_putNumber_40 rfl ?_
                      refine w_dup (pc' := 42) dX11_putNumber_41 rfl ?_
                      refine v_getI (pc' := 45) (ji := 1) rfl fg_X11_89 kd_0 dX11_putNumber_42 rfl ?_
                      show Wp _ _ _ _ _ _ [gI L, gR 0]
                      refine w_iconst (pc' := 46) (by decide) dX11_putNumber_45 rfl ?_
                      refine v_iadd (pc' := 47) (by omega) dX11_putNumber_46 rfl ?_
                      refine v_putI (pc' := 50) (ji := 1) rfl fp_X11_89 kd_0 sf_X11_1 dX11_putNumber_47 rfl ?_
                      refine Wp.heq (σ' := gUr (gUp σ 0 1 (L + 1)) 1 (updI T L (gB32 (fun a b => a &&& b) (gB32 (fun a b => a >>> (b &&& 31)) n 0) 255))) ((gUp_cr (by decide)).trans (congrArg (fun z => gUr z 1 (updI T L (gB32 (fun a b => a &&& b) (gB32 (fun a b => a >>> (b &&& 31)) n 0) 255))) gUp_same)) ?_
                      refine v_iinc (pc' := 53) (x := 0) (ls' := [gR 0, gI n, gI (-8)]) (by omega) (by decide) (by rfl) (by rfl) dX11_putNumber_50 rfl ?_
                      refine w_goto (pc' := 3) dX11_putNumber_53 rfl ?_
                      refine w_iload_n (pc' := 4) (i := 2) (by rfl) (by rfl) dX11_putNumber_3 rfl ?_
                      refine w_if_lt (pc' := 7) (t := 56) dX11_putNumber_4 rfl rfl (fun c_4 => ?_) (fun c_4 => ?_)
                      · skip
                        refine w_return rfl dX11_putNumber_56 ?_
                        first | (exfalso; omega) | exact ⟨rfl, rfl⟩
                      · skip
                        exact absurd c_4 (by decide)
              · skip
                refine w_aload_n (pc' := 15) (i := 0) (by rfl) (by rfl) dX11_putNumber_14 rfl ?_
                refine v_getI (pc' := 18) (ji := 1) rfl fg_X11_89 kd_0 dX11_putNumber_15 rfl ?_
                show Wp _ _ _ _ _ _ [gI L]
                refine w_sipush (pc' := 21) (by decide) (by decide) dX11_putNumber_18 rfl ?_
                refine w_icmp_ge (pc' := 24) (t := 50) dX11_putNumber_21 rfl rfl (fun c_21 => ?_) (fun c_21 => ?_)
                · skip
                  refine v_iinc (pc' := 53) (x := 8) (ls' := [gR 0, gI n, gI 0]) (by omega) (by decide) (by rfl) (by rfl) dX11_putNumber_50 rfl ?_
                  refine w_goto (pc' := 3) dX11_putNumber_53 rfl ?_
                  refine w_iload_n (pc' := 4) (i := 2) (by rfl) (by rfl) dX11_putNumber_3 rfl ?_
                  refine w_if_lt (pc' := 7) (t := 56) dX11_putNumber_4 rfl rfl (fun c_4 => ?_) (fun c_4 => ?_)
                  · skip
                    exact absurd c_4 (by decide)
                  · skip
                    refine w_aload_n (pc' := 8) (i := 0) (by rfl) (by rfl) dX11_putNumber_7 rfl ?_
                    refine v_getI (pc' := 11) (ji := 1) rfl fg_X11_89 kd_0 dX11_putNumber_8 rfl ?_
                    show Wp _ _ _ _ _ _ [gI L]
                    refine w_if_lt (pc' := 14) (t := 50) dX11_putNumber_11 rfl rfl (fun c_11 => ?_) (fun c_11 => ?_)
                    · skip
                      refine v_iinc (pc' := 53) (x := 0) (ls' := [gR 0, gI n, gI (-8)]) (by omega) (by decide) (by rfl) (by rfl) dX11_putNumber_50 rfl ?_
                      refine w_goto (pc' := 3) dX11_putNumber_53 rfl ?_
                      refine w_iload_n (pc' := 4) (i := 2) (by rfl) (by rfl) dX11_putNumber_3 rfl ?_
                      refine w_if_lt (pc' := 7) (t := 56) dX11_putNumber_4 rfl rfl (fun c_4 => ?_) (fun c_4 => ?_)
                      · skip
                        refine w_return rfl dX11_putNumber_56 ?_
                        first | (exfalso; omega) | exact ⟨rfl, rfl⟩
                      · skip
                        exact absurd c_4 (by decide)
                    · skip
                      refine w_aload_n (pc' := 15) (i := 0) (by rfl) (by rfl) dX11_putNumber_14 rfl ?_
                      refine v_getI (pc' := 18) (ji := 1) rfl fg_X11_89 kd_0 dX11_putNumber_15 rfl ?_
                      show Wp _ _ _ _ _ _ [gI L]
                      refine w_sipush (pc' := 21) (by decide) (by decide) dX11_putNumber_18 rfl ?_
                      refine w_icmp_ge (pc' := 24) (t := 50) dX11_putNumber_21 rfl rfl (fun c_21 => ?_) (fun c_21 => ?_)
                      · skip
                        refine v_iinc (pc' := 53) (x := 0) (ls' := [gR 0, gI n, gI (-8)]) (by omega) (by decide) (by rfl) (by rfl) dX11_putNumber_50 rfl ?_
                        refine w_goto (pc' := 3) dX11_putNumber_53 rfl ?_
                        refine w_iload_n (pc' := 4) (i := 2) (by rfl) (by rfl) dX11_putNumber_3 rfl ?_
                        refine w_if_lt (pc' := 7) (t := 56) dX11_putNumber_4 rfl rfl (fun c_4 => ?_) (fun c_4 => ?_)
                        · skip
                          refine w_return rfl dX11_putNumber_56 ?_
                          first | (exfalso; omega) | exact ⟨rfl, rfl⟩
                        · skip
                          exact absurd c_4 (by decide)
                      · skip
                        refine w_aload_n (pc' := 25) (i := 0) (by rfl) (by rfl) dX11_putNumber_24 rfl ?_
                        refine w_getS (pc' := 28) (q := 1) fg_X11_9 kd_0 sf_X11_0 gr_0_0 dX11_putNumber_25 rfl ?_
                        refine w_aload_n (pc' := 29) (i := 0) (by rfl) (by rfl) dX11_putNumber_28 rfl ?_
                        refine v_getI (pc' := 32) (ji := 1) rfl fg_X11_89 kd_0 dX11_putNumber_29 rfl ?_
                        show Wp _ _ _ _ _ _ [gI L, gR 1]
                        refine w_iload_n (pc' := 33) (i := 1) (by rfl) (by rfl) dX11_putNumber_32 rfl ?_
                        refine w_iload_n (pc' := 34) (i := 2) (by rfl) (by rfl) dX11_putNumber_33 rfl ?_
                        refine w_ishr (pc' := 35) dX11_putNumber_34 rfl ?_
                        refine w_sipush (pc' := 38) (by decide) (by decide) dX11_putNumber_35 rfl ?_
                        refine w_iand (pc' := 39) dX11_putNumber_38 rfl ?_
                        refine w_iast (pc' := 40) kd_1 (by omega) (by omega) dX11_putNumber_39 rfl ?_
                        refine Wp.heq (σ' := gUr (gUp σ 0 1 L) 1 (updI T L (gB32 (fun a b => a &&& b) (gB32 (fun a b => a >>> (b &&& 31)) n 0) 255))) gUp_row ?_
                        refine w_aload_n (pc' := 41) (i := 0) (by rfl) (by rfl) dX11_putNumber_40 rfl ?_
                        refine w_dup (pc' := 42) dX11_putNumber_41 rfl ?_
                        refine v_getI (pc' := 45) (ji := 1) rfl fg_X11_89 kd_0 dX11_putNumber_42 rfl ?_
                        show Wp _ _ _ _ _ _ [gI L, gR 0]
                        refine w_iconst (pc' := 46) (by decide) dX11_putNumber_45 rfl ?_
                        refine v_iadd (pc' := 47) (by omega) dX11_putNumber_46 rfl ?_
                        refine v_putI (pc' := 50) (ji := 1) rfl fp_X11_89 kd_0 sf_X11_1 dX11_putNumber_47 rfl ?_
                        refine Wp.heq (σ' := gUr (gUp σ 0 1 (L + 1)) 1 (updI T L (gB32 (fun a b => a &&& b) (gB32 (fun a b => a >>> (b &&& 31)) n 0) 255))) ((gUp_cr (by decide)).trans (congrArg (fun z => gUr z 1 (updI T L (gB32 (fun a b => a &&& b) (gB32 (fun a b => a >>> (b &&& 31)) n 0) 255))) gUp_same)) ?_
                        refine v_iinc (pc' := 53) (x := 0) (ls' := [gR 0, gI n, gI (-8)]) (by omega) (by decide) (by rfl) (by rfl) dX11_putNumber_50 rfl ?_
                        refine w_goto (pc' := 3) dX11_putNumber_53 rfl ?_
                        refine w_iload_n (pc' := 4) (i := 2) (by rfl) (by rfl) dX11_putNumber_3 rfl ?_
                        refine w_if_lt (pc' := 7) (t := 56) dX11_putNumber_4 rfl rfl (fun c_4 => ?_) (fun c_4 => ?_)
                        · skip
                          refine w_return rfl dX11_putNumber_56 ?_
                          first | (exfalso; omega) | exact ⟨rfl, rfl⟩
                        · skip
                          exact absurd c_4 (by decide)
                · skip
                  refine w_aload_n (pc' := 25) (i := 0) (by rfl) (by rfl) dX11_putNumber_24 rfl ?_
                  refine w_getS (pc' := 28) (q := 1) fg_X11_9 kd_0 sf_X11_0 gr_0_0 dX11_putNumber_25 rfl ?_
                  refine w_aload_n (pc' := 29) (i := 0) (by rfl) (by rfl) dX11_putNumber_28 rfl ?_
                  refine v_getI (pc' := 32) (ji := 1) rfl fg_X11_89 kd_0 dX11_putNumber_29 rfl ?_
                  show Wp _ _ _ _ _ _ [gI L, gR 1]
                  refine w_iload_n (pc' := 33) (i := 1) (by rfl) (by rfl) dX11_putNumber_32 rfl ?_
                  refine w_iload_n (pc' := 34) (i := 2) (by rfl) (by rfl) dX11_putNumber_33 rfl ?_
                  refine w_ishr (pc' := 35) dX11_putNumber_34 rfl ?_
                  refine w_sipush (pc' := 38) (by decide) (by decide) dX11_putNumber_35 rfl ?_
                  refine w_iand (pc' := 39) dX11_putNumber_38 rfl ?_
                  refine w_iast (pc' := 40) kd_1 (by omega) (by omega) dX11_putNumber_39 rfl ?_
                  refine Wp.heq (σ' := gUr (gUp σ 0 1 L) 1 (updI T L (gB32 (fun a b => a &&& b) (gB32 (fun a b => a >>> (b &&& 31)) n 8) 255))) gUp_row ?_
                  refine w_aload_n (pc' := 41) (i := 0) (by rfl) (by rfl) dX11_putNumber_40 rfl ?_
                  refine w_dup (pc' := 42) dX11_putNumber_41 rfl ?_
                  refine v_getI (pc' := 45) (ji := 1) rfl fg_X11_89 kd_0 dX11_putNumber_42 rfl ?_
                  show Wp _ _ _ _ _ _ [gI L, gR 0]
                  refine w_iconst (pc' := 46) (by decide) dX11_putNumber_45 rfl ?_
                  refine v_iadd (pc' := 47) (by omega) dX11_putNumber_46 rfl ?_
                  refine v_putI (pc' := 50) (ji := 1) rfl fp_X11_89 kd_0 sf_X11_1 dX11_putNumber_47 rfl ?_
                  refine Wp.heq (σ' := gUr (gUp σ 0 1 (L + 1)) 1 (updI T L (gB32 (fun a b => a &&& b) (gB32 (fun a b => a >>> (b &&& 31)) n 8) 255))) ((gUp_cr (by decide)).trans (congrArg (fun z => gUr z 1 (updI T L (gB32 (fun a b => a &&& b) (gB32 (fun a b => a >>> (b &&& 31)) n 8) 255))) gUp_same)) ?_
                  refine v_iinc (pc' := 53) (x := 8) (ls' := [gR 0, gI n, gI 0]) (by omega) (by decide) (by rfl) (by rfl) dX11_putNumber_50 rfl ?_
                  refine w_goto (pc' := 3) dX11_putNumber_53 rfl ?_
                  refine w_iload_n (pc' := 4) (i := 2) (by rfl) (by rfl) dX11_putNumber_3 rfl ?_
                  refine w_if_lt (pc' := 7) (t := 56) dX11_putNumber_4 rfl rfl (fun c_4 => ?_) (fun c_4 => ?_)
                  · skip
                    exact absurd c_4 (by decide)
                  · skip
                    refine w_aload_n (pc' := 8) (i := 0) (by rfl) (by rfl) dX11_putNumber_7 rfl ?_
                    refine v_getI (pc' := 11) (ji := 1) rfl fg_X11_89 kd_0 dX11_putNumber_8 rfl ?_
                    show Wp _ _ _ _ _ _ [gI (L + 1)]
                    refine w_if_lt (pc' := 14) (t := 50) dX11_putNumber_11 rfl rfl (fun c_11 => ?_) (fun c_11 => ?_)
                    · skip
                      refine v_iinc (pc' := 53) (x := 0) (ls' := [gR 0, gI n, gI (-8)]) (by omega) (by decide) (by rfl) (by rfl) dX11_putNumber_50 rfl ?_
                      refine w_goto (pc' := 3) dX11_putNumber_53 rfl ?_
                      refine w_iload_n (pc' := 4) (i := 2) (by rfl) (by rfl) dX11_putNumber_3 rfl ?_
                      refine w_if_lt (pc' := 7) (t := 56) dX11_putNumber_4 rfl rfl (fun c_4 => ?_) (fun c_4 => ?_)
                      · skip
                        refine w_return rfl dX11_putNumber_56 ?_
                        first | (exfalso; omega) | exact ⟨rfl, rfl⟩
                      · skip
                        exact absurd c_4 (by decide)
                    · skip
                      refine w_aload_n (pc' := 15) (i := 0) (by rfl) (by rfl) dX11_putNumber_14 rfl ?_
                      refine v_getI (pc' := 18) (ji := 1) rfl fg_X11_89 kd_0 dX11_putNumber_15 rfl ?_
                      show Wp _ _ _ _ _ _ [gI (L + 1)]
                      refine w_sipush (pc' := 21) (by decide) (by decide) dX11_putNumber_18 rfl ?_
                      refine w_icmp_ge (pc' := 24) (t := 50) dX11_putNumber_21 rfl rfl (fun c_21 => ?_) (fun c_21 => ?_)
                      · skip
                        refine v_iinc (pc' := 53) (x := 0) (ls' := [gR 0, gI n, gI (-8)]) (by omega) (by decide) (by rfl) (by rfl) dX11_putNumber_50 rfl ?_
                        refine w_goto (pc' := 3) dX11_putNumber_53 rfl ?_
                        refine w_iload_n (pc' := 4) (i := 2) (by rfl) (by rfl) dX11_putNumber_3 rfl ?_
                        refine w_if_lt (pc' := 7) (t := 56) dX11_putNumber_4 rfl rfl (fun c_4 => ?_) (fun c_4 => ?_)
                        · skip
                          refine w_return rfl dX11_putNumber_56 ?_
                          first | (exfalso; omega) | exact ⟨rfl, rfl⟩
                        · skip
                          exact absurd c_4 (by decide)
                      · skip
                        refine w_aload_n (pc' := 25) (i := 0) (by rfl) (by rfl) dX11_putNumber_24 rfl ?_
                        refine w_getS (pc' := 28) (q := 1) fg_X11_9 kd_0 sf_X11_0 gr_0_0 dX11_putNumber_25 rfl ?_
                        refine w_aload_n (pc' := 29) (i := 0) (by rfl) (by rfl) dX11_putNumber_28 rfl ?_
                        refine v_getI (pc' := 32) (ji := 1) rfl fg_X11_89 kd_0 dX11_putNumber_29 rfl ?_
                        show Wp _ _ _ _ _ _ [gI (L + 1), gR 1]
                        refine w_iload_n (pc' := 33) (i := 1) (by rfl) (by rfl) dX11_putNumber_32 rfl ?_
                        refine w_iload_n (pc' := 34) (i := 2) (by rfl) (by rfl) dX11_putNumber_33 rfl ?_
                        refine w_ishr (pc' := 35) dX11_putNumber_34 rfl ?_
                        refine w_sipush (pc' := 38) (by decide) (by decide) dX11_putNumber_35 rfl ?_
                        refine w_iand (pc' := 39) dX11_putNumber_38 rfl ?_
                        refine w_iast (pc' := 40) kd_1 (by omega) (by omega) dX11_putNumber_39 rfl ?_
                        refine Wp.heq (σ' := gUr (gUp σ 0 1 (L + 1)) 1 (updI (updI T L (gB32 (fun a b => a &&& b) (gB32 (fun a b => a >>> (b &&& 31)) n 8) 255)) (L + 1) (gB32 (fun a b => a &&& b) (gB32 (fun a b => a >>> (b &&& 31)) n 0) 255))) gUp_row ?_
                        refine w_aload_n (pc' := 41) (i := 0) (by rfl) (by rfl) dX11_putNumber_40 rfl ?_
                        refine w_dup (pc' := 42) dX11_putNumber_41 rfl ?_
                        refine v_getI (pc' := 45) (ji := 1) rfl fg_X11_89 kd_0 dX11_putNumber_42 rfl ?_
                        show Wp _ _ _ _ _ _ [gI (L + 1), gR 0]
                        refine w_iconst (pc' := 46) (by decide) dX11_putNumber_45 rfl ?_
                        refine v_iadd (pc' := 47) (by omega) dX11_putNumber_46 rfl ?_
                        refine v_putI (pc' := 50) (ji := 1) rfl fp_X11_89 kd_0 sf_X11_1 dX11_putNumber_47 rfl ?_
                        refine Wp.heq (σ' := gUr (gUp σ 0 1 ((L + 1) + 1)) 1 (updI (updI T L (gB32 (fun a b => a &&& b) (gB32 (fun a b => a >>> (b &&& 31)) n 8) 255)) (L + 1) (gB32 (fun a b => a &&& b) (gB32 (fun a b => a >>> (b &&& 31)) n 0) 255))) ((gUp_cr (by decide)).trans (congrArg (fun z => gUr z 1 (updI (updI T L (gB32 (fun a b => a &&& b) (gB32 (fun a b => a >>> (b &&& 31)) n 8) 255)) (L + 1) (gB32 (fun a b => a &&& b) (gB32 (fun a b => a >>> (b &&& 31)) n 0) 255))) gUp_same)) ?_
                        refine v_iinc (pc' := 53) (x := 0) (ls' := [gR 0, gI n, gI (-8)]) (by omega) (by decide) (by rfl) (by rfl) dX11_putNumber_50 rfl ?_
                        refine w_goto (pc' := 3) dX11_putNumber_53 rfl ?_
                        refine w_iload_n (pc' := 4) (i := 2) (by rfl) (by rfl) dX11_putNumber_3 rfl ?_
                        refine w_if_lt (pc' := 7) (t := 56) dX11_putNumber_4 rfl rfl (fun c_4 => ?_) (fun c_4 => ?_)
                        · skip
                          refine w_return rfl dX11_putNumber_56 ?_
                          first | (exfalso; omega) | exact ⟨rfl, rfl⟩
                        · skip
                          exact absurd c_4 (by decide)
          · skip
            refine w_aload_n (pc' := 15) (i := 0) (by rfl) (by rfl) dX11_putNumber_14 rfl ?_
            refine v_getI (pc' := 18) (ji := 1) rfl fg_X11_89 kd_0 dX11_putNumber_15 rfl ?_
            show Wp _ _ _ _ _ _ [gI L]
            refine w_sipush (pc' := 21) (by decide) (by decide) dX11_putNumber_18 rfl ?_
            refine w_icmp_ge (pc' := 24) (t := 50) dX11_putNumber_21 rfl rfl (fun c_21 => ?_) (fun c_21 => ?_)
            · skip
              refine v_iinc (pc' := 53) (x := 16) (ls' := [gR 0, gI n, gI 8]) (by omega) (by decide) (by rfl) (by rfl) dX11_putNumber_50 rfl ?_
              refine w_goto (pc' := 3) dX11_putNumber_53 rfl ?_
              refine w_iload_n (pc' := 4) (i := 2) (by rfl) (by rfl) dX11_putNumber_3 rfl ?_
              refine w_if_lt (pc' := 7) (t := 56) dX11_putNumber_4 rfl rfl (fun c_4 => ?_) (fun c_4 => ?_)
              · skip
                exact absurd c_4 (by decide)
              · skip
                refine w_aload_n (pc' := 8) (i := 0) (by rfl) (by rfl) dX11_putNumber_7 rfl ?_
                refine v_getI (pc' := 11) (ji := 1) rfl fg_X11_89 kd_0 dX11_putNumber_8 rfl ?_
                show Wp _ _ _ _ _ _ [gI L]
                refine w_if_lt (pc' := 14) (t := 50) dX11_putNumber_11 rfl rfl (fun c_11 => ?_) (fun c_11 => ?_)
                · skip
                  refine v_iinc (pc' := 53) (x := 8) (ls' := [gR 0, gI n, gI 0]) (by omega) (by decide) (by rfl) (by rfl) dX11_putNumber_50 rfl ?_
                  refine w_goto (pc' := 3) dX11_putNumber_53 rfl ?_
                  refine w_iload_n (pc' := 4) (i := 2) (by rfl) (by rfl) dX11_putNumber_3 rfl ?_
                  refine w_if_lt (pc' := 7) (t := 56) dX11_putNumber_4 rfl rfl (fun c_4 => ?_) (fun c_4 => ?_)
                  · skip
                    exact absurd c_4 (by decide)
                  · skip
                    refine w_aload_n (pc' := 8) (i := 0) (by rfl) (by rfl) dX11_putNumber_7 rfl ?_
                    refine v_getI (pc' := 11) (ji := 1) rfl fg_X11_89 kd_0 dX11_putNumber_8 rfl ?_
                    show Wp _ _ _ _ _ _ [gI L]
                    refine w_if_lt (pc' := 14) (t := 50) dX11_putNumber_11 rfl rfl (fun c_11 => ?_) (fun c_11 => ?_)
                    · skip
                      refine v_iinc (pc' := 53) (x := 0) (ls' := [gR 0, gI n, gI (-8)]) (by omega) (by decide) (by rfl) (by rfl) dX11_putNumber_50 rfl ?_
                      refine w_goto (pc' := 3) dX11_putNumber_53 rfl ?_
                      refine w_iload_n (pc' := 4) (i := 2) (by rfl) (by rfl) dX11_putNumber_3 rfl ?_
                      refine w_if_lt (pc' := 7) (t := 56) dX11_putNumber_4 rfl rfl (fun c_4 => ?_) (fun c_4 => ?_)
                      · skip
                        refine w_return rfl dX11_putNumber_56 ?_
                        first | (exfalso; omega) | exact ⟨rfl, rfl⟩
                      · skip
                        exact absurd c_4 (by decide)
                    · skip
                      refine w_aload_n (pc' := 15) (i := 0) (by rfl) (by rfl) dX11_putNumber_14 rfl ?_
                      refine v_getI (pc' := 18) (ji := 1) rfl fg_X11_89 kd_0 dX11_putNumber_15 rfl ?_
                      show Wp _ _ _ _ _ _ [gI L]
                      refine w_sipush (pc' := 21) (by decide) (by decide) dX11_putNumber_18 rfl ?_
                      refine w_icmp_ge (pc' := 24) (t := 50) dX11_putNumber_21 rfl rfl (fun c_21 => ?_) (fun c_21 => ?_)
                      · skip
                        refine v_iinc (pc' := 53) (x := 0) (ls' := [gR 0, gI n, gI (-8)]) (by omega) (by decide) (by rfl) (by rfl) dX11_putNumber_50 rfl ?_
                        refine w_goto (pc' := 3) dX11_putNumber_53 rfl ?_
                        refine w_iload_n (pc' := 4) (i := 2) (by rfl) (by rfl) dX11_putNumber_3 rfl ?_
                        refine w_if_lt (pc' := 7) (t := 56) dX11_putNumber_4 rfl rfl (fun c_4 => ?_) (fun c_4 => ?_)
                        · skip
                          refine w_return rfl dX11_putNumber_56 ?_
                          first | (exfalso; omega) | exact ⟨rfl, rfl⟩
                        · skip
                          exact absurd c_4 (by decide)
                      · skip
                        refine w_aload_n (pc' := 25) (i := 0) (by rfl) (by rfl) dX11_putNumber_24 rfl ?_
                        refine w_getS (pc' := 28) (q := 1) fg_X11_9 kd_0 sf_X11_0 gr_0_0 dX11_putNumber_25 rfl ?_
                        refine w_aload_n (pc' := 29) (i := 0) (by rfl) (by rfl) dX11_putNumber_28 rfl ?_
                        refine v_getI (pc' := 32) (ji := 1) rfl fg_X11_89 kd_0 dX11_putNumber_29 rfl ?_
                        show Wp _ _ _ _ _ _ [gI L, gR 1]
                        refine w_iload_n (pc' := 33) (i := 1) (by rfl) (by rfl) dX11_putNumber_32 rfl ?_
                        refine w_iload_n (pc' := 34) (i := 2) (by rfl) (by rfl) dX11_putNumber_33 rfl ?_
                        refine w_ishr (pc' := 35) dX11_putNumber_34 rfl ?_
                        refine w_sipush (pc' := 38) (by decide) (by decide) dX11_putNumber_35 rfl ?_
                        refine w_iand (pc' := 39) dX11_putNumber_38 rfl ?_
                        refine w_iast (pc' := 40) kd_1 (by omega) (by omega) dX11_putNumber_39 rfl ?_
                        refine Wp.heq (σ' := gUr (gUp σ 0 1 L) 1 (updI T L (gB32 (fun a b => a &&& b) (gB32 (fun a b => a >>> (b &&& 31)) n 0) 255))) gUp_row ?_
                        refine w_aload_n (pc' := 41) (i := 0) (by rfl) (by rfl) dX11_putNumber_40 rfl ?_
                        refine w_dup (pc' := 42) dX11_putNumber_41 rfl ?_
                        refine v_getI (pc' := 45) (ji := 1) rfl fg_X11_89 kd_0 dX11_putNumber_42 rfl ?_
                        show Wp _ _ _ _ _ _ [gI L, gR 0]
                        refine w_iconst (pc' := 46) (by decide) dX11_putNumber_45 rfl ?_
                        refine v_iadd (pc' := 47) (by omega) dX11_putNumber_46 rfl ?_
                        refine v_putI (pc' := 50) (ji := 1) rfl fp_X11_89 kd_0 sf_X11_1 dX11_putNumber_47 rfl ?_
                        refine Wp.heq (σ' := gUr (gUp σ 0 1 (L + 1)) 1 (updI T L (gB32 (fun a b => a &&& b) (gB32 (fun a b => a >>> (b &&& 31)) n 0) 255))) ((gUp_cr (by decide)).trans (congrArg (fun z => gUr z 1 (updI T L (gB32 (fun a b => a &&& b) (gB32 (fun a b => a >>> (b &&& 31)) n 0) 255))) gUp_same)) ?_
                        refine v_iinc (pc' := 53) (x := 0) (ls' := [gR 0, gI n, gI (-8)]) (by omega) (by decide) (by rfl) (by rfl) dX11_putNumber_50 rfl ?_
                        refine w_goto (pc' := 3) dX11_putNumber_53 rfl ?_
                        refine w_iload_n (pc' := 4) (i := 2) (by rfl) (by rfl) dX11_putNumber_3 rfl ?_
                        refine w_if_lt (pc' := 7) (t := 56) dX11_putNumber_4 rfl rfl (fun c_4 => ?_) (fun c_4 => ?_)
                        · skip
                          refine w_return rfl dX11_putNumber_56 ?_
                          first | (exfalso; omega) | exact ⟨rfl, rfl⟩
                        · skip
                          exact absurd c_4 (by decide)
                · skip
                  refine w_aload_n (pc' := 15) (i := 0) (by rfl) (by rfl) dX11_putNumber_14 rfl ?_
                  refine v_getI (pc' := 18) (ji := 1) rfl fg_X11_89 kd_0 dX11_putNumber_15 rfl ?_
                  show Wp _ _ _ _ _ _ [gI L]
                  refine w_sipush (pc' := 21) (by decide) (by decide) dX11_putNumber_18 rfl ?_
                  refine w_icmp_ge (pc' := 24) (t := 50) dX11_putNumber_21 rfl rfl (fun c_21 => ?_) (fun c_21 => ?_)
                  · skip
                    refine v_iinc (pc' := 53) (x := 8) (ls' := [gR 0, gI n, gI 0]) (by omega) (by decide) (by rfl) (by rfl) dX11_putNumber_50 rfl ?_
                    refine w_goto (pc' := 3) dX11_putNumber_53 rfl ?_
                    refine w_iload_n (pc' := 4) (i := 2) (by rfl) (by rfl) dX11_putNumber_3 rfl ?_
                    refine w_if_lt (pc' := 7) (t := 56) dX11_putNumber_4 rfl rfl (fun c_4 => ?_) (fun c_4 => ?_)
                    · skip
                      exact absurd c_4 (by decide)
                    · skip
                      refine w_aload_n (pc' := 8) (i := 0) (by rfl) (by rfl) dX11_putNumber_7 rfl ?_
                      refine v_getI (pc' := 11) (ji := 1) rfl fg_X11_89 kd_0 dX11_putNumber_8 rfl ?_
                      show Wp _ _ _ _ _ _ [gI L]
                      refine w_if_lt (pc' := 14) (t := 50) dX11_putNumber_11 rfl rfl (fun c_11 => ?_) (fun c_11 => ?_)
                      · skip
                        refine v_iinc (pc' := 53) (x := 0) (ls' := [gR 0, gI n, gI (-8)]) (by omega) (by decide) (by rfl) (by rfl) dX11_putNumber_50 rfl ?_
                        refine w_goto (pc' := 3) dX11_putNumber_53 rfl ?_
                        refine w_iload_n (pc' := 4) (i := 2) (by rfl) (by rfl) dX11_putNumber_3 rfl ?_
                        refine w_if_lt (pc' := 7) (t := 56) dX11_putNumber_4 rfl rfl (fun c_4 => ?_) (fun c_4 => ?_)
                        · skip
                          refine w_return rfl dX11_putNumber_56 ?_
                          first | (exfalso; omega) | exact ⟨rfl, rfl⟩
                        · skip
                          exact absurd c_4 (by decide)
                      · skip
                        refine w_aload_n (pc' := 15) (i := 0) (by rfl) (by rfl) dX11_putNumber_14 rfl ?_
                        refine v_getI (pc' := 18) (ji := 1) rfl fg_X11_89 kd_0 dX11_putNumber_15 rfl ?_
                        show Wp _ _ _ _ _ _ [gI L]
                        refine w_sipush (pc' := 21) (by decide) (by decide) dX11_putNumber_18 rfl ?_
                        refine w_icmp_ge (pc' := 24) (t := 50) dX11_putNumber_21 rfl rfl (fun c_21 => ?_) (fun c_21 => ?_)
                        · skip
                          refine v_iinc (pc' := 53) (x := 0) (ls' := [gR 0, gI n, gI (-8)]) (by omega) (by decide) (by rfl) (by rfl) dX11_putNumber_50 rfl ?_
                          refine w_goto (pc' := 3) dX11_putNumber_53 rfl ?_
                          refine w_iload_n (pc' := 4) (i := 2) (by rfl) (by rfl) dX11_putNumber_3 rfl ?_
                          refine w_if_lt (pc' := 7) (t := 56) dX11_putNumber_4 rfl rfl (fun c_4 => ?_) (fun c_4 => ?_)
                          · skip
                            refine w_return rfl dX11_putNumber_56 ?_
                            first | (exfalso; omega) | exact ⟨rfl, rfl⟩
                          · skip
                            exact absurd c_4 (by decide)
                        · skip
                          refine w_aload_n (pc' := 25) (i := 0) (by rfl) (by rfl) dX11_putNumber_24 rfl ?_
                          refine w_getS (pc' := 28) (q := 1) fg_X11_9 kd_0 sf_X11_0 gr_0_0 dX11_putNumber_25 rfl ?_
                          refine w_aload_n (pc' := 29) (i := 0) (by rfl) (by rfl) dX11_putNumber_28 rfl ?_
                          refine v_getI (pc' := 32) (ji := 1) rfl fg_X11_89 kd_0 dX11_putNumber_29 rfl ?_
                          show Wp _ _ _ _ _ _ [gI L, gR 1]
                          refine w_iload_n (pc' := 33) (i := 1) (by rfl) (by rfl) dX11_putNumber_32 rfl ?_
                          refine w_iload_n (pc' := 34) (i := 2) (by rfl) (by rfl) dX11_putNumber_33 rfl ?_
                          refine w_ishr (pc' := 35) dX11_putNumber_34 rfl ?_
                          refine w_sipush (pc' := 38) (by decide) (by decide) dX11_putNumber_35 rfl ?_
                          refine w_iand (pc' := 39) dX11_putNumber_38 rfl ?_
                          refine w_iast (pc' := 40) kd_1 (by omega) (by omega) dX11_putNumber_39 rfl ?_
                          refine Wp.heq (σ' := gUr (gUp σ 0 1 L) 1 (updI T L (gB32 (fun a b => a &&& b) (gB32 (fun a b => a >>> (b &&& 31)) n 0) 255))) gUp_row ?_
                          refine w_aload_n (pc' := 41) (i := 0) (by rfl) (by rfl) dX11_putNumber_40 rfl ?_
                          refine w_dup (pc' := 42) dX11_putNumber_41 rfl ?_
                          refine v_getI (pc' := 45) (ji := 1) rfl fg_X11_89 kd_0 dX11_putNumber_42 rfl ?_
                          show Wp _ _ _ _ _ _ [gI L, gR 0]
                          refine w_iconst (pc' := 46) (by decide) dX11_putNumber_45 rfl ?_
                          refine v_iadd (pc' := 47) (by omega) dX11_putNumber_46 rfl ?_
                          refine v_putI (pc' := 50) (ji := 1) rfl fp_X11_89 kd_0 sf_X11_1 dX11_putNumber_47 rfl ?_
                          refine Wp.heq (σ' := gUr (gUp σ 0 1 (L + 1)) 1 (updI T L (gB32 (fun a b => a &&& b) (gB32 (fun a b => a >>> (b &&& 31)) n 0) 255))) ((gUp_cr (by decide)).trans (congrArg (fun z => gUr z 1 (updI T L (gB32 (fun a b => a &&& b) (gB32 (fun a b => a >>> (b &&& 31)) n 0) 255))) gUp_same)) ?_
                          refine v_iinc (pc' := 53) (x := 0) (ls' := [gR 0, gI n, gI (-8)]) (by omega) (by decide) (by rfl) (by rfl) dX11_putNumber_50 rfl ?_
                          refine w_goto (pc' := 3) dX11_putNumber_53 rfl ?_
                          refine w_iload_n (pc' := 4) (i := 2) (by rfl) (by rfl) dX11_putNumber_3 rfl ?_
                          refine w_if_lt (pc' := 7) (t := 56) dX11_putNumber_4 rfl rfl (fun c_4 => ?_) (fun c_4 => ?_)
                          · skip
                            refine w_return rfl dX11_putNumber_56 ?_
                            first | (exfalso; omega) | exact ⟨rfl, rfl⟩
                          · skip
                            exact absurd c_4 (by decide)
                  · skip
                    refine w_aload_n (pc' := 25) (i := 0) (by rfl) (by rfl) dX11_putNumber_24 rfl ?_
                    refine w_getS (pc' := 28) (q := 1) fg_X11_9 kd_0 sf_X11_0 gr_0_0 dX11_putNumber_25 rfl ?_
                    refine w_aload_n (pc' := 29) (i := 0) (by rfl) (by rfl) dX11_putNumber_28 rfl ?_
                    refine v_getI (pc' := 32) (ji := 1) rfl fg_X11_89 kd_0 dX11_putNumber_29 rfl ?_
                    show Wp _ _ _ _ _ _ [gI L, gR 1]
                    refine w_iload_n (pc' := 33) (i := 1) (by rfl) (by rfl) dX11_putNumber_32 rfl ?_
                    refine w_iload_n (pc' := 34) (i := 2) (by rfl) (by rfl) dX11_putNumber_33 rfl ?_
                    refine w_ishr (pc' := 35) dX11_putNumber_34 rfl ?_
                    refine w_sipush (pc' := 38) (by decide) (by decide) dX11_putNumber_35 rfl ?_
                    refine w_iand (pc' := 39) dX11_putNumber_38 rfl ?_
                    refine w_iast (pc' := 40) kd_1 (by omega) (by omega) dX11_putNumber_39 rfl ?_
                    refine Wp.heq (σ' := gUr (gUp σ 0 1 L) 1 (updI T L (gB32 (fun a b => a &&& b) (gB32 (fun a b => a >>> (b &&& 31)) n 8) 255))) gUp_row ?_
                    refine w_aload_n (pc' := 41) (i := 0) (by rfl) (by rfl) dX11_putNumber_40 rfl ?_
                    refine w_dup (pc' := 42) dX11_putNumber_41 rfl ?_
                    refine v_getI (pc' := 45) (ji := 1) rfl fg_X11_89 kd_0 dX11_putNumber_42 rfl ?_
                    show Wp _ _ _ _ _ _ [gI L, gR 0]
                    refine w_iconst (pc' := 46) (by decide) dX11_putNumber_45 rfl ?_
                    refine v_iadd (pc' := 47) (by omega) dX11_putNumber_46 rfl ?_
                    refine v_putI (pc' := 50) (ji := 1) rfl fp_X11_89 kd_0 sf_X11_1 dX11_putNumber_47 rfl ?_
                    refine Wp.heq (σ' := gUr (gUp σ 0 1 (L + 1)) 1 (updI T L (gB32 (fun a b => a &&& b) (gB32 (fun a b => a >>> (b &&& 31)) n 8) 255))) ((gUp_cr (by decide)).trans (congrArg (fun z => gUr z 1 (updI T L (gB32 (fun a b => a &&& b) (gB32 (fun a b => a >>> (b &&& 31)) n 8) 255))) gUp_same)) ?_
                    refine v_iinc (pc' := 53) (x := 8) (ls' := [gR 0, gI n, gI 0]) (by omega) (by decide) (by rfl) (by rfl) dX11_putNumber_50 rfl ?_
                    refine w_goto (pc' := 3) dX11_putNumber_53 rfl ?_
                    refine w_iload_n (pc' := 4) (i := 2) (by rfl) (by rfl) dX11_putNumber_3 rfl ?_
                    refine w_if_lt (pc' := 7) (t := 56) dX11_putNumber_4 rfl rfl (fun c_4 => ?_) (fun c_4 => ?_)
                    · skip
                      exact absurd c_4 (by decide)
                    · skip
                      refine w_aload_n (pc' := 8) (i := 0) (by rfl) (by rfl) dX11_putNumber_7 rfl ?_
                      refine v_getI (pc' := 11) (ji := 1) rfl fg_X11_89 kd_0 dX11_putNumber_8 rfl ?_
                      show Wp _ _ _ _ _ _ [gI (L + 1)]
                      refine w_if_lt (pc' := 14) (t := 50) dX11_putNumber_11 rfl rfl (fun c_11 => ?_) (fun c_11 => ?_)
                      · skip
                        refine v_iinc (pc' := 53) (x := 0) (ls' := [gR 0, gI n, gI (-8)]) (by omega) (by decide) (by rfl) (by rfl) dX11_putNumber_50 rfl ?_
                        refine w_goto (pc' := 3) dX11_putNumber_53 rfl ?_
                        refine w_iload_n (pc' := 4) (i := 2) (by rfl) (by rfl) dX11_putNumber_3 rfl ?_
                        refine w_if_lt (pc' := 7) (t := 56) dX11_putNumber_4 rfl rfl (fun c_4 => ?_) (fun c_4 => ?_)
                        · skip
                          refine w_return rfl dX11_putNumber_56 ?_
                          first | (exfalso; omega) | exact ⟨rfl, rfl⟩
                        · skip
                          exact absurd c_4 (by decide)
                      · skip
                        refine w_aload_n (pc' := 15) (i := 0) (by rfl) (by rfl) dX11_putNumber_14 rfl ?_
                        refine v_getI (pc' := 18) (ji := 1) rfl fg_X11_89 kd_0 dX11_putNumber_15 rfl ?_
                        show Wp _ _ _ _ _ _ [gI (L + 1)]
                        refine w_sipush (pc' := 21) (by decide) (by decide) dX11_putNumber_18 rfl ?_
                        refine w_icmp_ge (pc' := 24) (t := 50) dX11_putNumber_21 rfl rfl (fun c_21 => ?_) (fun c_21 => ?_)
                        · skip
                          refine v_iinc (pc' := 53) (x := 0) (ls' := [gR 0, gI n, gI (-8)]) (by omega) (by decide) (by rfl) (by rfl) dX11_putNumber_50 rfl ?_
                          refine w_goto (pc' := 3) dX11_putNumber_53 rfl ?_
                          refine w_iload_n (pc' := 4) (i := 2) (by rfl) (by rfl) dX11_putNumber_3 rfl ?_
                          refine w_if_lt (pc' := 7) (t := 56) dX11_putNumber_4 rfl rfl (fun c_4 => ?_) (fun c_4 => ?_)
                          · skip
                            refine w_return rfl dX11_putNumber_56 ?_
                            first | (exfalso; omega) | exact ⟨rfl, rfl⟩
                          · skip
                            exact absurd c_4 (by decide)
                        · skip
                          refine w_aload_n (pc' := 25) (i := 0) (by rfl) (by rfl) dX11_putNumber_24 rfl ?_
                          refine w_getS (pc' := 28) (q := 1) fg_X11_9 kd_0 sf_X11_0 gr_0_0 dX11_putNumber_25 rfl ?_
                          refine w_aload_n (pc' := 29) (i := 0) (by rfl) (by rfl) dX11_putNumber_28 rfl ?_
                          refine v_getI (pc' := 32) (ji := 1) rfl fg_X11_89 kd_0 dX11_putNumber_29 rfl ?_
                          show Wp _ _ _ _ _ _ [gI (L + 1), gR 1]
                          refine w_iload_n (pc' := 33) (i := 1) (by rfl) (by rfl) dX11_putNumber_32 rfl ?_
                          refine w_iload_n (pc' := 34) (i := 2) (by rfl) (by rfl) dX11_putNumber_33 rfl ?_
                          refine w_ishr (pc' := 35) dX11_putNumber_34 rfl ?_
                          refine w_sipush (pc' := 38) (by decide) (by decide) dX11_putNumber_35 rfl ?_
                          refine w_iand (pc' := 39) dX11_putNumber_38 rfl ?_
                          refine w_iast (pc' := 40) kd_1 (by omega) (by omega) dX11_putNumber_39 rfl ?_
                          refine Wp.heq (σ' := gUr (gUp σ 0 1 (L + 1)) 1 (updI (updI T L (gB32 (fun a b => a &&& b) (gB32 (fun a b => a >>> (b &&& 31)) n 8) 255)) (L + 1) (gB32 (fun a b => a &&& b) (gB32 (fun a b => a >>> (b &&& 31)) n 0) 255))) gUp_row ?_
                          refine w_aload_n (pc' := 41) (i := 0) (by rfl) (by rfl) dX11_putNumber_40 rfl ?_
                          refine w_dup (pc' := 42) dX11_putNumber_41 rfl ?_
                          refine v_getI (pc' := 45) (ji := 1) rfl fg_X11_89 kd_0 dX11_putNumber_42 rfl ?_
                          show Wp _ _ _ _ _ _ [gI (L + 1), gR 0]
                          refine w_iconst (pc' := 46) (by decide) dX11_putNumber_45 rfl ?_
                          refine v_iadd (pc' := 47) (by omega) dX11_putNumber_46 rfl ?_
                          refine v_putI (pc' := 50) (ji := 1) rfl fp_X11_89 kd_0 sf_X11_1 dX11_putNumber_47 rfl ?_
                          refine Wp.heq (σ' := gUr (gUp σ 0 1 ((L + 1) + 1)) 1 (updI (updI T L (gB32 (fun a b => a &&& b) (gB32 (fun a b => a >>> (b &&& 31)) n 8) 255)) (L + 1) (gB32 (fun a b => a &&& b) (gB32 (fun a b => a >>> (b &&& 31)) n 0) 255))) ((gUp_cr (by decide)).trans (congrArg (fun z => gUr z 1 (updI (updI T L (gB32 (fun a b => a &&& b) (gB32 (fun a b => a >>> (b &&& 31)) n 8) 255)) (L + 1) (gB32 (fun a b => a &&& b) (gB32 (fun a b => a >>> (b &&& 31)) n 0) 255))) gUp_same)) ?_
                          refine v_iinc (pc' := 53) (x := 0) (ls' := [gR 0, gI n, gI (-8)]) (by omega) (by decide) (by rfl) (by rfl) dX11_putNumber_50 rfl ?_
                          refine w_goto (pc' := 3) dX11_putNumber_53 rfl ?_
                          refine w_iload_n (pc' := 4) (i := 2) (by rfl) (by rfl) dX11_putNumber_3 rfl ?_
                          refine w_if_lt (pc' := 7) (t := 56) dX11_putNumber_4 rfl rfl (fun c_4 => ?_) (fun c_4 => ?_)
                          · skip
                            refine w_return rfl dX11_putNumber_56 ?_
                            first | (exfalso; omega) | exact ⟨rfl, rfl⟩
                          · skip
                            exact absurd c_4 (by decide)
            · skip
              refine w_aload_n (pc' := 25) (i := 0) (by rfl) (by rfl) dX11_putNumber_24 rfl ?_
              refine w_getS (pc' := 28) (q := 1) fg_X11_9 kd_0 sf_X11_0 gr_0_0 dX11_putNumber_25 rfl ?_
              refine w_aload_n (pc' := 29) (i := 0) (by rfl) (by rfl) dX11_putNumber_28 rfl ?_
              refine v_getI (pc' := 32) (ji := 1) rfl fg_X11_89 kd_0 dX11_putNumber_29 rfl ?_
              show Wp _ _ _ _ _ _ [gI L, gR 1]
              refine w_iload_n (pc' := 33) (i := 1) (by rfl) (by rfl) dX11_putNumber_32 rfl ?_
              refine w_iload_n (pc' := 34) (i := 2) (by rfl) (by rfl) dX11_putNumber_33 rfl ?_
              refine w_ishr (pc' := 35) dX11_putNumber_34 rfl ?_
              refine w_sipush (pc' := 38) (by decide) (by decide) dX11_putNumber_35 rfl ?_
              refine w_iand (pc' := 39) dX11_putNumber_38 rfl ?_
              refine w_iast (pc' := 40) kd_1 (by omega) (by omega) dX11_putNumber_39 rfl ?_
              refine Wp.heq (σ' := gUr (gUp σ 0 1 L) 1 (updI T L (gB32 (fun a b => a &&& b) (gB32 (fun a b => a >>> (b &&& 31)) n 16) 255))) gUp_row ?_
              refine w_aload_n (pc' := 41) (i := 0) (by rfl) (by rfl) dX11_putNumber_40 rfl ?_
              refine w_dup (pc' := 42) dX11_putNumber_41 rfl ?_
              refine v_getI (pc' := 45) (ji := 1) rfl fg_X11_89 kd_0 dX11_putNumber_42 rfl ?_
              show Wp _ _ _ _ _ _ [gI L, gR 0]
              refine w_iconst (pc' := 46) (by decide) dX11_putNumber_45 rfl ?_
              refine v_iadd (pc' := 47) (by omega) dX11_putNumber_46 rfl ?_
              refine v_putI (pc' := 50) (ji := 1) rfl fp_X11_89 kd_0 sf_X11_1 dX11_putNumber_47 rfl ?_
              refine Wp.heq (σ' := gUr (gUp σ 0 1 (L + 1)) 1 (updI T L (gB32 (fun a b => a &&& b) (gB32 (fun a b => a >>> (b &&& 31)) n 16) 255))) ((gUp_cr (by decide)).trans (congrArg (fun z => gUr z 1 (updI T L (gB32 (fun a b => a &&& b) (gB32 (fun a b => a >>> (b &&& 31)) n 16) 255))) gUp_same)) ?_
              refine v_iinc (pc' := 53) (x := 16) (ls' := [gR 0, gI n, gI 8]) (by omega) (by decide) (by rfl) (by rfl) dX11_putNumber_50 rfl ?_
              refine w_goto (pc' := 3) dX11_putNumber_53 rfl ?_
              refine w_iload_n (pc' := 4) (i := 2) (by rfl) (by rfl) dX11_putNumber_3 rfl ?_
              refine w_if_lt (pc' := 7) (t := 56) dX11_putNumber_4 rfl rfl (fun c_4 => ?_) (fun c_4 => ?_)
              · skip
                exact absurd c_4 (by decide)
              · skip
                refine w_aload_n (pc' := 8) (i := 0) (by rfl) (by rfl) dX11_putNumber_7 rfl ?_
                refine v_getI (pc' := 11) (ji := 1) rfl fg_X11_89 kd_0 dX11_putNumber_8 rfl ?_
                show Wp _ _ _ _ _ _ [gI (L + 1)]
                refine w_if_lt (pc' := 14) (t := 50) dX11_putNumber_11 rfl rfl (fun c_11 => ?_) (fun c_11 => ?_)
                · skip
                  refine v_iinc (pc' := 53) (x := 8) (ls' := [gR 0, gI n, gI 0]) (by omega) (by decide) (by rfl) (by rfl) dX11_putNumber_50 rfl ?_
                  refine w_goto (pc' := 3) dX11_putNumber_53 rfl ?_
                  refine w_iload_n (pc' := 4) (i := 2) (by rfl) (by rfl) dX11_putNumber_3 rfl ?_
                  refine w_if_lt (pc' := 7) (t := 56) dX11_putNumber_4 rfl rfl (fun c_4 => ?_) (fun c_4 => ?_)
                  · skip
                    exact absurd c_4 (by decide)
                  · skip
                    refine w_aload_n (pc' := 8) (i := 0) (by rfl) (by rfl) dX11_putNumber_7 rfl ?_
                    refine v_getI (pc' := 11) (ji := 1) rfl fg_X11_89 kd_0 dX11_putNumber_8 rfl ?_
                    show Wp _ _ _ _ _ _ [gI (L + 1)]
                    refine w_if_lt (pc' := 14) (t := 50) dX11_putNumber_11 rfl rfl (fun c_11 => ?_) (fun c_11 => ?_)
                    · skip
                      refine v_iinc (pc' := 53) (x := 0) (ls' := [gR 0, gI n, gI (-8)]) (by omega) (by decide) (by rfl) (by rfl) dX11_putNumber_50 rfl ?_
                      refine w_goto (pc' := 3) dX11_putNumber_53 rfl ?_
                      refine w_iload_n (pc' := 4) (i := 2) (by rfl) (by rfl) dX11_putNumber_3 rfl ?_
                      refine w_if_lt (pc' := 7) (t := 56) dX11_putNumber_4 rfl rfl (fun c_4 => ?_) (fun c_4 => ?_)
                      · skip
                        refine w_return rfl dX11_putNumber_56 ?_
                        first | (exfalso; omega) | exact ⟨rfl, rfl⟩
                      · skip
                        exact absurd c_4 (by decide)
                    · skip
                      refine w_aload_n (pc' := 15) (i := 0) (by rfl) (by rfl) dX11_putNumber_14 rfl ?_
                      refine v_getI (pc' := 18) (ji := 1) rfl fg_X11_89 kd_0 dX11_putNumber_15 rfl ?_
                      show Wp _ _ _ _ _ _ [gI (L + 1)]
                      refine w_sipush (pc' := 21) (by decide) (by decide) dX11_putNumber_18 rfl ?_
                      refine w_icmp_ge (pc' := 24) (t := 50) dX11_putNumber_21 rfl rfl (fun c_21 => ?_) (fun c_21 => ?_)
                      · skip
                        refine v_iinc (pc' := 53) (x := 0) (ls' := [gR 0, gI n, gI (-8)]) (by omega) (by decide) (by rfl) (by rfl) dX11_putNumber_50 rfl ?_
                        refine w_goto (pc' := 3) dX11_putNumber_53 rfl ?_
                        refine w_iload_n (pc' := 4) (i := 2) (by rfl) (by rfl) dX11_putNumber_3 rfl ?_
                        refine w_if_lt (pc' := 7) (t := 56) dX11_putNumber_4 rfl rfl (fun c_4 => ?_) (fun c_4 => ?_)
                        · skip
                          refine w_return rfl dX11_putNumber_56 ?_
                          first | (exfalso; omega) | exact ⟨rfl, rfl⟩
                        · skip
                          exact absurd c_4 (by decide)
                      · skip
                        refine w_aload_n (pc' := 25) (i := 0) (by rfl) (by rfl) dX11_putNumber_24 rfl ?_
                        refine w_getS (pc' := 28) (q := 1) fg_X11_9 kd_0 sf_X11_0 gr_0_0 dX11_putNumber_25 rfl ?_
                        refine w_aload_n (pc' := 29) (i := 0) (by rfl) (by rfl) dX11_putNumber_28 rfl ?_
                        refine v_getI (pc' := 32) (ji := 1) rfl fg_X11_89 kd_0 dX11_putNumber_29 rfl ?_
                        show Wp _ _ _ _ _ _ [gI (L + 1), gR 1]
                        refine w_iload_n (pc' := 33) (i := 1) (by rfl) (by rfl) dX11_putNumber_32 rfl ?_
                        refine w_iload_n (pc' := 34) (i := 2) (by rfl) (by rfl) dX11_putNumber_33 rfl ?_
                        refine w_ishr (pc' := 35) dX11_putNumber_34 rfl ?_
                        refine w_sipush (pc' := 38) (by decide) (by decide) dX11_putNumber_35 rfl ?_
                        refine w_iand (pc' := 39) dX11_putNumber_38 rfl ?_
                        refine w_iast (pc' := 40) kd_1 (by omega) (by omega) dX11_putNumber_39 rfl ?_
                        refine Wp.heq (σ' := gUr (gUp σ 0 1 (L + 1)) 1 (updI (updI T L (gB32 (fun a b => a &&& b) (gB32 (fun a b => a >>> (b &&& 31)) n 16) 255)) (L + 1) (gB32 (fun a b => a &&& b) (gB32 (fun a b => a >>> (b &&& 31)) n 0) 255))) gUp_row ?_
                        refine w_aload_n (pc' := 41) (i := 0) (by rfl) (by rfl) dX11_putNumber_40 rfl ?_
                        refine w_dup (pc' := 42) dX11_putNumber_41 rfl ?_
                        refine v_getI (pc' := 45) (ji := 1) rfl fg_X11_89 kd_0 dX11_putNumber_42 rfl ?_
                        show Wp _ _ _ _ _ _ [gI (L + 1), gR 0]
                        refine w_iconst (pc' := 46) (by decide) dX11_putNumber_45 rfl ?_
                        refine v_iadd (pc' := 47) (by omega) dX11_putNumber_46 rfl ?_
                        refine v_putI (pc' := 50) (ji := 1) rfl fp_X11_89 kd_0 sf_X11_1 dX11_putNumber_47 rfl ?_
                        refine Wp.heq (σ' := gUr (gUp σ 0 1 ((L + 1) + 1)) 1 (updI (updI T L (gB32 (fun a b => a &&& b) (gB32 (fun a b => a >>> (b &&& 31)) n 16) 255)) (L + 1) (gB32 (fun a b => a &&& b) (gB32 (fun a b => a >>> (b &&& 31)) n 0) 255))) ((gUp_cr (by decide)).trans (congrArg (fun z => gUr z 1 (updI (updI T L (gB32 (fun a b => a &&& b) (gB32 (fun a b => a >>> (b &&& 31)) n 16) 255)) (L + 1) (gB32 (fun a b => a &&& b) (gB32 (fun a b => a >>> (b &&& 31)) n 0) 255))) gUp_same)) ?_
                        refine v_iinc (pc' := 53) (x := 0) (ls' := [gR 0, gI n, gI (-8)]) (by omega) (by decide) (by rfl) (by rfl) dX11_putNumber_50 rfl ?_
                        refine w_goto (pc' := 3) dX11_putNumber_53 rfl ?_
                        refine w_iload_n (pc' := 4) (i := 2) (by rfl) (by rfl) dX11_putNumber_3 rfl ?_
                        refine w_if_lt (pc' := 7) (t := 56) dX11_putNumber_4 rfl rfl (fun c_4 => ?_) (fun c_4 => ?_)
                        · skip
                          refine w_return rfl dX11_putNumber_56 ?_
                          first | (exfalso; omega) | exact ⟨rfl, rfl⟩
                        · skip
                          exact absurd c_4 (by decide)
                · skip
                  refine w_aload_n (pc' := 15) (i := 0) (by rfl) (by rfl) dX11_putNumber_14 rfl ?_
                  refine v_getI (pc' := 18) (ji := 1) rfl fg_X11_89 kd_0 dX11_putNumber_15 rfl ?_
                  show Wp _ _ _ _ _ _ [gI (L + 1)]
                  refine w_sipush (pc' := 21) (by decide) (by decide) dX11_putNumber_18 rfl ?_
                  refine w_icmp_ge (pc' := 24) (t := 50) dX11_putNumber_21 rfl rfl (fun c_21 => ?_) (fun c_21 => ?_)
                  · skip
                    refine v_iinc (pc' := 53) (x := 8) (ls' := [gR 0, gI n, gI 0]) (by omega) (by decide) (by rfl) (by rfl) dX11_putNumber_50 rfl ?_
                    refine w_goto (pc' := 3) dX11_putNumber_53 rfl ?_
                    refine w_iload_n (pc' := 4) (i := 2) (by rfl) (by rfl) dX11_putNumber_3 rfl ?_
                    refine w_if_lt (pc' := 7) (t := 56) dX11_putNumber_4 rfl rfl (fun c_4 => ?_) (fun c_4 => ?_)
                    · skip
                      exact absurd c_4 (by decide)
                    · skip
                      refine w_aload_n (pc' := 8) (i := 0) (by rfl) (by rfl) dX11_putNumber_7 rfl ?_
                      refine v_getI (pc' := 11) (ji := 1) rfl fg_X11_89 kd_0 dX11_putNumber_8 rfl ?_
                      show Wp _ _ _ _ _ _ [gI (L + 1)]
                      refine w_if_lt (pc' := 14) (t := 50) dX11_putNumber_11 rfl rfl (fun c_11 => ?_) (fun c_11 => ?_)
                      · skip
                        refine v_iinc (pc' := 53) (x := 0) (ls' := [gR 0, gI n, gI (-8)]) (by omega) (by decide) (by rfl) (by rfl) dX11_putNumber_50 rfl ?_
                        refine w_goto (pc' := 3) dX11_putNumber_53 rfl ?_
                        refine w_iload_n (pc' := 4) (i := 2) (by rfl) (by rfl) dX11_putNumber_3 rfl ?_
                        refine w_if_lt (pc' := 7) (t := 56) dX11_putNumber_4 rfl rfl (fun c_4 => ?_) (fun c_4 => ?_)
                        · skip
                          refine w_return rfl dX11_putNumber_56 ?_
                          first | (exfalso; omega) | exact ⟨rfl, rfl⟩
                        · skip
                          exact absurd c_4 (by decide)
                      · skip
                        refine w_aload_n (pc' := 15) (i := 0) (by rfl) (by rfl) dX11_putNumber_14 rfl ?_
                        refine v_getI (pc' := 18) (ji := 1) rfl fg_X11_89 kd_0 dX11_putNumber_15 rfl ?_
                        show Wp _ _ _ _ _ _ [gI (L + 1)]
                        refine w_sipush (pc' := 21) (by decide) (by decide) dX11_putNumber_18 rfl ?_
                        refine w_icmp_ge (pc' := 24) (t := 50) dX11_putNumber_21 rfl rfl (fun c_21 => ?_) (fun c_21 => ?_)
                        · skip
                          refine v_iinc (pc' := 53) (x := 0) (ls' := [gR 0, gI n, gI (-8)]) (by omega) (by decide) (by rfl) (by rfl) dX11_putNumber_50 rfl ?_
                          refine w_goto (pc' := 3) dX11_putNumber_53 rfl ?_
                          refine w_iload_n (pc' := 4) (i := 2) (by rfl) (by rfl) dX11_putNumber_3 rfl ?_
                          refine w_if_lt (pc' := 7) (t := 56) dX11_putNumber_4 rfl rfl (fun c_4 => ?_) (fun c_4 => ?_)
                          · skip
                            refine w_return rfl dX11_putNumber_56 ?_
                            first | (exfalso; omega) | exact ⟨rfl, rfl⟩
                          · skip
                            exact absurd c_4 (by decide)
                        · skip
                          refine w_aload_n (pc' := 25) (i := 0) (by rfl) (by rfl) dX11_putNumber_24 rfl ?_
                          refine w_getS (pc' := 28) (q := 1) fg_X11_9 kd_0 sf_X11_0 gr_0_0 dX11_putNumber_25 rfl ?_
                          refine w_aload_n (pc' := 29) (i := 0) (by rfl) (by rfl) dX11_putNumber_28 rfl ?_
                          refine v_getI (pc' := 32) (ji := 1) rfl fg_X11_89 kd_0 dX11_putNumber_29 rfl ?_
                          show Wp _ _ _ _ _ _ [gI (L + 1), gR 1]
                          refine w_iload_n (pc' := 33) (i := 1) (by rfl) (by rfl) dX11_putNumber_32 rfl ?_
                          refine w_iload_n (pc' := 34) (i := 2) (by rfl) (by rfl) dX11_putNumber_33 rfl ?_
                          refine w_ishr (pc' := 35) dX11_putNumber_34 rfl ?_
                          refine w_sipush (pc' := 38) (by decide) (by decide) dX11_putNumber_35 rfl ?_
                          refine w_iand (pc' := 39) dX11_putNumber_38 rfl ?_
                          refine w_iast (pc' := 40) kd_1 (by omega) (by omega) dX11_putNumber_39 rfl ?_
                          refine Wp.heq (σ' := gUr (gUp σ 0 1 (L + 1)) 1 (updI (updI T L (gB32 (fun a b => a &&& b) (gB32 (fun a b => a >>> (b &&& 31)) n 16) 255)) (L + 1) (gB32 (fun a b => a &&& b) (gB32 (fun a b => a >>> (b &&& 31)) n 0) 255))) gUp_row ?_
                          refine w_aload_n (pc' := 41) (i := 0) (by rfl) (by rfl) dX11_putNumber_40 rfl ?_
                          refine w_dup (pc' := 42) dX11_putNumber_41 rfl ?_
                          refine v_getI (pc' := 45) (ji := 1) rfl fg_X11_89 kd_0 dX11_putNumber_42 rfl ?_
                          show Wp _ _ _ _ _ _ [gI (L + 1), gR 0]
                          refine w_iconst (pc' := 46) (by decide) dX11_putNumber_45 rfl ?_
                          refine v_iadd (pc' := 47) (by omega) dX11_putNumber_46 rfl ?_
                          refine v_putI (pc' := 50) (ji := 1) rfl fp_X11_89 kd_0 sf_X11_1 dX11_putNumber_47 rfl ?_
                          refine Wp.heq (σ' := gUr (gUp σ 0 1 ((L + 1) + 1)) 1 (updI (updI T L (gB32 (fun a b => a &&& b) (gB32 (fun a b => a >>> (b &&& 31)) n 16) 255)) (L + 1) (gB32 (fun a b => a &&& b) (gB32 (fun a b => a >>> (b &&& 31)) n 0) 255))) ((gUp_cr (by decide)).trans (congrArg (fun z => gUr z 1 (updI (updI T L (gB32 (fun a b => a &&& b) (gB32 (fun a b => a >>> (b &&& 31)) n 16) 255)) (L + 1) (gB32 (fun a b => a &&& b) (gB32 (fun a b => a >>> (b &&& 31)) n 0) 255))) gUp_same)) ?_
                          refine v_iinc (pc' := 53) (x := 0) (ls' := [gR 0, gI n, gI (-8)]) (by omega) (by decide) (by rfl) (by rfl) dX11_putNumber_50 rfl ?_
                          refine w_goto (pc' := 3) dX11_putNumber_53 rfl ?_
                          refine w_iload_n (pc' := 4) (i := 2) (by rfl) (by rfl) dX11_putNumber_3 rfl ?_
                          refine w_if_lt (pc' := 7) (t := 56) dX11_putNumber_4 rfl rfl (fun c_4 => ?_) (fun c_4 => ?_)
                          · skip
                            refine w_return rfl dX11_putNumber_56 ?_
                            first | (exfalso; omega) | exact ⟨rfl, rfl⟩
                          · skip
                            exact absurd c_4 (by decide)
                  · skip
                    refine w_aload_n (pc' := 25) (i := 0) (by rfl) (by rfl) dX11_putNumber_24 rfl ?_
                    refine w_getS (pc' := 28) (q := 1) fg_X11_9 kd_0 sf_X11_0 gr_0_0 dX11_putNumber_25 rfl ?_
                    refine w_aload_n (pc' := 29) (i := 0) (by rfl) (by rfl) dX11_putNumber_28 rfl ?_
                    refine v_getI (pc' := 32) (ji := 1) rfl fg_X11_89 kd_0 dX11_putNumber_29 rfl ?_
                    show Wp _ _ _ _ _ _ [gI (L + 1), gR 1]
                    refine w_iload_n (pc' := 33) (i := 1) (by rfl) (by rfl) dX11_putNumber_32 rfl ?_
                    refine w_iload_n (pc' := 34) (i := 2) (by rfl) (by rfl) dX11_putNumber_33 rfl ?_
                    refine w_ishr (pc' := 35) dX11_putNumber_34 rfl ?_
                    refine w_sipush (pc' := 38) (by decide) (by decide) dX11_putNumber_35 rfl ?_
                    refine w_iand (pc' := 39) dX11_putNumber_38 rfl ?_
                    refine w_iast (pc' := 40) kd_1 (by omega) (by omega) dX11_putNumber_39 rfl ?_
                    refine Wp.heq (σ' := gUr (gUp σ 0 1 (L + 1)) 1 (updI (updI T L (gB32 (fun a b => a &&& b) (gB32 (fun a b => a >>> (b &&& 31)) n 16) 255)) (L + 1) (gB32 (fun a b => a &&& b) (gB32 (fun a b => a >>> (b &&& 31)) n 8) 255))) gUp_row ?_
                    refine w_aload_n (pc' := 41) (i := 0) (by rfl) (by rfl) dX11_putNumber_40 rfl ?_
                    refine w_dup (pc' := 42) dX11_putNumber_41 rfl ?_
                    refine v_getI (pc' := 45) (ji := 1) rfl fg_X11_89 kd_0 dX11_putNumber_42 rfl ?_
                    show Wp _ _ _ _ _ _ [gI (L + 1), gR 0]
                    refine w_iconst (pc' := 46) (by decide) dX11_putNumber_45 rfl ?_
                    refine v_iadd (pc' := 47) (by omega) dX11_putNumber_46 rfl ?_
                    refine v_putI (pc' := 50) (ji := 1) rfl fp_X11_89 kd_0 sf_X11_1 dX11_putNumber_47 rfl ?_
                    refine Wp.heq (σ' := gUr (gUp σ 0 1 ((L + 1) + 1)) 1 (updI (updI T L (gB32 (fun a b => a &&& b) (gB32 (fun a b => a >>> (b &&& 31)) n 16) 255)) (L + 1) (gB32 (fun a b => a &&& b) (gB32 (fun a b => a >>> (b &&& 31)) n 8) 255))) ((gUp_cr (by decide)).trans (congrArg (fun z => gUr z 1 (updI (updI T L (gB32 (fun a b => a &&& b) (gB32 (fun a b => a >>> (b &&& 31)) n 16) 255)) (L + 1) (gB32 (fun a b => a &&& b) (gB32 (fun a b => a >>> (b &&& 31)) n 8) 255))) gUp_same)) ?_
                    refine v_iinc (pc' := 53) (x := 8) (ls' := [gR 0, gI n, gI 0]) (by omega) (by decide) (by rfl) (by rfl) dX11_putNumber_50 rfl ?_
                    refine w_goto (pc' := 3) dX11_putNumber_53 rfl ?_
                    refine w_iload_n (pc' := 4) (i := 2) (by rfl) (by rfl) dX11_putNumber_3 rfl ?_
                    refine w_if_lt (pc' := 7) (t := 56) dX11_putNumber_4 rfl rfl (fun c_4 => ?_) (fun c_4 => ?_)
                    · skip
                      exact absurd c_4 (by decide)
                    · skip
                      refine w_aload_n (pc' := 8) (i := 0) (by rfl) (by rfl) dX11_putNumber_7 rfl ?_
                      refine v_getI (pc' := 11) (ji := 1) rfl fg_X11_89 kd_0 dX11_putNumber_8 rfl ?_
                      show Wp _ _ _ _ _ _ [gI ((L + 1) + 1)]
                      refine w_if_lt (pc' := 14) (t := 50) dX11_putNumber_11 rfl rfl (fun c_11 => ?_) (fun c_11 => ?_)
                      · skip
                        refine v_iinc (pc' := 53) (x := 0) (ls' := [gR 0, gI n, gI (-8)]) (by omega) (by decide) (by rfl) (by rfl) dX11_putNumber_50 rfl ?_
                        refine w_goto (pc' := 3) dX11_putNumber_53 rfl ?_
                        refine w_iload_n (pc' := 4) (i := 2) (by rfl) (by rfl) dX11_putNumber_3 rfl ?_
                        refine w_if_lt (pc' := 7) (t := 56) dX11_putNumber_4 rfl rfl (fun c_4 => ?_) (fun c_4 => ?_)
                        · skip
                          refine w_return rfl dX11_putNumber_56 ?_
                          first | (exfalso; omega) | exact ⟨rfl, rfl⟩
                        · skip
                          exact absurd c_4 (by decide)
                      · skip
                        refine w_aload_n (pc' := 15) (i := 0) (by rfl) (by rfl) dX11_putNumber_14 rfl ?_
                        refine v_getI (pc' := 18) (ji := 1) rfl fg_X11_89 kd_0 dX11_putNumber_15 rfl ?_
                        show Wp _ _ _ _ _ _ [gI ((L + 1) + 1)]
                        refine w_sipush (pc' := 21) (by decide) (by decide) dX11_putNumber_18 rfl ?_
                        refine w_icmp_ge (pc' := 24) (t := 50) dX11_putNumber_21 rfl rfl (fun c_21 => ?_) (fun c_21 => ?_)
                        · skip
                          refine v_iinc (pc' := 53) (x := 0) (ls' := [gR 0, gI n, gI (-8)]) (by omega) (by decide) (by rfl) (by rfl) dX11_putNumber_50 rfl ?_
                          refine w_goto (pc' := 3) dX11_putNumber_53 rfl ?_
                          refine w_iload_n (pc' := 4) (i := 2) (by rfl) (by rfl) dX11_putNumber_3 rfl ?_
                          refine w_if_lt (pc' := 7) (t := 56) dX11_putNumber_4 rfl rfl (fun c_4 => ?_) (fun c_4 => ?_)
                          · skip
                            refine w_return rfl dX11_putNumber_56 ?_
                            first | (exfalso; omega) | exact ⟨rfl, rfl⟩
                          · skip
                            exact absurd c_4 (by decide)
                        · skip
                          refine w_aload_n (pc' := 25) (i := 0) (by rfl) (by rfl) dX11_putNumber_24 rfl ?_
                          refine w_getS (pc' := 28) (q := 1) fg_X11_9 kd_0 sf_X11_0 gr_0_0 dX11_putNumber_25 rfl ?_
                          refine w_aload_n (pc' := 29) (i := 0) (by rfl) (by rfl) dX11_putNumber_28 rfl ?_
                          refine v_getI (pc' := 32) (ji := 1) rfl fg_X11_89 kd_0 dX11_putNumber_29 rfl ?_
                          show Wp _ _ _ _ _ _ [gI ((L + 1) + 1), gR 1]
                          refine w_iload_n (pc' := 33) (i := 1) (by rfl) (by rfl) dX11_putNumber_32 rfl ?_
                          refine w_iload_n (pc' := 34) (i := 2) (by rfl) (by rfl) dX11_putNumber_33 rfl ?_
                          refine w_ishr (pc' := 35) dX11_putNumber_34 rfl ?_
                          refine w_sipush (pc' := 38) (by decide) (by decide) dX11_putNumber_35 rfl ?_
                          refine w_iand (pc' := 39) dX11_putNumber_38 rfl ?_
                          refine w_iast (pc' := 40) kd_1 (by omega) (by omega) dX11_putNumber_39 rfl ?_
                          refine Wp.heq (σ' := gUr (gUp σ 0 1 ((L + 1) + 1)) 1 (updI (updI (updI T L (gB32 (fun a b => a &&& b) (gB32 (fun a b => a >>> (b &&& 31)) n 16) 255)) (L + 1) (gB32 (fun a b => a &&& b) (gB32 (fun a b => a >>> (b &&& 31)) n 8) 255)) ((L + 1) + 1) (gB32 (fun a b => a &&& b) (gB32 (fun a b => a >>> (b &&& 31)) n 0) 255))) gUp_row ?_
                          refine w_aload_n (pc' := 41) (i := 0) (by rfl) (by rfl) dX11_putNumber_40 rfl ?_
                          refine w_dup (pc' := 42) dX11_putNumber_41 rfl ?_
                          refine v_getI (pc' := 45) (ji := 1) rfl fg_X11_89 kd_0 dX11_putNumber_42 rfl ?_
                          show Wp _ _ _ _ _ _ [gI ((L + 1) + 1), gR 0]
                          refine w_iconst (pc' := 46) (by decide) dX11_putNumber_45 rfl ?_
                          refine v_iadd (pc' := 47) (by omega) dX11_putNumber_46 rfl ?_
                          refine v_putI (pc' := 50) (ji := 1) rfl fp_X11_89 kd_0 sf_X11_1 dX11_putNumber_47 rfl ?_
                          refine Wp.heq (σ' := gUr (gUp σ 0 1 (((L + 1) + 1) + 1)) 1 (updI (updI (updI T L (gB32 (fun a b => a &&& b) (gB32 (fun a b => a >>> (b &&& 31)) n 16) 255)) (L + 1) (gB32 (fun a b => a &&& b) (gB32 (fun a b => a >>> (b &&& 31)) n 8) 255)) ((L + 1) + 1) (gB32 (fun a b => a &&& b) (gB32 (fun a b => a >>> (b &&& 31)) n 0) 255))) ((gUp_cr (by decide)).trans (congrArg (fun z => gUr z 1 (updI (updI (updI T L (gB32 (fun a b => a &&& b) (gB32 (fun a b => a >>> (b &&& 31)) n 16) 255)) (L + 1) (gB32 (fun a b => a &&& b) (gB32 (fun a b => a >>> (b &&& 31)) n 8) 255)) ((L + 1) + 1) (gB32 (fun a b => a &&& b) (gB32 (fun a b => a >>> (b &&& 31)) n 0) 255))) gUp_same)) ?_
                          refine v_iinc (pc' := 53) (x := 0) (ls' := [gR 0, gI n, gI (-8)]) (by omega) (by decide) (by rfl) (by rfl) dX11_putNumber_50 rfl ?_
                          refine w_goto (pc' := 3) dX11_putNumber_53 rfl ?_
                          refine w_iload_n (pc' := 4) (i := 2) (by rfl) (by rfl) dX11_putNumber_3 rfl ?_
                          refine w_if_lt (pc' := 7) (t := 56) dX11_putNumber_4 rfl rfl (fun c_4 => ?_) (fun c_4 => ?_)
                          · skip
                            refine w_return rfl dX11_putNumber_56 ?_
                            first | (exfalso; omega) | exact ⟨rfl, rfl⟩
                          · skip
                            exact absurd c_4 (by decide)
      · skip
        refine w_aload_n (pc' := 25) (i := 0) (by rfl) (by rfl) dX11_putNumber_24 rfl ?_
        refine w_getS (pc' := 28) (q := 1) fg_X11_9 kd_0 sf_X11_0 gr_0_0 dX11_putNumber_25 rfl ?_
        refine w_aload_n (pc' := 29) (i := 0) (by rfl) (by rfl) dX11_putNumber_28 rfl ?_
        refine v_getI (pc' := 32) (ji := 1) rfl fg_X11_89 kd_0 dX11_putNumber_29 rfl ?_
        show Wp _ _ _ _ _ _ [gI L, gR 1]
        refine w_iload_n (pc' := 33) (i := 1) (by rfl) (by rfl) dX11_putNumber_32 rfl ?_
        refine w_iload_n (pc' := 34) (i := 2) (by rfl) (by rfl) dX11_putNumber_33 rfl ?_
        refine w_ishr (pc' := 35) dX11_putNumber_34 rfl ?_
        refine w_sipush (pc' := 38) (by decide) (by decide) dX11_putNumber_35 rfl ?_
        refine w_iand (pc' := 39) dX11_putNumber_38 rfl ?_
        refine w_iast (pc' := 40) kd_1 (by omega) (by omega) dX11_putNumber_39 rfl ?_
        refine Wp.heq (σ' := gUr (gUp σ 0 1 L) 1 (updI T L (gB32 (fun a b => a &&& b) (gB32 (fun a b => a >>> (b &&& 31)) n 24) 255))) gUp_row ?_
        refine w_aload_n (pc' := 41) (i := 0) (by rfl) (by rfl) dX11_putNumber_40 rfl ?_
        refine w_dup (pc' := 42) dX11_putNumber_41 rfl ?_
        refine v_getI (pc' := 45) (ji := 1) rfl fg_X11_89 kd_0 dX11_putNumber_42 rfl ?_
        show Wp _ _ _ _ _ _ [gI L, gR 0]
        refine w_iconst (pc' := 46) (by decide) dX11_putNumber_45 rfl ?_
        refine v_iadd (pc' := 47) (by omega) dX11_putNumber_46 rfl ?_
        refine v_putI (pc' := 50) (ji := 1) rfl fp_X11_89 kd_0 sf_X11_1 dX11_putNumber_47 rfl ?_
        refine Wp.heq (σ' := gUr (gUp σ 0 1 (L + 1)) 1 (updI T L (gB32 (fun a b => a &&& b) (gB32 (fun a b => a >>> (b &&& 31)) n 24) 255))) ((gUp_cr (by decide)).trans (congrArg (fun z => gUr z 1 (updI T L (gB32 (fun a b => a &&& b) (gB32 (fun a b => a >>> (b &&& 31)) n 24) 255))) gUp_same)) ?_
        refine v_iinc (pc' := 53) (x := 24) (ls' := [gR 0, gI n, gI 16]) (by omega) (by decide) (by rfl) (by rfl) dX11_putNumber_50 rfl ?_
        refine w_goto (pc' := 3) dX11_putNumber_53 rfl ?_
        refine w_iload_n (pc' := 4) (i := 2) (by rfl) (by rfl) dX11_putNumber_3 rfl ?_
        refine w_if_lt (pc' := 7) (t := 56) dX11_putNumber_4 rfl rfl (fun c_4 => ?_) (fun c_4 => ?_)
        · skip
          exact absurd c_4 (by decide)
        · skip
          refine w_aload_n (pc' := 8) (i := 0) (by rfl) (by rfl) dX11_putNumber_7 rfl ?_
          refine v_getI (pc' := 11) (ji := 1) rfl fg_X11_89 kd_0 dX11_putNumber_8 rfl ?_
          show Wp _ _ _ _ _ _ [gI (L + 1)]
          refine w_if_lt (pc' := 14) (t := 50) dX11_putNumber_11 rfl rfl (fun c_11 => ?_) (fun c_11 => ?_)
          · skip
            refine v_iinc (pc' := 53) (x := 16) (ls' := [gR 0, gI n, gI 8]) (by omega) (by decide) (by rfl) (by rfl) dX11_putNumber_50 rfl ?_
            refine w_goto (pc' := 3) dX11_putNumber_53 rfl ?_
            refine w_iload_n (pc' := 4) (i := 2) (by rfl) (by rfl) dX11_putNumber_3 rfl ?_
            refine w_if_lt (pc' := 7) (t := 56) dX11_putNumber_4 rfl rfl (fun c_4 => ?_) (fun c_4 => ?_)
            · skip
              exact absurd c_4 (by decide)
            · skip
              refine w_aload_n (pc' := 8) (i := 0) (by rfl) (by rfl) dX11_putNumber_7 rfl ?_
              refine v_getI (pc' := 11) (ji := 1) rfl fg_X11_89 kd_0 dX11_putNumber_8 rfl ?_
              show Wp _ _ _ _ _ _ [gI (L + 1)]
              refine w_if_lt (pc' := 14) (t := 50) dX11_putNumber_11 rfl rfl (fun c_11 => ?_) (fun c_11 => ?_)
              · skip
                refine v_iinc (pc' := 53) (x := 8) (ls' := [gR 0, gI n, gI 0]) (by omega) (by decide) (by rfl) (by rfl) dX11_putNumber_50 rfl ?_
                refine w_goto (pc' := 3) dX11_putNumber_53 rfl ?_
                refine w_iload_n (pc' := 4) (i := 2) (by rfl) (by rfl) dX11_putNumber_3 rfl ?_
                refine w_if_lt (pc' := 7) (t := 56) dX11_putNumber_4 rfl rfl (fun c_4 => ?_) (fun c_4 => ?_)
                · skip
                  exact absurd c_4 (by decide)
                · skip
                  refine w_aload_n (pc' := 8) (i := 0) (by rfl) (by rfl) dX11_putNumber_7 rfl ?_
                  refine v_getI (pc' := 11) (ji := 1) rfl fg_X11_89 kd_0 dX11_putNumber_8 rfl ?_
                  show Wp _ _ _ _ _ _ [gI (L + 1)]
                  refine w_if_lt (pc' := 14) (t := 50) dX11_putNumber_11 rfl rfl (fun c_11 => ?_) (fun c_11 => ?_)
                  · skip
                    refine v_iinc (pc' := 53) (x := 0) (ls' := [gR 0, gI n, gI (-8)]) (by omega) (by decide) (by rfl) (by rfl) dX11_putNumber_50 rfl ?_
                    refine w_goto (pc' := 3) dX11_putNumber_53 rfl ?_
                    refine w_iload_n (pc' := 4) (i := 2) (by rfl) (by rfl) dX11_putNumber_3 rfl ?_
                    refine w_if_lt (pc' := 7) (t := 56) dX11_putNumber_4 rfl rfl (fun c_4 => ?_) (fun c_4 => ?_)
                    · skip
                      refine w_return rfl dX11_putNumber_56 ?_
                      first | (exfalso; omega) | exact ⟨rfl, rfl⟩
                    · skip
                      exact absurd c_4 (by decide)
                  · skip
                    refine w_aload_n (pc' := 15) (i := 0) (by rfl) (by rfl) dX11_putNumber_14 rfl ?_
                    refine v_getI (pc' := 18) (ji := 1) rfl fg_X11_89 kd_0 dX11_putNumber_15 rfl ?_
                    show Wp _ _ _ _ _ _ [gI (L + 1)]
                    refine w_sipush (pc' := 21) (by decide) (by decide) dX11_putNumber_18 rfl ?_
                    refine w_icmp_ge (pc' := 24) (t := 50) dX11_putNumber_21 rfl rfl (fun c_21 => ?_) (fun c_21 => ?_)
                    · skip
                      refine v_iinc (pc' := 53) (x := 0) (ls' := [gR 0, gI n, gI (-8)]) (by omega) (by decide) (by rfl) (by rfl) dX11_putNumber_50 rfl ?_
                      refine w_goto (pc' := 3) dX11_putNumber_53 rfl ?_
                      refine w_iload_n (pc' := 4) (i := 2) (by rfl) (by rfl) dX11_putNumber_3 rfl ?_
                      refine w_if_lt (pc' := 7) (t := 56) dX11_putNumber_4 rfl rfl (fun c_4 => ?_) (fun c_4 => ?_)
                      · skip
                        refine w_return rfl dX11_putNumber_56 ?_
                        first | (exfalso; omega) | exact ⟨rfl, rfl⟩
                      · skip
                        exact absurd c_4 (by decide)
                    · skip
                      refine w_aload_n (pc' := 25) (i := 0) (by rfl) (by rfl) dX11_putNumber_24 rfl ?_
                      refine w_getS (pc' := 28) (q := 1) fg_X11_9 kd_0 sf_X11_0 gr_0_0 dX11_putNumber_25 rfl ?_
                      refine w_aload_n (pc' := 29) (i := 0) (by rfl) (by rfl) dX11_putNumber_28 rfl ?_
                      refine v_getI (pc' := 32) (ji := 1) rfl fg_X11_89 kd_0 dX11_putNumber_29 rfl ?_
                      show Wp _ _ _ _ _ _ [gI (L + 1), gR 1]
                      refine w_iload_n (pc' := 33) (i := 1) (by rfl) (by rfl) dX11_putNumber_32 rfl ?_
                      refine w_iload_n (pc' := 34) (i := 2) (by rfl) (by rfl) dX11_putNumber_33 rfl ?_
                      refine w_ishr (pc' := 35) dX11_putNumber_34 rfl ?_
                      refine w_sipush (pc' := 38) (by decide) (by decide) dX11_putNumber_35 rfl ?_
                      refine w_iand (pc' := 39) dX11_putNumber_38 rfl ?_
                      refine w_iast (pc' := 40) kd_1 (by omega) (by omega) dX11_putNumber_39 rfl ?_
                      refine Wp.heq (σ' := gUr (gUp σ 0 1 (L + 1)) 1 (updI (updI T L (gB32 (fun a b => a &&& b) (gB32 (fun a b => a >>> (b &&& 31)) n 24) 255)) (L + 1) (gB32 (fun a b => a &&& b) (gB32 (fun a b => a >>> (b &&& 31)) n 0) 255))) gUp_row ?_
                      refine w_aload_n (pc' := 41) (i := 0) (by rfl) (by rfl) dX11_putNumber_40 rfl ?_
                      refine w_dup (pc' := 42) dX11_putNumber_41 rfl ?_
                      refine v_getI (pc' := 45) (ji := 1) rfl fg_X11_89 kd_0 dX11_putNumber_42 rfl ?_
                      show Wp _ _ _ _ _ _ [gI (L + 1), gR 0]
                      refine w_iconst (pc' := 46) (by decide) dX11_putNumber_45 rfl ?_
                      refine v_iadd (pc' := 47) (by omega) dX11_putNumber_46 rfl ?_
                      refine v_putI (pc' := 50) (ji := 1) rfl fp_X11_89 kd_0 sf_X11_1 dX11_putNumber_47 rfl ?_
                      refine Wp.heq (σ' := gUr (gUp σ 0 1 ((L + 1) + 1)) 1 (updI (updI T L (gB32 (fun a b => a &&& b) (gB32 (fun a b => a >>> (b &&& 31)) n 24) 255)) (L + 1) (gB32 (fun a b => a &&& b) (gB32 (fun a b => a >>> (b &&& 31)) n 0) 255))) ((gUp_cr (by decide)).trans (congrArg (fun z => gUr z 1 (updI (updI T L (gB32 (fun a b => a &&& b) (gB32 (fun a b => a >>> (b &&& 31)) n 24) 255)) (L + 1) (gB32 (fun a b => a &&& b) (gB32 (fun a b => a >>> (b &&& 31)) n 0) 255))) gUp_same)) ?_
                      refine v_iinc (pc' := 53) (x := 0) (ls' := [gR 0, gI n, gI (-8)]) (by omega) (by decide) (by rfl) (by rfl) dX11_putNumber_50 rfl ?_
                      refine w_goto (pc' := 3) dX11_putNumber_53 rfl ?_
                      refine w_iload_n (pc' := 4) (i := 2) (by rfl) (by rfl) dX11_putNumber_3 rfl ?_
                      refine w_if_lt (pc' := 7) (t := 56) dX11_putNumber_4 rfl rfl (fun c_4 => ?_) (fun c_4 => ?_)
                      · skip
                        refine w_return rfl dX11_putNumber_56 ?_
                        first | (exfalso; omega) | exact ⟨rfl, rfl⟩
                      · skip
                        exact absurd c_4 (by decide)
              · skip
                refine w_aload_n (pc' := 15) (i := 0) (by rfl) (by rfl) dX11_putNumber_14 rfl ?_
                refine v_getI (pc' := 18) (ji := 1) rfl fg_X11_89 kd_0 dX11_putNumber_15 rfl ?_
                show Wp _ _ _ _ _ _ [gI (L + 1)]
                refine w_sipush (pc' := 21) (by decide) (by decide) dX11_putNumber_18 rfl ?_
                refine w_icmp_ge (pc' := 24) (t := 50) dX11_putNumber_21 rfl rfl (fun c_21 => ?_) (fun c_21 => ?_)
                · skip
                  refine v_iinc (pc' := 53) (x := 8) (ls' := [gR 0, gI n, gI 0]) (by omega) (by decide) (by rfl) (by rfl) dX11_putNumber_50 rfl ?_
                  refine w_goto (pc' := 3) dX11_putNumber_53 rfl ?_
                  refine w_iload_n (pc' := 4) (i := 2) (by rfl) (by rfl) dX11_putNumber_3 rfl ?_
                  refine w_if_lt (pc' := 7) (t := 56) dX11_putNumber_4 rfl rfl (fun c_4 => ?_) (fun c_4 => ?_)
                  · skip
                    exact absurd c_4 (by decide)
                  · skip
                    refine w_aload_n (pc' := 8) (i := 0) (by rfl) (by rfl) dX11_putNumber_7 rfl ?_
                    refine v_getI (pc' := 11) (ji := 1) rfl fg_X11_89 kd_0 dX11_putNumber_8 rfl ?_
                    show Wp _ _ _ _ _ _ [gI (L + 1)]
                    refine w_if_lt (pc' := 14) (t := 50) dX11_putNumber_11 rfl rfl (fun c_11 => ?_) (fun c_11 => ?_)
                    · skip
                      refine v_iinc (pc' := 53) (x := 0) (ls' := [gR 0, gI n, gI (-8)]) (by omega) (by decide) (by rfl) (by rfl) dX11_putNumber_50 rfl ?_
                      refine w_goto (pc' := 3) dX11_putNumber_53 rfl ?_
                      refine w_iload_n (pc' := 4) (i := 2) (by rfl) (by rfl) dX11_putNumber_3 rfl ?_
                      refine w_if_lt (pc' := 7) (t := 56) dX11_putNumber_4 rfl rfl (fun c_4 => ?_) (fun c_4 => ?_)
                      · skip
                        refine w_return rfl dX11_putNumber_56 ?_
                        first | (exfalso; omega) | exact ⟨rfl, rfl⟩
                      · skip
                        exact absurd c_4 (by decide)
                    · skip
                      refine w_aload_n (pc' := 15) (i := 0) (by rfl) (by rfl) dX11_putNumber_14 rfl ?_
                      refine v_getI (pc' := 18) (ji := 1) rfl fg_X11_89 kd_0 dX11_putNumber_15 rfl ?_
                      show Wp _ _ _ _ _ _ [gI (L + 1)]
                      refine w_sipush (pc' := 21) (by decide) (by decide) dX11_putNumber_18 rfl ?_
                      refine w_icmp_ge (pc' := 24) (t := 50) dX11_putNumber_21 rfl rfl (fun c_21 => ?_) (fun c_21 => ?_)
                      · skip
                        refine v_iinc (pc' := 53) (x := 0) (ls' := [gR 0, gI n, gI (-8)]) (by omega) (by decide) (by rfl) (by rfl) dX11_putNumber_50 rfl ?_
                        refine w_goto (pc' := 3) dX11_putNumber_53 rfl ?_
                        refine w_iload_n (pc' := 4) (i := 2) (by rfl) (by rfl) dX11_putNumber_3 rfl ?_
                        refine w_if_lt (pc' := 7) (t := 56) dX11_putNumber_4 rfl rfl (fun c_4 => ?_) (fun c_4 => ?_)
                        · skip
                          refine w_return rfl dX11_putNumber_56 ?_
                          first | (exfalso; omega) | exact ⟨rfl, rfl⟩
                        · skip
                          exact absurd c_4 (by decide)
                      · skip
                        refine w_aload_n (pc' := 25) (i := 0) (by rfl) (by rfl) dX11_putNumber_24 rfl ?_
                        refine w_getS (pc' := 28) (q := 1) fg_X11_9 kd_0 sf_X11_0 gr_0_0 dX11_putNumber_25 rfl ?_
                        refine w_aload_n (pc' := 29) (i := 0) (by rfl) (by rfl) dX11_putNumber_28 rfl ?_
                        refine v_getI (pc' := 32) (ji := 1) rfl fg_X11_89 kd_0 dX11_putNumber_29 rfl ?_
                        show Wp _ _ _ _ _ _ [gI (L + 1), gR 1]
                        refine w_iload_n (pc' := 33) (i := 1) (by rfl) (by rfl) dX11_putNumber_32 rfl ?_
                        refine w_iload_n (pc' := 34) (i := 2) (by rfl) (by rfl) dX11_putNumber_33 rfl ?_
                        refine w_ishr (pc' := 35) dX11_putNumber_34 rfl ?_
                        refine w_sipush (pc' := 38) (by decide) (by decide) dX11_putNumber_35 rfl ?_
                        refine w_iand (pc' := 39) dX11_putNumber_38 rfl ?_
                        refine w_iast (pc' := 40) kd_1 (by omega) (by omega) dX11_putNumber_39 rfl ?_
                        refine Wp.heq (σ' := gUr (gUp σ 0 1 (L + 1)) 1 (updI (updI T L (gB32 (fun a b => a &&& b) (gB32 (fun a b => a >>> (b &&& 31)) n 24) 255)) (L + 1) (gB32 (fun a b => a &&& b) (gB32 (fun a b => a >>> (b &&& 31)) n 0) 255))) gUp_row ?_
                        refine w_aload_n (pc' := 41) (i := 0) (by rfl) (by rfl) dX11_putNumber_40 rfl ?_
                        refine w_dup (pc' := 42) dX11_putNumber_41 rfl ?_
                        refine v_getI (pc' := 45) (ji := 1) rfl fg_X11_89 kd_0 dX11_putNumber_42 rfl ?_
                        show Wp _ _ _ _ _ _ [gI (L + 1), gR 0]
                        refine w_iconst (pc' := 46) (by decide) dX11_putNumber_45 rfl ?_
                        refine v_iadd (pc' := 47) (by omega) dX11_putNumber_46 rfl ?_
                        refine v_putI (pc' := 50) (ji := 1) rfl fp_X11_89 kd_0 sf_X11_1 dX11_putNumber_47 rfl ?_
                        refine Wp.heq (σ' := gUr (gUp σ 0 1 ((L + 1) + 1)) 1 (updI (updI T L (gB32 (fun a b => a &&& b) (gB32 (fun a b => a >>> (b &&& 31)) n 24) 255)) (L + 1) (gB32 (fun a b => a &&& b) (gB32 (fun a b => a >>> (b &&& 31)) n 0) 255))) ((gUp_cr (by decide)).trans (congrArg (fun z => gUr z 1 (updI (updI T L (gB32 (fun a b => a &&& b) (gB32 (fun a b => a >>> (b &&& 31)) n 24) 255)) (L + 1) (gB32 (fun a b => a &&& b) (gB32 (fun a b => a >>> (b &&& 31)) n 0) 255))) gUp_same)) ?_
                        refine v_iinc (pc' := 53) (x := 0) (ls' := [gR 0, gI n, gI (-8)]) (by omega) (by decide) (by rfl) (by rfl) dX11_putNumber_50 rfl ?_
                        refine w_goto (pc' := 3) dX11_putNumber_53 rfl ?_
                        refine w_iload_n (pc' := 4) (i := 2) (by rfl) (by rfl) dX11_putNumber_3 rfl ?_
                        refine w_if_lt (pc' := 7) (t := 56) dX11_putNumber_4 rfl rfl (fun c_4 => ?_) (fun c_4 => ?_)
                        · skip
                          refine w_return rfl dX11_putNumber_56 ?_
                          first | (exfalso; omega) | exact ⟨rfl, rfl⟩
                        · skip
                          exact absurd c_4 (by decide)
                · skip
                  refine w_aload_n (pc' := 25) (i := 0) (by rfl) (by rfl) dX11_putNumber_24 rfl ?_
                  refine w_getS (pc' := 28) (q := 1) fg_X11_9 kd_0 sf_X11_0 gr_0_0 dX11_putNumber_25 rfl ?_
                  refine w_aload_n (pc' := 29) (i := 0) (by rfl) (by rfl) dX11_putNumber_28 rfl ?_
                  refine v_getI (pc' := 32) (ji := 1) rfl fg_X11_89 kd_0 dX11_putNumber_29 rfl ?_
                  show Wp _ _ _ _ _ _ [gI (L + 1), gR 1]
                  refine w_iload_n (pc' := 33) (i := 1) (by rfl) (by rfl) dX11_putNumber_32 rfl ?_
                  refine w_iload_n (pc' := 34) (i := 2) (by rfl) (by rfl) dX11_putNumber_33 rfl ?_
                  refine w_ishr (pc' := 35) dX11_putNumber_34 rfl ?_
                  refine w_sipush (pc' := 38) (by decide) (by decide) dX11_putNumber_35 rfl ?_
                  refine w_iand (pc' := 39) dX11_putNumber_38 rfl ?_
                  refine w_iast (pc' := 40) kd_1 (by omega) (by omega) dX11_putNumber_39 rfl ?_
                  refine Wp.heq (σ' := gUr (gUp σ 0 1 (L + 1)) 1 (updI (updI T L (gB32 (fun a b => a &&& b) (gB32 (fun a b => a >>> (b &&& 31)) n 24) 255)) (L + 1) (gB32 (fun a b => a &&& b) (gB32 (fun a b => a >>> (b &&& 31)) n 8) 255))) gUp_row ?_
                  refine w_aload_n (pc' := 41) (i := 0) (by rfl) (by rfl) dX11_putNumber_40 rfl ?_
                  refine w_dup (pc' := 42) dX11_putNumber_41 rfl ?_
                  refine v_getI (pc' := 45) (ji := 1) rfl fg_X11_89 kd_0 dX11_putNumber_42 rfl ?_
                  show Wp _ _ _ _ _ _ [gI (L + 1), gR 0]
                  refine w_iconst (pc' := 46) (by decide) dX11_putNumber_45 rfl ?_
                  refine v_iadd (pc' := 47) (by omega) dX11_putNumber_46 rfl ?_
                  refine v_putI (pc' := 50) (ji := 1) rfl fp_X11_89 kd_0 sf_X11_1 dX11_putNumber_47 rfl ?_
                  refine Wp.heq (σ' := gUr (gUp σ 0 1 ((L + 1) + 1)) 1 (updI (updI T L (gB32 (fun a b => a &&& b) (gB32 (fun a b => a >>> (b &&& 31)) n 24) 255)) (L + 1) (gB32 (fun a b => a &&& b) (gB32 (fun a b => a >>> (b &&& 31)) n 8) 255))) ((gUp_cr (by decide)).trans (congrArg (fun z => gUr z 1 (updI (updI T L (gB32 (fun a b => a &&& b) (gB32 (fun a b => a >>> (b &&& 31)) n 24) 255)) (L + 1) (gB32 (fun a b => a &&& b) (gB32 (fun a b => a >>> (b &&& 31)) n 8) 255))) gUp_same)) ?_
                  refine v_iinc (pc' := 53) (x := 8) (ls' := [gR 0, gI n, gI 0]) (by omega) (by decide) (by rfl) (by rfl) dX11_putNumber_50 rfl ?_
                  refine w_goto (pc' := 3) dX11_putNumber_53 rfl ?_
                  refine w_iload_n (pc' := 4) (i := 2) (by rfl) (by rfl) dX11_putNumber_3 rfl ?_
                  refine w_if_lt (pc' := 7) (t := 56) dX11_putNumber_4 rfl rfl (fun c_4 => ?_) (fun c_4 => ?_)
                  · skip
                    exact absurd c_4 (by decide)
                  · skip
                    refine w_aload_n (pc' := 8) (i := 0) (by rfl) (by rfl) dX11_putNumber_7 rfl ?_
                    refine v_getI (pc' := 11) (ji := 1) rfl fg_X11_89 kd_0 dX11_putNumber_8 rfl ?_
                    show Wp _ _ _ _ _ _ [gI ((L + 1) + 1)]
                    refine w_if_lt (pc' := 14) (t := 50) dX11_putNumber_11 rfl rfl (fun c_11 => ?_) (fun c_11 => ?_)
                    · skip
                      refine v_iinc (pc' := 53) (x := 0) (ls' := [gR 0, gI n, gI (-8)]) (by omega) (by decide) (by rfl) (by rfl) dX11_putNumber_50 rfl ?_
                      refine w_goto (pc' := 3) dX11_putNumber_53 rfl ?_
                      refine w_iload_n (pc' := 4) (i := 2) (by rfl) (by rfl) dX11_putNumber_3 rfl ?_
                      refine w_if_lt (pc' := 7) (t := 56) dX11_putNumber_4 rfl rfl (fun c_4 => ?_) (fun c_4 => ?_)
                      · skip
                        refine w_return rfl dX11_putNumber_56 ?_
                        first | (exfalso; omega) | exact ⟨rfl, rfl⟩
                      · skip
                        exact absurd c_4 (by decide)
                    · skip
                      refine w_aload_n (pc' := 15) (i := 0) (by rfl) (by rfl) dX11_putNumber_14 rfl ?_
                      refine v_getI (pc' := 18) (ji := 1) rfl fg_X11_89 kd_0 dX11_putNumber_15 rfl ?_
                      show Wp _ _ _ _ _ _ [gI ((L + 1) + 1)]
                      refine w_sipush (pc' := 21) (by decide) (by decide) dX11_putNumber_18 rfl ?_
                      refine w_icmp_ge (pc' := 24) (t := 50) dX11_putNumber_21 rfl rfl (fun c_21 => ?_) (fun c_21 => ?_)
                      · skip
                        refine v_iinc (pc' := 53) (x := 0) (ls' := [gR 0, gI n, gI (-8)]) (by omega) (by decide) (by rfl) (by rfl) dX11_putNumber_50 rfl ?_
                        refine w_goto (pc' := 3) dX11_putNumber_53 rfl ?_
                        refine w_iload_n (pc' := 4) (i := 2) (by rfl) (by rfl) dX11_putNumber_3 rfl ?_
                        refine w_if_lt (pc' := 7) (t := 56) dX11_putNumber_4 rfl rfl (fun c_4 => ?_) (fun c_4 => ?_)
                        · skip
                          refine w_return rfl dX11_putNumber_56 ?_
                          first | (exfalso; omega) | exact ⟨rfl, rfl⟩
                        · skip
                          exact absurd c_4 (by decide)
                      · skip
                        refine w_aload_n (pc' := 25) (i := 0) (by rfl) (by rfl) dX11_putNumber_24 rfl ?_
                        refine w_getS (pc' := 28) (q := 1) fg_X11_9 kd_0 sf_X11_0 gr_0_0 dX11_putNumber_25 rfl ?_
                        refine w_aload_n (pc' := 29) (i := 0) (by rfl) (by rfl) dX11_putNumber_28 rfl ?_
                        refine v_getI (pc' := 32) (ji := 1) rfl fg_X11_89 kd_0 dX11_putNumber_29 rfl ?_
                        show Wp _ _ _ _ _ _ [gI ((L + 1) + 1), gR 1]
                        refine w_iload_n (pc' := 33) (i := 1) (by rfl) (by rfl) dX11_putNumber_32 rfl ?_
                        refine w_iload_n (pc' := 34) (i := 2) (by rfl) (by rfl) dX11_putNumber_33 rfl ?_
                        refine w_ishr (pc' := 35) dX11_putNumber_34 rfl ?_
                        refine w_sipush (pc' := 38) (by decide) (by decide) dX11_putNumber_35 rfl ?_
                        refine w_iand (pc' := 39) dX11_putNumber_38 rfl ?_
                        refine w_iast (pc' := 40) kd_1 (by omega) (by omega) dX11_putNumber_39 rfl ?_
                        refine Wp.heq (σ' := gUr (gUp σ 0 1 ((L + 1) + 1)) 1 (updI (updI (updI T L (gB32 (fun a b => a &&& b) (gB32 (fun a b => a >>> (b &&& 31)) n 24) 255)) (L + 1) (gB32 (fun a b => a &&& b) (gB32 (fun a b => a >>> (b &&& 31)) n 8) 255)) ((L + 1) + 1) (gB32 (fun a b => a &&& b) (gB32 (fun a b => a >>> (b &&& 31)) n 0) 255))) gUp_row ?_
                        refine w_aload_n (pc' := 41) (i := 0) (by rfl) (by rfl) dX11_putNumber_40 rfl ?_
                        refine w_dup (pc' := 42) dX11_putNumber_41 rfl ?_
                        refine v_getI (pc' := 45) (ji := 1) rfl fg_X11_89 kd_0 dX11_putNumber_42 rfl ?_
                        show Wp _ _ _ _ _ _ [gI ((L + 1) + 1), gR 0]
                        refine w_iconst (pc' := 46) (by decide) dX11_putNumber_45 rfl ?_
                        refine v_iadd (pc' := 47) (by omega) dX11_putNumber_46 rfl ?_
                        refine v_putI (pc' := 50) (ji := 1) rfl fp_X11_89 kd_0 sf_X11_1 dX11_putNumber_47 rfl ?_
                        refine Wp.heq (σ' := gUr (gUp σ 0 1 (((L + 1) + 1) + 1)) 1 (updI (updI (updI T L (gB32 (fun a b => a &&& b) (gB32 (fun a b => a >>> (b &&& 31)) n 24) 255)) (L + 1) (gB32 (fun a b => a &&& b) (gB32 (fun a b => a >>> (b &&& 31)) n 8) 255)) ((L + 1) + 1) (gB32 (fun a b => a &&& b) (gB32 (fun a b => a >>> (b &&& 31)) n 0) 255))) ((gUp_cr (by decide)).trans (congrArg (fun z => gUr z 1 (updI (updI (updI T L (gB32 (fun a b => a &&& b) (gB32 (fun a b => a >>> (b &&& 31)) n 24) 255)) (L + 1) (gB32 (fun a b => a &&& b) (gB32 (fun a b => a >>> (b &&& 31)) n 8) 255)) ((L + 1) + 1) (gB32 (fun a b => a &&& b) (gB32 (fun a b => a >>> (b &&& 31)) n 0) 255))) gUp_same)) ?_
                        refine v_iinc (pc' := 53) (x := 0) (ls' := [gR 0, gI n, gI (-8)]) (by omega) (by decide) (by rfl) (by rfl) dX11_putNumber_50 rfl ?_
                        refine w_goto (pc' := 3) dX11_putNumber_53 rfl ?_
                        refine w_iload_n (pc' := 4) (i := 2) (by rfl) (by rfl) dX11_putNumber_3 rfl ?_
                        refine w_if_lt (pc' := 7) (t := 56) dX11_putNumber_4 rfl rfl (fun c_4 => ?_) (fun c_4 => ?_)
                        · skip
                          refine w_return rfl dX11_putNumber_56 ?_
                          first | (exfalso; omega) | exact ⟨rfl, rfl⟩
                        · skip
                          exact absurd c_4 (by decide)
          · skip
            refine w_aload_n (pc' := 15) (i := 0) (by rfl) (by rfl) dX11_putNumber_14 rfl ?_
            refine v_getI (pc' := 18) (ji := 1) rfl fg_X11_89 kd_0 dX11_putNumber_15 rfl ?_
            show Wp _ _ _ _ _ _ [gI (L + 1)]
            refine w_sipush (pc' := 21) (by decide) (by decide) dX11_putNumber_18 rfl ?_
            refine w_icmp_ge (pc' := 24) (t := 50) dX11_putNumber_21 rfl rfl (fun c_21 => ?_) (fun c_21 => ?_)
            · skip
              refine v_iinc (pc' := 53) (x := 16) (ls' := [gR 0, gI n, gI 8]) (by omega) (by decide) (by rfl) (by rfl) dX11_putNumber_50 rfl ?_
              refine w_goto (pc' := 3) dX11_putNumber_53 rfl ?_
              refine w_iload_n (pc' := 4) (i := 2) (by rfl) (by rfl) dX11_putNumber_3 rfl ?_
              refine w_if_lt (pc' := 7) (t := 56) dX11_putNumber_4 rfl rfl (fun c_4 => ?_) (fun c_4 => ?_)
              · skip
                exact absurd c_4 (by decide)
              · skip
                refine w_aload_n (pc' := 8) (i := 0) (by rfl) (by rfl) dX11_putNumber_7 rfl ?_
                refine v_getI (pc' := 11) (ji := 1) rfl fg_X11_89 kd_0 dX11_putNumber_8 rfl ?_
                show Wp _ _ _ _ _ _ [gI (L + 1)]
                refine w_if_lt (pc' := 14) (t := 50) dX11_putNumber_11 rfl rfl (fun c_11 => ?_) (fun c_11 => ?_)
                · skip
                  refine v_iinc (pc' := 53) (x := 8) (ls' := [gR 0, gI n, gI 0]) (by omega) (by decide) (by rfl) (by rfl) dX11_putNumber_50 rfl ?_
                  refine w_goto (pc' := 3) dX11_putNumber_53 rfl ?_
                  refine w_iload_n (pc' := 4) (i := 2) (by rfl) (by rfl) dX11_putNumber_3 rfl ?_
                  refine w_if_lt (pc' := 7) (t := 56) dX11_putNumber_4 rfl rfl (fun c_4 => ?_) (fun c_4 => ?_)
                  · skip
                    exact absurd c_4 (by decide)
                  · skip
                    refine w_aload_n (pc' := 8) (i := 0) (by rfl) (by rfl) dX11_putNumber_7 rfl ?_
                    refine v_getI (pc' := 11) (ji := 1) rfl fg_X11_89 kd_0 dX11_putNumber_8 rfl ?_
                    show Wp _ _ _ _ _ _ [gI (L + 1)]
                    refine w_if_lt (pc' := 14) (t := 50) dX11_putNumber_11 rfl rfl (fun c_11 => ?_) (fun c_11 => ?_)
                    · skip
                      refine v_iinc (pc' := 53) (x := 0) (ls' := [gR 0, gI n, gI (-8)]) (by omega) (by decide) (by rfl) (by rfl) dX11_putNumber_50 rfl ?_
                      refine w_goto (pc' := 3) dX11_putNumber_53 rfl ?_
                      refine w_iload_n (pc' := 4) (i := 2) (by rfl) (by rfl) dX11_putNumber_3 rfl ?_
                      refine w_if_lt (pc' := 7) (t := 56) dX11_putNumber_4 rfl rfl (fun c_4 => ?_) (fun c_4 => ?_)
                      · skip
                        refine w_return rfl dX11_putNumber_56 ?_
                        first | (exfalso; omega) | exact ⟨rfl, rfl⟩
                      · skip
                        exact absurd c_4 (by decide)
                    · skip
                      refine w_aload_n (pc' := 15) (i := 0) (by rfl) (by rfl) dX11_putNumber_14 rfl ?_
                      refine v_getI (pc' := 18) (ji := 1) rfl fg_X11_89 kd_0 dX11_putNumber_15 rfl ?_
                      show Wp _ _ _ _ _ _ [gI (L + 1)]
                      refine w_sipush (pc' := 21) (by decide) (by decide) dX11_putNumber_18 rfl ?_
                      refine w_icmp_ge (pc' := 24) (t := 50) dX11_putNumber_21 rfl rfl (fun c_21 => ?_) (fun c_21 => ?_)
                      · skip
                        refine v_iinc (pc' := 53) (x := 0) (ls' := [gR 0, gI n, gI (-8)]) (by omega) (by decide) (by rfl) (by rfl) dX11_putNumber_50 rfl ?_
                        refine w_goto (pc' := 3) dX11_putNumber_53 rfl ?_
                        refine w_iload_n (pc' := 4) (i := 2) (by rfl) (by rfl) dX11_putNumber_3 rfl ?_
                        refine w_if_lt (pc' := 7) (t := 56) dX11_putNumber_4 rfl rfl (fun c_4 => ?_) (fun c_4 => ?_)
                        · skip
                          refine w_return rfl dX11_putNumber_56 ?_
                          first | (exfalso; omega) | exact ⟨rfl, rfl⟩
                        · skip
                          exact absurd c_4 (by decide)
                      · skip
                        refine w_aload_n (pc' := 25) (i := 0) (by rfl) (by rfl) dX11_putNumber_24 rfl ?_
                        refine w_getS (pc' := 28) (q := 1) fg_X11_9 kd_0 sf_X11_0 gr_0_0 dX11_putNumber_25 rfl ?_
                        refine w_aload_n (pc' := 29) (i := 0) (by rfl) (by rfl) dX11_putNumber_28 rfl ?_
                        refine v_getI (pc' := 32) (ji := 1) rfl fg_X11_89 kd_0 dX11_putNumber_29 rfl ?_
                        show Wp _ _ _ _ _ _ [gI (L + 1), gR 1]
                        refine w_iload_n (pc' := 33) (i := 1) (by rfl) (by rfl) dX11_putNumber_32 rfl ?_
                        refine w_iload_n (pc' := 34) (i := 2) (by rfl) (by rfl) dX11_putNumber_33 rfl ?_
                        refine w_ishr (pc' := 35) dX11_putNumber_34 rfl ?_
                        refine w_sipush (pc' := 38) (by decide) (by decide) dX11_putNumber_35 rfl ?_
                        refine w_iand (pc' := 39) dX11_putNumber_38 rfl ?_
                        refine w_iast (pc' := 40) kd_1 (by omega) (by omega) dX11_putNumber_39 rfl ?_
                        refine Wp.heq (σ' := gUr (gUp σ 0 1 (L + 1)) 1 (updI (updI T L (gB32 (fun a b => a &&& b) (gB32 (fun a b => a >>> (b &&& 31)) n 24) 255)) (L + 1) (gB32 (fun a b => a &&& b) (gB32 (fun a b => a >>> (b &&& 31)) n 0) 255))) gUp_row ?_
                        refine w_aload_n (pc' := 41) (i := 0) (by rfl) (by rfl) dX11_putNumber_40 rfl ?_
                        refine w_dup (pc' := 42) dX11_putNumber_41 rfl ?_
                        refine v_getI (pc' := 45) (ji := 1) rfl fg_X11_89 kd_0 dX11_putNumber_42 rfl ?_
                        show Wp _ _ _ _ _ _ [gI (L + 1), gR 0]
                        refine w_iconst (pc' := 46) (by decide) dX11_putNumber_45 rfl ?_
                        refine v_iadd (pc' := 47) (by omega) dX11_putNumber_46 rfl ?_
                        refine v_putI (pc' := 50) (ji := 1) rfl fp_X11_89 kd_0 sf_X11_1 dX11_putNumber_47 rfl ?_
                        refine Wp.heq (σ' := gUr (gUp σ 0 1 ((L + 1) + 1)) 1 (updI (updI T L (gB32 (fun a b => a &&& b) (gB32 (fun a b => a >>> (b &&& 31)) n 24) 255)) (L + 1) (gB32 (fun a b => a &&& b) (gB32 (fun a b => a >>> (b &&& 31)) n 0) 255))) ((gUp_cr (by decide)).trans (congrArg (fun z => gUr z 1 (updI (updI T L (gB32 (fun a b => a &&& b) (gB32 (fun a b => a >>> (b &&& 31)) n 24) 255)) (L + 1) (gB32 (fun a b => a &&& b) (gB32 (fun a b => a >>> (b &&& 31)) n 0) 255))) gUp_same)) ?_
                        refine v_iinc (pc' := 53) (x := 0) (ls' := [gR 0, gI n, gI (-8)]) (by omega) (by decide) (by rfl) (by rfl) dX11_putNumber_50 rfl ?_
                        refine w_goto (pc' := 3) dX11_putNumber_53 rfl ?_
                        refine w_iload_n (pc' := 4) (i := 2) (by rfl) (by rfl) dX11_putNumber_3 rfl ?_
                        refine w_if_lt (pc' := 7) (t := 56) dX11_putNumber_4 rfl rfl (fun c_4 => ?_) (fun c_4 => ?_)
                        · skip
                          refine w_return rfl dX11_putNumber_56 ?_
                          first | (exfalso; omega) | exact ⟨rfl, rfl⟩
                        · skip
                          exact absurd c_4 (by decide)
                · skip
                  refine w_aload_n (pc' := 15) (i := 0) (by rfl) (by rfl) dX11_putNumber_14 rfl ?_
                  refine v_getI (pc' := 18) (ji := 1) rfl fg_X11_89 kd_0 dX11_putNumber_15 rfl ?_
                  show Wp _ _ _ _ _ _ [gI (L + 1)]
                  refine w_sipush (pc' := 21) (by decide) (by decide) dX11_putNumber_18 rfl ?_
                  refine w_icmp_ge (pc' := 24) (t := 50) dX11_putNumber_21 rfl rfl (fun c_21 => ?_) (fun c_21 => ?_)
                  · skip
                    refine v_iinc (pc' := 53) (x := 8) (ls' := [gR 0, gI n, gI 0]) (by omega) (by decide) (by rfl) (by rfl) dX11_putNumber_50 rfl ?_
                    refine w_goto (pc' := 3) dX11_putNumber_53 rfl ?_
                    refine w_iload_n (pc' := 4) (i := 2) (by rfl) (by rfl) dX11_putNumber_3 rfl ?_
                    refine w_if_lt (pc' := 7) (t := 56) dX11_putNumber_4 rfl rfl (fun c_4 => ?_) (fun c_4 => ?_)
                    · skip
                      exact absurd c_4 (by decide)
                    · skip
                      refine w_aload_n (pc' := 8) (i := 0) (by rfl) (by rfl) dX11_putNumber_7 rfl ?_
                      refine v_getI (pc' := 11) (ji := 1) rfl fg_X11_89 kd_0 dX11_putNumber_8 rfl ?_
                      show Wp _ _ _ _ _ _ [gI (L + 1)]
                      refine w_if_lt (pc' := 14) (t := 50) dX11_putNumber_11 rfl rfl (fun c_11 => ?_) (fun c_11 => ?_)
                      · skip
                        refine v_iinc (pc' := 53) (x := 0) (ls' := [gR 0, gI n, gI (-8)]) (by omega) (by decide) (by rfl) (by rfl) dX11_putNumber_50 rfl ?_
                        refine w_goto (pc' := 3) dX11_putNumber_53 rfl ?_
                        refine w_iload_n (pc' := 4) (i := 2) (by rfl) (by rfl) dX11_putNumber_3 rfl ?_
                        refine w_if_lt (pc' := 7) (t := 56) dX11_putNumber_4 rfl rfl (fun c_4 => ?_) (fun c_4 => ?_)
                        · skip
                          refine w_return rfl dX11_putNumber_56 ?_
                          first | (exfalso; omega) | exact ⟨rfl, rfl⟩
                        · skip
                          exact absurd c_4 (by decide)
                      · skip
                        refine w_aload_n (pc' := 15) (i := 0) (by rfl) (by rfl) dX11_putNumber_14 rfl ?_
                        refine v_getI (pc' := 18) (ji := 1) rfl fg_X11_89 kd_0 dX11_putNumber_15 rfl ?_
                        show Wp _ _ _ _ _ _ [gI (L + 1)]
                        refine w_sipush (pc' := 21) (by decide) (by decide) dX11_putNumber_18 rfl ?_
                        refine w_icmp_ge (pc' := 24) (t := 50) dX11_putNumber_21 rfl rfl (fun c_21 => ?_) (fun c_21 => ?_)
                        · skip
                          refine v_iinc (pc' := 53) (x := 0) (ls' := [gR 0, gI n, gI (-8)]) (by omega) (by decide) (by rfl) (by rfl) dX11_putNumber_50 rfl ?_
                          refine w_goto (pc' := 3) dX11_putNumber_53 rfl ?_
                          refine w_iload_n (pc' := 4) (i := 2) (by rfl) (by rfl) dX11_putNumber_3 rfl ?_
                          refine w_if_lt (pc' := 7) (t := 56) dX11_putNumber_4 rfl rfl (fun c_4 => ?_) (fun c_4 => ?_)
                          · skip
                            refine w_return rfl dX11_putNumber_56 ?_
                            first | (exfalso; omega) | exact ⟨rfl, rfl⟩
                          · skip
                            exact absurd c_4 (by decide)
                        · skip
                          refine w_aload_n (pc' := 25) (i := 0) (by rfl) (by rfl) dX11_putNumber_24 rfl ?_
                          refine w_getS (pc' := 28) (q := 1) fg_X11_9 kd_0 sf_X11_0 gr_0_0 dX11_putNumber_25 rfl ?_
                          refine w_aload_n (pc' := 29) (i := 0) (by rfl) (by rfl) dX11_putNumber_28 rfl ?_
                          refine v_getI (pc' := 32) (ji := 1) rfl fg_X11_89 kd_0 dX11_putNumber_29 rfl ?_
                          show Wp _ _ _ _ _ _ [gI (L + 1), gR 1]
                          refine w_iload_n (pc' := 33) (i := 1) (by rfl) (by rfl) dX11_putNumber_32 rfl ?_
                          refine w_iload_n (pc' := 34) (i := 2) (by rfl) (by rfl) dX11_putNumber_33 rfl ?_
                          refine w_ishr (pc' := 35) dX11_putNumber_34 rfl ?_
                          refine w_sipush (pc' := 38) (by decide) (by decide) dX11_putNumber_35 rfl ?_
                          refine w_iand (pc' := 39) dX11_putNumber_38 rfl ?_
                          refine w_iast (pc' := 40) kd_1 (by omega) (by omega) dX11_putNumber_39 rfl ?_
                          refine Wp.heq (σ' := gUr (gUp σ 0 1 (L + 1)) 1 (updI (updI T L (gB32 (fun a b => a &&& b) (gB32 (fun a b => a >>> (b &&& 31)) n 24) 255)) (L + 1) (gB32 (fun a b => a &&& b) (gB32 (fun a b => a >>> (b &&& 31)) n 0) 255))) gUp_row ?_
                          refine w_aload_n (pc' := 41) (i := 0) (by rfl) (by rfl) dX11_putNumber_40 rfl ?_
                          refine w_dup (pc' := 42) dX11_putNumber_41 rfl ?_
                          refine v_getI (pc' := 45) (ji := 1) rfl fg_X11_89 kd_0 dX11_putNumber_42 rfl ?_
                          show Wp _ _ _ _ _ _ [gI (L + 1), gR 0]
                          refine w_iconst (pc' := 46) (by decide) dX11_putNumber_45 rfl ?_
                          refine v_iadd (pc' := 47) (by omega) dX11_putNumber_46 rfl ?_
                          refine v_putI (pc' := 50) (ji := 1) rfl fp_X11_89 kd_0 sf_X11_1 dX11_putNumber_47 rfl ?_
                          refine Wp.heq (σ' := gUr (gUp σ 0 1 ((L + 1) + 1)) 1 (updI (updI T L (gB32 (fun a b => a &&& b) (gB32 (fun a b => a >>> (b &&& 31)) n 24) 255)) (L + 1) (gB32 (fun a b => a &&& b) (gB32 (fun a b => a >>> (b &&& 31)) n 0) 255))) ((gUp_cr (by decide)).trans (congrArg (fun z => gUr z 1 (updI (updI T L (gB32 (fun a b => a &&& b) (gB32 (fun a b => a >>> (b &&& 31)) n 24) 255)) (L + 1) (gB32 (fun a b => a &&& b) (gB32 (fun a b => a >>> (b &&& 31)) n 0) 255))) gUp_same)) ?_
                          refine v_iinc (pc' := 53) (x := 0) (ls' := [gR 0, gI n, gI (-8)]) (by omega) (by decide) (by rfl) (by rfl) dX11_putNumber_50 rfl ?_
                          refine w_goto (pc' := 3) dX11_putNumber_53 rfl ?_
                          refine w_iload_n (pc' := 4) (i := 2) (by rfl) (by rfl) dX11_putNumber_3 rfl ?_
                          refine w_if_lt (pc' := 7) (t := 56) dX11_putNumber_4 rfl rfl (fun c_4 => ?_) (fun c_4 => ?_)
                          · skip
                            refine w_return rfl dX11_putNumber_56 ?_
                            first | (exfalso; omega) | exact ⟨rfl, rfl⟩
                          · skip
                            exact absurd c_4 (by decide)
                  · skip
                    refine w_aload_n (pc' := 25) (i := 0) (by rfl) (by rfl) dX11_putNumber_24 rfl ?_
                    refine w_getS (pc' := 28) (q := 1) fg_X11_9 kd_0 sf_X11_0 gr_0_0 dX11_putNumber_25 rfl ?_
                    refine w_aload_n (pc' := 29) (i := 0) (by rfl) (by rfl) dX11_putNumber_28 rfl ?_
                    refine v_getI (pc' := 32) (ji := 1) rfl fg_X11_89 kd_0 dX11_putNumber_29 rfl ?_
                    show Wp _ _ _ _ _ _ [gI (L + 1), gR 1]
                    refine w_iload_n (pc' := 33) (i := 1) (by rfl) (by rfl) dX11_putNumber_32 rfl ?_
                    refine w_iload_n (pc' := 34) (i := 2) (by rfl) (by rfl) dX11_putNumber_33 rfl ?_
                    refine w_ishr (pc' := 35) dX11_putNumber_34 rfl ?_
                    refine w_sipush (pc' := 38) (by decide) (by decide) dX11_putNumber_35 rfl ?_
                    refine w_iand (pc' := 39) dX11_putNumber_38 rfl ?_
                    refine w_iast (pc' := 40) kd_1 (by omega) (by omega) dX11_putNumber_39 rfl ?_
                    refine Wp.heq (σ' := gUr (gUp σ 0 1 (L + 1)) 1 (updI (updI T L (gB32 (fun a b => a &&& b) (gB32 (fun a b => a >>> (b &&& 31)) n 24) 255)) (L + 1) (gB32 (fun a b => a &&& b) (gB32 (fun a b => a >>> (b &&& 31)) n 8) 255))) gUp_row ?_
                    refine w_aload_n (pc' := 41) (i := 0) (by rfl) (by rfl) dX11_putNumber_40 rfl ?_
                    refine w_dup (pc' := 42) dX11_putNumber_41 rfl ?_
                    refine v_getI (pc' := 45) (ji := 1) rfl fg_X11_89 kd_0 dX11_putNumber_42 rfl ?_
                    show Wp _ _ _ _ _ _ [gI (L + 1), gR 0]
                    refine w_iconst (pc' := 46) (by decide) dX11_putNumber_45 rfl ?_
                    refine v_iadd (pc' := 47) (by omega) dX11_putNumber_46 rfl ?_
                    refine v_putI (pc' := 50) (ji := 1) rfl fp_X11_89 kd_0 sf_X11_1 dX11_putNumber_47 rfl ?_
                    refine Wp.heq (σ' := gUr (gUp σ 0 1 ((L + 1) + 1)) 1 (updI (updI T L (gB32 (fun a b => a &&& b) (gB32 (fun a b => a >>> (b &&& 31)) n 24) 255)) (L + 1) (gB32 (fun a b => a &&& b) (gB32 (fun a b => a >>> (b &&& 31)) n 8) 255))) ((gUp_cr (by decide)).trans (congrArg (fun z => gUr z 1 (updI (updI T L (gB32 (fun a b => a &&& b) (gB32 (fun a b => a >>> (b &&& 31)) n 24) 255)) (L + 1) (gB32 (fun a b => a &&& b) (gB32 (fun a b => a >>> (b &&& 31)) n 8) 255))) gUp_same)) ?_
                    refine v_iinc (pc' := 53) (x := 8) (ls' := [gR 0, gI n, gI 0]) (by omega) (by decide) (by rfl) (by rfl) dX11_putNumber_50 rfl ?_
                    refine w_goto (pc' := 3) dX11_putNumber_53 rfl ?_
                    refine w_iload_n (pc' := 4) (i := 2) (by rfl) (by rfl) dX11_putNumber_3 rfl ?_
                    refine w_if_lt (pc' := 7) (t := 56) dX11_putNumber_4 rfl rfl (fun c_4 => ?_) (fun c_4 => ?_)
                    · skip
                      exact absurd c_4 (by decide)
                    · skip
                      refine w_aload_n (pc' := 8) (i := 0) (by rfl) (by rfl) dX11_putNumber_7 rfl ?_
                      refine v_getI (pc' := 11) (ji := 1) rfl fg_X11_89 kd_0 dX11_putNumber_8 rfl ?_
                      show Wp _ _ _ _ _ _ [gI ((L + 1) + 1)]
                      refine w_if_lt (pc' := 14) (t := 50) dX11_putNumber_11 rfl rfl (fun c_11 => ?_) (fun c_11 => ?_)
                      · skip
                        refine v_iinc (pc' := 53) (x := 0) (ls' := [gR 0, gI n, gI (-8)]) (by omega) (by decide) (by rfl) (by rfl) dX11_putNumber_50 rfl ?_
                        refine w_goto (pc' := 3) dX11_putNumber_53 rfl ?_
                        refine w_iload_n (pc' := 4) (i := 2) (by rfl) (by rfl) dX11_putNumber_3 rfl ?_
                        refine w_if_lt (pc' := 7) (t := 56) dX11_putNumber_4 rfl rfl (fun c_4 => ?_) (fun c_4 => ?_)
                        · skip
                          refine w_return rfl dX11_putNumber_56 ?_
                          first | (exfalso; omega) | exact ⟨rfl, rfl⟩
                        · skip
                          exact absurd c_4 (by decide)
                      · skip
                        refine w_aload_n (pc' := 15) (i := 0) (by rfl) (by rfl) dX11_putNumber_14 rfl ?_
                        refine v_getI (pc' := 18) (ji := 1) rfl fg_X11_89 kd_0 dX11_putNumber_15 rfl ?_
                        show Wp _ _ _ _ _ _ [gI ((L + 1) + 1)]
                        refine w_sipush (pc' := 21) (by decide) (by decide) dX11_putNumber_18 rfl ?_
                        refine w_icmp_ge (pc' := 24) (t := 50) dX11_putNumber_21 rfl rfl (fun c_21 => ?_) (fun c_21 => ?_)
                        · skip
                          refine v_iinc (pc' := 53) (x := 0) (ls' := [gR 0, gI n, gI (-8)]) (by omega) (by decide) (by rfl) (by rfl) dX11_putNumber_50 rfl ?_
                          refine w_goto (pc' := 3) dX11_putNumber_53 rfl ?_
                          refine w_iload_n (pc' := 4) (i := 2) (by rfl) (by rfl) dX11_putNumber_3 rfl ?_
                          refine w_if_lt (pc' := 7) (t := 56) dX11_putNumber_4 rfl rfl (fun c_4 => ?_) (fun c_4 => ?_)
                          · skip
                            refine w_return rfl dX11_putNumber_56 ?_
                            first | (exfalso; omega) | exact ⟨rfl, rfl⟩
                          · skip
                            exact absurd c_4 (by decide)
                        · skip
                          refine w_aload_n (pc' := 25) (i := 0) (by rfl) (by rfl) dX11_putNumber_24 rfl ?_
                          refine w_getS (pc' := 28) (q := 1) fg_X11_9 kd_0 sf_X11_0 gr_0_0 dX11_putNumber_25 rfl ?_
                          refine w_aload_n (pc' := 29) (i := 0) (by rfl) (by rfl) dX11_putNumber_28 rfl ?_
                          refine v_getI (pc' := 32) (ji := 1) rfl fg_X11_89 kd_0 dX11_putNumber_29 rfl ?_
                          show Wp _ _ _ _ _ _ [gI ((L + 1) + 1), gR 1]
                          refine w_iload_n (pc' := 33) (i := 1) (by rfl) (by rfl) dX11_putNumber_32 rfl ?_
                          refine w_iload_n (pc' := 34) (i := 2) (by rfl) (by rfl) dX11_putNumber_33 rfl ?_
                          refine w_ishr (pc' := 35) dX11_putNumber_34 rfl ?_
                          refine w_sipush (pc' := 38) (by decide) (by decide) dX11_putNumber_35 rfl ?_
                          refine w_iand (pc' := 39) dX11_putNumber_38 rfl ?_
                          refine w_iast (pc' := 40) kd_1 (by omega) (by omega) dX11_putNumber_39 rfl ?_
                          refine Wp.heq (σ' := gUr (gUp σ 0 1 ((L + 1) + 1)) 1 (updI (updI (updI T L (gB32 (fun a b => a &&& b) (gB32 (fun a b => a >>> (b &&& 31)) n 24) 255)) (L + 1) (gB32 (fun a b => a &&& b) (gB32 (fun a b => a >>> (b &&& 31)) n 8) 255)) ((L + 1) + 1) (gB32 (fun a b => a &&& b) (gB32 (fun a b => a >>> (b &&& 31)) n 0) 255))) gUp_row ?_
                          refine w_aload_n (pc' := 41) (i := 0) (by rfl) (by rfl) dX11_putNumber_40 rfl ?_
                          refine w_dup (pc' := 42) dX11_putNumber_41 rfl ?_
                          refine v_getI (pc' := 45) (ji := 1) rfl fg_X11_89 kd_0 dX11_putNumber_42 rfl ?_
                          show Wp _ _ _ _ _ _ [gI ((L + 1) + 1), gR 0]
                          refine w_iconst (pc' := 46) (by decide) dX11_putNumber_45 rfl ?_
                          refine v_iadd (pc' := 47) (by omega) dX11_putNumber_46 rfl ?_
                          refine v_putI (pc' := 50) (ji := 1) rfl fp_X11_89 kd_0 sf_X11_1 dX11_putNumber_47 rfl ?_
                          refine Wp.heq (σ' := gUr (gUp σ 0 1 (((L + 1) + 1) + 1)) 1 (updI (updI (updI T L (gB32 (fun a b => a &&& b) (gB32 (fun a b => a >>> (b &&& 31)) n 24) 255)) (L + 1) (gB32 (fun a b => a &&& b) (gB32 (fun a b => a >>> (b &&& 31)) n 8) 255)) ((L + 1) + 1) (gB32 (fun a b => a &&& b) (gB32 (fun a b => a >>> (b &&& 31)) n 0) 255))) ((gUp_cr (by decide)).trans (congrArg (fun z => gUr z 1 (updI (updI (updI T L (gB32 (fun a b => a &&& b) (gB32 (fun a b => a >>> (b &&& 31)) n 24) 255)) (L + 1) (gB32 (fun a b => a &&& b) (gB32 (fun a b => a >>> (b &&& 31)) n 8) 255)) ((L + 1) + 1) (gB32 (fun a b => a &&& b) (gB32 (fun a b => a >>> (b &&& 31)) n 0) 255))) gUp_same)) ?_
                          refine v_iinc (pc' := 53) (x := 0) (ls' := [gR 0, gI n, gI (-8)]) (by omega) (by decide) (by rfl) (by rfl) dX11_putNumber_50 rfl ?_
                          refine w_goto (pc' := 3) dX11_putNumber_53 rfl ?_
                          refine w_iload_n (pc' := 4) (i := 2) (by rfl) (by rfl) dX11_putNumber_3 rfl ?_
                          refine w_if_lt (pc' := 7) (t := 56) dX11_putNumber_4 rfl rfl (fun c_4 => ?_) (fun c_4 => ?_)
                          · skip
                            refine w_return rfl dX11_putNumber_56 ?_
                            first | (exfalso; omega) | exact ⟨rfl, rfl⟩
                          · skip
                            exact absurd c_4 (by decide)
            · skip
              refine w_aload_n (pc' := 25) (i := 0) (by rfl) (by rfl) dX11_putNumber_24 rfl ?_
              refine w_getS (pc' := 28) (q := 1) fg_X11_9 kd_0 sf_X11_0 gr_0_0 dX11_putNumber_25 rfl ?_
              refine w_aload_n (pc' := 29) (i := 0) (by rfl) (by rfl) dX11_putNumber_28 rfl ?_
              refine v_getI (pc' := 32) (ji := 1) rfl fg_X11_89 kd_0 dX11_putNumber_29 rfl ?_
              show Wp _ _ _ _ _ _ [gI (L + 1), gR 1]
              refine w_iload_n (pc' := 33) (i := 1) (by rfl) (by rfl) dX11_putNumber_32 rfl ?_
              refine w_iload_n (pc' := 34) (i := 2) (by rfl) (by rfl) dX11_putNumber_33 rfl ?_
              refine w_ishr (pc' := 35) dX11_putNumber_34 rfl ?_
              refine w_sipush (pc' := 38) (by decide) (by decide) dX11_putNumber_35 rfl ?_
              refine w_iand (pc' := 39) dX11_putNumber_38 rfl ?_
              refine w_iast (pc' := 40) kd_1 (by omega) (by omega) dX11_putNumber_39 rfl ?_
              refine Wp.heq (σ' := gUr (gUp σ 0 1 (L + 1)) 1 (updI (updI T L (gB32 (fun a b => a &&& b) (gB32 (fun a b => a >>> (b &&& 31)) n 24) 255)) (L + 1) (gB32 (fun a b => a &&& b) (gB32 (fun a b => a >>> (b &&& 31)) n 16) 255))) gUp_row ?_
              refine w_aload_n (pc' := 41) (i := 0) (by rfl) (by rfl) dX11_putNumber_40 rfl ?_
              refine w_dup (pc' := 42) dX11_putNumber_41 rfl ?_
              refine v_getI (pc' := 45) (ji := 1) rfl fg_X11_89 kd_0 dX11_putNumber_42 rfl ?_
              show Wp _ _ _ _ _ _ [gI (L + 1), gR 0]
              refine w_iconst (pc' := 46) (by decide) dX11_putNumber_45 rfl ?_
              refine v_iadd (pc' := 47) (by omega) dX11_putNumber_46 rfl ?_
              refine v_putI (pc' := 50) (ji := 1) rfl fp_X11_89 kd_0 sf_X11_1 dX11_putNumber_47 rfl ?_
              refine Wp.heq (σ' := gUr (gUp σ 0 1 ((L + 1) + 1)) 1 (updI (updI T L (gB32 (fun a b => a &&& b) (gB32 (fun a b => a >>> (b &&& 31)) n 24) 255)) (L + 1) (gB32 (fun a b => a &&& b) (gB32 (fun a b => a >>> (b &&& 31)) n 16) 255))) ((gUp_cr (by decide)).trans (congrArg (fun z => gUr z 1 (updI (updI T L (gB32 (fun a b => a &&& b) (gB32 (fun a b => a >>> (b &&& 31)) n 24) 255)) (L + 1) (gB32 (fun a b => a &&& b) (gB32 (fun a b => a >>> (b &&& 31)) n 16) 255))) gUp_same)) ?_
              refine v_iinc (pc' := 53) (x := 16) (ls' := [gR 0, gI n, gI 8]) (by omega) (by decide) (by rfl) (by rfl) dX11_putNumber_50 rfl ?_
              refine w_goto (pc' := 3) dX11_putNumber_53 rfl ?_
              refine w_iload_n (pc' := 4) (i := 2) (by rfl) (by rfl) dX11_putNumber_3 rfl ?_
              refine w_if_lt (pc' := 7) (t := 56) dX11_putNumber_4 rfl rfl (fun c_4 => ?_) (fun c_4 => ?_)
              · skip
                exact absurd c_4 (by decide)
              · skip
                refine w_aload_n (pc' := 8) (i := 0) (by rfl) (by rfl) dX11_putNumber_7 rfl ?_
                refine v_getI (pc' := 11) (ji := 1) rfl fg_X11_89 kd_0 dX11_putNumber_8 rfl ?_
                show Wp _ _ _ _ _ _ [gI ((L + 1) + 1)]
                refine w_if_lt (pc' := 14) (t := 50) dX11_putNumber_11 rfl rfl (fun c_11 => ?_) (fun c_11 => ?_)
                · skip
                  refine v_iinc (pc' := 53) (x := 8) (ls' := [gR 0, gI n, gI 0]) (by omega) (by decide) (by rfl) (by rfl) dX11_putNumber_50 rfl ?_
                  refine w_goto (pc' := 3) dX11_putNumber_53 rfl ?_
                  refine w_iload_n (pc' := 4) (i := 2) (by rfl) (by rfl) dX11_putNumber_3 rfl ?_
                  refine w_if_lt (pc' := 7) (t := 56) dX11_putNumber_4 rfl rfl (fun c_4 => ?_) (fun c_4 => ?_)
                  · skip
                    exact absurd c_4 (by decide)
                  · skip
                    refine w_aload_n (pc' := 8) (i := 0) (by rfl) (by rfl) dX11_putNumber_7 rfl ?_
                    refine v_getI (pc' := 11) (ji := 1) rfl fg_X11_89 kd_0 dX11_putNumber_8 rfl ?_
                    show Wp _ _ _ _ _ _ [gI ((L + 1) + 1)]
                    refine w_if_lt (pc' := 14) (t := 50) dX11_putNumber_11 rfl rfl (fun c_11 => ?_) (fun c_11 => ?_)
                    · skip
                      refine v_iinc (pc' := 53) (x := 0) (ls' := [gR 0, gI n, gI (-8)]) (by omega) (by decide) (by rfl) (by rfl) dX11_putNumber_50 rfl ?_
                      refine w_goto (pc' := 3) dX11_putNumber_53 rfl ?_
                      refine w_iload_n (pc' := 4) (i := 2) (by rfl) (by rfl) dX11_putNumber_3 rfl ?_
                      refine w_if_lt (pc' := 7) (t := 56) dX11_putNumber_4 rfl rfl (fun c_4 => ?_) (fun c_4 => ?_)
                      · skip
                        refine w_return rfl dX11_putNumber_56 ?_
                        first | (exfalso; omega) | exact ⟨rfl, rfl⟩
                      · skip
                        exact absurd c_4 (by decide)
                    · skip
                      refine w_aload_n (pc' := 15) (i := 0) (by rfl) (by rfl) dX11_putNumber_14 rfl ?_
                      refine v_getI (pc' := 18) (ji := 1) rfl fg_X11_89 kd_0 dX11_putNumber_15 rfl ?_
                      show Wp _ _ _ _ _ _ [gI ((L + 1) + 1)]
                      refine w_sipush (pc' := 21) (by decide) (by decide) dX11_putNumber_18 rfl ?_
                      refine w_icmp_ge (pc' := 24) (t := 50) dX11_putNumber_21 rfl rfl (fun c_21 => ?_) (fun c_21 => ?_)
                      · skip
                        refine v_iinc (pc' := 53) (x := 0) (ls' := [gR 0, gI n, gI (-8)]) (by omega) (by decide) (by rfl) (by rfl) dX11_putNumber_50 rfl ?_
                        refine w_goto (pc' := 3) dX11_putNumber_53 rfl ?_
                        refine w_iload_n (pc' := 4) (i := 2) (by rfl) (by rfl) dX11_putNumber_3 rfl ?_
                        refine w_if_lt (pc' := 7) (t := 56) dX11_putNumber_4 rfl rfl (fun c_4 => ?_) (fun c_4 => ?_)
                        · skip
                          refine w_return rfl dX11_putNumber_56 ?_
                          first | (exfalso; omega) | exact ⟨rfl, rfl⟩
                        · skip
                          exact absurd c_4 (by decide)
                      · skip
                        refine w_aload_n (pc' := 25) (i := 0) (by rfl) (by rfl) dX11_putNumber_24 rfl ?_
                        refine w_getS (pc' := 28) (q := 1) fg_X11_9 kd_0 sf_X11_0 gr_0_0 dX11_putNumber_25 rfl ?_
                        refine w_aload_n (pc' := 29) (i := 0) (by rfl) (by rfl) dX11_putNumber_28 rfl ?_
                        refine v_getI (pc' := 32) (ji := 1) rfl fg_X11_89 kd_0 dX11_putNumber_29 rfl ?_
                        show Wp _ _ _ _ _ _ [gI ((L + 1) + 1), gR 1]
                        refine w_iload_n (pc' := 33) (i := 1) (by rfl) (by rfl) dX11_putNumber_32 rfl ?_
                        refine w_iload_n (pc' := 34) (i := 2) (by rfl) (by rfl) dX11_putNumber_33 rfl ?_
                        refine w_ishr (pc' := 35) dX11_putNumber_34 rfl ?_
                        refine w_sipush (pc' := 38) (by decide) (by decide) dX11_putNumber_35 rfl ?_
                        refine w_iand (pc' := 39) dX11_putNumber_38 rfl ?_
                        refine w_iast (pc' := 40) kd_1 (by omega) (by omega) dX11_putNumber_39 rfl ?_
                        refine Wp.heq (σ' := gUr (gUp σ 0 1 ((L + 1) + 1)) 1 (updI (updI (updI T L (gB32 (fun a b => a &&& b) (gB32 (fun a b => a >>> (b &&& 31)) n 24) 255)) (L + 1) (gB32 (fun a b => a &&& b) (gB32 (fun a b => a >>> (b &&& 31)) n 16) 255)) ((L + 1) + 1) (gB32 (fun a b => a &&& b) (gB32 (fun a b => a >>> (b &&& 31)) n 0) 255))) gUp_row ?_
                        refine w_aload_n (pc' := 41) (i := 0) (by rfl) (by rfl) dX11_putNumber_40 rfl ?_
                        refine w_dup (pc' := 42) dX11_putNumber_41 rfl ?_
                        refine v_getI (pc' := 45) (ji := 1) rfl fg_X11_89 kd_0 dX11_putNumber_42 rfl ?_
                        show Wp _ _ _ _ _ _ [gI ((L + 1) + 1), gR 0]
                        refine w_iconst (pc' := 46) (by decide) dX11_putNumber_45 rfl ?_
                        refine v_iadd (pc' := 47) (by omega) dX11_putNumber_46 rfl ?_
                        refine v_putI (pc' := 50) (ji := 1) rfl fp_X11_89 kd_0 sf_X11_1 dX11_putNumber_47 rfl ?_
                        refine Wp.heq (σ' := gUr (gUp σ 0 1 (((L + 1) + 1) + 1)) 1 (updI (updI (updI T L (gB32 (fun a b => a &&& b) (gB32 (fun a b => a >>> (b &&& 31)) n 24) 255)) (L + 1) (gB32 (fun a b => a &&& b) (gB32 (fun a b => a >>> (b &&& 31)) n 16) 255)) ((L + 1) + 1) (gB32 (fun a b => a &&& b) (gB32 (fun a b => a >>> (b &&& 31)) n 0) 255))) ((gUp_cr (by decide)).trans (congrArg (fun z => gUr z 1 (updI (updI (updI T L (gB32 (fun a b => a &&& b) (gB32 (fun a b => a >>> (b &&& 31)) n 24) 255)) (L + 1) (gB32 (fun a b => a &&& b) (gB32 (fun a b => a >>> (b &&& 31)) n 16) 255)) ((L + 1) + 1) (gB32 (fun a b => a &&& b) (gB32 (fun a b => a >>> (b &&& 31)) n 0) 255))) gUp_same)) ?_
                        refine v_iinc (pc' := 53) (x := 0) (ls' := [gR 0, gI n, gI (-8)]) (by omega) (by decide) (by rfl) (by rfl) dX11_putNumber_50 rfl ?_
                        refine w_goto (pc' := 3) dX11_putNumber_53 rfl ?_
                        refine w_iload_n (pc' := 4) (i := 2) (by rfl) (by rfl) dX11_putNumber_3 rfl ?_
                        refine w_if_lt (pc' := 7) (t := 56) dX11_putNumber_4 rfl rfl (fun c_4 => ?_) (fun c_4 => ?_)
                        · skip
                          refine w_return rfl dX11_putNumber_56 ?_
                          first | (exfalso; omega) | exact ⟨rfl, rfl⟩
                        · skip
                          exact absurd c_4 (by decide)
                · skip
                  refine w_aload_n (pc' := 15) (i := 0) (by rfl) (by rfl) dX11_putNumber_14 rfl ?_
                  refine v_getI (pc' := 18) (ji := 1) rfl fg_X11_89 kd_0 dX11_putNumber_15 rfl ?_
                  show Wp _ _ _ _ _ _ [gI ((L + 1) + 1)]
                  refine w_sipush (pc' := 21) (by decide) (by decide) dX11_putNumber_18 rfl ?_
                  refine w_icmp_ge (pc' := 24) (t := 50) dX11_putNumber_21 rfl rfl (fun c_21 => ?_) (fun c_21 => ?_)
                  · skip
                    refine v_iinc (pc' := 53) (x := 8) (ls' := [gR 0, gI n, gI 0]) (by omega) (by decide) (by rfl) (by rfl) dX11_putNumber_50 rfl ?_
                    refine w_goto (pc' := 3) dX11_putNumber_53 rfl ?_
                    refine w_iload_n (pc' := 4) (i := 2) (by rfl) (by rfl) dX11_putNumber_3 rfl ?_
                    refine w_if_lt (pc' := 7) (t := 56) dX11_putNumber_4 rfl rfl (fun c_4 => ?_) (fun c_4 => ?_)
                    · skip
                      exact absurd c_4 (by decide)
                    · skip
                      refine w_aload_n (pc' := 8) (i := 0) (by rfl) (by rfl) dX11_putNumber_7 rfl ?_
                      refine v_getI (pc' := 11) (ji := 1) rfl fg_X11_89 kd_0 dX11_putNumber_8 rfl ?_
                      show Wp _ _ _ _ _ _ [gI ((L + 1) + 1)]
                      refine w_if_lt (pc' := 14) (t := 50) dX11_putNumber_11 rfl rfl (fun c_11 => ?_) (fun c_11 => ?_)
                      · skip
                        refine v_iinc (pc' := 53) (x := 0) (ls' := [gR 0, gI n, gI (-8)]) (by omega) (by decide) (by rfl) (by rfl) dX11_putNumber_50 rfl ?_
                        refine w_goto (pc' := 3) dX11_putNumber_53 rfl ?_
                        refine w_iload_n (pc' := 4) (i := 2) (by rfl) (by rfl) dX11_putNumber_3 rfl ?_
                        refine w_if_lt (pc' := 7) (t := 56) dX11_putNumber_4 rfl rfl (fun c_4 => ?_) (fun c_4 => ?_)
                        · skip
                          refine w_return rfl dX11_putNumber_56 ?_
                          first | (exfalso; omega) | exact ⟨rfl, rfl⟩
                        · skip
                          exact absurd c_4 (by decide)
                      · skip
                        refine w_aload_n (pc' := 15) (i := 0) (by rfl) (by rfl) dX11_putNumber_14 rfl ?_
                        refine v_getI (pc' := 18) (ji := 1) rfl fg_X11_89 kd_0 dX11_putNumber_15 rfl ?_
                        show Wp _ _ _ _ _ _ [gI ((L + 1) + 1)]
                        refine w_sipush (pc' := 21) (by decide) (by decide) dX11_putNumber_18 rfl ?_
                        refine w_icmp_ge (pc' := 24) (t := 50) dX11_putNumber_21 rfl rfl (fun c_21 => ?_) (fun c_21 => ?_)
                        · skip
                          refine v_iinc (pc' := 53) (x := 0) (ls' := [gR 0, gI n, gI (-8)]) (by omega) (by decide) (by rfl) (by rfl) dX11_putNumber_50 rfl ?_
                          refine w_goto (pc' := 3) dX11_putNumber_53 rfl ?_
                          refine w_iload_n (pc' := 4) (i := 2) (by rfl) (by rfl) dX11_putNumber_3 rfl ?_
                          refine w_if_lt (pc' := 7) (t := 56) dX11_putNumber_4 rfl rfl (fun c_4 => ?_) (fun c_4 => ?_)
                          · skip
                            refine w_return rfl dX11_putNumber_56 ?_
                            first | (exfalso; omega) | exact ⟨rfl, rfl⟩
                          · skip
                            exact absurd c_4 (by decide)
                        · skip
                          refine w_aload_n (pc' := 25) (i := 0) (by rfl) (by rfl) dX11_putNumber_24 rfl ?_
                          refine w_getS (pc' := 28) (q := 1) fg_X11_9 kd_0 sf_X11_0 gr_0_0 dX11_putNumber_25 rfl ?_
                          refine w_aload_n (pc' := 29) (i := 0) (by rfl) (by rfl) dX11_putNumber_28 rfl ?_
                          refine v_getI (pc' := 32) (ji := 1) rfl fg_X11_89 kd_0 dX11_putNumber_29 rfl ?_
                          show Wp _ _ _ _ _ _ [gI ((L + 1) + 1), gR 1]
                          refine w_iload_n (pc' := 33) (i := 1) (by rfl) (by rfl) dX11_putNumber_32 rfl ?_
                          refine w_iload_n (pc' := 34) (i := 2) (by rfl) (by rfl) dX11_putNumber_33 rfl ?_
                          refine w_ishr (pc' := 35) dX11_putNumber_34 rfl ?_
                          refine w_sipush (pc' := 38) (by decide) (by decide) dX11_putNumber_35 rfl ?_
                          refine w_iand (pc' := 39) dX11_putNumber_38 rfl ?_
                          refine w_iast (pc' := 40) kd_1 (by omega) (by omega) dX11_putNumber_39 rfl ?_
                          refine Wp.heq (σ' := gUr (gUp σ 0 1 ((L + 1) + 1)) 1 (updI (updI (updI T L (gB32 (fun a b => a &&& b) (gB32 (fun a b => a >>> (b &&& 31)) n 24) 255)) (L + 1) (gB32 (fun a b => a &&& b) (gB32 (fun a b => a >>> (b &&& 31)) n 16) 255)) ((L + 1) + 1) (gB32 (fun a b => a &&& b) (gB32 (fun a b => a >>> (b &&& 31)) n 0) 255))) gUp_row ?_
                          refine w_aload_n (pc' := 41) (i := 0) (by rfl) (by rfl) dX11_putNumber_40 rfl ?_
                          refine w_dup (pc' := 42) dX11_putNumber_41 rfl ?_
                          refine v_getI (pc' := 45) (ji := 1) rfl fg_X11_89 kd_0 dX11_putNumber_42 rfl ?_
                          show Wp _ _ _ _ _ _ [gI ((L + 1) + 1), gR 0]
                          refine w_iconst (pc' := 46) (by decide) dX11_putNumber_45 rfl ?_
                          refine v_iadd (pc' := 47) (by omega) dX11_putNumber_46 rfl ?_
                          refine v_putI (pc' := 50) (ji := 1) rfl fp_X11_89 kd_0 sf_X11_1 dX11_putNumber_47 rfl ?_
                          refine Wp.heq (σ' := gUr (gUp σ 0 1 (((L + 1) + 1) + 1)) 1 (updI (updI (updI T L (gB32 (fun a b => a &&& b) (gB32 (fun a b => a >>> (b &&& 31)) n 24) 255)) (L + 1) (gB32 (fun a b => a &&& b) (gB32 (fun a b => a >>> (b &&& 31)) n 16) 255)) ((L + 1) + 1) (gB32 (fun a b => a &&& b) (gB32 (fun a b => a >>> (b &&& 31)) n 0) 255))) ((gUp_cr (by decide)).trans (congrArg (fun z => gUr z 1 (updI (updI (updI T L (gB32 (fun a b => a &&& b) (gB32 (fun a b => a >>> (b &&& 31)) n 24) 255)) (L + 1) (gB32 (fun a b => a &&& b) (gB32 (fun a b => a >>> (b &&& 31)) n 16) 255)) ((L + 1) + 1) (gB32 (fun a b => a &&& b) (gB32 (fun a b => a >>> (b &&& 31)) n 0) 255))) gUp_same)) ?_
                          refine v_iinc (pc' := 53) (x := 0) (ls' := [gR 0, gI n, gI (-8)]) (by omega) (by decide) (by rfl) (by rfl) dX11_putNumber_50 rfl ?_
                          refine w_goto (pc' := 3) dX11_putNumber_53 rfl ?_
                          refine w_iload_n (pc' := 4) (i := 2) (by rfl) (by rfl) dX11_putNumber_3 rfl ?_
                          refine w_if_lt (pc' := 7) (t := 56) dX11_putNumber_4 rfl rfl (fun c_4 => ?_) (fun c_4 => ?_)
                          · skip
                            refine w_return rfl dX11_putNumber_56 ?_
                            first | (exfalso; omega) | exact ⟨rfl, rfl⟩
                          · skip
                            exact absurd c_4 (by decide)
                  · skip
                    refine w_aload_n (pc' := 25) (i := 0) (by rfl) (by rfl) dX11_putNumber_24 rfl ?_
                    refine w_getS (pc' := 28) (q := 1) fg_X11_9 kd_0 sf_X11_0 gr_0_0 dX11_putNumber_25 rfl ?_
                    refine w_aload_n (pc' := 29) (i := 0) (by rfl) (by rfl) dX11_putNumber_28 rfl ?_
                    refine v_getI (pc' := 32) (ji := 1) rfl fg_X11_89 kd_0 dX11_putNumber_29 rfl ?_
                    show Wp _ _ _ _ _ _ [gI ((L + 1) + 1), gR 1]
                    refine w_iload_n (pc' := 33) (i := 1) (by rfl) (by rfl) dX11_putNumber_32 rfl ?_
                    refine w_iload_n (pc' := 34) (i := 2) (by rfl) (by rfl) dX11_putNumber_33 rfl ?_
                    refine w_ishr (pc' := 35) dX11_putNumber_34 rfl ?_
                    refine w_sipush (pc' := 38) (by decide) (by decide) dX11_putNumber_35 rfl ?_
                    refine w_iand (pc' := 39) dX11_putNumber_38 rfl ?_
                    refine w_iast (pc' := 40) kd_1 (by omega) (by omega) dX11_putNumber_39 rfl ?_
                    refine Wp.heq (σ' := gUr (gUp σ 0 1 ((L + 1) + 1)) 1 (updI (updI (updI T L (gB32 (fun a b => a &&& b) (gB32 (fun a b => a >>> (b &&& 31)) n 24) 255)) (L + 1) (gB32 (fun a b => a &&& b) (gB32 (fun a b => a >>> (b &&& 31)) n 16) 255)) ((L + 1) + 1) (gB32 (fun a b => a &&& b) (gB32 (fun a b => a >>> (b &&& 31)) n 8) 255))) gUp_row ?_
                    refine w_aload_n (pc' := 41) (i := 0) (by rfl) (by rfl) dX11_putNumber_40 rfl ?_
                    refine w_dup (pc' := 42) dX11_putNumber_41 rfl ?_
                    refine v_getI (pc' := 45) (ji := 1) rfl fg_X11_89 kd_0 dX11_putNumber_42 rfl ?_
                    show Wp _ _ _ _ _ _ [gI ((L + 1) + 1), gR 0]
                    refine w_iconst (pc' := 46) (by decide) dX11_putNumber_45 rfl ?_
                    refine v_iadd (pc' := 47) (by omega) dX11_putNumber_46 rfl ?_
                    refine v_putI (pc' := 50) (ji := 1) rfl fp_X11_89 kd_0 sf_X11_1 dX11_putNumber_47 rfl ?_
                    refine Wp.heq (σ' := gUr (gUp σ 0 1 (((L + 1) + 1) + 1)) 1 (updI (updI (updI T L (gB32 (fun a b => a &&& b) (gB32 (fun a b => a >>> (b &&& 31)) n 24) 255)) (L + 1) (gB32 (fun a b => a &&& b) (gB32 (fun a b => a >>> (b &&& 31)) n 16) 255)) ((L + 1) + 1) (gB32 (fun a b => a &&& b) (gB32 (fun a b => a >>> (b &&& 31)) n 8) 255))) ((gUp_cr (by decide)).trans (congrArg (fun z => gUr z 1 (updI (updI (updI T L (gB32 (fun a b => a &&& b) (gB32 (fun a b => a >>> (b &&& 31)) n 24) 255)) (L + 1) (gB32 (fun a b => a &&& b) (gB32 (fun a b => a >>> (b &&& 31)) n 16) 255)) ((L + 1) + 1) (gB32 (fun a b => a &&& b) (gB32 (fun a b => a >>> (b &&& 31)) n 8) 255))) gUp_same)) ?_
                    refine v_iinc (pc' := 53) (x := 8) (ls' := [gR 0, gI n, gI 0]) (by omega) (by decide) (by rfl) (by rfl) dX11_putNumber_50 rfl ?_
                    refine w_goto (pc' := 3) dX11_putNumber_53 rfl ?_
                    refine w_iload_n (pc' := 4) (i := 2) (by rfl) (by rfl) dX11_putNumber_3 rfl ?_
                    refine w_if_lt (pc' := 7) (t := 56) dX11_putNumber_4 rfl rfl (fun c_4 => ?_) (fun c_4 => ?_)
                    · skip
                      exact absurd c_4 (by decide)
                    · skip
                      refine w_aload_n (pc' := 8) (i := 0) (by rfl) (by rfl) dX11_putNumber_7 rfl ?_
                      refine v_getI (pc' := 11) (ji := 1) rfl fg_X11_89 kd_0 dX11_putNumber_8 rfl ?_
                      show Wp _ _ _ _ _ _ [gI (((L + 1) + 1) + 1)]
                      refine w_if_lt (pc' := 14) (t := 50) dX11_putNumber_11 rfl rfl (fun c_11 => ?_) (fun c_11 => ?_)
                      · skip
                        refine v_iinc (pc' := 53) (x := 0) (ls' := [gR 0, gI n, gI (-8)]) (by omega) (by decide) (by rfl) (by rfl) dX11_putNumber_50 rfl ?_
                        refine w_goto (pc' := 3) dX11_putNumber_53 rfl ?_
                        refine w_iload_n (pc' := 4) (i := 2) (by rfl) (by rfl) dX11_putNumber_3 rfl ?_
                        refine w_if_lt (pc' := 7) (t := 56) dX11_putNumber_4 rfl rfl (fun c_4 => ?_) (fun c_4 => ?_)
                        · skip
                          refine w_return rfl dX11_putNumber_56 ?_
                          first | (exfalso; omega) | exact ⟨rfl, rfl⟩
                        · skip
                          exact absurd c_4 (by decide)
                      · skip
                        refine w_aload_n (pc' := 15) (i := 0) (by rfl) (by rfl) dX11_putNumber_14 rfl ?_
                        refine v_getI (pc' := 18) (ji := 1) rfl fg_X11_89 kd_0 dX11_putNumber_15 rfl ?_
                        show Wp _ _ _ _ _ _ [gI (((L + 1) + 1) + 1)]
                        refine w_sipush (pc' := 21) (by decide) (by decide) dX11_putNumber_18 rfl ?_
                        refine w_icmp_ge (pc' := 24) (t := 50) dX11_putNumber_21 rfl rfl (fun c_21 => ?_) (fun c_21 => ?_)
                        · skip
                          refine v_iinc (pc' := 53) (x := 0) (ls' := [gR 0, gI n, gI (-8)]) (by omega) (by decide) (by rfl) (by rfl) dX11_putNumber_50 rfl ?_
                          refine w_goto (pc' := 3) dX11_putNumber_53 rfl ?_
                          refine w_iload_n (pc' := 4) (i := 2) (by rfl) (by rfl) dX11_putNumber_3 rfl ?_
                          refine w_if_lt (pc' := 7) (t := 56) dX11_putNumber_4 rfl rfl (fun c_4 => ?_) (fun c_4 => ?_)
                          · skip
                            refine w_return rfl dX11_putNumber_56 ?_
                            first | (exfalso; omega) | exact ⟨rfl, rfl⟩
                          · skip
                            exact absurd c_4 (by decide)
                        · skip
                          refine w_aload_n (pc' := 25) (i := 0) (by rfl) (by rfl) dX11_putNumber_24 rfl ?_
                          refine w_getS (pc' := 28) (q := 1) fg_X11_9 kd_0 sf_X11_0 gr_0_0 dX11_putNumber_25 rfl ?_
                          refine w_aload_n (pc' := 29) (i := 0) (by rfl) (by rfl) dX11_putNumber_28 rfl ?_
                          refine v_getI (pc' := 32) (ji := 1) rfl fg_X11_89 kd_0 dX11_putNumber_29 rfl ?_
                          show Wp _ _ _ _ _ _ [gI (((L + 1) + 1) + 1), gR 1]
                          refine w_iload_n (pc' := 33) (i := 1) (by rfl) (by rfl) dX11_putNumber_32 rfl ?_
                          refine w_iload_n (pc' := 34) (i := 2) (by rfl) (by rfl) dX11_putNumber_33 rfl ?_
                          refine w_ishr (pc' := 35) dX11_putNumber_34 rfl ?_
                          refine w_sipush (pc' := 38) (by decide) (by decide) dX11_putNumber_35 rfl ?_
                          refine w_iand (pc' := 39) dX11_putNumber_38 rfl ?_
                          refine w_iast (pc' := 40) kd_1 (by omega) (by omega) dX11_putNumber_39 rfl ?_
                          refine Wp.heq (σ' := gUr (gUp σ 0 1 (((L + 1) + 1) + 1)) 1 (updI (updI (updI (updI T L (gB32 (fun a b => a &&& b) (gB32 (fun a b => a >>> (b &&& 31)) n 24) 255)) (L + 1) (gB32 (fun a b => a &&& b) (gB32 (fun a b => a >>> (b &&& 31)) n 16) 255)) ((L + 1) + 1) (gB32 (fun a b => a &&& b) (gB32 (fun a b => a >>> (b &&& 31)) n 8) 255)) (((L + 1) + 1) + 1) (gB32 (fun a b => a &&& b) (gB32 (fun a b => a >>> (b &&& 31)) n 0) 255))) gUp_row ?_
                          refine w_aload_n (pc' := 41) (i := 0) (by rfl) (by rfl) dX11_putNumber_40 rfl ?_
                          refine w_dup (pc' := 42) dX11_putNumber_41 rfl ?_
                          refine v_getI (pc' := 45) (ji := 1) rfl fg_X11_89 kd_0 dX11_putNumber_42 rfl ?_
                          show Wp _ _ _ _ _ _ [gI (((L + 1) + 1) + 1), gR 0]
                          refine w_iconst (pc' := 46) (by decide) dX11_putNumber_45 rfl ?_
                          refine v_iadd (pc' := 47) (by omega) dX11_putNumber_46 rfl ?_
                          refine v_putI (pc' := 50) (ji := 1) rfl fp_X11_89 kd_0 sf_X11_1 dX11_putNumber_47 rfl ?_
                          refine Wp.heq (σ' := gUr (gUp σ 0 1 ((((L + 1) + 1) + 1) + 1)) 1 (updI (updI (updI (updI T L (gB32 (fun a b => a &&& b) (gB32 (fun a b => a >>> (b &&& 31)) n 24) 255)) (L + 1) (gB32 (fun a b => a &&& b) (gB32 (fun a b => a >>> (b &&& 31)) n 16) 255)) ((L + 1) + 1) (gB32 (fun a b => a &&& b) (gB32 (fun a b => a >>> (b &&& 31)) n 8) 255)) (((L + 1) + 1) + 1) (gB32 (fun a b => a &&& b) (gB32 (fun a b => a >>> (b &&& 31)) n 0) 255))) ((gUp_cr (by decide)).trans (congrArg (fun z => gUr z 1 (updI (updI (updI (updI T L (gB32 (fun a b => a &&& b) (gB32 (fun a b => a >>> (b &&& 31)) n 24) 255)) (L + 1) (gB32 (fun a b => a &&& b) (gB32 (fun a b => a >>> (b &&& 31)) n 16) 255)) ((L + 1) + 1) (gB32 (fun a b => a &&& b) (gB32 (fun a b => a >>> (b &&& 31)) n 8) 255)) (((L + 1) + 1) + 1) (gB32 (fun a b => a &&& b) (gB32 (fun a b => a >>> (b &&& 31)) n 0) 255))) gUp_same)) ?_
                          refine v_iinc (pc' := 53) (x := 0) (ls' := [gR 0, gI n, gI (-8)]) (by omega) (by decide) (by rfl) (by rfl) dX11_putNumber_50 rfl ?_
                          refine w_goto (pc' := 3) dX11_putNumber_53 rfl ?_
                          refine w_iload_n (pc' := 4) (i := 2) (by rfl) (by rfl) dX11_putNumber_3 rfl ?_
                          refine w_if_lt (pc' := 7) (t := 56) dX11_putNumber_4 rfl rfl (fun c_4 => ?_) (fun c_4 => ?_)
                          · skip
                            refine w_return rfl dX11_putNumber_56 ?_
                            first | (exfalso; omega) | exact ⟨rfl, rfl⟩
                          · skip
                            exact absurd c_4 (by decide)
theorem q_come (σ : gH) (T : Int → Int) (L n : Int) (hL : 0 ≤ L ∧ L ≤ 536) : Mt mX12_come 0 [gR 133, gI n] (gUr (gUp σ 133 2 L) 134 T) (rE (gX 1) (gUr (gUp σ 133 2 (L + 1 + 1 + 1 + 1)) 134 (put4 T L n))) := by
  refine Mt.walk (ls := [gR 133, gI n, gX 1]) pn_X12 rfl (fun _ _ h => by cases h.1) (Nat.le_of_ble_eq_true rfl) rfl ?_
  refine w_bipush (pc' := 2) (by decide) (by decide) dX12_come_0 rfl ?_
  refine w_istore_n (pc' := 3) (i := 2) (ls' := [gR 133, gI n, gI 24]) (by rfl) (by decide) (by rfl) dX12_come_2 rfl ?_
  refine w_iload_n (pc' := 4) (i := 2) (by rfl) (by rfl) dX12_come_3 rfl ?_
  refine w_if_lt (pc' := 7) (t := 39) dX12_come_4 rfl rfl (fun c_4 => ?_) (fun c_4 => ?_)
  · skip
    exact absurd c_4 (by decide)
  · skip
    refine w_aload_n (pc' := 8) (i := 0) (by rfl) (by rfl) dX12_come_7 rfl ?_
    refine w_getS (pc' := 11) (q := 134) fg_X12_7 kd_133 sf_X12_1 gr_133_1 dX12_come_8 rfl ?_
    refine w_aload_n (pc' := 12) (i := 0) (by rfl) (by rfl) dX12_come_11 rfl ?_
    refine v_getI (pc' := 15) (ji := 2) rfl fg_X12_247 kd_133 dX12_come_12 rfl ?_
    show Wp _ _ _ _ _ _ [gI L, gR 134]
    refine w_iload_n (pc' := 16) (i := 1) (by rfl) (by rfl) dX12_come_15 rfl ?_
    refine w_iload_n (pc' := 17) (i := 2) (by rfl) (by rfl) dX12_come_16 rfl ?_
    refine w_iushr (pc' := 18) dX12_come_17 rfl ?_
    refine w_sipush (pc' := 21) (by decide) (by decide) dX12_come_18 rfl ?_
    refine w_iand (pc' := 22) dX12_come_21 rfl ?_
    refine w_iast (pc' := 23) kd_134 (by omega) (by omega) dX12_come_22 rfl ?_
    refine Wp.heq (σ' := gUr (gUp σ 133 2 L) 134 (updI T L (gB32 (fun a b => a &&& b) (gB32 (fun a b => (a.toUInt32 >>> (b.toUInt32 &&& Int32.toUInt32 31)).toInt32) n 24) 255))) gUp_row ?_
    refine w_aload_n (pc' := 24) (i := 0) (by rfl) (by rfl) dX12_come_23 rfl ?_
    refine w_dup (pc' := 25) dX12_come_24 rfl ?_
    refine v_getI (pc' := 28) (ji := 2) rfl fg_X12_247 kd_133 dX12_come_25 rfl ?_
    show Wp _ _ _ _ _ _ [gI L, gR 133]
    refine w_iconst (pc' := 29) (by decide) dX12_come_28 rfl ?_
    refine v_iadd (pc' := 30) (by omega) dX12_come_29 rfl ?_
    refine v_putI (pc' := 33) (ji := 2) rfl fp_X12_247 kd_133 sf_X12_2 dX12_come_30 rfl ?_
    refine Wp.heq (σ' := gUr (gUp σ 133 2 (L + 1)) 134 (updI T L (gB32 (fun a b => a &&& b) (gB32 (fun a b => (a.toUInt32 >>> (b.toUInt32 &&& Int32.toUInt32 31)).toInt32) n 24) 255))) ((gUp_cr (by decide)).trans (congrArg (fun z => gUr z 134 (updI T L (gB32 (fun a b => a &&& b) (gB32 (fun a b => (a.toUInt32 >>> (b.toUInt32 &&& Int32.toUInt32 31)).toInt32) n 24) 255))) gUp_same)) ?_
    refine v_iinc (pc' := 36) (x := 24) (ls' := [gR 133, gI n, gI 16]) (by omega) (by decide) (by rfl) (by rfl) dX12_come_33 rfl ?_
    refine w_goto (pc' := 3) dX12_come_36 rfl ?_
    refine w_iload_n (pc' := 4) (i := 2) (by rfl) (by rfl) dX12_come_3 rfl ?_
    refine w_if_lt (pc' := 7) (t := 39) dX12_come_4 rfl rfl (fun c_4 => ?_) (fun c_4 => ?_)
    · skip
      exact absurd c_4 (by decide)
    · skip
      refine w_aload_n (pc' := 8) (i := 0) (by rfl) (by rfl) dX12_come_7 rfl ?_
      refine w_getS (pc' := 11) (q := 134) fg_X12_7 kd_133 sf_X12_1 gr_133_1 dX12_come_8 rfl ?_
      refine w_aload_n (pc' := 12) (i := 0) (by rfl) (by rfl) dX12_come_11 rfl ?_
      refine v_getI (pc' := 15) (ji := 2) rfl fg_X12_247 kd_133 dX12_come_12 rfl ?_
      show Wp _ _ _ _ _ _ [gI (L + 1), gR 134]
      refine w_iload_n (pc' := 16) (i := 1) (by rfl) (by rfl) dX12_come_15 rfl ?_
      refine w_iload_n (pc' := 17) (i := 2) (by rfl) (by rfl) dX12_come_16 rfl ?_
      refine w_iushr (pc' := 18) dX12_come_17 rfl ?_
      refine w_sipush (pc' := 21) (by decide) (by decide) dX12_come_18 rfl ?_
      refine w_iand (pc' := 22) dX12_come_21 rfl ?_
      refine w_iast (pc' := 23) kd_134 (by omega) (by omega) dX12_come_22 rfl ?_
      refine Wp.heq (σ' := gUr (gUp σ 133 2 (L + 1)) 134 (updI (updI T L (gB32 (fun a b => a &&& b) (gB32 (fun a b => (a.toUInt32 >>> (b.toUInt32 &&& Int32.toUInt32 31)).toInt32) n 24) 255)) (L + 1) (gB32 (fun a b => a &&& b) (gB32 (fun a b => (a.toUInt32 >>> (b.toUInt32 &&& Int32.toUInt32 31)).toInt32) n 16) 255))) gUp_row ?_
      refine w_aload_n (pc' := 24) (i := 0) (by rfl) (by rfl) dX12_come_23 rfl ?_
      refine w_dup (pc' := 25) dX12_come_24 rfl ?_
      refine v_getI (pc' := 28) (ji := 2) rfl fg_X12_247 kd_133 dX12_come_25 rfl ?_
      show Wp _ _ _ _ _ _ [gI (L + 1), gR 133]
      refine w_iconst (pc' := 29) (by decide) dX12_come_28 rfl ?_
      refine v_iadd (pc' := 30) (by omega) dX12_come_29 rfl ?_
      refine v_putI (pc' := 33) (ji := 2) rfl fp_X12_247 kd_133 sf_X12_2 dX12_come_30 rfl ?_
      refine Wp.heq (σ' := gUr (gUp σ 133 2 ((L + 1) + 1)) 134 (updI (updI T L (gB32 (fun a b => a &&& b) (gB32 (fun a b => (a.toUInt32 >>> (b.toUInt32 &&& Int32.toUInt32 31)).toInt32) n 24) 255)) (L + 1) (gB32 (fun a b => a &&& b) (gB32 (fun a b => (a.toUInt32 >>> (b.toUInt32 &&& Int32.toUInt32 31)).toInt32) n 16) 255))) ((gUp_cr (by decide)).trans (congrArg (fun z => gUr z 134 (updI (updI T L (gB32 (fun a b => a &&& b) (gB32 (fun a b => (a.toUInt32 >>> (b.toUInt32 &&& Int32.toUInt32 31)).toInt32) n 24) 255)) (L + 1) (gB32 (fun a b => a &&& b) (gB32 (fun a b => (a.toUInt32 >>> (b.toUInt32 &&& Int32.toUInt32 31)).toInt32) n 16) 255))) gUp_same)) ?_
      refine v_iinc (pc' := 36) (x := 16) (ls' := [gR 133, gI n, gI 8]) (by omega) (by decide) (by rfl) (by rfl) dX12_come_33 rfl ?_
      refine w_goto (pc' := 3) dX12_come_36 rfl ?_
      refine w_iload_n (pc' := 4) (i := 2) (by rfl) (by rfl) dX12_come_3 rfl ?_
      refine w_if_lt (pc' := 7) (t := 39) dX12_come_4 rfl rfl (fun c_4 => ?_) (fun c_4 => ?_)
      · skip
        exact absurd c_4 (by decide)
      · skip
        refine w_aload_n (pc' := 8) (i := 0) (by rfl) (by rfl) dX12_come_7 rfl ?_
        refine w_getS (pc' := 11) (q := 134) fg_X12_7 kd_133 sf_X12_1 gr_133_1 dX12_come_8 rfl ?_
        refine w_aload_n (pc' := 12) (i := 0) (by rfl) (by rfl) dX12_come_11 rfl ?_
        refine v_getI (pc' := 15) (ji := 2) rfl fg_X12_247 kd_133 dX12_come_12 rfl ?_
        show Wp _ _ _ _ _ _ [gI ((L + 1) + 1), gR 134]
        refine w_iload_n (pc' := 16) (i := 1) (by rfl) (by rfl) dX12_come_15 rfl ?_
        refine w_iload_n (pc' := 17) (i := 2) (by rfl) (by rfl) dX12_come_16 rfl ?_
        refine w_iushr (pc' := 18) dX12_come_17 rfl ?_
        refine w_sipush (pc' := 21) (by decide) (by decide) dX12_come_18 rfl ?_
        refine w_iand (pc' := 22) dX12_come_21 rfl ?_
        refine w_iast (pc' := 23) kd_134 (by omega) (by omega) dX12_come_22 rfl ?_
        refine Wp.heq (σ' := gUr (gUp σ 133 2 ((L + 1) + 1)) 134 (updI (updI (updI T L (gB32 (fun a b => a &&& b) (gB32 (fun a b => (a.toUInt32 >>> (b.toUInt32 &&& Int32.toUInt32 31)).toInt32) n 24) 255)) (L + 1) (gB32 (fun a b => a &&& b) (gB32 (fun a b => (a.toUInt32 >>> (b.toUInt32 &&& Int32.toUInt32 31)).toInt32) n 16) 255)) ((L + 1) + 1) (gB32 (fun a b => a &&& b) (gB32 (fun a b => (a.toUInt32 >>> (b.toUInt32 &&& Int32.toUInt32 31)).toInt32) n 8) 255))) gUp_row ?_
        refine w_aload_n (pc' := 24) (i := 0) (by rfl) (by rfl) dX12_come_23 rfl ?_
        refine w_dup (pc' := 25) dX12_come_24 rfl ?_
        refine v_getI (pc' := 28) (ji := 2) rfl fg_X12_247 kd_133 dX12_come_25 rfl ?_
        show Wp _ _ _ _ _ _ [gI ((L + 1) + 1), gR 133]
        refine w_iconst (pc' := 29) (by decide) dX12_come_28 rfl ?_
        refine v_iadd (pc' := 30) (by omega) dX12_come_29 rfl ?_
        refine v_putI (pc' := 33) (ji := 2) rfl fp_X12_247 kd_133 sf_X12_2 dX12_come_30 rfl ?_
        refine Wp.heq (σ' := gUr (gUp σ 133 2 (((L + 1) + 1) + 1)) 134 (updI (updI (updI T L (gB32 (fun a b => a &&& b) (gB32 (fun a b => (a.toUInt32 >>> (b.toUInt32 &&& Int32.toUInt32 31)).toInt32) n 24) 255)) (L + 1) (gB32 (fun a b => a &&& b) (gB32 (fun a b => (a.toUInt32 >>> (b.toUInt32 &&& Int32.toUInt32 31)).toInt32) n 16) 255)) ((L + 1) + 1) (gB32 (fun a b => a &&& b) (gB32 (fun a b => (a.toUInt32 >>> (b.toUInt32 &&& Int32.toUInt32 31)).toInt32) n 8) 255))) ((gUp_cr (by decide)).trans (congrArg (fun z => gUr z 134 (updI (updI (updI T L (gB32 (fun a b => a &&& b) (gB32 (fun a b => (a.toUInt32 >>> (b.toUInt32 &&& Int32.toUInt32 31)).toInt32) n 24) 255)) (L + 1) (gB32 (fun a b => a &&& b) (gB32 (fun a b => (a.toUInt32 >>> (b.toUInt32 &&& Int32.toUInt32 31)).toInt32) n 16) 255)) ((L + 1) + 1) (gB32 (fun a b => a &&& b) (gB32 (fun a b => (a.toUInt32 >>> (b.toUInt32 &&& Int32.toUInt32 31)).toInt32) n 8) 255))) gUp_same)) ?_
        refine v_iinc (pc' := 36) (x := 8) (ls' := [gR 133, gI n, gI 0]) (by omega) (by decide) (by rfl) (by rfl) dX12_come_33 rfl ?_
        refine w_goto (pc' := 3) dX12_come_36 rfl ?_
        refine w_iload_n (pc' := 4) (i := 2) (by rfl) (by rfl) dX12_come_3 rfl ?_
        refine w_if_lt (pc' := 7) (t := 39) dX12_come_4 rfl rfl (fun c_4 => ?_) (fun c_4 => ?_)
        · skip
          exact absurd c_4 (by decide)
        · skip
          refine w_aload_n (pc' := 8) (i := 0) (by rfl) (by rfl) dX12_come_7 rfl ?_
          refine w_getS (pc' := 11) (q := 134) fg_X12_7 kd_133 sf_X12_1 gr_133_1 dX12_come_8 rfl ?_
          refine w_aload_n (pc' := 12) (i := 0) (by rfl) (by rfl) dX12_come_11 rfl ?_
          refine v_getI (pc' := 15) (ji := 2) rfl fg_X12_247 kd_133 dX12_come_12 rfl ?_
          show Wp _ _ _ _ _ _ [gI (((L + 1) + 1) + 1), gR 134]
          refine w_iload_n (pc' := 16) (i := 1) (by rfl) (by rfl) dX12_come_15 rfl ?_
          refine w_iload_n (pc' := 17) (i := 2) (by rfl) (by rfl) dX12_come_16 rfl ?_
          refine w_iushr (pc' := 18) dX12_come_17 rfl ?_
          refine w_sipush (pc' := 21) (by decide) (by decide) dX12_come_18 rfl ?_
          refine w_iand (pc' := 22) dX12_come_21 rfl ?_
          refine w_iast (pc' := 23) kd_134 (by omega) (by omega) dX12_come_22 rfl ?_
          refine Wp.heq (σ' := gUr (gUp σ 133 2 (((L + 1) + 1) + 1)) 134 (updI (updI (updI (updI T L (gB32 (fun a b => a &&& b) (gB32 (fun a b => (a.toUInt32 >>> (b.toUInt32 &&& Int32.toUInt32 31)).toInt32) n 24) 255)) (L + 1) (gB32 (fun a b => a &&& b) (gB32 (fun a b => (a.toUInt32 >>> (b.toUInt32 &&& Int32.toUInt32 31)).toInt32) n 16) 255)) ((L + 1) + 1) (gB32 (fun a b => a &&& b) (gB32 (fun a b => (a.toUInt32 >>> (b.toUInt32 &&& Int32.toUInt32 31)).toInt32) n 8) 255)) (((L + 1) + 1) + 1) (gB32 (fun a b => a &&& b) (gB32 (fun a b => (a.toUInt32 >>> (b.toUInt32 &&& Int32.toUInt32 31)).toInt32) n 0) 255))) gUp_row ?_
          refine w_aload_n (pc' := 24) (i := 0) (by rfl) (by rfl) dX12_come_23 rfl ?_
          refine w_dup (pc' := 25) dX12_come_24 rfl ?_
          refine v_getI (pc' := 28) (ji := 2) rfl fg_X12_247 kd_133 dX12_come_25 rfl ?_
          show Wp _ _ _ _ _ _ [gI (((L + 1) + 1) + 1), gR 133]
          refine w_iconst (pc' := 29) (by decide) dX12_come_28 rfl ?_
          refine v_iadd (pc' := 30) (by omega) dX12_come_29 rfl ?_
          refine v_putI (pc' := 33) (ji := 2) rfl fp_X12_247 kd_133 sf_X12_2 dX12_come_30 rfl ?_
          refine Wp.heq (σ' := gUr (gUp σ 133 2 ((((L + 1) + 1) + 1) + 1)) 134 (updI (updI (updI (updI T L (gB32 (fun a b => a &&& b) (gB32 (fun a b => (a.toUInt32 >>> (b.toUInt32 &&& Int32.toUInt32 31)).toInt32) n 24) 255)) (L + 1) (gB32 (fun a b => a &&& b) (gB32 (fun a b => (a.toUInt32 >>> (b.toUInt32 &&& Int32.toUInt32 31)).toInt32) n 16) 255)) ((L + 1) + 1) (gB32 (fun a b => a &&& b) (gB32 (fun a b => (a.toUInt32 >>> (b.toUInt32 &&& Int32.toUInt32 31)).toInt32) n 8) 255)) (((L + 1) + 1) + 1) (gB32 (fun a b => a &&& b) (gB32 (fun a b => (a.toUInt32 >>> (b.toUInt32 &&& Int32.toUInt32 31)).toInt32) n 0) 255))) ((gUp_cr (by decide)).trans (congrArg (fun z => gUr z 134 (updI (updI (updI (updI T L (gB32 (fun a b => a &&& b) (gB32 (fun a b => (a.toUInt32 >>> (b.toUInt32 &&& Int32.toUInt32 31)).toInt32) n 24) 255)) (L + 1) (gB32 (fun a b => a &&& b) (gB32 (fun a b => (a.toUInt32 >>> (b.toUInt32 &&& Int32.toUInt32 31)).toInt32) n 16) 255)) ((L + 1) + 1) (gB32 (fun a b => a &&& b) (gB32 (fun a b => (a.toUInt32 >>> (b.toUInt32 &&& Int32.toUInt32 31)).toInt32) n 8) 255)) (((L + 1) + 1) + 1) (gB32 (fun a b => a &&& b) (gB32 (fun a b => (a.toUInt32 >>> (b.toUInt32 &&& Int32.toUInt32 31)).toInt32) n 0) 255))) gUp_same)) ?_
          refine v_iinc (pc' := 36) (x := 0) (ls' := [gR 133, gI n, gI (-8)]) (by omega) (by decide) (by rfl) (by rfl) dX12_come_33 rfl ?_
          refine w_goto (pc' := 3) dX12_come_36 rfl ?_
          refine w_iload_n (pc' := 4) (i := 2) (by rfl) (by rfl) dX12_come_3 rfl ?_
          refine w_if_lt (pc' := 7) (t := 39) dX12_come_4 rfl rfl (fun c_4 => ?_) (fun c_4 => ?_)
          · skip
            refine w_return rfl dX12_come_39 ?_
            refine ⟨rfl, ?_⟩
            rw [byte_eq n 24 (by decide), byte_eq n 16 (by decide), byte_eq n 8 (by decide), byte_eq n 0 (by decide)]
            rfl
          · skip
            exact absurd c_4 (by decide)
theorem k_put0 (σ : gH) (n : Int) (hL : 0 ≤ σ 0 1 ∧ σ 0 1 ≤ 536) : Mt mX11_putNumber 0 [gR 0, gI n] σ (rE (gX 1) (gUr (gUp σ 0 1 (σ 0 1 + 1 + 1 + 1 + 1)) 1 (put4 (σ 1) (σ 0 1) n))) := by
  have k := k_put σ (σ 1) (σ 0 1) n hL
  rw [gUp_id, gUr_id] at k
  exact k
theorem q_come0 (σ : gH) (L n : Int) (e : σ 133 2 = L) (hL : 0 ≤ L ∧ L ≤ 536) : Mt mX12_come 0 [gR 133, gI n] σ (rE (gX 1) (gUr (gUp σ 133 2 (L + 1 + 1 + 1 + 1)) 134 (put4 (σ 134) L n))) := by
  have k := q_come σ (σ 134) (σ 133 2) n (by rw [e]; exact hL)
  rw [gUp_id, gUr_id, e] at k
  exact k
theorem x_feed {σ : gH} (hI : Inv σ) (a b c d e : Int)  : Mt mX11_feed 30 [gR 0, gI a, gI b, gI c, gI d, gI e] σ (fun v σ' => ((σ 0 1 + 20 ≤ 540) ∧ v = gI (σ 0 1 + 20) ∧ σ' = gUr (gUp σ 0 1 (σ 0 1 + 1 + 1 + 1 + 1 + 1 + 1 + 1 + 1 + 1 + 1 + 1 + 1 + 1 + 1 + 1 + 1 + 1 + 1 + 1 + 1)) 1 (put4 (put4 (put4 (put4 (put4 (σ 1) (σ 0 1) a) (σ 0 1 + 1 + 1 + 1 + 1) b) (σ 0 1 + 1 + 1 + 1 + 1 + 1 + 1 + 1 + 1) c) (σ 0 1 + 1 + 1 + 1 + 1 + 1 + 1 + 1 + 1 + 1 + 1 + 1 + 1) d) (σ 0 1 + 1 + 1 + 1 + 1 + 1 + 1 + 1 + 1 + 1 + 1 + 1 + 1 + 1 + 1 + 1 + 1) e)) ∨ (¬ (σ 0 1 + 20 ≤ 540) ∧ v = gI (-1) ∧ σ' = σ)) := by
  refine Mt.walk (ls := [gR 0, gI a, gI b, gI c, gI d, gI e]) pn_X11 rfl (fun _ _ h => by rcases h with h | h <;> exact absurd h.2.1 (by intro h; cases h)) (Nat.le_of_ble_eq_true rfl) rfl ?_
  have hday := hI.f.day
  unfold S_day at hday
  have hp := hI.f.hp
  have hp0 := hI.f.party.2.1
  have hT := hI.f.tape.2.1
  have hT2 := hI.f.tape.2.2.1
  have f2 := hI.f2
  refine w_aload_n (pc' := 1) (i := 0) (by rfl) (by rfl) dX11_feed_0 rfl ?_
  refine v_getI (pc' := 4) (ji := 1) rfl fg_X11_89 kd_0 dX11_feed_1 rfl ?_
  refine w_if_lt (pc' := 7) (t := 20) dX11_feed_4 rfl rfl (fun c_4 => ?_) (fun c_4 => ?_)
  · skip
    refine w_iconst (pc' := 21) (by decide) dX11_feed_20 rfl ?_
    refine v_ireturn rfl dX11_feed_21 ?_
    first
      | (exfalso; omega)
      | exact .inl ⟨by omega, (by first | rfl | exact congrArg gI (by omega) | exact congrArg gI (gb_t (by omega)) | exact congrArg gI (gb_f (by omega)) | (refine congrArg gI ?_; (repeat' split) <;> omega)), rfl⟩
      | exact .inr ⟨by omega, (by first | rfl | exact congrArg gI (by omega) | exact congrArg gI (gb_t (by omega)) | exact congrArg gI (gb_f (by omega)) | (refine congrArg gI ?_; (repeat' split) <;> omega)), rfl⟩
  · skip
    refine w_aload_n (pc' := 8) (i := 0) (by rfl) (by rfl) dX11_feed_7 rfl ?_
    refine v_getI (pc' := 11) (ji := 1) rfl fg_X11_89 kd_0 dX11_feed_8 rfl ?_
    refine w_bipush (pc' := 13) (by decide) (by decide) dX11_feed_11 rfl ?_
    refine v_iadd (pc' := 14) (by omega) dX11_feed_13 rfl ?_
    refine w_sipush (pc' := 17) (by decide) (by decide) dX11_feed_14 rfl ?_
    refine w_icmp_le (pc' := 20) (t := 22) dX11_feed_17 rfl rfl (fun c_17 => ?_) (fun c_17 => ?_)
    · skip
      refine w_aload_n (pc' := 23) (i := 0) (by rfl) (by rfl) dX11_feed_22 rfl ?_
      refine w_iload_n (pc' := 24) (i := 1) (by rfl) (by rfl) dX11_feed_23 rfl ?_
      refine v_callVE (pc' := 27) (st' := []) (d' := 0) (av := [gI a]) mi_mX11_putNumber lk_X11_93 rfl ci_X11 kd_0 rfl (Nat.le_of_ble_eq_true rfl) (Nat.le_of_ble_eq_true rfl) dX11_feed_24 rfl rfl (k_put0 σ a (show 0 ≤ σ 0 1 ∧ σ 0 1 ≤ 536 by omega)) ?_
      refine w_aload_n (pc' := 28) (i := 0) (by rfl) (by rfl) dX11_feed_27 rfl ?_
      refine w_iload_n (pc' := 29) (i := 2) (by rfl) (by rfl) dX11_feed_28 rfl ?_
      refine v_callVE (pc' := 32) (st' := []) (d' := 0) (av := [gI b]) mi_mX11_putNumber lk_X11_93 rfl ci_X11 kd_0 rfl (Nat.le_of_ble_eq_true rfl) (Nat.le_of_ble_eq_true rfl) dX11_feed_29 rfl rfl (k_put σ (put4 (σ 1) (σ 0 1) a) (σ 0 1 + 1 + 1 + 1 + 1) b ⟨by omega, by omega⟩) ?_
      refine w_aload_n (pc' := 33) (i := 0) (by rfl) (by rfl) dX11_feed_32 rfl ?_
      refine w_iload_n (pc' := 34) (i := 3) (by rfl) (by rfl) dX11_feed_33 rfl ?_
      refine v_callVE (pc' := 37) (st' := []) (d' := 0) (av := [gI c]) mi_mX11_putNumber lk_X11_93 rfl ci_X11 kd_0 rfl (Nat.le_of_ble_eq_true rfl) (Nat.le_of_ble_eq_true rfl) dX11_feed_34 rfl rfl (k_put σ (put4 (put4 (σ 1) (σ 0 1) a) (σ 0 1 + 1 + 1 + 1 + 1) b) (σ 0 1 + 1 + 1 + 1 + 1 + 1 + 1 + 1 + 1) c ⟨by omega, by omega⟩) ?_
      refine w_aload_n (pc' := 38) (i := 0) (by rfl) (by rfl) dX11_feed_37 rfl ?_
      refine w_iload (pc' := 40) (by rfl) dX11_feed_38 rfl ?_
      refine v_callVE (pc' := 43) (st' := []) (d' := 0) (av := [gI d]) mi_mX11_putNumber lk_X11_93 rfl ci_X11 kd_0 rfl (Nat.le_of_ble_eq_true rfl) (Nat.le_of_ble_eq_true rfl) dX11_feed_40 rfl rfl (k_put σ (put4 (put4 (put4 (σ 1) (σ 0 1) a) (σ 0 1 + 1 + 1 + 1 + 1) b) (σ 0 1 + 1 + 1 + 1 + 1 + 1 + 1 + 1 + 1) c) (σ 0 1 + 1 + 1 + 1 + 1 + 1 + 1 + 1 + 1 + 1 + 1 + 1 + 1) d ⟨by omega, by omega⟩) ?_
      refine w_aload_n (pc' := 44) (i := 0) (by rfl) (by rfl) dX11_feed_43 rfl ?_
      refine w_iload (pc' := 46) (by rfl) dX11_feed_44 rfl ?_
      refine v_callVE (pc' := 49) (st' := []) (d' := 0) (av := [gI e]) mi_mX11_putNumber lk_X11_93 rfl ci_X11 kd_0 rfl (Nat.le_of_ble_eq_true rfl) (Nat.le_of_ble_eq_true rfl) dX11_feed_46 rfl rfl (k_put σ (put4 (put4 (put4 (put4 (σ 1) (σ 0 1) a) (σ 0 1 + 1 + 1 + 1 + 1) b) (σ 0 1 + 1 + 1 + 1 + 1 + 1 + 1 + 1 + 1) c) (σ 0 1 + 1 + 1 + 1 + 1 + 1 + 1 + 1 + 1 + 1 + 1 + 1 + 1) d) (σ 0 1 + 1 + 1 + 1 + 1 + 1 + 1 + 1 + 1 + 1 + 1 + 1 + 1 + 1 + 1 + 1 + 1) e ⟨by omega, by omega⟩) ?_
      refine w_aload_n (pc' := 50) (i := 0) (by rfl) (by rfl) dX11_feed_49 rfl ?_
      refine v_getI (pc' := 53) (ji := 1) rfl fg_X11_89 kd_0 dX11_feed_50 rfl ?_
      show Wp _ _ _ _ _ _ [gI (σ 0 1 + 1 + 1 + 1 + 1 + 1 + 1 + 1 + 1 + 1 + 1 + 1 + 1 + 1 + 1 + 1 + 1 + 1 + 1 + 1 + 1)]
      refine v_ireturn rfl dX11_feed_53 ?_
      first
        | (exfalso; omega)
        | exact .inl ⟨by omega, (by first | rfl | exact congrArg gI (by omega) | exact congrArg gI (gb_t (by omega)) | exact congrArg gI (gb_f (by omega)) | (refine congrArg gI ?_; (repeat' split) <;> omega)), rfl⟩
        | exact .inr ⟨by omega, (by first | rfl | exact congrArg gI (by omega) | exact congrArg gI (gb_t (by omega)) | exact congrArg gI (gb_f (by omega)) | (refine congrArg gI ?_; (repeat' split) <;> omega)), rfl⟩
    · skip
      refine w_iconst (pc' := 21) (by decide) dX11_feed_20 rfl ?_
      refine v_ireturn rfl dX11_feed_21 ?_
      first
        | (exfalso; omega)
        | exact .inl ⟨by omega, (by first | rfl | exact congrArg gI (by omega) | exact congrArg gI (gb_t (by omega)) | exact congrArg gI (gb_f (by omega)) | (refine congrArg gI ?_; (repeat' split) <;> omega)), rfl⟩
        | exact .inr ⟨by omega, (by first | rfl | exact congrArg gI (by omega) | exact congrArg gI (gb_t (by omega)) | exact congrArg gI (gb_f (by omega)) | (refine congrArg gI ?_; (repeat' split) <;> omega)), rfl⟩
theorem m_feedT {σ : gH} (hI : Inv σ) (a b c d e : Int)  (hP : σ 0 1 + 20 ≤ 540) : Mt mX12_feed 30 [gR 133, gI a, gI b, gI c, gI d, gI e] (gUr (gUp σ 0 1 (σ 0 1 + 1 + 1 + 1 + 1 + 1 + 1 + 1 + 1 + 1 + 1 + 1 + 1 + 1 + 1 + 1 + 1 + 1 + 1 + 1 + 1)) 1 (put4 (put4 (put4 (put4 (put4 (σ 1) (σ 0 1) a) (σ 0 1 + 1 + 1 + 1 + 1) b) (σ 0 1 + 1 + 1 + 1 + 1 + 1 + 1 + 1 + 1) c) (σ 0 1 + 1 + 1 + 1 + 1 + 1 + 1 + 1 + 1 + 1 + 1 + 1 + 1) d) (σ 0 1 + 1 + 1 + 1 + 1 + 1 + 1 + 1 + 1 + 1 + 1 + 1 + 1 + 1 + 1 + 1 + 1) e)) (rE (gI (σ 0 1 + 20)) (gUr (gUp (gUp (gUr (gUp σ 0 1 (σ 0 1 + 1 + 1 + 1 + 1 + 1 + 1 + 1 + 1 + 1 + 1 + 1 + 1 + 1 + 1 + 1 + 1 + 1 + 1 + 1 + 1)) 1 (put4 (put4 (put4 (put4 (put4 (σ 1) (σ 0 1) a) (σ 0 1 + 1 + 1 + 1 + 1) b) (σ 0 1 + 1 + 1 + 1 + 1 + 1 + 1 + 1 + 1) c) (σ 0 1 + 1 + 1 + 1 + 1 + 1 + 1 + 1 + 1 + 1 + 1 + 1 + 1) d) (σ 0 1 + 1 + 1 + 1 + 1 + 1 + 1 + 1 + 1 + 1 + 1 + 1 + 1 + 1 + 1 + 1 + 1) e)) 133 0 0) 133 2 (σ 0 1 + 1 + 1 + 1 + 1 + 1 + 1 + 1 + 1 + 1 + 1 + 1 + 1 + 1 + 1 + 1 + 1 + 1 + 1 + 1 + 1)) 134 (put4 (put4 (put4 (put4 (put4 (σ 134) (σ 0 1) a) (σ 0 1 + 1 + 1 + 1 + 1) b) (σ 0 1 + 1 + 1 + 1 + 1 + 1 + 1 + 1 + 1) c) (σ 0 1 + 1 + 1 + 1 + 1 + 1 + 1 + 1 + 1 + 1 + 1 + 1 + 1) d) (σ 0 1 + 1 + 1 + 1 + 1 + 1 + 1 + 1 + 1 + 1 + 1 + 1 + 1 + 1 + 1 + 1 + 1) e))) := by
  refine Mt.walk (ls := [gR 133, gI a, gI b, gI c, gI d, gI e]) pn_X12 rfl (fun _ _ h => by cases h.1) (Nat.le_of_ble_eq_true rfl) rfl ?_
  have hday := hI.f.day
  unfold S_day at hday
  have hp := hI.f.hp
  have hp0 := hI.f.party.2.1
  have hT := hI.f.tape.2.1
  have hT2 := hI.f.tape.2.2.1
  have f2 := hI.f2
  refine w_aload_n (pc' := 1) (i := 0) (by rfl) (by rfl) dX12_feed_0 rfl ?_
  refine w_iconst (pc' := 2) (by decide) dX12_feed_1 rfl ?_
  refine v_putI (pc' := 5) (ji := 0) rfl fp_X12_244 kd_133 sf_X12_0 dX12_feed_2 rfl ?_
  refine w_aload_n (pc' := 6) (i := 0) (by rfl) (by rfl) dX12_feed_5 rfl ?_
  refine v_getI (pc' := 9) (ji := 2) rfl fg_X12_247 kd_133 dX12_feed_6 rfl ?_
  show Wp _ _ _ _ _ _ [gI (σ 133 2)]
  rw [hI.f2]
  refine w_bipush (pc' := 11) (by decide) (by decide) dX12_feed_9 rfl ?_
  refine v_iadd (pc' := 12) (by omega) dX12_feed_11 rfl ?_
  refine w_sipush (pc' := 15) (by decide) (by decide) dX12_feed_12 rfl ?_
  refine w_icmp_le (pc' := 18) (t := 20) dX12_feed_15 rfl rfl (fun c_15 => ?_) (fun c_15 => ?_)
  · skip
    refine w_aload_n (pc' := 21) (i := 0) (by rfl) (by rfl) dX12_feed_20 rfl ?_
    refine w_iload_n (pc' := 22) (i := 1) (by rfl) (by rfl) dX12_feed_21 rfl ?_
    refine v_callVE (pc' := 25) (st' := []) (d' := 0) (av := [gI a]) mi_mX12_come lk_X12_250 rfl ci_X12 kd_133 rfl (Nat.le_of_ble_eq_true rfl) (Nat.le_of_ble_eq_true rfl) dX12_feed_22 rfl rfl (q_come0 (gUp (gUr (gUp σ 0 1 (σ 0 1 + 1 + 1 + 1 + 1 + 1 + 1 + 1 + 1 + 1 + 1 + 1 + 1 + 1 + 1 + 1 + 1 + 1 + 1 + 1 + 1)) 1 (put4 (put4 (put4 (put4 (put4 (σ 1) (σ 0 1) a) (σ 0 1 + 1 + 1 + 1 + 1) b) (σ 0 1 + 1 + 1 + 1 + 1 + 1 + 1 + 1 + 1) c) (σ 0 1 + 1 + 1 + 1 + 1 + 1 + 1 + 1 + 1 + 1 + 1 + 1 + 1) d) (σ 0 1 + 1 + 1 + 1 + 1 + 1 + 1 + 1 + 1 + 1 + 1 + 1 + 1 + 1 + 1 + 1 + 1) e)) 133 0 0) (σ 0 1) a (show σ 133 2 = σ 0 1 from hI.f2) ⟨by omega, by omega⟩) ?_
    refine w_aload_n (pc' := 26) (i := 0) (by rfl) (by rfl) dX12_feed_25 rfl ?_
    refine w_iload_n (pc' := 27) (i := 2) (by rfl) (by rfl) dX12_feed_26 rfl ?_
    refine v_callVE (pc' := 30) (st' := []) (d' := 0) (av := [gI b]) mi_mX12_come lk_X12_250 rfl ci_X12 kd_133 rfl (Nat.le_of_ble_eq_true rfl) (Nat.le_of_ble_eq_true rfl) dX12_feed_27 rfl rfl (q_come (gUp (gUr (gUp σ 0 1 (σ 0 1 + 1 + 1 + 1 + 1 + 1 + 1 + 1 + 1 + 1 + 1 + 1 + 1 + 1 + 1 + 1 + 1 + 1 + 1 + 1 + 1)) 1 (put4 (put4 (put4 (put4 (put4 (σ 1) (σ 0 1) a) (σ 0 1 + 1 + 1 + 1 + 1) b) (σ 0 1 + 1 + 1 + 1 + 1 + 1 + 1 + 1 + 1) c) (σ 0 1 + 1 + 1 + 1 + 1 + 1 + 1 + 1 + 1 + 1 + 1 + 1 + 1) d) (σ 0 1 + 1 + 1 + 1 + 1 + 1 + 1 + 1 + 1 + 1 + 1 + 1 + 1 + 1 + 1 + 1 + 1) e)) 133 0 0) (put4 (σ 134) (σ 0 1) a) (σ 0 1 + 1 + 1 + 1 + 1) b ⟨by omega, by omega⟩) ?_
    refine w_aload_n (pc' := 31) (i := 0) (by rfl) (by rfl) dX12_feed_30 rfl ?_
    refine w_iload_n (pc' := 32) (i := 3) (by rfl) (by rfl) dX12_feed_31 rfl ?_
    refine v_callVE (pc' := 35) (st' := []) (d' := 0) (av := [gI c]) mi_mX12_come lk_X12_250 rfl ci_X12 kd_133 rfl (Nat.le_of_ble_eq_true rfl) (Nat.le_of_ble_eq_true rfl) dX12_feed_32 rfl rfl (q_come (gUp (gUr (gUp σ 0 1 (σ 0 1 + 1 + 1 + 1 + 1 + 1 + 1 + 1 + 1 + 1 + 1 + 1 + 1 + 1 + 1 + 1 + 1 + 1 + 1 + 1 + 1)) 1 (put4 (put4 (put4 (put4 (put4 (σ 1) (σ 0 1) a) (σ 0 1 + 1 + 1 + 1 + 1) b) (σ 0 1 + 1 + 1 + 1 + 1 + 1 + 1 + 1 + 1) c) (σ 0 1 + 1 + 1 + 1 + 1 + 1 + 1 + 1 + 1 + 1 + 1 + 1 + 1) d) (σ 0 1 + 1 + 1 + 1 + 1 + 1 + 1 + 1 + 1 + 1 + 1 + 1 + 1 + 1 + 1 + 1 + 1) e)) 133 0 0) (put4 (put4 (σ 134) (σ 0 1) a) (σ 0 1 + 1 + 1 + 1 + 1) b) (σ 0 1 + 1 + 1 + 1 + 1 + 1 + 1 + 1 + 1) c ⟨by omega, by omega⟩) ?_
    refine w_aload_n (pc' := 36) (i := 0) (by rfl) (by rfl) dX12_feed_35 rfl ?_
    refine w_iload (pc' := 38) (by rfl) dX12_feed_36 rfl ?_
    refine v_callVE (pc' := 41) (st' := []) (d' := 0) (av := [gI d]) mi_mX12_come lk_X12_250 rfl ci_X12 kd_133 rfl (Nat.le_of_ble_eq_true rfl) (Nat.le_of_ble_eq_true rfl) dX12_feed_38 rfl rfl (q_come (gUp (gUr (gUp σ 0 1 (σ 0 1 + 1 + 1 + 1 + 1 + 1 + 1 + 1 + 1 + 1 + 1 + 1 + 1 + 1 + 1 + 1 + 1 + 1 + 1 + 1 + 1)) 1 (put4 (put4 (put4 (put4 (put4 (σ 1) (σ 0 1) a) (σ 0 1 + 1 + 1 + 1 + 1) b) (σ 0 1 + 1 + 1 + 1 + 1 + 1 + 1 + 1 + 1) c) (σ 0 1 + 1 + 1 + 1 + 1 + 1 + 1 + 1 + 1 + 1 + 1 + 1 + 1) d) (σ 0 1 + 1 + 1 + 1 + 1 + 1 + 1 + 1 + 1 + 1 + 1 + 1 + 1 + 1 + 1 + 1 + 1) e)) 133 0 0) (put4 (put4 (put4 (σ 134) (σ 0 1) a) (σ 0 1 + 1 + 1 + 1 + 1) b) (σ 0 1 + 1 + 1 + 1 + 1 + 1 + 1 + 1 + 1) c) (σ 0 1 + 1 + 1 + 1 + 1 + 1 + 1 + 1 + 1 + 1 + 1 + 1 + 1) d ⟨by omega, by omega⟩) ?_
    refine w_aload_n (pc' := 42) (i := 0) (by rfl) (by rfl) dX12_feed_41 rfl ?_
    refine w_iload (pc' := 44) (by rfl) dX12_feed_42 rfl ?_
    refine v_callVE (pc' := 47) (st' := []) (d' := 0) (av := [gI e]) mi_mX12_come lk_X12_250 rfl ci_X12 kd_133 rfl (Nat.le_of_ble_eq_true rfl) (Nat.le_of_ble_eq_true rfl) dX12_feed_44 rfl rfl (q_come (gUp (gUr (gUp σ 0 1 (σ 0 1 + 1 + 1 + 1 + 1 + 1 + 1 + 1 + 1 + 1 + 1 + 1 + 1 + 1 + 1 + 1 + 1 + 1 + 1 + 1 + 1)) 1 (put4 (put4 (put4 (put4 (put4 (σ 1) (σ 0 1) a) (σ 0 1 + 1 + 1 + 1 + 1) b) (σ 0 1 + 1 + 1 + 1 + 1 + 1 + 1 + 1 + 1) c) (σ 0 1 + 1 + 1 + 1 + 1 + 1 + 1 + 1 + 1 + 1 + 1 + 1 + 1) d) (σ 0 1 + 1 + 1 + 1 + 1 + 1 + 1 + 1 + 1 + 1 + 1 + 1 + 1 + 1 + 1 + 1 + 1) e)) 133 0 0) (put4 (put4 (put4 (put4 (σ 134) (σ 0 1) a) (σ 0 1 + 1 + 1 + 1 + 1) b) (σ 0 1 + 1 + 1 + 1 + 1 + 1 + 1 + 1 + 1) c) (σ 0 1 + 1 + 1 + 1 + 1 + 1 + 1 + 1 + 1 + 1 + 1 + 1 + 1) d) (σ 0 1 + 1 + 1 + 1 + 1 + 1 + 1 + 1 + 1 + 1 + 1 + 1 + 1 + 1 + 1 + 1 + 1) e ⟨by omega, by omega⟩) ?_
    refine w_aload_n (pc' := 48) (i := 0) (by rfl) (by rfl) dX12_feed_47 rfl ?_
    refine v_getI (pc' := 51) (ji := 2) rfl fg_X12_247 kd_133 dX12_feed_48 rfl ?_
    show Wp _ _ _ _ _ _ [gI (σ 0 1 + 1 + 1 + 1 + 1 + 1 + 1 + 1 + 1 + 1 + 1 + 1 + 1 + 1 + 1 + 1 + 1 + 1 + 1 + 1 + 1)]
    refine v_ireturn rfl dX12_feed_51 ?_
    first
      | (exfalso; omega)
      | exact ⟨(by first | rfl | exact congrArg gI (by omega) | exact congrArg gI (gb_t (by omega)) | exact congrArg gI (gb_f (by omega)) | (refine congrArg gI ?_; (repeat' split) <;> omega)), rfl⟩
  · skip
    refine w_iconst (pc' := 19) (by decide) dX12_feed_18 rfl ?_
    refine v_ireturn rfl dX12_feed_19 ?_
    first
      | (exfalso; omega)
      | exact ⟨(by first | rfl | exact congrArg gI (by omega) | exact congrArg gI (gb_t (by omega)) | exact congrArg gI (gb_f (by omega)) | (refine congrArg gI ?_; (repeat' split) <;> omega)), rfl⟩
theorem m_feedF {σ : gH} (hI : Inv σ) (a b c d e : Int)  (hP : ¬ (σ 0 1 + 20 ≤ 540)) : Mt mX12_feed 30 [gR 133, gI a, gI b, gI c, gI d, gI e] σ (rE (gI (-1)) (gUp σ 133 0 0)) := by
  refine Mt.walk (ls := [gR 133, gI a, gI b, gI c, gI d, gI e]) pn_X12 rfl (fun _ _ h => by cases h.1) (Nat.le_of_ble_eq_true rfl) rfl ?_
  have hday := hI.f.day
  unfold S_day at hday
  have hp := hI.f.hp
  have hp0 := hI.f.party.2.1
  have hT := hI.f.tape.2.1
  have hT2 := hI.f.tape.2.2.1
  have f2 := hI.f2
  refine w_aload_n (pc' := 1) (i := 0) (by rfl) (by rfl) dX12_feed_0 rfl ?_
  refine w_iconst (pc' := 2) (by decide) dX12_feed_1 rfl ?_
  refine v_putI (pc' := 5) (ji := 0) rfl fp_X12_244 kd_133 sf_X12_0 dX12_feed_2 rfl ?_
  refine w_aload_n (pc' := 6) (i := 0) (by rfl) (by rfl) dX12_feed_5 rfl ?_
  refine v_getI (pc' := 9) (ji := 2) rfl fg_X12_247 kd_133 dX12_feed_6 rfl ?_
  show Wp _ _ _ _ _ _ [gI (σ 133 2)]
  rw [hI.f2]
  refine w_bipush (pc' := 11) (by decide) (by decide) dX12_feed_9 rfl ?_
  refine v_iadd (pc' := 12) (by omega) dX12_feed_11 rfl ?_
  refine w_sipush (pc' := 15) (by decide) (by decide) dX12_feed_12 rfl ?_
  refine w_icmp_le (pc' := 18) (t := 20) dX12_feed_15 rfl rfl (fun c_15 => ?_) (fun c_15 => ?_)
  · skip
    refine w_aload_n (pc' := 21) (i := 0) (by rfl) (by rfl) dX12_feed_20 rfl ?_
    refine w_iload_n (pc' := 22) (i := 1) (by rfl) (by rfl) dX12_feed_21 rfl ?_
    refine v_callVE (pc' := 25) (st' := []) (d' := 0) (av := [gI a]) mi_mX12_come lk_X12_250 rfl ci_X12 kd_133 rfl (Nat.le_of_ble_eq_true rfl) (Nat.le_of_ble_eq_true rfl) dX12_feed_22 rfl rfl (q_come0 (gUp σ 133 0 0) (σ 0 1) a (show σ 133 2 = σ 0 1 from hI.f2) ⟨by omega, by omega⟩) ?_
    refine w_aload_n (pc' := 26) (i := 0) (by rfl) (by rfl) dX12_feed_25 rfl ?_
    refine w_iload_n (pc' := 27) (i := 2) (by rfl) (by rfl) dX12_feed_26 rfl ?_
    refine v_callVE (pc' := 30) (st' := []) (d' := 0) (av := [gI b]) mi_mX12_come lk_X12_250 rfl ci_X12 kd_133 rfl (Nat.le_of_ble_eq_true rfl) (Nat.le_of_ble_eq_true rfl) dX12_feed_27 rfl rfl (q_come (gUp σ 133 0 0) (put4 (σ 134) (σ 0 1) a) (σ 0 1 + 1 + 1 + 1 + 1) b ⟨by omega, by omega⟩) ?_
    refine w_aload_n (pc' := 31) (i := 0) (by rfl) (by rfl) dX12_feed_30 rfl ?_
    refine w_iload_n (pc' := 32) (i := 3) (by rfl) (by rfl) dX12_feed_31 rfl ?_
    refine v_callVE (pc' := 35) (st' := []) (d' := 0) (av := [gI c]) mi_mX12_come lk_X12_250 rfl ci_X12 kd_133 rfl (Nat.le_of_ble_eq_true rfl) (Nat.le_of_ble_eq_true rfl) dX12_feed_32 rfl rfl (q_come (gUp σ 133 0 0) (put4 (put4 (σ 134) (σ 0 1) a) (σ 0 1 + 1 + 1 + 1 + 1) b) (σ 0 1 + 1 + 1 + 1 + 1 + 1 + 1 + 1 + 1) c ⟨by omega, by omega⟩) ?_
    refine w_aload_n (pc' := 36) (i := 0) (by rfl) (by rfl) dX12_feed_35 rfl ?_
    refine w_iload (pc' := 38) (by rfl) dX12_feed_36 rfl ?_
    refine v_callVE (pc' := 41) (st' := []) (d' := 0) (av := [gI d]) mi_mX12_come lk_X12_250 rfl ci_X12 kd_133 rfl (Nat.le_of_ble_eq_true rfl) (Nat.le_of_ble_eq_true rfl) dX12_feed_38 rfl rfl (q_come (gUp σ 133 0 0) (put4 (put4 (put4 (σ 134) (σ 0 1) a) (σ 0 1 + 1 + 1 + 1 + 1) b) (σ 0 1 + 1 + 1 + 1 + 1 + 1 + 1 + 1 + 1) c) (σ 0 1 + 1 + 1 + 1 + 1 + 1 + 1 + 1 + 1 + 1 + 1 + 1 + 1) d ⟨by omega, by omega⟩) ?_
    refine w_aload_n (pc' := 42) (i := 0) (by rfl) (by rfl) dX12_feed_41 rfl ?_
    refine w_iload (pc' := 44) (by rfl) dX12_feed_42 rfl ?_
    refine v_callVE (pc' := 47) (st' := []) (d' := 0) (av := [gI e]) mi_mX12_come lk_X12_250 rfl ci_X12 kd_133 rfl (Nat.le_of_ble_eq_true rfl) (Nat.le_of_ble_eq_true rfl) dX12_feed_44 rfl rfl (q_come (gUp σ 133 0 0) (put4 (put4 (put4 (put4 (σ 134) (σ 0 1) a) (σ 0 1 + 1 + 1 + 1 + 1) b) (σ 0 1 + 1 + 1 + 1 + 1 + 1 + 1 + 1 + 1) c) (σ 0 1 + 1 + 1 + 1 + 1 + 1 + 1 + 1 + 1 + 1 + 1 + 1 + 1) d) (σ 0 1 + 1 + 1 + 1 + 1 + 1 + 1 + 1 + 1 + 1 + 1 + 1 + 1 + 1 + 1 + 1 + 1) e ⟨by omega, by omega⟩) ?_
    refine w_aload_n (pc' := 48) (i := 0) (by rfl) (by rfl) dX12_feed_47 rfl ?_
    refine v_getI (pc' := 51) (ji := 2) rfl fg_X12_247 kd_133 dX12_feed_48 rfl ?_
    show Wp _ _ _ _ _ _ [gI (σ 0 1 + 1 + 1 + 1 + 1 + 1 + 1 + 1 + 1 + 1 + 1 + 1 + 1 + 1 + 1 + 1 + 1 + 1 + 1 + 1 + 1)]
    refine v_ireturn rfl dX12_feed_51 ?_
    first
      | (exfalso; omega)
      | exact ⟨(by first | rfl | exact congrArg gI (by omega) | exact congrArg gI (gb_t (by omega)) | exact congrArg gI (gb_f (by omega)) | (refine congrArg gI ?_; (repeat' split) <;> omega)), rfl⟩
  · skip
    refine w_iconst (pc' := 19) (by decide) dX12_feed_18 rfl ?_
    refine v_ireturn rfl dX12_feed_19 ?_
    first
      | (exfalso; omega)
      | exact ⟨(by first | rfl | exact congrArg gI (by omega) | exact congrArg gI (gb_t (by omega)) | exact congrArg gI (gb_f (by omega)) | (refine congrArg gI ?_; (repeat' split) <;> omega)), rfl⟩
theorem i_feed {σ : gH} (hI : Inv σ) (a b c d e : Int)  (hP : σ 0 1 + 20 ≤ 540) : Inv (gUr (gUp (gUp (gUr (gUp σ 0 1 (σ 0 1 + 1 + 1 + 1 + 1 + 1 + 1 + 1 + 1 + 1 + 1 + 1 + 1 + 1 + 1 + 1 + 1 + 1 + 1 + 1 + 1)) 1 (put4 (put4 (put4 (put4 (put4 (σ 1) (σ 0 1) a) (σ 0 1 + 1 + 1 + 1 + 1) b) (σ 0 1 + 1 + 1 + 1 + 1 + 1 + 1 + 1 + 1) c) (σ 0 1 + 1 + 1 + 1 + 1 + 1 + 1 + 1 + 1 + 1 + 1 + 1 + 1) d) (σ 0 1 + 1 + 1 + 1 + 1 + 1 + 1 + 1 + 1 + 1 + 1 + 1 + 1 + 1 + 1 + 1 + 1) e)) 133 0 0) 133 2 (σ 0 1 + 1 + 1 + 1 + 1 + 1 + 1 + 1 + 1 + 1 + 1 + 1 + 1 + 1 + 1 + 1 + 1 + 1 + 1 + 1 + 1)) 134 (put4 (put4 (put4 (put4 (put4 (σ 134) (σ 0 1) a) (σ 0 1 + 1 + 1 + 1 + 1) b) (σ 0 1 + 1 + 1 + 1 + 1 + 1 + 1 + 1 + 1) c) (σ 0 1 + 1 + 1 + 1 + 1 + 1 + 1 + 1 + 1 + 1 + 1 + 1 + 1) d) (σ 0 1 + 1 + 1 + 1 + 1 + 1 + 1 + 1 + 1 + 1 + 1 + 1 + 1 + 1 + 1 + 1 + 1) e)) := by
  refine ⟨⟨⟨hI.f.day, ⟨?_, ?_, ?_, ?_⟩, hI.f.outs, hI.f.party, hI.f.own, hI.f.kin, hI.f.post, hI.f.gift, hI.f.worth, hI.f.mem, hI.f.mat, hI.f.vote, hI.f.ent⟩, hI.law, hI.ord⟩, hI.2.1, hI.mod⟩
  · exact rfl
  · show 0 ≤ σ 0 1 + 1 + 1 + 1 + 1 + 1 + 1 + 1 + 1 + 1 + 1 + 1 + 1 + 1 + 1 + 1 + 1 + 1 + 1 + 1 + 1
    have := hI.f.tape.2.1
    omega
  · show σ 0 1 + 1 + 1 + 1 + 1 + 1 + 1 + 1 + 1 + 1 + 1 + 1 + 1 + 1 + 1 + 1 + 1 + 1 + 1 + 1 + 1 ≤ 540
    omega
  · have t0 : TA (σ 134) (σ 1) (σ 0 1) := hI.f.tape.2.2.2
    have t5 := ((((t0.put (n := a)).put (n := b)).put (n := c)).put (n := d)).put (n := e)
    intro i h0 h1
    exact t5 i h0 h1
theorem ci_feed (a b c d e : Int)  : CI Inv mX11_feed mX12_feed [gI a, gI b, gI c, gI d, gI e] := CI_reg (fun σ => σ 0 1 + 20 ≤ 540) (fun σ => σ 0 1 + 20) (fun σ => -1) (fun σ => gUr (gUp σ 0 1 (σ 0 1 + 1 + 1 + 1 + 1 + 1 + 1 + 1 + 1 + 1 + 1 + 1 + 1 + 1 + 1 + 1 + 1 + 1 + 1 + 1 + 1)) 1 (put4 (put4 (put4 (put4 (put4 (σ 1) (σ 0 1) a) (σ 0 1 + 1 + 1 + 1 + 1) b) (σ 0 1 + 1 + 1 + 1 + 1 + 1 + 1 + 1 + 1) c) (σ 0 1 + 1 + 1 + 1 + 1 + 1 + 1 + 1 + 1 + 1 + 1 + 1 + 1) d) (σ 0 1 + 1 + 1 + 1 + 1 + 1 + 1 + 1 + 1 + 1 + 1 + 1 + 1 + 1 + 1 + 1 + 1) e)) (fun σ => σ) (fun σ => gUr (gUp (gUp (gUr (gUp σ 0 1 (σ 0 1 + 1 + 1 + 1 + 1 + 1 + 1 + 1 + 1 + 1 + 1 + 1 + 1 + 1 + 1 + 1 + 1 + 1 + 1 + 1 + 1)) 1 (put4 (put4 (put4 (put4 (put4 (σ 1) (σ 0 1) a) (σ 0 1 + 1 + 1 + 1 + 1) b) (σ 0 1 + 1 + 1 + 1 + 1 + 1 + 1 + 1 + 1) c) (σ 0 1 + 1 + 1 + 1 + 1 + 1 + 1 + 1 + 1 + 1 + 1 + 1 + 1) d) (σ 0 1 + 1 + 1 + 1 + 1 + 1 + 1 + 1 + 1 + 1 + 1 + 1 + 1 + 1 + 1 + 1 + 1) e)) 133 0 0) 133 2 (σ 0 1 + 1 + 1 + 1 + 1 + 1 + 1 + 1 + 1 + 1 + 1 + 1 + 1 + 1 + 1 + 1 + 1 + 1 + 1 + 1 + 1)) 134 (put4 (put4 (put4 (put4 (put4 (σ 134) (σ 0 1) a) (σ 0 1 + 1 + 1 + 1 + 1) b) (σ 0 1 + 1 + 1 + 1 + 1 + 1 + 1 + 1 + 1) c) (σ 0 1 + 1 + 1 + 1 + 1 + 1 + 1 + 1 + 1 + 1 + 1 + 1 + 1) d) (σ 0 1 + 1 + 1 + 1 + 1 + 1 + 1 + 1 + 1 + 1 + 1 + 1 + 1 + 1 + 1 + 1 + 1) e)) (fun σ => gUp σ 133 0 0) (fun σ hI => x_feed hI a b c d e ) (fun σ hI hP => m_feedT hI a b c d e  hP) (fun σ hI hP => m_feedF hI a b c d e  hP) (fun σ hI hP => i_feed hI a b c d e  hP) (fun σ hI _ => hI.thrown)
theorem k_addGiftT (σ : gH)  (a b k d t : Int) (hP : 0 ≤ σ 41 11 ∧ σ 41 11 < 120) : Mt mX2_add 0 [gR 41, gI a, gI b, gI k, gI d, gI t] σ (rE (gI (σ 41 11)) (gUp (gUp (gUp (gUp (gUp (gUp (gUp (gUp σ 42 (σ 41 11) a) 43 (σ 41 11) b) 44 (σ 41 11) k) 45 (σ 41 11) d) 49 (σ 41 11) t) 50 (σ 41 11) (-1)) 52 (σ 41 11) (-1)) 41 11 (σ 41 11 + 1))) := by
  refine Mt.walk (ls := [gR 41, gI a, gI b, gI k, gI d, gI t]) pn_X2 rfl (fun _ _ h => by cases h.1) (Nat.le_of_ble_eq_true rfl) rfl ?_
  refine w_aload_n (pc' := 1) (i := 0) (by rfl) (by rfl) dX2_add_0 rfl ?_
  refine v_getI (pc' := 4) (ji := 11) rfl fg_X2_58 kd_41 dX2_add_1 rfl ?_
  refine w_if_lt (pc' := 7) (t := 16) dX2_add_4 rfl rfl (fun c_4 => ?_) (fun c_4 => ?_)
  · skip
    refine w_iconst (pc' := 17) (by decide) dX2_add_16 rfl ?_
    refine v_ireturn rfl dX2_add_17 ?_
    first | (exfalso; omega) | exact ⟨by first | rfl | exact congrArg gI (by omega), rfl⟩
  · skip
    refine w_aload_n (pc' := 8) (i := 0) (by rfl) (by rfl) dX2_add_7 rfl ?_
    refine v_getI (pc' := 11) (ji := 11) rfl fg_X2_58 kd_41 dX2_add_8 rfl ?_
    refine w_bipush (pc' := 13) (by decide) (by decide) dX2_add_11 rfl ?_
    refine w_icmp_lt (pc' := 16) (t := 18) dX2_add_13 rfl rfl (fun c_13 => ?_) (fun c_13 => ?_)
    · skip
      refine w_aload_n (pc' := 19) (i := 0) (by rfl) (by rfl) dX2_add_18 rfl ?_
      refine w_getS (pc' := 22) (q := 42) fg_X2_9 kd_41 sf_X2_0 gr_41_0 dX2_add_19 rfl ?_
      refine w_aload_n (pc' := 23) (i := 0) (by rfl) (by rfl) dX2_add_22 rfl ?_
      refine v_getI (pc' := 26) (ji := 11) rfl fg_X2_58 kd_41 dX2_add_23 rfl ?_
      refine w_iload_n (pc' := 27) (i := 1) (by rfl) (by rfl) dX2_add_26 rfl ?_
      refine w_iast (pc' := 28) kd_42 (by omega) (by omega) dX2_add_27 rfl ?_
      refine w_aload_n (pc' := 29) (i := 0) (by rfl) (by rfl) dX2_add_28 rfl ?_
      refine w_getS (pc' := 32) (q := 43) fg_X2_15 kd_41 sf_X2_1 gr_41_1 dX2_add_29 rfl ?_
      refine w_aload_n (pc' := 33) (i := 0) (by rfl) (by rfl) dX2_add_32 rfl ?_
      refine v_getI (pc' := 36) (ji := 11) rfl fg_X2_58 kd_41 dX2_add_33 rfl ?_
      show Wp _ _ _ _ _ _ [gI (σ 41 11), gR 43]
      refine w_iload_n (pc' := 37) (i := 2) (by rfl) (by rfl) dX2_add_36 rfl ?_
      refine w_iast (pc' := 38) kd_43 (by omega) (by omega) dX2_add_37 rfl ?_
      refine w_aload_n (pc' := 39) (i := 0) (by rfl) (by rfl) dX2_add_38 rfl ?_
      refine w_getS (pc' := 42) (q := 44) fg_X2_18 kd_41 sf_X2_2 gr_41_2 dX2_add_39 rfl ?_
      refine w_aload_n (pc' := 43) (i := 0) (by rfl) (by rfl) dX2_add_42 rfl ?_
      refine v_getI (pc' := 46) (ji := 11) rfl fg_X2_58 kd_41 dX2_add_43 rfl ?_
      show Wp _ _ _ _ _ _ [gI (σ 41 11), gR 44]
      refine w_iload_n (pc' := 47) (i := 3) (by rfl) (by rfl) dX2_add_46 rfl ?_
      refine w_iast (pc' := 48) kd_44 (by omega) (by omega) dX2_add_47 rfl ?_
      refine w_aload_n (pc' := 49) (i := 0) (by rfl) (by rfl) dX2_add_48 rfl ?_
      refine w_getS (pc' := 52) (q := 45) fg_X2_21 kd_41 sf_X2_3 gr_41_3 dX2_add_49 rfl ?_
      refine w_aload_n (pc' := 53) (i := 0) (by rfl) (by rfl) dX2_add_52 rfl ?_
      refine v_getI (pc' := 56) (ji := 11) rfl fg_X2_58 kd_41 dX2_add_53 rfl ?_
      show Wp _ _ _ _ _ _ [gI (σ 41 11), gR 45]
      refine w_iload (pc' := 58) (by rfl) dX2_add_56 rfl ?_
      refine w_iast (pc' := 59) kd_45 (by omega) (by omega) dX2_add_58 rfl ?_
      refine w_aload_n (pc' := 60) (i := 0) (by rfl) (by rfl) dX2_add_59 rfl ?_
      refine w_getS (pc' := 63) (q := 49) fg_X2_34 kd_41 sf_X2_7 gr_41_7 dX2_add_60 rfl ?_
      refine w_aload_n (pc' := 64) (i := 0) (by rfl) (by rfl) dX2_add_63 rfl ?_
      refine v_getI (pc' := 67) (ji := 11) rfl fg_X2_58 kd_41 dX2_add_64 rfl ?_
      show Wp _ _ _ _ _ _ [gI (σ 41 11), gR 49]
      refine w_iload (pc' := 69) (by rfl) dX2_add_67 rfl ?_
      refine w_iast (pc' := 70) kd_49 (by omega) (by omega) dX2_add_69 rfl ?_
      refine w_aload_n (pc' := 71) (i := 0) (by rfl) (by rfl) dX2_add_70 rfl ?_
      refine w_getS (pc' := 74) (q := 50) fg_X2_37 kd_41 sf_X2_8 gr_41_8 dX2_add_71 rfl ?_
      refine w_aload_n (pc' := 75) (i := 0) (by rfl) (by rfl) dX2_add_74 rfl ?_
      refine v_getI (pc' := 78) (ji := 11) rfl fg_X2_58 kd_41 dX2_add_75 rfl ?_
      show Wp _ _ _ _ _ _ [gI (σ 41 11), gR 50]
      refine w_iconst (pc' := 79) (by decide) dX2_add_78 rfl ?_
      refine w_iast (pc' := 80) kd_50 (by omega) (by omega) dX2_add_79 rfl ?_
      refine w_aload_n (pc' := 81) (i := 0) (by rfl) (by rfl) dX2_add_80 rfl ?_
      refine w_getS (pc' := 84) (q := 52) fg_X2_43 kd_41 sf_X2_10 gr_41_10 dX2_add_81 rfl ?_
      refine w_aload_n (pc' := 85) (i := 0) (by rfl) (by rfl) dX2_add_84 rfl ?_
      refine v_getI (pc' := 88) (ji := 11) rfl fg_X2_58 kd_41 dX2_add_85 rfl ?_
      show Wp _ _ _ _ _ _ [gI (σ 41 11), gR 52]
      refine w_iconst (pc' := 89) (by decide) dX2_add_88 rfl ?_
      refine w_iast (pc' := 90) kd_52 (by omega) (by omega) dX2_add_89 rfl ?_
      refine w_aload_n (pc' := 91) (i := 0) (by rfl) (by rfl) dX2_add_90 rfl ?_
      refine w_dup (pc' := 92) dX2_add_91 rfl ?_
      refine v_getI (pc' := 95) (ji := 11) rfl fg_X2_58 kd_41 dX2_add_92 rfl ?_
      show Wp _ _ _ _ _ _ [gI (σ 41 11), gR 41]
      refine w_iconst (pc' := 96) (by decide) dX2_add_95 rfl ?_
      refine v_iadd (pc' := 97) (by omega) dX2_add_96 rfl ?_
      refine v_putI (pc' := 100) (ji := 11) rfl fp_X2_58 kd_41 sf_X2_11 dX2_add_97 rfl ?_
      refine w_aload_n (pc' := 101) (i := 0) (by rfl) (by rfl) dX2_add_100 rfl ?_
      refine v_getI (pc' := 104) (ji := 11) rfl fg_X2_58 kd_41 dX2_add_101 rfl ?_
      show Wp _ _ _ _ _ _ [gI ((σ 41 11) + 1)]
      refine w_iconst (pc' := 105) (by decide) dX2_add_104 rfl ?_
      refine v_isub (pc' := 106) (by omega) dX2_add_105 rfl ?_
      refine v_ireturn rfl dX2_add_106 ?_
      first | (exfalso; omega) | exact ⟨by first | rfl | exact congrArg gI (by omega), rfl⟩
    · skip
      refine w_iconst (pc' := 17) (by decide) dX2_add_16 rfl ?_
      refine v_ireturn rfl dX2_add_17 ?_
      first | (exfalso; omega) | exact ⟨by first | rfl | exact congrArg gI (by omega), rfl⟩
theorem k_addGiftF (σ : gH)  (a b k d t : Int) (hP : ¬ (0 ≤ σ 41 11 ∧ σ 41 11 < 120)) : Mt mX2_add 0 [gR 41, gI a, gI b, gI k, gI d, gI t] σ (rE (gI ((-1))) σ) := by
  refine Mt.walk (ls := [gR 41, gI a, gI b, gI k, gI d, gI t]) pn_X2 rfl (fun _ _ h => by cases h.1) (Nat.le_of_ble_eq_true rfl) rfl ?_
  refine w_aload_n (pc' := 1) (i := 0) (by rfl) (by rfl) dX2_add_0 rfl ?_
  refine v_getI (pc' := 4) (ji := 11) rfl fg_X2_58 kd_41 dX2_add_1 rfl ?_
  refine w_if_lt (pc' := 7) (t := 16) dX2_add_4 rfl rfl (fun c_4 => ?_) (fun c_4 => ?_)
  · skip
    refine w_iconst (pc' := 17) (by decide) dX2_add_16 rfl ?_
    refine v_ireturn rfl dX2_add_17 ?_
    first | (exfalso; omega) | exact ⟨rfl, rfl⟩
  · skip
    refine w_aload_n (pc' := 8) (i := 0) (by rfl) (by rfl) dX2_add_7 rfl ?_
    refine v_getI (pc' := 11) (ji := 11) rfl fg_X2_58 kd_41 dX2_add_8 rfl ?_
    refine w_bipush (pc' := 13) (by decide) (by decide) dX2_add_11 rfl ?_
    refine w_icmp_lt (pc' := 16) (t := 18) dX2_add_13 rfl rfl (fun c_13 => ?_) (fun c_13 => ?_)
    · skip
      refine w_aload_n (pc' := 19) (i := 0) (by rfl) (by rfl) dX2_add_18 rfl ?_
      refine w_getS (pc' := 22) (q := 42) fg_X2_9 kd_41 sf_X2_0 gr_41_0 dX2_add_19 rfl ?_
      refine w_aload_n (pc' := 23) (i := 0) (by rfl) (by rfl) dX2_add_22 rfl ?_
      refine v_getI (pc' := 26) (ji := 11) rfl fg_X2_58 kd_41 dX2_add_23 rfl ?_
      refine w_iload_n (pc' := 27) (i := 1) (by rfl) (by rfl) dX2_add_26 rfl ?_
      refine w_iast (pc' := 28) kd_42 (by omega) (by omega) dX2_add_27 rfl ?_
      refine w_aload_n (pc' := 29) (i := 0) (by rfl) (by rfl) dX2_add_28 rfl ?_
      refine w_getS (pc' := 32) (q := 43) fg_X2_15 kd_41 sf_X2_1 gr_41_1 dX2_add_29 rfl ?_
      refine w_aload_n (pc' := 33) (i := 0) (by rfl) (by rfl) dX2_add_32 rfl ?_
      refine v_getI (pc' := 36) (ji := 11) rfl fg_X2_58 kd_41 dX2_add_33 rfl ?_
      show Wp _ _ _ _ _ _ [gI (σ 41 11), gR 43]
      refine w_iload_n (pc' := 37) (i := 2) (by rfl) (by rfl) dX2_add_36 rfl ?_
      refine w_iast (pc' := 38) kd_43 (by omega) (by omega) dX2_add_37 rfl ?_
      refine w_aload_n (pc' := 39) (i := 0) (by rfl) (by rfl) dX2_add_38 rfl ?_
      refine w_getS (pc' := 42) (q := 44) fg_X2_18 kd_41 sf_X2_2 gr_41_2 dX2_add_39 rfl ?_
      refine w_aload_n (pc' := 43) (i := 0) (by rfl) (by rfl) dX2_add_42 rfl ?_
      refine v_getI (pc' := 46) (ji := 11) rfl fg_X2_58 kd_41 dX2_add_43 rfl ?_
      show Wp _ _ _ _ _ _ [gI (σ 41 11), gR 44]
      refine w_iload_n (pc' := 47) (i := 3) (by rfl) (by rfl) dX2_add_46 rfl ?_
      refine w_iast (pc' := 48) kd_44 (by omega) (by omega) dX2_add_47 rfl ?_
      refine w_aload_n (pc' := 49) (i := 0) (by rfl) (by rfl) dX2_add_48 rfl ?_
      refine w_getS (pc' := 52) (q := 45) fg_X2_21 kd_41 sf_X2_3 gr_41_3 dX2_add_49 rfl ?_
      refine w_aload_n (pc' := 53) (i := 0) (by rfl) (by rfl) dX2_add_52 rfl ?_
      refine v_getI (pc' := 56) (ji := 11) rfl fg_X2_58 kd_41 dX2_add_53 rfl ?_
      show Wp _ _ _ _ _ _ [gI (σ 41 11), gR 45]
      refine w_iload (pc' := 58) (by rfl) dX2_add_56 rfl ?_
      refine w_iast (pc' := 59) kd_45 (by omega) (by omega) dX2_add_58 rfl ?_
      refine w_aload_n (pc' := 60) (i := 0) (by rfl) (by rfl) dX2_add_59 rfl ?_
      refine w_getS (pc' := 63) (q := 49) fg_X2_34 kd_41 sf_X2_7 gr_41_7 dX2_add_60 rfl ?_
      refine w_aload_n (pc' := 64) (i := 0) (by rfl) (by rfl) dX2_add_63 rfl ?_
      refine v_getI (pc' := 67) (ji := 11) rfl fg_X2_58 kd_41 dX2_add_64 rfl ?_
      show Wp _ _ _ _ _ _ [gI (σ 41 11), gR 49]
      refine w_iload (pc' := 69) (by rfl) dX2_add_67 rfl ?_
      refine w_iast (pc' := 70) kd_49 (by omega) (by omega) dX2_add_69 rfl ?_
      refine w_aload_n (pc' := 71) (i := 0) (by rfl) (by rfl) dX2_add_70 rfl ?_
      refine w_getS (pc' := 74) (q := 50) fg_X2_37 kd_41 sf_X2_8 gr_41_8 dX2_add_71 rfl ?_
      refine w_aload_n (pc' := 75) (i := 0) (by rfl) (by rfl) dX2_add_74 rfl ?_
      refine v_getI (pc' := 78) (ji := 11) rfl fg_X2_58 kd_41 dX2_add_75 rfl ?_
      show Wp _ _ _ _ _ _ [gI (σ 41 11), gR 50]
      refine w_iconst (pc' := 79) (by decide) dX2_add_78 rfl ?_
      refine w_iast (pc' := 80) kd_50 (by omega) (by omega) dX2_add_79 rfl ?_
      refine w_aload_n (pc' := 81) (i := 0) (by rfl) (by rfl) dX2_add_80 rfl ?_
      refine w_getS (pc' := 84) (q := 52) fg_X2_43 kd_41 sf_X2_10 gr_41_10 dX2_add_81 rfl ?_
      refine w_aload_n (pc' := 85) (i := 0) (by rfl) (by rfl) dX2_add_84 rfl ?_
      refine v_getI (pc' := 88) (ji := 11) rfl fg_X2_58 kd_41 dX2_add_85 rfl ?_
      show Wp _ _ _ _ _ _ [gI (σ 41 11), gR 52]
      refine w_iconst (pc' := 89) (by decide) dX2_add_88 rfl ?_
      refine w_iast (pc' := 90) kd_52 (by omega) (by omega) dX2_add_89 rfl ?_
      refine w_aload_n (pc' := 91) (i := 0) (by rfl) (by rfl) dX2_add_90 rfl ?_
      refine w_dup (pc' := 92) dX2_add_91 rfl ?_
      refine v_getI (pc' := 95) (ji := 11) rfl fg_X2_58 kd_41 dX2_add_92 rfl ?_
      show Wp _ _ _ _ _ _ [gI (σ 41 11), gR 41]
      refine w_iconst (pc' := 96) (by decide) dX2_add_95 rfl ?_
      refine v_iadd (pc' := 97) (by omega) dX2_add_96 rfl ?_
      refine v_putI (pc' := 100) (ji := 11) rfl fp_X2_58 kd_41 sf_X2_11 dX2_add_97 rfl ?_
      refine w_aload_n (pc' := 101) (i := 0) (by rfl) (by rfl) dX2_add_100 rfl ?_
      refine v_getI (pc' := 104) (ji := 11) rfl fg_X2_58 kd_41 dX2_add_101 rfl ?_
      show Wp _ _ _ _ _ _ [gI ((σ 41 11) + 1)]
      refine w_iconst (pc' := 105) (by decide) dX2_add_104 rfl ?_
      refine v_isub (pc' := 106) (by omega) dX2_add_105 rfl ?_
      refine v_ireturn rfl dX2_add_106 ?_
      first | (exfalso; omega) | exact ⟨rfl, rfl⟩
    · skip
      refine w_iconst (pc' := 17) (by decide) dX2_add_16 rfl ?_
      refine v_ireturn rfl dX2_add_17 ?_
      first | (exfalso; omega) | exact ⟨rfl, rfl⟩
theorem k_describe (σ : gH) (g f a b : Int) (hg : 0 ≤ g ∧ g < σ 41 11 ∧ g < 120) (hz : 0 ≤ σ 41 11 ∧ σ 41 11 ≤ 120 ∧ 0 ≤ σ 41 16 ∧ σ 41 16 ≤ 200) (hf : f = 0 ∨ f = 1) : Mt mX2_describe 1 [gR 41, gI g, gI f, gI a, gI b] σ (rE (gX 1) (gUp (gUp (gUp σ 46 g f) 47 g a) 48 g b)) := by
  refine Mt.walk (ls := [gR 41, gI g, gI f, gI a, gI b]) pn_X2 rfl (fun _ _ h => by cases h.1) (Nat.le_of_ble_eq_true rfl) rfl ?_
  refine w_aload_n (pc' := 1) (i := 0) (by rfl) (by rfl) dX2_describe_0 rfl ?_
  refine w_iload_n (pc' := 2) (i := 1) (by rfl) (by rfl) dX2_describe_1 rfl ?_
  refine v_callVE (pc' := 5) (st' := [gI (gb (0 ≤ g ∧ g < σ 41 11))]) (d' := 0) (av := [gI g]) mi_mX2_has lk_X2_62 rfl ci_X2 kd_41 rfl (Nat.le_of_ble_eq_true rfl) (Nat.le_of_ble_eq_true rfl) dX2_describe_2 rfl rfl (g_has σ hz g) ?_
  refine v_if_eqB (pc' := 8) (t := 30) dX2_describe_5 rfl rfl (fun c_5 => ?_) (fun c_5 => ?_)
  · skip
    refine w_return rfl dX2_describe_30 ?_
    first | (exfalso; omega) | exact ⟨rfl, rfl⟩
  · skip
    refine w_aload_n (pc' := 9) (i := 0) (by rfl) (by rfl) dX2_describe_8 rfl ?_
    refine w_getS (pc' := 12) (q := 46) fg_X2_24 kd_41 sf_X2_4 gr_41_4 dX2_describe_9 rfl ?_
    refine w_iload_n (pc' := 13) (i := 1) (by rfl) (by rfl) dX2_describe_12 rfl ?_
    refine w_iload_n (pc' := 14) (i := 2) (by rfl) (by rfl) dX2_describe_13 rfl ?_
    refine w_zast (pc' := 15) kd_46 (by exact hf) (by omega) (by omega) dX2_describe_14 rfl ?_
    refine w_aload_n (pc' := 16) (i := 0) (by rfl) (by rfl) dX2_describe_15 rfl ?_
    refine w_getS (pc' := 19) (q := 47) fg_X2_28 kd_41 sf_X2_5 gr_41_5 dX2_describe_16 rfl ?_
    refine w_iload_n (pc' := 20) (i := 1) (by rfl) (by rfl) dX2_describe_19 rfl ?_
    refine w_iload_n (pc' := 21) (i := 3) (by rfl) (by rfl) dX2_describe_20 rfl ?_
    refine w_iast (pc' := 22) kd_47 (by omega) (by omega) dX2_describe_21 rfl ?_
    refine w_aload_n (pc' := 23) (i := 0) (by rfl) (by rfl) dX2_describe_22 rfl ?_
    refine w_getS (pc' := 26) (q := 48) fg_X2_31 kd_41 sf_X2_6 gr_41_6 dX2_describe_23 rfl ?_
    refine w_iload_n (pc' := 27) (i := 1) (by rfl) (by rfl) dX2_describe_26 rfl ?_
    refine w_iload (pc' := 29) (by rfl) dX2_describe_27 rfl ?_
    refine w_iast (pc' := 30) kd_48 (by omega) (by omega) dX2_describe_29 rfl ?_
    refine w_return rfl dX2_describe_30 ?_
    first | (exfalso; omega) | exact ⟨rfl, rfl⟩
theorem x_gift2 {σ : gH} (hI : Inv σ) (a b k d f l m : Int) (hf : f = 0 ∨ f = 1) : Mt mX11_gift 30 [gR 0, gI a, gI b, gI k, gI d, gI f, gI l, gI m] σ (fun v σ' => ((((0 ≤ a ∧ a < σ 3 2) ∧ ((0 ≤ b ∧ b < σ 3 2) ∧ σ 4 b = 0) ∧ a ≠ b) ∧ ((0 ≤ k ∧ k ≤ 3) ∧ 0 ≤ d ∧ d ≤ 9999) ∧ (0 ≤ l ∧ l ≤ m ∧ m ≤ 1000000) ∧ σ 41 11 < 120) ∧ v = gI (σ 41 11) ∧ σ' = gUp (gUp (gUp (gUp (gUp (gUp (gUp (gUp (gUp (gUp (gUp σ 42 (σ 41 11) a) 43 (σ 41 11) b) 44 (σ 41 11) k) 45 (σ 41 11) d) 49 (σ 41 11) (σ 0 4)) 50 (σ 41 11) (-1)) 52 (σ 41 11) (-1)) 41 11 (σ 41 11 + 1)) 46 (σ 41 11) f) 47 (σ 41 11) l) 48 (σ 41 11) m) ∨ (¬ (((0 ≤ a ∧ a < σ 3 2) ∧ ((0 ≤ b ∧ b < σ 3 2) ∧ σ 4 b = 0) ∧ a ≠ b) ∧ ((0 ≤ k ∧ k ≤ 3) ∧ 0 ≤ d ∧ d ≤ 9999) ∧ (0 ≤ l ∧ l ≤ m ∧ m ≤ 1000000) ∧ σ 41 11 < 120) ∧ v = gI (if ((0 ≤ a ∧ a < σ 3 2) ∧ ((0 ≤ b ∧ b < σ 3 2) ∧ σ 4 b = 0) ∧ a ≠ b) then if ((0 ≤ k ∧ k ≤ 3) ∧ 0 ≤ d ∧ d ≤ 9999) then if (0 ≤ l ∧ l ≤ m ∧ m ≤ 1000000) then -5 else -4 else -3 else -2) ∧ σ' = σ)) := by
  refine Mt.walk (ls := [gR 0, gI a, gI b, gI k, gI d, gI f, gI l, gI m, gX 1]) pn_X11 rfl (fun _ _ h => by rcases h with h | h <;> exact absurd h.2.1 (by intro h; cases h)) (Nat.le_of_ble_eq_true rfl) rfl ?_
  have hday := hI.f.day
  unfold S_day at hday
  have hp := hI.f.hp
  have hp0 := hI.f.party.2.1
  have hT := hI.f.tape.2.1
  have hT2 := hI.f.tape.2.2.1
  have f6 := hI.f6
  have hm0 := hI.f.mem.2.1
  have hm1 := hI.f.mem.2.2.1
  have ht0 := hI.f.mat.2.1
  have ht1 := hI.f.mat.2.2.1
  have hv0 := hI.f.vote.2.1
  have hv1 := hI.f.vote.2.2.1
  have he0 := hI.f.ent.2.1
  have he1 := hI.f.ent.2.2.1
  have hz := hI.f.hz
  have e135b : 0 ≤ b → b < σ 3 2 → σ 135 b = σ 4 b := fun h0 h1 => hI.e135 h0 h1
  have s135b : 0 ≤ b → b < σ 3 2 → 0 ≤ σ 4 b := fun h0 h1 => (hI.f.party.2.2.2 b h0 h1).2.1
  refine w_aload_n (pc' := 1) (i := 0) (by rfl) (by rfl) dX11_gift_0 rfl ?_
  refine w_getS (pc' := 4) (q := 3) fg_X11_21 kd_0 sf_X11_5 gr_0_5 dX11_gift_1 rfl ?_
  refine w_iload_n (pc' := 5) (i := 1) (by rfl) (by rfl) dX11_gift_4 rfl ?_
  refine v_callVE (pc' := 8) (st' := [gI (gb (0 ≤ a ∧ a < (σ 3 2)))]) (d' := 0) (av := [gI a]) mi_mX8_has lk_X11_111 rfl ci_X8 kd_3 rfl (Nat.le_of_ble_eq_true rfl) (Nat.le_of_ble_eq_true rfl) dX11_gift_5 rfl rfl (pa_has σ (by first | exact hp | omega) a) ?_
  refine v_if_eqB (pc' := 11) (t := 27) dX11_gift_8 rfl rfl (fun c_8 => ?_) (fun c_8 => ?_)
  · skip
    refine w_bipush (pc' := 29) (by decide) (by decide) dX11_gift_27 rfl ?_
    refine v_ireturn rfl dX11_gift_29 ?_
    first
      | (exfalso; omega)
      | exact .inl ⟨by omega, (by first | rfl | exact congrArg gI (by omega) | exact congrArg gI (gb_t (by omega)) | exact congrArg gI (gb_f (by omega)) | (refine congrArg gI ?_; (repeat' split) <;> omega)), rfl⟩
      | exact .inr ⟨by omega, (by first | rfl | exact congrArg gI (by omega) | exact congrArg gI (gb_t (by omega)) | exact congrArg gI (gb_f (by omega)) | (refine congrArg gI ?_; (repeat' split) <;> omega)), rfl⟩
  · skip
    refine w_aload_n (pc' := 12) (i := 0) (by rfl) (by rfl) dX11_gift_11 rfl ?_
    refine w_getS (pc' := 15) (q := 3) fg_X11_21 kd_0 sf_X11_5 gr_0_5 dX11_gift_12 rfl ?_
    refine w_iload_n (pc' := 16) (i := 2) (by rfl) (by rfl) dX11_gift_15 rfl ?_
    refine v_callVE (pc' := 19) (st' := [gI (gb ((0 ≤ b ∧ b < (σ 3 2)) ∧ (σ 4 b) = 0))]) (d' := 1) (av := [gI b]) mi_mX8_isPerson lk_X11_132 rfl ci_X8 kd_3 rfl (Nat.le_of_ble_eq_true rfl) (Nat.le_of_ble_eq_true rfl) dX11_gift_16 rfl rfl (pa_isPerson σ (by first | exact hp | omega) b) ?_
    refine v_if_eqB (pc' := 22) (t := 27) dX11_gift_19 rfl rfl (fun c_19 => ?_) (fun c_19 => ?_)
    · skip
      refine w_bipush (pc' := 29) (by decide) (by decide) dX11_gift_27 rfl ?_
      refine v_ireturn rfl dX11_gift_29 ?_
      first
        | (exfalso; omega)
        | exact .inl ⟨by omega, (by first | rfl | exact congrArg gI (by omega) | exact congrArg gI (gb_t (by omega)) | exact congrArg gI (gb_f (by omega)) | (refine congrArg gI ?_; (repeat' split) <;> omega)), rfl⟩
        | exact .inr ⟨by omega, (by first | rfl | exact congrArg gI (by omega) | exact congrArg gI (gb_t (by omega)) | exact congrArg gI (gb_f (by omega)) | (refine congrArg gI ?_; (repeat' split) <;> omega)), rfl⟩
    · skip
      refine w_iload_n (pc' := 23) (i := 1) (by rfl) (by rfl) dX11_gift_22 rfl ?_
      refine w_iload_n (pc' := 24) (i := 2) (by rfl) (by rfl) dX11_gift_23 rfl ?_
      refine w_icmp_ne (pc' := 27) (t := 30) dX11_gift_24 rfl rfl (fun c_24 => ?_) (fun c_24 => ?_)
      · skip
        refine w_iload_n (pc' := 31) (i := 3) (by rfl) (by rfl) dX11_gift_30 rfl ?_
        refine w_if_lt (pc' := 34) (t := 47) dX11_gift_31 rfl rfl (fun c_31 => ?_) (fun c_31 => ?_)
        · skip
          refine w_bipush (pc' := 49) (by decide) (by decide) dX11_gift_47 rfl ?_
          refine v_ireturn rfl dX11_gift_49 ?_
          first
            | (exfalso; omega)
            | exact .inl ⟨by omega, (by first | rfl | exact congrArg gI (by omega) | exact congrArg gI (gb_t (by omega)) | exact congrArg gI (gb_f (by omega)) | (refine congrArg gI ?_; (repeat' split) <;> omega)), rfl⟩
            | exact .inr ⟨by omega, (by first | rfl | exact congrArg gI (by omega) | exact congrArg gI (gb_t (by omega)) | exact congrArg gI (gb_f (by omega)) | (refine congrArg gI ?_; (repeat' split) <;> omega)), rfl⟩
        · skip
          refine w_iload_n (pc' := 35) (i := 3) (by rfl) (by rfl) dX11_gift_34 rfl ?_
          refine w_iconst (pc' := 36) (by decide) dX11_gift_35 rfl ?_
          refine w_icmp_gt (pc' := 39) (t := 47) dX11_gift_36 rfl rfl (fun c_36 => ?_) (fun c_36 => ?_)
          · skip
            refine w_bipush (pc' := 49) (by decide) (by decide) dX11_gift_47 rfl ?_
            refine v_ireturn rfl dX11_gift_49 ?_
            first
              | (exfalso; omega)
              | exact .inl ⟨by omega, (by first | rfl | exact congrArg gI (by omega) | exact congrArg gI (gb_t (by omega)) | exact congrArg gI (gb_f (by omega)) | (refine congrArg gI ?_; (repeat' split) <;> omega)), rfl⟩
              | exact .inr ⟨by omega, (by first | rfl | exact congrArg gI (by omega) | exact congrArg gI (gb_t (by omega)) | exact congrArg gI (gb_f (by omega)) | (refine congrArg gI ?_; (repeat' split) <;> omega)), rfl⟩
          · skip
            refine w_iload (pc' := 41) (by rfl) dX11_gift_39 rfl ?_
            refine v_callSE (pc' := 44) (st' := [gI (gb (0 ≤ d ∧ d ≤ 9999))]) (d' := 0) (av := [gI d]) ms_mX11_isDay st_mX11_isDay lk_X11_129 rfl rfl (Nat.le_of_ble_eq_true rfl) (Nat.le_of_ble_eq_true rfl) dX11_gift_41 rfl rfl (cl_isDay σ d) ?_
            refine v_if_neB (pc' := 47) (t := 50) dX11_gift_44 rfl rfl (fun c_44 => ?_) (fun c_44 => ?_)
            · skip
              refine w_iload (pc' := 52) (by rfl) dX11_gift_50 rfl ?_
              refine w_iload (pc' := 54) (by rfl) dX11_gift_52 rfl ?_
              refine v_callSE (pc' := 57) (st' := [gI (gb (0 ≤ l ∧ l ≤ m ∧ m ≤ 1000000))]) (d' := 0) (av := [gI l, gI m]) ms_mX11_isRange st_mX11_isRange lk_X11_140 rfl rfl (Nat.le_of_ble_eq_true rfl) (Nat.le_of_ble_eq_true rfl) dX11_gift_54 rfl rfl (cl_isRange σ l m) ?_
              refine v_if_neB (pc' := 60) (t := 63) dX11_gift_57 rfl rfl (fun c_57 => ?_) (fun c_57 => ?_)
              · skip
                refine w_aload_n (pc' := 64) (i := 0) (by rfl) (by rfl) dX11_gift_63 rfl ?_
                refine w_getS (pc' := 67) (q := 41) fg_X11_51 kd_0 sf_X11_9 gr_0_9 dX11_gift_64 rfl ?_
                refine w_iload_n (pc' := 68) (i := 1) (by rfl) (by rfl) dX11_gift_67 rfl ?_
                refine w_iload_n (pc' := 69) (i := 2) (by rfl) (by rfl) dX11_gift_68 rfl ?_
                refine w_iload_n (pc' := 70) (i := 3) (by rfl) (by rfl) dX11_gift_69 rfl ?_
                refine w_iload (pc' := 72) (by rfl) dX11_gift_70 rfl ?_
                refine w_aload_n (pc' := 73) (i := 0) (by rfl) (by rfl) dX11_gift_72 rfl ?_
                refine v_getI (pc' := 76) (ji := 4) rfl fg_X11_96 kd_0 dX11_gift_73 rfl ?_
                by_cases c_76 : 0 ≤ σ 41 11 ∧ σ 41 11 < 120
                · skip
                  refine v_callVE (pc' := 79) (st' := [gI (σ 41 11)]) (d' := 0) (av := [gI a, gI b, gI k, gI d, gI (σ 0 4)]) mi_mX2_add lk_X11_144 rfl ci_X2 kd_41 rfl (Nat.le_of_ble_eq_true rfl) (Nat.le_of_ble_eq_true rfl) dX11_gift_76 rfl rfl (k_addGiftT σ a b k d (σ 0 4) c_76) ?_
                  show Wp _ _ _ (gUp (gUp (gUp (gUp (gUp (gUp (gUp (gUp σ 42 (σ 41 11) a) 43 (σ 41 11) b) 44 (σ 41 11) k) 45 (σ 41 11) d) 49 (σ 41 11) (σ 0 4)) 50 (σ 41 11) (-1)) 52 (σ 41 11) (-1)) 41 11 (σ 41 11 + 1)) _ _ [gI (σ 41 11)]
                  refine w_istore (pc' := 81) (ls' := [gR 0, gI a, gI b, gI k, gI d, gI f, gI l, gI m, gI (σ 41 11)]) (by decide) (by rfl) dX11_gift_79 rfl ?_
                  refine w_iload (pc' := 83) (by rfl) dX11_gift_81 rfl ?_
                  refine w_iconst (pc' := 84) (by decide) dX11_gift_83 rfl ?_
                  refine w_icmp_ne (pc' := 87) (t := 90) dX11_gift_84 rfl rfl (fun c_84 => ?_) (fun c_84 => ?_)
                  · skip
                    refine w_aload_n (pc' := 91) (i := 0) (by rfl) (by rfl) dX11_gift_90 rfl ?_
                    refine w_getS (pc' := 94) (q := 41) fg_X11_51 kd_0 sf_X11_9 gr_0_9 dX11_gift_91 rfl ?_
                    refine w_iload (pc' := 96) (by rfl) dX11_gift_94 rfl ?_
                    refine w_iload (pc' := 98) (by rfl) dX11_gift_96 rfl ?_
                    refine w_iload (pc' := 100) (by rfl) dX11_gift_98 rfl ?_
                    refine w_iload (pc' := 102) (by rfl) dX11_gift_100 rfl ?_
                    refine v_callVE (pc' := 105) (st' := []) (d' := 1) (av := [gI (σ 41 11), gI f, gI l, gI m]) mi_mX2_describe lk_X11_146 rfl ci_X2 kd_41 rfl (Nat.le_of_ble_eq_true rfl) (Nat.le_of_ble_eq_true rfl) dX11_gift_102 rfl rfl (k_describe (gUp (gUp (gUp (gUp (gUp (gUp (gUp (gUp σ 42 (σ 41 11) a) 43 (σ 41 11) b) 44 (σ 41 11) k) 45 (σ 41 11) d) 49 (σ 41 11) (σ 0 4)) 50 (σ 41 11) (-1)) 52 (σ 41 11) (-1)) 41 11 (σ 41 11 + 1)) (σ 41 11) f l m (show 0 ≤ σ 41 11 ∧ σ 41 11 < σ 41 11 + 1 ∧ σ 41 11 < 120 by omega) (show 0 ≤ σ 41 11 + 1 ∧ σ 41 11 + 1 ≤ 120 ∧ 0 ≤ σ 41 16 ∧ σ 41 16 ≤ 200 by omega) hf) ?_
                    refine w_iload (pc' := 107) (by rfl) dX11_gift_105 rfl ?_
                    refine v_ireturn rfl dX11_gift_107 ?_
                    first
                      | (exfalso; omega)
                      | exact .inl ⟨by omega, (by first | rfl | exact congrArg gI (by omega) | exact congrArg gI (gb_t (by omega)) | exact congrArg gI (gb_f (by omega)) | (refine congrArg gI ?_; (repeat' split) <;> omega)), rfl⟩
                      | exact .inr ⟨by omega, (by first | rfl | exact congrArg gI (by omega) | exact congrArg gI (gb_t (by omega)) | exact congrArg gI (gb_f (by omega)) | (refine congrArg gI ?_; (repeat' split) <;> omega)), rfl⟩
                  · skip
                    refine w_bipush (pc' := 89) (by decide) (by decide) dX11_gift_87 rfl ?_
                    refine v_ireturn rfl dX11_gift_89 ?_
                    first
                      | (exfalso; omega)
                      | exact .inl ⟨by omega, (by first | rfl | exact congrArg gI (by omega) | exact congrArg gI (gb_t (by omega)) | exact congrArg gI (gb_f (by omega)) | (refine congrArg gI ?_; (repeat' split) <;> omega)), rfl⟩
                      | exact .inr ⟨by omega, (by first | rfl | exact congrArg gI (by omega) | exact congrArg gI (gb_t (by omega)) | exact congrArg gI (gb_f (by omega)) | (refine congrArg gI ?_; (repeat' split) <;> omega)), rfl⟩
                · skip
                  refine v_callVE (pc' := 79) (st' := [gI (-1)]) (d' := 0) (av := [gI a, gI b, gI k, gI d, gI (σ 0 4)]) mi_mX2_add lk_X11_144 rfl ci_X2 kd_41 rfl (Nat.le_of_ble_eq_true rfl) (Nat.le_of_ble_eq_true rfl) dX11_gift_76 rfl rfl (k_addGiftF σ a b k d (σ 0 4) c_76) ?_
                  show Wp _ _ _ σ _ _ [gI (-1)]
                  refine w_istore (pc' := 81) (ls' := [gR 0, gI a, gI b, gI k, gI d, gI f, gI l, gI m, gI (-1)]) (by decide) (by rfl) dX11_gift_79 rfl ?_
                  refine w_iload (pc' := 83) (by rfl) dX11_gift_81 rfl ?_
                  refine w_iconst (pc' := 84) (by decide) dX11_gift_83 rfl ?_
                  refine w_icmp_ne (pc' := 87) (t := 90) dX11_gift_84 rfl rfl (fun c_84 => ?_) (fun c_84 => ?_)
                  · skip
                    refine w_aload_n (pc' := 91) (i := 0) (by rfl) (by rfl) dX11_gift_90 rfl ?_
                    refine w_getS (pc' := 94) (q := 41) fg_X11_51 kd_0 sf_X11_9 gr_0_9 dX11_gift_91 rfl ?_
                    refine w_iload (pc' := 96) (by rfl) dX11_gift_94 rfl ?_
                    refine w_iload (pc' := 98) (by rfl) dX11_gift_96 rfl ?_
                    refine w_iload (pc' := 100) (by rfl) dX11_gift_98 rfl ?_
                    refine w_iload (pc' := 102) (by rfl) dX11_gift_100 rfl ?_
                    refine v_callVE (pc' := 105) (st' := []) (d' := 1) (av := [gI (-1), gI f, gI l, gI m]) mi_mX2_describe lk_X11_146 rfl ci_X2 kd_41 rfl (Nat.le_of_ble_eq_true rfl) (Nat.le_of_ble_eq_true rfl) dX11_gift_102 rfl rfl (k_describe σ (-1) f l m (show 0 ≤ (-1) ∧ (-1) < σ 41 11 ∧ (-1) < 120 by omega) (show 0 ≤ σ 41 11 ∧ σ 41 11 ≤ 120 ∧ 0 ≤ σ 41 16 ∧ σ 41 16 ≤ 200 by omega) hf) ?_
                    refine w_iload (pc' := 107) (by rfl) dX11_gift_105 rfl ?_
                    refine v_ireturn rfl dX11_gift_107 ?_
                    first
                      | (exfalso; omega)
                      | exact .inl ⟨by omega, (by first | rfl | exact congrArg gI (by omega) | exact congrArg gI (gb_t (by omega)) | exact congrArg gI (gb_f (by omega)) | (refine congrArg gI ?_; (repeat' split) <;> omega)), rfl⟩
                      | exact .inr ⟨by omega, (by first | rfl | exact congrArg gI (by omega) | exact congrArg gI (gb_t (by omega)) | exact congrArg gI (gb_f (by omega)) | (refine congrArg gI ?_; (repeat' split) <;> omega)), rfl⟩
                  · skip
                    refine w_bipush (pc' := 89) (by decide) (by decide) dX11_gift_87 rfl ?_
                    refine v_ireturn rfl dX11_gift_89 ?_
                    first
                      | (exfalso; omega)
                      | exact .inl ⟨by omega, (by first | rfl | exact congrArg gI (by omega) | exact congrArg gI (gb_t (by omega)) | exact congrArg gI (gb_f (by omega)) | (refine congrArg gI ?_; (repeat' split) <;> omega)), rfl⟩
                      | exact .inr ⟨by omega, (by first | rfl | exact congrArg gI (by omega) | exact congrArg gI (gb_t (by omega)) | exact congrArg gI (gb_f (by omega)) | (refine congrArg gI ?_; (repeat' split) <;> omega)), rfl⟩
              · skip
                refine w_bipush (pc' := 62) (by decide) (by decide) dX11_gift_60 rfl ?_
                refine v_ireturn rfl dX11_gift_62 ?_
                first
                  | (exfalso; omega)
                  | exact .inl ⟨by omega, (by first | rfl | exact congrArg gI (by omega) | exact congrArg gI (gb_t (by omega)) | exact congrArg gI (gb_f (by omega)) | (refine congrArg gI ?_; (repeat' split) <;> omega)), rfl⟩
                  | exact .inr ⟨by omega, (by first | rfl | exact congrArg gI (by omega) | exact congrArg gI (gb_t (by omega)) | exact congrArg gI (gb_f (by omega)) | (refine congrArg gI ?_; (repeat' split) <;> omega)), rfl⟩
            · skip
              refine w_bipush (pc' := 49) (by decide) (by decide) dX11_gift_47 rfl ?_
              refine v_ireturn rfl dX11_gift_49 ?_
              first
                | (exfalso; omega)
                | exact .inl ⟨by omega, (by first | rfl | exact congrArg gI (by omega) | exact congrArg gI (gb_t (by omega)) | exact congrArg gI (gb_f (by omega)) | (refine congrArg gI ?_; (repeat' split) <;> omega)), rfl⟩
                | exact .inr ⟨by omega, (by first | rfl | exact congrArg gI (by omega) | exact congrArg gI (gb_t (by omega)) | exact congrArg gI (gb_f (by omega)) | (refine congrArg gI ?_; (repeat' split) <;> omega)), rfl⟩
      · skip
        refine w_bipush (pc' := 29) (by decide) (by decide) dX11_gift_27 rfl ?_
        refine v_ireturn rfl dX11_gift_29 ?_
        first
          | (exfalso; omega)
          | exact .inl ⟨by omega, (by first | rfl | exact congrArg gI (by omega) | exact congrArg gI (gb_t (by omega)) | exact congrArg gI (gb_f (by omega)) | (refine congrArg gI ?_; (repeat' split) <;> omega)), rfl⟩
          | exact .inr ⟨by omega, (by first | rfl | exact congrArg gI (by omega) | exact congrArg gI (gb_t (by omega)) | exact congrArg gI (gb_f (by omega)) | (refine congrArg gI ?_; (repeat' split) <;> omega)), rfl⟩
theorem m_gift2T {σ : gH} (hI : Inv σ) (a b k d f l m : Int) (hf : f = 0 ∨ f = 1) (hP : ((0 ≤ a ∧ a < σ 3 2) ∧ ((0 ≤ b ∧ b < σ 3 2) ∧ σ 4 b = 0) ∧ a ≠ b) ∧ ((0 ≤ k ∧ k ≤ 3) ∧ 0 ≤ d ∧ d ≤ 9999) ∧ (0 ≤ l ∧ l ≤ m ∧ m ≤ 1000000) ∧ σ 41 11 < 120) : Mt mX12_gift 30 [gR 133, gI a, gI b, gI k, gI d, gI f, gI l, gI m] (gUp (gUp (gUp (gUp (gUp (gUp (gUp (gUp (gUp (gUp (gUp σ 42 (σ 41 11) a) 43 (σ 41 11) b) 44 (σ 41 11) k) 45 (σ 41 11) d) 49 (σ 41 11) (σ 0 4)) 50 (σ 41 11) (-1)) 52 (σ 41 11) (-1)) 41 11 (σ 41 11 + 1)) 46 (σ 41 11) f) 47 (σ 41 11) l) 48 (σ 41 11) m) (rE (gI (σ 41 11)) (gUp (gUp (gUp (gUp (gUp (gUp (gUp (gUp (gUp (gUp (gUp (gUp (gUp (gUp (gUp (gUp (gUp (gUp (gUp (gUp (gUp (gUp (gUp σ 42 (σ 41 11) a) 43 (σ 41 11) b) 44 (σ 41 11) k) 45 (σ 41 11) d) 49 (σ 41 11) (σ 0 4)) 50 (σ 41 11) (-1)) 52 (σ 41 11) (-1)) 41 11 (σ 41 11 + 1)) 46 (σ 41 11) f) 47 (σ 41 11) l) 48 (σ 41 11) m) 133 0 0) 153 (σ 41 11) a) 154 (σ 41 11) b) 155 (σ 41 11) k) 156 (σ 41 11) d) 163 (σ 41 11) f) 157 (σ 41 11) l) 158 (σ 41 11) m) 159 (σ 41 11) (σ 0 4)) 160 (σ 41 11) (-1)) 162 (σ 41 11) (-1)) 133 42 ((σ 41 11) + 1))) := by
  refine Mt.walk (ls := [gR 133, gI a, gI b, gI k, gI d, gI f, gI l, gI m]) pn_X12 rfl (fun _ _ h => by cases h.1) (Nat.le_of_ble_eq_true rfl) rfl ?_
  have hday := hI.f.day
  unfold S_day at hday
  have hp := hI.f.hp
  have hp0 := hI.f.party.2.1
  have hT := hI.f.tape.2.1
  have hT2 := hI.f.tape.2.2.1
  have f6 := hI.f6
  have hm0 := hI.f.mem.2.1
  have hm1 := hI.f.mem.2.2.1
  have ht0 := hI.f.mat.2.1
  have ht1 := hI.f.mat.2.2.1
  have hv0 := hI.f.vote.2.1
  have hv1 := hI.f.vote.2.2.1
  have he0 := hI.f.ent.2.1
  have he1 := hI.f.ent.2.2.1
  have hz := hI.f.hz
  have e135b : 0 ≤ b → b < σ 3 2 → σ 135 b = σ 4 b := fun h0 h1 => hI.e135 h0 h1
  have s135b : 0 ≤ b → b < σ 3 2 → 0 ≤ σ 4 b := fun h0 h1 => (hI.f.party.2.2.2 b h0 h1).2.1
  refine w_aload_n (pc' := 1) (i := 0) (by rfl) (by rfl) dX12_gift_0 rfl ?_
  refine w_iconst (pc' := 2) (by decide) dX12_gift_1 rfl ?_
  refine v_putI (pc' := 5) (ji := 0) rfl fp_X12_244 kd_133 sf_X12_0 dX12_gift_2 rfl ?_
  refine w_aload_n (pc' := 6) (i := 0) (by rfl) (by rfl) dX12_gift_5 rfl ?_
  refine w_iload_n (pc' := 7) (i := 1) (by rfl) (by rfl) dX12_gift_6 rfl ?_
  refine v_callVE (pc' := 10) (st' := [gI (gb (0 ≤ a ∧ a < (σ 133 6)))]) (d' := 0) (av := [gI a]) mi_mX12_isParty lk_X12_276 rfl ci_X12 kd_133 rfl (Nat.le_of_ble_eq_true rfl) (Nat.le_of_ble_eq_true rfl) dX12_gift_7 rfl rfl (mo_isParty (gUp (gUp (gUp (gUp (gUp (gUp (gUp (gUp (gUp (gUp (gUp (gUp σ 42 (σ 41 11) a) 43 (σ 41 11) b) 44 (σ 41 11) k) 45 (σ 41 11) d) 49 (σ 41 11) (σ 0 4)) 50 (σ 41 11) (-1)) 52 (σ 41 11) (-1)) 41 11 (σ 41 11 + 1)) 46 (σ 41 11) f) 47 (σ 41 11) l) 48 (σ 41 11) m) 133 0 0)  a) ?_
  refine v_if_eqB (pc' := 13) (t := 26) dX12_gift_10 rfl rfl (fun c_10 => ?_) (fun c_10 => ?_)
  · skip
    refine w_bipush (pc' := 28) (by decide) (by decide) dX12_gift_26 rfl ?_
    refine v_ireturn rfl dX12_gift_28 ?_
    first
      | (exfalso; omega)
      | exact ⟨(by first | rfl | exact congrArg gI (by omega) | exact congrArg gI (gb_t (by omega)) | exact congrArg gI (gb_f (by omega)) | (refine congrArg gI ?_; (repeat' split) <;> omega)), rfl⟩
  · skip
    refine w_aload_n (pc' := 14) (i := 0) (by rfl) (by rfl) dX12_gift_13 rfl ?_
    refine w_iload_n (pc' := 15) (i := 2) (by rfl) (by rfl) dX12_gift_14 rfl ?_
    refine v_callVE (pc' := 18) (st' := [gI (gb ((0 ≤ b ∧ b < (σ 133 6)) ∧ (σ 135 b) = 0))]) (d' := 1) (av := [gI b]) mi_mX12_isPerson lk_X12_299 rfl ci_X12 kd_133 rfl (Nat.le_of_ble_eq_true rfl) (Nat.le_of_ble_eq_true rfl) dX12_gift_15 rfl rfl (mo_isPerson (gUp (gUp (gUp (gUp (gUp (gUp (gUp (gUp (gUp (gUp (gUp (gUp σ 42 (σ 41 11) a) 43 (σ 41 11) b) 44 (σ 41 11) k) 45 (σ 41 11) d) 49 (σ 41 11) (σ 0 4)) 50 (σ 41 11) (-1)) 52 (σ 41 11) (-1)) 41 11 (σ 41 11 + 1)) 46 (σ 41 11) f) 47 (σ 41 11) l) 48 (σ 41 11) m) 133 0 0) (show σ 133 6 ≤ 60 by omega) b) ?_
    refine v_if_eqB (pc' := 21) (t := 26) dX12_gift_18 rfl rfl (fun c_18 => ?_) (fun c_18 => ?_)
    · skip
      refine w_bipush (pc' := 28) (by decide) (by decide) dX12_gift_26 rfl ?_
      refine v_ireturn rfl dX12_gift_28 ?_
      first
        | (exfalso; omega)
        | exact ⟨(by first | rfl | exact congrArg gI (by omega) | exact congrArg gI (gb_t (by omega)) | exact congrArg gI (gb_f (by omega)) | (refine congrArg gI ?_; (repeat' split) <;> omega)), rfl⟩
    · skip
      refine w_iload_n (pc' := 22) (i := 1) (by rfl) (by rfl) dX12_gift_21 rfl ?_
      refine w_iload_n (pc' := 23) (i := 2) (by rfl) (by rfl) dX12_gift_22 rfl ?_
      refine w_icmp_ne (pc' := 26) (t := 29) dX12_gift_23 rfl rfl (fun c_23 => ?_) (fun c_23 => ?_)
      · skip
        refine w_iload_n (pc' := 30) (i := 3) (by rfl) (by rfl) dX12_gift_29 rfl ?_
        refine w_iconst (pc' := 31) (by decide) dX12_gift_30 rfl ?_
        refine w_iconst (pc' := 32) (by decide) dX12_gift_31 rfl ?_
        refine v_callSE (pc' := 35) (st' := [gI (gb (0 ≤ k ∧ k ≤ 3))]) (d' := 0) (av := [gI k, gI 0, gI 3]) ms_mX12_isIn st_mX12_isIn lk_X12_254 rfl rfl (Nat.le_of_ble_eq_true rfl) (Nat.le_of_ble_eq_true rfl) dX12_gift_32 rfl rfl (mo_isIn (gUp (gUp (gUp (gUp (gUp (gUp (gUp (gUp (gUp (gUp (gUp (gUp σ 42 (σ 41 11) a) 43 (σ 41 11) b) 44 (σ 41 11) k) 45 (σ 41 11) d) 49 (σ 41 11) (σ 0 4)) 50 (σ 41 11) (-1)) 52 (σ 41 11) (-1)) 41 11 (σ 41 11 + 1)) 46 (σ 41 11) f) 47 (σ 41 11) l) 48 (σ 41 11) m) 133 0 0) k 0 3) ?_
        refine v_if_eqB (pc' := 38) (t := 46) dX12_gift_35 rfl rfl (fun c_35 => ?_) (fun c_35 => ?_)
        · skip
          refine w_bipush (pc' := 48) (by decide) (by decide) dX12_gift_46 rfl ?_
          refine v_ireturn rfl dX12_gift_48 ?_
          first
            | (exfalso; omega)
            | exact ⟨(by first | rfl | exact congrArg gI (by omega) | exact congrArg gI (gb_t (by omega)) | exact congrArg gI (gb_f (by omega)) | (refine congrArg gI ?_; (repeat' split) <;> omega)), rfl⟩
        · skip
          refine w_iload (pc' := 40) (by rfl) dX12_gift_38 rfl ?_
          refine v_callSE (pc' := 43) (st' := [gI (gb (0 ≤ d ∧ d ≤ 9999))]) (d' := 0) (av := [gI d]) ms_mX12_isDay st_mX12_isDay lk_X12_279 rfl rfl (Nat.le_of_ble_eq_true rfl) (Nat.le_of_ble_eq_true rfl) dX12_gift_40 rfl rfl (mo_isDay (gUp (gUp (gUp (gUp (gUp (gUp (gUp (gUp (gUp (gUp (gUp (gUp σ 42 (σ 41 11) a) 43 (σ 41 11) b) 44 (σ 41 11) k) 45 (σ 41 11) d) 49 (σ 41 11) (σ 0 4)) 50 (σ 41 11) (-1)) 52 (σ 41 11) (-1)) 41 11 (σ 41 11 + 1)) 46 (σ 41 11) f) 47 (σ 41 11) l) 48 (σ 41 11) m) 133 0 0) d) ?_
          refine v_if_neB (pc' := 46) (t := 49) dX12_gift_43 rfl rfl (fun c_43 => ?_) (fun c_43 => ?_)
          · skip
            refine w_iload (pc' := 51) (by rfl) dX12_gift_49 rfl ?_
            refine w_iload (pc' := 53) (by rfl) dX12_gift_51 rfl ?_
            refine v_callSE (pc' := 56) (st' := [gI (gb (0 ≤ l ∧ l ≤ m ∧ m ≤ 1000000))]) (d' := 0) (av := [gI l, gI m]) ms_mX12_isWorth st_mX12_isWorth lk_X12_309 rfl rfl (Nat.le_of_ble_eq_true rfl) (Nat.le_of_ble_eq_true rfl) dX12_gift_53 rfl rfl (mo_isWorth (gUp (gUp (gUp (gUp (gUp (gUp (gUp (gUp (gUp (gUp (gUp (gUp σ 42 (σ 41 11) a) 43 (σ 41 11) b) 44 (σ 41 11) k) 45 (σ 41 11) d) 49 (σ 41 11) (σ 0 4)) 50 (σ 41 11) (-1)) 52 (σ 41 11) (-1)) 41 11 (σ 41 11 + 1)) 46 (σ 41 11) f) 47 (σ 41 11) l) 48 (σ 41 11) m) 133 0 0) l m) ?_
            refine v_if_neB (pc' := 59) (t := 62) dX12_gift_56 rfl rfl (fun c_56 => ?_) (fun c_56 => ?_)
            · skip
              refine w_aload_n (pc' := 63) (i := 0) (by rfl) (by rfl) dX12_gift_62 rfl ?_
              refine v_getI (pc' := 66) (ji := 42) rfl fg_X12_313 kd_133 dX12_gift_63 rfl ?_
              show Wp _ _ _ _ _ _ [gI (σ 133 42)]
              rw [hI.f42]
              refine w_bipush (pc' := 68) (by decide) (by decide) dX12_gift_66 rfl ?_
              refine w_icmp_ne (pc' := 71) (t := 74) dX12_gift_68 rfl rfl (fun c_68 => ?_) (fun c_68 => ?_)
              · skip
                refine w_aload_n (pc' := 75) (i := 0) (by rfl) (by rfl) dX12_gift_74 rfl ?_
                refine w_getS (pc' := 78) (q := 153) fg_X12_72 kd_133 sf_X12_27 gr_133_27 dX12_gift_75 rfl ?_
                refine w_aload_n (pc' := 79) (i := 0) (by rfl) (by rfl) dX12_gift_78 rfl ?_
                refine v_getI (pc' := 82) (ji := 42) rfl fg_X12_313 kd_133 dX12_gift_79 rfl ?_
                show Wp _ _ _ _ _ _ [gI (σ 133 42), gR 153]
                rw [hI.f42]
                refine w_iload_n (pc' := 83) (i := 1) (by rfl) (by rfl) dX12_gift_82 rfl ?_
                refine w_iast (pc' := 84) kd_153 (by omega) (by omega) dX12_gift_83 rfl ?_
                refine w_aload_n (pc' := 85) (i := 0) (by rfl) (by rfl) dX12_gift_84 rfl ?_
                refine w_getS (pc' := 88) (q := 154) fg_X12_75 kd_133 sf_X12_28 gr_133_28 dX12_gift_85 rfl ?_
                refine w_aload_n (pc' := 89) (i := 0) (by rfl) (by rfl) dX12_gift_88 rfl ?_
                refine v_getI (pc' := 92) (ji := 42) rfl fg_X12_313 kd_133 dX12_gift_89 rfl ?_
                show Wp _ _ _ _ _ _ [gI (σ 133 42), gR 154]
                rw [hI.f42]
                refine w_iload_n (pc' := 93) (i := 2) (by rfl) (by rfl) dX12_gift_92 rfl ?_
                refine w_iast (pc' := 94) kd_154 (by omega) (by omega) dX12_gift_93 rfl ?_
                refine w_aload_n (pc' := 95) (i := 0) (by rfl) (by rfl) dX12_gift_94 rfl ?_
                refine w_getS (pc' := 98) (q := 155) fg_X12_78 kd_133 sf_X12_29 gr_133_29 dX12_gift_95 rfl ?_
                refine w_aload_n (pc' := 99) (i := 0) (by rfl) (by rfl) dX12_gift_98 rfl ?_
                refine v_getI (pc' := 102) (ji := 42) rfl fg_X12_313 kd_133 dX12_gift_99 rfl ?_
                show Wp _ _ _ _ _ _ [gI (σ 133 42), gR 155]
                rw [hI.f42]
                refine w_iload_n (pc' := 103) (i := 3) (by rfl) (by rfl) dX12_gift_102 rfl ?_
                refine w_iast (pc' := 104) kd_155 (by omega) (by omega) dX12_gift_103 rfl ?_
                refine w_aload_n (pc' := 105) (i := 0) (by rfl) (by rfl) dX12_gift_104 rfl ?_
                refine w_getS (pc' := 108) (q := 156) fg_X12_81 kd_133 sf_X12_30 gr_133_30 dX12_gift_105 rfl ?_
                refine w_aload_n (pc' := 109) (i := 0) (by rfl) (by rfl) dX12_gift_108 rfl ?_
                refine v_getI (pc' := 112) (ji := 42) rfl fg_X12_313 kd_133 dX12_gift_109 rfl ?_
                show Wp _ _ _ _ _ _ [gI (σ 133 42), gR 156]
                rw [hI.f42]
                refine w_iload (pc' := 114) (by rfl) dX12_gift_112 rfl ?_
                refine w_iast (pc' := 115) kd_156 (by omega) (by omega) dX12_gift_114 rfl ?_
                refine w_aload_n (pc' := 116) (i := 0) (by rfl) (by rfl) dX12_gift_115 rfl ?_
                refine w_getS (pc' := 119) (q := 163) fg_X12_102 kd_133 sf_X12_37 gr_133_37 dX12_gift_116 rfl ?_
                refine w_aload_n (pc' := 120) (i := 0) (by rfl) (by rfl) dX12_gift_119 rfl ?_
                refine v_getI (pc' := 123) (ji := 42) rfl fg_X12_313 kd_133 dX12_gift_120 rfl ?_
                show Wp _ _ _ _ _ _ [gI (σ 133 42), gR 163]
                rw [hI.f42]
                refine w_iload (pc' := 125) (by rfl) dX12_gift_123 rfl ?_
                refine w_zast (pc' := 126) kd_163 (by exact hf) (by omega) (by omega) dX12_gift_125 rfl ?_
                refine w_aload_n (pc' := 127) (i := 0) (by rfl) (by rfl) dX12_gift_126 rfl ?_
                refine w_getS (pc' := 130) (q := 157) fg_X12_84 kd_133 sf_X12_31 gr_133_31 dX12_gift_127 rfl ?_
                refine w_aload_n (pc' := 131) (i := 0) (by rfl) (by rfl) dX12_gift_130 rfl ?_
                refine v_getI (pc' := 134) (ji := 42) rfl fg_X12_313 kd_133 dX12_gift_131 rfl ?_
                show Wp _ _ _ _ _ _ [gI (σ 133 42), gR 157]
                rw [hI.f42]
                refine w_iload (pc' := 136) (by rfl) dX12_gift_134 rfl ?_
                refine w_iast (pc' := 137) kd_157 (by omega) (by omega) dX12_gift_136 rfl ?_
                refine w_aload_n (pc' := 138) (i := 0) (by rfl) (by rfl) dX12_gift_137 rfl ?_
                refine w_getS (pc' := 141) (q := 158) fg_X12_87 kd_133 sf_X12_32 gr_133_32 dX12_gift_138 rfl ?_
                refine w_aload_n (pc' := 142) (i := 0) (by rfl) (by rfl) dX12_gift_141 rfl ?_
                refine v_getI (pc' := 145) (ji := 42) rfl fg_X12_313 kd_133 dX12_gift_142 rfl ?_
                show Wp _ _ _ _ _ _ [gI (σ 133 42), gR 158]
                rw [hI.f42]
                refine w_iload (pc' := 147) (by rfl) dX12_gift_145 rfl ?_
                refine w_iast (pc' := 148) kd_158 (by omega) (by omega) dX12_gift_147 rfl ?_
                refine w_aload_n (pc' := 149) (i := 0) (by rfl) (by rfl) dX12_gift_148 rfl ?_
                refine w_getS (pc' := 152) (q := 159) fg_X12_90 kd_133 sf_X12_33 gr_133_33 dX12_gift_149 rfl ?_
                refine w_aload_n (pc' := 153) (i := 0) (by rfl) (by rfl) dX12_gift_152 rfl ?_
                refine v_getI (pc' := 156) (ji := 42) rfl fg_X12_313 kd_133 dX12_gift_153 rfl ?_
                show Wp _ _ _ _ _ _ [gI (σ 133 42), gR 159]
                rw [hI.f42]
                refine w_aload_n (pc' := 157) (i := 0) (by rfl) (by rfl) dX12_gift_156 rfl ?_
                refine v_getI (pc' := 160) (ji := 3) rfl fg_X12_258 kd_133 dX12_gift_157 rfl ?_
                show Wp _ _ _ _ _ _ [gI (σ 133 3), gI (σ 41 11), gR 159]
                rw [hI.f3]
                refine w_iast (pc' := 161) kd_159 (by omega) (by omega) dX12_gift_160 rfl ?_
                refine w_aload_n (pc' := 162) (i := 0) (by rfl) (by rfl) dX12_gift_161 rfl ?_
                refine w_getS (pc' := 165) (q := 160) fg_X12_93 kd_133 sf_X12_34 gr_133_34 dX12_gift_162 rfl ?_
                refine w_aload_n (pc' := 166) (i := 0) (by rfl) (by rfl) dX12_gift_165 rfl ?_
                refine v_getI (pc' := 169) (ji := 42) rfl fg_X12_313 kd_133 dX12_gift_166 rfl ?_
                show Wp _ _ _ _ _ _ [gI (σ 133 42), gR 160]
                rw [hI.f42]
                refine w_iconst (pc' := 170) (by decide) dX12_gift_169 rfl ?_
                refine w_iast (pc' := 171) kd_160 (by omega) (by omega) dX12_gift_170 rfl ?_
                refine w_aload_n (pc' := 172) (i := 0) (by rfl) (by rfl) dX12_gift_171 rfl ?_
                refine w_getS (pc' := 175) (q := 162) fg_X12_99 kd_133 sf_X12_36 gr_133_36 dX12_gift_172 rfl ?_
                refine w_aload_n (pc' := 176) (i := 0) (by rfl) (by rfl) dX12_gift_175 rfl ?_
                refine v_getI (pc' := 179) (ji := 42) rfl fg_X12_313 kd_133 dX12_gift_176 rfl ?_
                show Wp _ _ _ _ _ _ [gI (σ 133 42), gR 162]
                rw [hI.f42]
                refine w_iconst (pc' := 180) (by decide) dX12_gift_179 rfl ?_
                refine w_iast (pc' := 181) kd_162 (by omega) (by omega) dX12_gift_180 rfl ?_
                refine w_aload_n (pc' := 182) (i := 0) (by rfl) (by rfl) dX12_gift_181 rfl ?_
                refine w_dup (pc' := 183) dX12_gift_182 rfl ?_
                refine v_getI (pc' := 186) (ji := 42) rfl fg_X12_313 kd_133 dX12_gift_183 rfl ?_
                show Wp _ _ _ _ _ _ [gI (σ 133 42), gR 133]
                rw [hI.f42]
                refine w_iconst (pc' := 187) (by decide) dX12_gift_186 rfl ?_
                refine v_iadd (pc' := 188) (by omega) dX12_gift_187 rfl ?_
                refine v_putI (pc' := 191) (ji := 42) rfl fp_X12_313 kd_133 sf_X12_42 dX12_gift_188 rfl ?_
                refine w_aload_n (pc' := 192) (i := 0) (by rfl) (by rfl) dX12_gift_191 rfl ?_
                refine v_getI (pc' := 195) (ji := 42) rfl fg_X12_313 kd_133 dX12_gift_192 rfl ?_
                show Wp _ _ _ _ _ _ [gI ((σ 41 11) + 1)]
                refine w_iconst (pc' := 196) (by decide) dX12_gift_195 rfl ?_
                refine v_isub (pc' := 197) (by omega) dX12_gift_196 rfl ?_
                refine v_ireturn rfl dX12_gift_197 ?_
                first
                  | (exfalso; omega)
                  | exact ⟨(by first | rfl | exact congrArg gI (by omega) | exact congrArg gI (gb_t (by omega)) | exact congrArg gI (gb_f (by omega)) | (refine congrArg gI ?_; (repeat' split) <;> omega)), rfl⟩
              · skip
                refine w_bipush (pc' := 73) (by decide) (by decide) dX12_gift_71 rfl ?_
                refine v_ireturn rfl dX12_gift_73 ?_
                first
                  | (exfalso; omega)
                  | exact ⟨(by first | rfl | exact congrArg gI (by omega) | exact congrArg gI (gb_t (by omega)) | exact congrArg gI (gb_f (by omega)) | (refine congrArg gI ?_; (repeat' split) <;> omega)), rfl⟩
            · skip
              refine w_bipush (pc' := 61) (by decide) (by decide) dX12_gift_59 rfl ?_
              refine v_ireturn rfl dX12_gift_61 ?_
              first
                | (exfalso; omega)
                | exact ⟨(by first | rfl | exact congrArg gI (by omega) | exact congrArg gI (gb_t (by omega)) | exact congrArg gI (gb_f (by omega)) | (refine congrArg gI ?_; (repeat' split) <;> omega)), rfl⟩
          · skip
            refine w_bipush (pc' := 48) (by decide) (by decide) dX12_gift_46 rfl ?_
            refine v_ireturn rfl dX12_gift_48 ?_
            first
              | (exfalso; omega)
              | exact ⟨(by first | rfl | exact congrArg gI (by omega) | exact congrArg gI (gb_t (by omega)) | exact congrArg gI (gb_f (by omega)) | (refine congrArg gI ?_; (repeat' split) <;> omega)), rfl⟩
      · skip
        refine w_bipush (pc' := 28) (by decide) (by decide) dX12_gift_26 rfl ?_
        refine v_ireturn rfl dX12_gift_28 ?_
        first
          | (exfalso; omega)
          | exact ⟨(by first | rfl | exact congrArg gI (by omega) | exact congrArg gI (gb_t (by omega)) | exact congrArg gI (gb_f (by omega)) | (refine congrArg gI ?_; (repeat' split) <;> omega)), rfl⟩
theorem m_gift2F {σ : gH} (hI : Inv σ) (a b k d f l m : Int) (hf : f = 0 ∨ f = 1) (hP : ¬ (((0 ≤ a ∧ a < σ 3 2) ∧ ((0 ≤ b ∧ b < σ 3 2) ∧ σ 4 b = 0) ∧ a ≠ b) ∧ ((0 ≤ k ∧ k ≤ 3) ∧ 0 ≤ d ∧ d ≤ 9999) ∧ (0 ≤ l ∧ l ≤ m ∧ m ≤ 1000000) ∧ σ 41 11 < 120)) : Mt mX12_gift 30 [gR 133, gI a, gI b, gI k, gI d, gI f, gI l, gI m] σ (rE (gI (if ((0 ≤ a ∧ a < σ 3 2) ∧ ((0 ≤ b ∧ b < σ 3 2) ∧ σ 4 b = 0) ∧ a ≠ b) then if ((0 ≤ k ∧ k ≤ 3) ∧ 0 ≤ d ∧ d ≤ 9999) then if (0 ≤ l ∧ l ≤ m ∧ m ≤ 1000000) then -5 else -4 else -3 else -2)) (gUp σ 133 0 0)) := by
  refine Mt.walk (ls := [gR 133, gI a, gI b, gI k, gI d, gI f, gI l, gI m]) pn_X12 rfl (fun _ _ h => by cases h.1) (Nat.le_of_ble_eq_true rfl) rfl ?_
  have hday := hI.f.day
  unfold S_day at hday
  have hp := hI.f.hp
  have hp0 := hI.f.party.2.1
  have hT := hI.f.tape.2.1
  have hT2 := hI.f.tape.2.2.1
  have f6 := hI.f6
  have hm0 := hI.f.mem.2.1
  have hm1 := hI.f.mem.2.2.1
  have ht0 := hI.f.mat.2.1
  have ht1 := hI.f.mat.2.2.1
  have hv0 := hI.f.vote.2.1
  have hv1 := hI.f.vote.2.2.1
  have he0 := hI.f.ent.2.1
  have he1 := hI.f.ent.2.2.1
  have hz := hI.f.hz
  have e135b : 0 ≤ b → b < σ 3 2 → σ 135 b = σ 4 b := fun h0 h1 => hI.e135 h0 h1
  have s135b : 0 ≤ b → b < σ 3 2 → 0 ≤ σ 4 b := fun h0 h1 => (hI.f.party.2.2.2 b h0 h1).2.1
  refine w_aload_n (pc' := 1) (i := 0) (by rfl) (by rfl) dX12_gift_0 rfl ?_
  refine w_iconst (pc' := 2) (by decide) dX12_gift_1 rfl ?_
  refine v_putI (pc' := 5) (ji := 0) rfl fp_X12_244 kd_133 sf_X12_0 dX12_gift_2 rfl ?_
  refine w_aload_n (pc' := 6) (i := 0) (by rfl) (by rfl) dX12_gift_5 rfl ?_
  refine w_iload_n (pc' := 7) (i := 1) (by rfl) (by rfl) dX12_gift_6 rfl ?_
  refine v_callVE (pc' := 10) (st' := [gI (gb (0 ≤ a ∧ a < (σ 133 6)))]) (d' := 0) (av := [gI a]) mi_mX12_isParty lk_X12_276 rfl ci_X12 kd_133 rfl (Nat.le_of_ble_eq_true rfl) (Nat.le_of_ble_eq_true rfl) dX12_gift_7 rfl rfl (mo_isParty (gUp σ 133 0 0)  a) ?_
  refine v_if_eqB (pc' := 13) (t := 26) dX12_gift_10 rfl rfl (fun c_10 => ?_) (fun c_10 => ?_)
  · skip
    refine w_bipush (pc' := 28) (by decide) (by decide) dX12_gift_26 rfl ?_
    refine v_ireturn rfl dX12_gift_28 ?_
    first
      | (exfalso; omega)
      | exact ⟨(by first | rfl | exact congrArg gI (by omega) | exact congrArg gI (gb_t (by omega)) | exact congrArg gI (gb_f (by omega)) | (refine congrArg gI ?_; (repeat' split) <;> omega)), rfl⟩
  · skip
    refine w_aload_n (pc' := 14) (i := 0) (by rfl) (by rfl) dX12_gift_13 rfl ?_
    refine w_iload_n (pc' := 15) (i := 2) (by rfl) (by rfl) dX12_gift_14 rfl ?_
    refine v_callVE (pc' := 18) (st' := [gI (gb ((0 ≤ b ∧ b < (σ 133 6)) ∧ (σ 135 b) = 0))]) (d' := 1) (av := [gI b]) mi_mX12_isPerson lk_X12_299 rfl ci_X12 kd_133 rfl (Nat.le_of_ble_eq_true rfl) (Nat.le_of_ble_eq_true rfl) dX12_gift_15 rfl rfl (mo_isPerson (gUp σ 133 0 0) (show σ 133 6 ≤ 60 by omega) b) ?_
    refine v_if_eqB (pc' := 21) (t := 26) dX12_gift_18 rfl rfl (fun c_18 => ?_) (fun c_18 => ?_)
    · skip
      refine w_bipush (pc' := 28) (by decide) (by decide) dX12_gift_26 rfl ?_
      refine v_ireturn rfl dX12_gift_28 ?_
      first
        | (exfalso; omega)
        | exact ⟨(by first | rfl | exact congrArg gI (by omega) | exact congrArg gI (gb_t (by omega)) | exact congrArg gI (gb_f (by omega)) | (refine congrArg gI ?_; (repeat' split) <;> omega)), rfl⟩
    · skip
      refine w_iload_n (pc' := 22) (i := 1) (by rfl) (by rfl) dX12_gift_21 rfl ?_
      refine w_iload_n (pc' := 23) (i := 2) (by rfl) (by rfl) dX12_gift_22 rfl ?_
      refine w_icmp_ne (pc' := 26) (t := 29) dX12_gift_23 rfl rfl (fun c_23 => ?_) (fun c_23 => ?_)
      · skip
        refine w_iload_n (pc' := 30) (i := 3) (by rfl) (by rfl) dX12_gift_29 rfl ?_
        refine w_iconst (pc' := 31) (by decide) dX12_gift_30 rfl ?_
        refine w_iconst (pc' := 32) (by decide) dX12_gift_31 rfl ?_
        refine v_callSE (pc' := 35) (st' := [gI (gb (0 ≤ k ∧ k ≤ 3))]) (d' := 0) (av := [gI k, gI 0, gI 3]) ms_mX12_isIn st_mX12_isIn lk_X12_254 rfl rfl (Nat.le_of_ble_eq_true rfl) (Nat.le_of_ble_eq_true rfl) dX12_gift_32 rfl rfl (mo_isIn (gUp σ 133 0 0) k 0 3) ?_
        refine v_if_eqB (pc' := 38) (t := 46) dX12_gift_35 rfl rfl (fun c_35 => ?_) (fun c_35 => ?_)
        · skip
          refine w_bipush (pc' := 48) (by decide) (by decide) dX12_gift_46 rfl ?_
          refine v_ireturn rfl dX12_gift_48 ?_
          first
            | (exfalso; omega)
            | exact ⟨(by first | rfl | exact congrArg gI (by omega) | exact congrArg gI (gb_t (by omega)) | exact congrArg gI (gb_f (by omega)) | (refine congrArg gI ?_; (repeat' split) <;> omega)), rfl⟩
        · skip
          refine w_iload (pc' := 40) (by rfl) dX12_gift_38 rfl ?_
          refine v_callSE (pc' := 43) (st' := [gI (gb (0 ≤ d ∧ d ≤ 9999))]) (d' := 0) (av := [gI d]) ms_mX12_isDay st_mX12_isDay lk_X12_279 rfl rfl (Nat.le_of_ble_eq_true rfl) (Nat.le_of_ble_eq_true rfl) dX12_gift_40 rfl rfl (mo_isDay (gUp σ 133 0 0) d) ?_
          refine v_if_neB (pc' := 46) (t := 49) dX12_gift_43 rfl rfl (fun c_43 => ?_) (fun c_43 => ?_)
          · skip
            refine w_iload (pc' := 51) (by rfl) dX12_gift_49 rfl ?_
            refine w_iload (pc' := 53) (by rfl) dX12_gift_51 rfl ?_
            refine v_callSE (pc' := 56) (st' := [gI (gb (0 ≤ l ∧ l ≤ m ∧ m ≤ 1000000))]) (d' := 0) (av := [gI l, gI m]) ms_mX12_isWorth st_mX12_isWorth lk_X12_309 rfl rfl (Nat.le_of_ble_eq_true rfl) (Nat.le_of_ble_eq_true rfl) dX12_gift_53 rfl rfl (mo_isWorth (gUp σ 133 0 0) l m) ?_
            refine v_if_neB (pc' := 59) (t := 62) dX12_gift_56 rfl rfl (fun c_56 => ?_) (fun c_56 => ?_)
            · skip
              refine w_aload_n (pc' := 63) (i := 0) (by rfl) (by rfl) dX12_gift_62 rfl ?_
              refine v_getI (pc' := 66) (ji := 42) rfl fg_X12_313 kd_133 dX12_gift_63 rfl ?_
              show Wp _ _ _ _ _ _ [gI (σ 133 42)]
              rw [hI.f42]
              refine w_bipush (pc' := 68) (by decide) (by decide) dX12_gift_66 rfl ?_
              refine w_icmp_ne (pc' := 71) (t := 74) dX12_gift_68 rfl rfl (fun c_68 => ?_) (fun c_68 => ?_)
              · skip
                refine w_aload_n (pc' := 75) (i := 0) (by rfl) (by rfl) dX12_gift_74 rfl ?_
                refine w_getS (pc' := 78) (q := 153) fg_X12_72 kd_133 sf_X12_27 gr_133_27 dX12_gift_75 rfl ?_
                refine w_aload_n (pc' := 79) (i := 0) (by rfl) (by rfl) dX12_gift_78 rfl ?_
                refine v_getI (pc' := 82) (ji := 42) rfl fg_X12_313 kd_133 dX12_gift_79 rfl ?_
                show Wp _ _ _ _ _ _ [gI (σ 133 42), gR 153]
                rw [hI.f42]
                refine w_iload_n (pc' := 83) (i := 1) (by rfl) (by rfl) dX12_gift_82 rfl ?_
                refine w_iast (pc' := 84) kd_153 (by omega) (by omega) dX12_gift_83 rfl ?_
                refine w_aload_n (pc' := 85) (i := 0) (by rfl) (by rfl) dX12_gift_84 rfl ?_
                refine w_getS (pc' := 88) (q := 154) fg_X12_75 kd_133 sf_X12_28 gr_133_28 dX12_gift_85 rfl ?_
                refine w_aload_n (pc' := 89) (i := 0) (by rfl) (by rfl) dX12_gift_88 rfl ?_
                refine v_getI (pc' := 92) (ji := 42) rfl fg_X12_313 kd_133 dX12_gift_89 rfl ?_
                show Wp _ _ _ _ _ _ [gI (σ 133 42), gR 154]
                rw [hI.f42]
                refine w_iload_n (pc' := 93) (i := 2) (by rfl) (by rfl) dX12_gift_92 rfl ?_
                refine w_iast (pc' := 94) kd_154 (by omega) (by omega) dX12_gift_93 rfl ?_
                refine w_aload_n (pc' := 95) (i := 0) (by rfl) (by rfl) dX12_gift_94 rfl ?_
                refine w_getS (pc' := 98) (q := 155) fg_X12_78 kd_133 sf_X12_29 gr_133_29 dX12_gift_95 rfl ?_
                refine w_aload_n (pc' := 99) (i := 0) (by rfl) (by rfl) dX12_gift_98 rfl ?_
                refine v_getI (pc' := 102) (ji := 42) rfl fg_X12_313 kd_133 dX12_gift_99 rfl ?_
                show Wp _ _ _ _ _ _ [gI (σ 133 42), gR 155]
                rw [hI.f42]
                refine w_iload_n (pc' := 103) (i := 3) (by rfl) (by rfl) dX12_gift_102 rfl ?_
                refine w_iast (pc' := 104) kd_155 (by omega) (by omega) dX12_gift_103 rfl ?_
                refine w_aload_n (pc' := 105) (i := 0) (by rfl) (by rfl) dX12_gift_104 rfl ?_
                refine w_getS (pc' := 108) (q := 156) fg_X12_81 kd_133 sf_X12_30 gr_133_30 dX12_gift_105 rfl ?_
                refine w_aload_n (pc' := 109) (i := 0) (by rfl) (by rfl) dX12_gift_108 rfl ?_
                refine v_getI (pc' := 112) (ji := 42) rfl fg_X12_313 kd_133 dX12_gift_109 rfl ?_
                show Wp _ _ _ _ _ _ [gI (σ 133 42), gR 156]
                rw [hI.f42]
                refine w_iload (pc' := 114) (by rfl) dX12_gift_112 rfl ?_
                refine w_iast (pc' := 115) kd_156 (by omega) (by omega) dX12_gift_114 rfl ?_
                refine w_aload_n (pc' := 116) (i := 0) (by rfl) (by rfl) dX12_gift_115 rfl ?_
                refine w_getS (pc' := 119) (q := 163) fg_X12_102 kd_133 sf_X12_37 gr_133_37 dX12_gift_116 rfl ?_
                refine w_aload_n (pc' := 120) (i := 0) (by rfl) (by rfl) dX12_gift_119 rfl ?_
                refine v_getI (pc' := 123) (ji := 42) rfl fg_X12_313 kd_133 dX12_gift_120 rfl ?_
                show Wp _ _ _ _ _ _ [gI (σ 133 42), gR 163]
                rw [hI.f42]
                refine w_iload (pc' := 125) (by rfl) dX12_gift_123 rfl ?_
                refine w_zast (pc' := 126) kd_163 (by exact hf) (by omega) (by omega) dX12_gift_125 rfl ?_
                refine w_aload_n (pc' := 127) (i := 0) (by rfl) (by rfl) dX12_gift_126 rfl ?_
                refine w_getS (pc' := 130) (q := 157) fg_X12_84 kd_133 sf_X12_31 gr_133_31 dX12_gift_127 rfl ?_
                refine w_aload_n (pc' := 131) (i := 0) (by rfl) (by rfl) dX12_gift_130 rfl ?_
                refine v_getI (pc' := 134) (ji := 42) rfl fg_X12_313 kd_133 dX12_gift_131 rfl ?_
                show Wp _ _ _ _ _ _ [gI (σ 133 42), gR 157]
                rw [hI.f42]
                refine w_iload (pc' := 136) (by rfl) dX12_gift_134 rfl ?_
                refine w_iast (pc' := 137) kd_157 (by omega) (by omega) dX12_gift_136 rfl ?_
                refine w_aload_n (pc' := 138) (i := 0) (by rfl) (by rfl) dX12_gift_137 rfl ?_
                refine w_getS (pc' := 141) (q := 158) fg_X12_87 kd_133 sf_X12_32 gr_133_32 dX12_gift_138 rfl ?_
                refine w_aload_n (pc' := 142) (i := 0) (by rfl) (by rfl) dX12_gift_141 rfl ?_
                refine v_getI (pc' := 145) (ji := 42) rfl fg_X12_313 kd_133 dX12_gift_142 rfl ?_
                show Wp _ _ _ _ _ _ [gI (σ 133 42), gR 158]
                rw [hI.f42]
                refine w_iload (pc' := 147) (by rfl) dX12_gift_145 rfl ?_
                refine w_iast (pc' := 148) kd_158 (by omega) (by omega) dX12_gift_147 rfl ?_
                refine w_aload_n (pc' := 149) (i := 0) (by rfl) (by rfl) dX12_gift_148 rfl ?_
                refine w_getS (pc' := 152) (q := 159) fg_X12_90 kd_133 sf_X12_33 gr_133_33 dX12_gift_149 rfl ?_
                refine w_aload_n (pc' := 153) (i := 0) (by rfl) (by rfl) dX12_gift_152 rfl ?_
                refine v_getI (pc' := 156) (ji := 42) rfl fg_X12_313 kd_133 dX12_gift_153 rfl ?_
                show Wp _ _ _ _ _ _ [gI (σ 133 42), gR 159]
                rw [hI.f42]
                refine w_aload_n (pc' := 157) (i := 0) (by rfl) (by rfl) dX12_gift_156 rfl ?_
                refine v_getI (pc' := 160) (ji := 3) rfl fg_X12_258 kd_133 dX12_gift_157 rfl ?_
                show Wp _ _ _ _ _ _ [gI (σ 133 3), gI (σ 41 11), gR 159]
                rw [hI.f3]
                refine w_iast (pc' := 161) kd_159 (by omega) (by omega) dX12_gift_160 rfl ?_
                refine w_aload_n (pc' := 162) (i := 0) (by rfl) (by rfl) dX12_gift_161 rfl ?_
                refine w_getS (pc' := 165) (q := 160) fg_X12_93 kd_133 sf_X12_34 gr_133_34 dX12_gift_162 rfl ?_
                refine w_aload_n (pc' := 166) (i := 0) (by rfl) (by rfl) dX12_gift_165 rfl ?_
                refine v_getI (pc' := 169) (ji := 42) rfl fg_X12_313 kd_133 dX12_gift_166 rfl ?_
                show Wp _ _ _ _ _ _ [gI (σ 133 42), gR 160]
                rw [hI.f42]
                refine w_iconst (pc' := 170) (by decide) dX12_gift_169 rfl ?_
                refine w_iast (pc' := 171) kd_160 (by omega) (by omega) dX12_gift_170 rfl ?_
                refine w_aload_n (pc' := 172) (i := 0) (by rfl) (by rfl) dX12_gift_171 rfl ?_
                refine w_getS (pc' := 175) (q := 162) fg_X12_99 kd_133 sf_X12_36 gr_133_36 dX12_gift_172 rfl ?_
                refine w_aload_n (pc' := 176) (i := 0) (by rfl) (by rfl) dX12_gift_175 rfl ?_
                refine v_getI (pc' := 179) (ji := 42) rfl fg_X12_313 kd_133 dX12_gift_176 rfl ?_
                show Wp _ _ _ _ _ _ [gI (σ 133 42), gR 162]
                rw [hI.f42]
                refine w_iconst (pc' := 180) (by decide) dX12_gift_179 rfl ?_
                refine w_iast (pc' := 181) kd_162 (by omega) (by omega) dX12_gift_180 rfl ?_
                refine w_aload_n (pc' := 182) (i := 0) (by rfl) (by rfl) dX12_gift_181 rfl ?_
                refine w_dup (pc' := 183) dX12_gift_182 rfl ?_
                refine v_getI (pc' := 186) (ji := 42) rfl fg_X12_313 kd_133 dX12_gift_183 rfl ?_
                show Wp _ _ _ _ _ _ [gI (σ 133 42), gR 133]
                rw [hI.f42]
                refine w_iconst (pc' := 187) (by decide) dX12_gift_186 rfl ?_
                refine v_iadd (pc' := 188) (by omega) dX12_gift_187 rfl ?_
                refine v_putI (pc' := 191) (ji := 42) rfl fp_X12_313 kd_133 sf_X12_42 dX12_gift_188 rfl ?_
                refine w_aload_n (pc' := 192) (i := 0) (by rfl) (by rfl) dX12_gift_191 rfl ?_
                refine v_getI (pc' := 195) (ji := 42) rfl fg_X12_313 kd_133 dX12_gift_192 rfl ?_
                show Wp _ _ _ _ _ _ [gI ((σ 41 11) + 1)]
                refine w_iconst (pc' := 196) (by decide) dX12_gift_195 rfl ?_
                refine v_isub (pc' := 197) (by omega) dX12_gift_196 rfl ?_
                refine v_ireturn rfl dX12_gift_197 ?_
                first
                  | (exfalso; omega)
                  | exact ⟨(by first | rfl | exact congrArg gI (by omega) | exact congrArg gI (gb_t (by omega)) | exact congrArg gI (gb_f (by omega)) | (refine congrArg gI ?_; (repeat' split) <;> omega)), rfl⟩
              · skip
                refine w_bipush (pc' := 73) (by decide) (by decide) dX12_gift_71 rfl ?_
                refine v_ireturn rfl dX12_gift_73 ?_
                first
                  | (exfalso; omega)
                  | exact ⟨(by first | rfl | exact congrArg gI (by omega) | exact congrArg gI (gb_t (by omega)) | exact congrArg gI (gb_f (by omega)) | (refine congrArg gI ?_; (repeat' split) <;> omega)), rfl⟩
            · skip
              refine w_bipush (pc' := 61) (by decide) (by decide) dX12_gift_59 rfl ?_
              refine v_ireturn rfl dX12_gift_61 ?_
              first
                | (exfalso; omega)
                | exact ⟨(by first | rfl | exact congrArg gI (by omega) | exact congrArg gI (gb_t (by omega)) | exact congrArg gI (gb_f (by omega)) | (refine congrArg gI ?_; (repeat' split) <;> omega)), rfl⟩
          · skip
            refine w_bipush (pc' := 48) (by decide) (by decide) dX12_gift_46 rfl ?_
            refine v_ireturn rfl dX12_gift_48 ?_
            first
              | (exfalso; omega)
              | exact ⟨(by first | rfl | exact congrArg gI (by omega) | exact congrArg gI (gb_t (by omega)) | exact congrArg gI (gb_f (by omega)) | (refine congrArg gI ?_; (repeat' split) <;> omega)), rfl⟩
      · skip
        refine w_bipush (pc' := 28) (by decide) (by decide) dX12_gift_26 rfl ?_
        refine v_ireturn rfl dX12_gift_28 ?_
        first
          | (exfalso; omega)
          | exact ⟨(by first | rfl | exact congrArg gI (by omega) | exact congrArg gI (gb_t (by omega)) | exact congrArg gI (gb_f (by omega)) | (refine congrArg gI ?_; (repeat' split) <;> omega)), rfl⟩
theorem i_gift2 {σ : gH} (hI : Inv σ) (a b k d f l m : Int) (hf : f = 0 ∨ f = 1) (hP : ((0 ≤ a ∧ a < σ 3 2) ∧ ((0 ≤ b ∧ b < σ 3 2) ∧ σ 4 b = 0) ∧ a ≠ b) ∧ ((0 ≤ k ∧ k ≤ 3) ∧ 0 ≤ d ∧ d ≤ 9999) ∧ (0 ≤ l ∧ l ≤ m ∧ m ≤ 1000000) ∧ σ 41 11 < 120) : Inv (gUp (gUp (gUp (gUp (gUp (gUp (gUp (gUp (gUp (gUp (gUp (gUp (gUp (gUp (gUp (gUp (gUp (gUp (gUp (gUp (gUp (gUp (gUp σ 42 (σ 41 11) a) 43 (σ 41 11) b) 44 (σ 41 11) k) 45 (σ 41 11) d) 49 (σ 41 11) (σ 0 4)) 50 (σ 41 11) (-1)) 52 (σ 41 11) (-1)) 41 11 (σ 41 11 + 1)) 46 (σ 41 11) f) 47 (σ 41 11) l) 48 (σ 41 11) m) 133 0 0) 153 (σ 41 11) a) 154 (σ 41 11) b) 155 (σ 41 11) k) 156 (σ 41 11) d) 163 (σ 41 11) f) 157 (σ 41 11) l) 158 (σ 41 11) m) 159 (σ 41 11) (σ 0 4)) 160 (σ 41 11) (-1)) 162 (σ 41 11) (-1)) 133 42 ((σ 41 11) + 1)) := by
  refine ⟨⟨⟨hI.f.day, hI.f.tape, hI.f.outs, hI.f.party, hI.f.own, hI.f.kin, hI.f.post, ?_, ?_, hI.f.mem, hI.f.mat, hI.f.vote, hI.f.ent⟩, hI.law, hI.ord⟩, hI.2.1, hI.mod⟩
  · have hS := hI.f.gift
    refine ⟨?_, ?_, ?_, fun i h0 h1 => ?_⟩
    · exact rfl
    · show 0 ≤ σ 41 11 + 1
      have := hS.2.1
      omega
    · show σ 41 11 + 1 ≤ 120
      omega
    · have h2 : i < σ 41 11 + 1 := h1
      show ((if i = σ 41 11 then a else σ 153 i) = (if i = σ 41 11 then a else σ 42 i) ∧ (if i = σ 41 11 then b else σ 154 i) = (if i = σ 41 11 then b else σ 43 i) ∧ (if i = σ 41 11 then k else σ 155 i) = (if i = σ 41 11 then k else σ 44 i) ∧ (if i = σ 41 11 then d else σ 156 i) = (if i = σ 41 11 then d else σ 45 i) ∧ (if i = σ 41 11 then f else σ 163 i) = (if i = σ 41 11 then f else σ 46 i) ∧ (if i = σ 41 11 then l else σ 157 i) = (if i = σ 41 11 then l else σ 47 i) ∧ (if i = σ 41 11 then m else σ 158 i) = (if i = σ 41 11 then m else σ 48 i) ∧ (if i = σ 41 11 then σ 0 4 else σ 159 i) = (if i = σ 41 11 then σ 0 4 else σ 49 i) ∧ (if i = σ 41 11 then -1 else σ 160 i) = (if i = σ 41 11 then -1 else σ 50 i) ∧ ((if i = σ 41 11 then -1 else σ 50 i) ≠ -1 → (σ 161 i) = (σ 51 i)) ∧ (if i = σ 41 11 then -1 else σ 162 i) = (if i = σ 41 11 then -1 else σ 52 i)) ∧ isP σ ((if i = σ 41 11 then a else σ 42 i)) ∧ isPe σ ((if i = σ 41 11 then b else σ 43 i)) ∧ (if i = σ 41 11 then a else σ 42 i) ≠ (if i = σ 41 11 then b else σ 43 i) ∧ 0 ≤ (if i = σ 41 11 then k else σ 44 i) ∧ (if i = σ 41 11 then k else σ 44 i) ≤ 3 ∧ isDy ((if i = σ 41 11 then d else σ 45 i)) ∧ ((if i = σ 41 11 then f else σ 46 i) = 0 ∨ (if i = σ 41 11 then f else σ 46 i) = 1) ∧ isWo ((if i = σ 41 11 then l else σ 47 i)) ((if i = σ 41 11 then m else σ 48 i)) ∧ isDy ((if i = σ 41 11 then σ 0 4 else σ 49 i)) ∧ ((if i = σ 41 11 then -1 else σ 50 i) = -1 ∨ (isDy ((if i = σ 41 11 then -1 else σ 50 i)) ∧ isDy ((σ 51 i)))) ∧ ((if i = σ 41 11 then -1 else σ 52 i) = -1 ∨ isDy ((if i = σ 41 11 then -1 else σ 52 i)))
      by_cases hi : i = σ 41 11
      · simp only [if_pos hi]
        exact ⟨⟨trivial, trivial, trivial, trivial, trivial, trivial, trivial, trivial, trivial, by first | trivial | exact fun h => absurd rfl h, trivial⟩, hP.1.1, hP.1.2.1, hP.1.2.2, hP.2.1.1.1, hP.2.1.1.2, hP.2.1.2, hf, hP.2.2.1, hI.f.day.2, .inl trivial, .inl trivial⟩
      · simp only [if_neg hi]
        exact hS.2.2.2 i h0 (by omega)
  · have hS := hI.f.worth
    refine ⟨hS.1, hS.2.1, hS.2.2.1, fun i h0 h1 => ?_⟩
    obtain ⟨a1, a2, a3, a4, a5, a6, a7⟩ := hS.2.2.2 i h0 h1
    exact ⟨a1, a2, a3, a4, a5, by show σ 53 i < σ 41 11 + 1; omega, a7⟩
theorem ci_gift2 (a b k d f l m : Int) (hf : f = 0 ∨ f = 1) : CI Inv mX11_gift mX12_gift [gI a, gI b, gI k, gI d, gI f, gI l, gI m] := CI_reg (fun σ => ((0 ≤ a ∧ a < σ 3 2) ∧ ((0 ≤ b ∧ b < σ 3 2) ∧ σ 4 b = 0) ∧ a ≠ b) ∧ ((0 ≤ k ∧ k ≤ 3) ∧ 0 ≤ d ∧ d ≤ 9999) ∧ (0 ≤ l ∧ l ≤ m ∧ m ≤ 1000000) ∧ σ 41 11 < 120) (fun σ => σ 41 11) (fun σ => if ((0 ≤ a ∧ a < σ 3 2) ∧ ((0 ≤ b ∧ b < σ 3 2) ∧ σ 4 b = 0) ∧ a ≠ b) then if ((0 ≤ k ∧ k ≤ 3) ∧ 0 ≤ d ∧ d ≤ 9999) then if (0 ≤ l ∧ l ≤ m ∧ m ≤ 1000000) then -5 else -4 else -3 else -2) (fun σ => gUp (gUp (gUp (gUp (gUp (gUp (gUp (gUp (gUp (gUp (gUp σ 42 (σ 41 11) a) 43 (σ 41 11) b) 44 (σ 41 11) k) 45 (σ 41 11) d) 49 (σ 41 11) (σ 0 4)) 50 (σ 41 11) (-1)) 52 (σ 41 11) (-1)) 41 11 (σ 41 11 + 1)) 46 (σ 41 11) f) 47 (σ 41 11) l) 48 (σ 41 11) m) (fun σ => σ) (fun σ => gUp (gUp (gUp (gUp (gUp (gUp (gUp (gUp (gUp (gUp (gUp (gUp (gUp (gUp (gUp (gUp (gUp (gUp (gUp (gUp (gUp (gUp (gUp σ 42 (σ 41 11) a) 43 (σ 41 11) b) 44 (σ 41 11) k) 45 (σ 41 11) d) 49 (σ 41 11) (σ 0 4)) 50 (σ 41 11) (-1)) 52 (σ 41 11) (-1)) 41 11 (σ 41 11 + 1)) 46 (σ 41 11) f) 47 (σ 41 11) l) 48 (σ 41 11) m) 133 0 0) 153 (σ 41 11) a) 154 (σ 41 11) b) 155 (σ 41 11) k) 156 (σ 41 11) d) 163 (σ 41 11) f) 157 (σ 41 11) l) 158 (σ 41 11) m) 159 (σ 41 11) (σ 0 4)) 160 (σ 41 11) (-1)) 162 (σ 41 11) (-1)) 133 42 ((σ 41 11) + 1)) (fun σ => gUp σ 133 0 0) (fun σ hI => x_gift2 hI a b k d f l m hf) (fun σ hI hP => m_gift2T hI a b k d f l m hf hP) (fun σ hI hP => m_gift2F hI a b k d f l m hf hP) (fun σ hI hP => i_gift2 hI a b k d f l m hf hP) (fun σ hI _ => hI.thrown)
theorem k_lastFault (σ : gH) : Mt mX5_lastFault 0 [gR 57] σ (rE (gI (σ 57 3)) σ) := by
  refine Mt.walk (ls := [gR 57]) pn_X5 rfl (fun _ _ h => by cases h.1) (Nat.le_of_ble_eq_true rfl) rfl ?_
  refine w_aload_n (pc' := 1) (i := 0) (by rfl) (by rfl) dX5_lastFault_0 rfl ?_
  refine v_getI (pc' := 4) (ji := 3) rfl fg_X5_40 kd_57 dX5_lastFault_1 rfl ?_
  refine v_ireturn rfl dX5_lastFault_4 ?_
  exact ⟨rfl, rfl⟩
theorem k_pTotal (σ : gH) : Mt mX8_total 0 [gR 3] σ (rE (gI (σ 3 2)) σ) := by
  refine Mt.walk (ls := [gR 3]) pn_X8 rfl (fun _ _ h => by cases h.1) (Nat.le_of_ble_eq_true rfl) rfl ?_
  refine w_aload_n (pc' := 1) (i := 0) (by rfl) (by rfl) dX8_total_0 rfl ?_
  refine v_getI (pc' := 4) (ji := 2) rfl fg_X8_37 kd_3 dX8_total_1 rfl ?_
  refine v_ireturn rfl dX8_total_4 ?_
  exact ⟨rfl, rfl⟩
theorem k_kTotal (σ : gH) : Mt mX8_totalKin 1 [gR 3] σ (rE (gI (σ 6 6)) σ) := by
  refine Mt.walk (ls := [gR 3]) pn_X8 rfl (fun _ _ h => by cases h.1) (Nat.le_of_ble_eq_true rfl) rfl ?_
  refine w_aload_n (pc' := 1) (i := 0) (by rfl) (by rfl) dX8_totalKin_0 rfl ?_
  refine w_getS (pc' := 4) (q := 6) fg_X8_24 kd_3 sf_X8_3 gr_3_3 dX8_totalKin_1 rfl ?_
  refine v_callVE (pc' := 7) (st' := [gI (σ 6 6)]) (d' := 0) (av := []) mi_mX9_total lk_X8_55 rfl ci_X9 kd_6 rfl (Nat.le_of_ble_eq_true rfl) (Nat.le_of_ble_eq_true rfl) dX8_totalKin_4 rfl rfl (sp_total sp_6 σ) ?_
  refine v_ireturn rfl dX8_totalKin_7 ?_
  exact ⟨rfl, rfl⟩
theorem k_oTotal (σ : gH) : Mt mX7_total 1 [gR 14] σ (rE (gI (σ 15 6)) σ) := by
  refine Mt.walk (ls := [gR 14]) pn_X7 rfl (fun _ _ h => by cases h.1) (Nat.le_of_ble_eq_true rfl) rfl ?_
  refine w_aload_n (pc' := 1) (i := 0) (by rfl) (by rfl) dX7_total_0 rfl ?_
  refine w_getS (pc' := 4) (q := 15) fg_X7_14 kd_14 sf_X7_0 gr_14_0 dX7_total_1 rfl ?_
  refine v_callVE (pc' := 7) (st' := [gI (σ 15 6)]) (d' := 0) (av := []) mi_mX9_total lk_X7_53 rfl ci_X9 kd_15 rfl (Nat.le_of_ble_eq_true rfl) (Nat.le_of_ble_eq_true rfl) dX7_total_4 rfl rfl (sp_total sp_15 σ) ?_
  refine v_ireturn rfl dX7_total_7 ?_
  exact ⟨rfl, rfl⟩
theorem k_lTotal (σ : gH) : Mt mX5_total 0 [gR 57] σ (rE (gI (σ 57 2)) σ) := by
  refine Mt.walk (ls := [gR 57]) pn_X5 rfl (fun _ _ h => by cases h.1) (Nat.le_of_ble_eq_true rfl) rfl ?_
  refine w_aload_n (pc' := 1) (i := 0) (by rfl) (by rfl) dX5_total_0 rfl ?_
  refine v_getI (pc' := 4) (ji := 2) rfl fg_X5_36 kd_57 dX5_total_1 rfl ?_
  refine v_ireturn rfl dX5_total_4 ?_
  exact ⟨rfl, rfl⟩
theorem k_mTotal (σ : gH) : Mt mX1_totalMatters 0 [gR 125] σ (rE (gI (σ 125 5)) σ) := by
  refine Mt.walk (ls := [gR 125]) pn_X1 rfl (fun _ _ h => by cases h.1) (Nat.le_of_ble_eq_true rfl) rfl ?_
  refine w_aload_n (pc' := 1) (i := 0) (by rfl) (by rfl) dX1_totalMatters_0 rfl ?_
  refine v_getI (pc' := 4) (ji := 5) rfl fg_X1_42 kd_125 dX1_totalMatters_1 rfl ?_
  refine v_ireturn rfl dX1_totalMatters_4 ?_
  exact ⟨rfl, rfl⟩
theorem k_vTotal (σ : gH) : Mt mX1_totalVotes 0 [gR 125] σ (rE (gI (σ 125 10)) σ) := by
  refine Mt.walk (ls := [gR 125]) pn_X1 rfl (fun _ _ h => by cases h.1) (Nat.le_of_ble_eq_true rfl) rfl ?_
  refine w_aload_n (pc' := 1) (i := 0) (by rfl) (by rfl) dX1_totalVotes_0 rfl ?_
  refine v_getI (pc' := 4) (ji := 10) rfl fg_X1_45 kd_125 dX1_totalVotes_1 rfl ?_
  refine v_ireturn rfl dX1_totalVotes_4 ?_
  exact ⟨rfl, rfl⟩
theorem k_cTotal (σ : gH) : Mt mX1_totalMembers 0 [gR 125] σ (rE (gI (σ 125 2)) σ) := by
  refine Mt.walk (ls := [gR 125]) pn_X1 rfl (fun _ _ h => by cases h.1) (Nat.le_of_ble_eq_true rfl) rfl ?_
  refine w_aload_n (pc' := 1) (i := 0) (by rfl) (by rfl) dX1_totalMembers_0 rfl ?_
  refine v_getI (pc' := 4) (ji := 2) rfl fg_X1_38 kd_125 dX1_totalMembers_1 rfl ?_
  refine v_ireturn rfl dX1_totalMembers_4 ?_
  exact ⟨rfl, rfl⟩
theorem k_eTotal (σ : gH) : Mt mX6_total 0 [gR 112] σ (rE (gI (σ 112 8)) σ) := by
  refine Mt.walk (ls := [gR 112]) pn_X6 rfl (fun _ _ h => by cases h.1) (Nat.le_of_ble_eq_true rfl) rfl ?_
  refine w_aload_n (pc' := 1) (i := 0) (by rfl) (by rfl) dX6_total_0 rfl ?_
  refine v_getI (pc' := 4) (ji := 8) rfl fg_X6_61 kd_112 dX6_total_1 rfl ?_
  refine v_ireturn rfl dX6_total_4 ?_
  exact ⟨rfl, rfl⟩
theorem x_fault {σ0 : gH} (hI : Inv σ0)  : Mt mX11_fault 30 [gR 0] σ0 (fun v σ' => v = gI (σ0 57 3) ∧ QC σ0 σ') := by
  refine Mt.walk (ls := [gR 0]) pn_X11 rfl (fun _ _ h => by cases h.1) (Nat.le_of_ble_eq_true rfl) rfl ?_
  refine w_aload_n (pc' := 1) (i := 0) (by rfl) (by rfl) dX11_fault_0 rfl ?_
  refine w_getS (pc' := 4) (q := 57) fg_X11_58 kd_0 sf_X11_10 gr_0_10 dX11_fault_1 rfl ?_
  refine v_callVE (pc' := 7) (st' := [gI (σ0 57 3)]) (d' := 0) (av := []) mi_mX5_lastFault lk_X11_164 rfl ci_X5 kd_57 rfl (Nat.le_of_ble_eq_true rfl) (Nat.le_of_ble_eq_true rfl) dX11_fault_4 rfl rfl (hmP (F := fun z => gI (z 57 3)) ((QC.refl hI).1) (fun _ => rfl) (k_lastFault σ0)) ?_
  refine v_ireturn rfl dX11_fault_7 ?_
  exact ⟨rfl, QC.refl hI⟩
theorem m_fault {σ0 : gH} (hI : Inv σ0)  : Mt mX12_fault 30 [gR 133] σ0 (fun v σ' => v = gI (σ0 57 3) ∧ QM σ0 σ') := by
  refine Mt.walk (ls := [gR 133]) pn_X12 rfl (fun _ _ h => by cases h.1) (Nat.le_of_ble_eq_true rfl) rfl ?_
  refine w_aload_n (pc' := 1) (i := 0) (by rfl) (by rfl) dX12_fault_0 rfl ?_
  refine w_iconst (pc' := 2) (by decide) dX12_fault_1 rfl ?_
  refine v_putI (pc' := 5) (ji := 0) rfl fp_X12_244 kd_133 sf_X12_0 dX12_fault_2 rfl ?_
  refine w_aload_n (pc' := 6) (i := 0) (by rfl) (by rfl) dX12_fault_5 rfl ?_
  refine v_getI (pc' := 9) (ji := 60) rfl fg_X12_403 kd_133 dX12_fault_6 rfl ?_
  show Wp _ _ _ _ _ _ [gI (σ0 133 60)]
  rw [hI.f60]
  refine v_ireturn rfl dX12_fault_9 ?_
  exact ⟨rfl, QM.up (QM.refl hI) (by decide) (fun h => h)⟩
theorem ci_fault  : CI Inv mX11_fault mX12_fault [] := CI_query (fun σ0 => σ0 57 3) (fun σ0 hI => x_fault hI ) (fun σ0 hI => m_fault hI ) (fun _ => rfl)
theorem x_count {σ0 : gH} (hI : Inv σ0) (w : Int) : Mt mX11_count 30 [gR 0, gI w] σ0 (fun v σ' => v = gI (if w = 0 then σ0 0 4 else if w = 1 then σ0 3 2 else if w = 2 then σ0 15 6 else if w = 3 then σ0 6 6 else if w = 4 then σ0 34 6 else if w = 5 then σ0 41 11 else if w = 6 then σ0 57 2 else if w = 7 then σ0 125 5 else if w = 8 then σ0 112 8 else if w = 9 then σ0 125 10 else if w = 10 then σ0 125 2 else if w = 11 then σ0 0 1 else if w = 12 then σ0 0 3 else -1) ∧ QC σ0 σ') := by
  refine Mt.walk (ls := [gR 0, gI w]) pn_X11 rfl (fun _ _ h => by cases h.1) (Nat.le_of_ble_eq_true rfl) rfl ?_
  have hz := hI.f.hz
  refine w_iload_n (pc' := 1) (i := 1) (by rfl) (by rfl) dX11_count_0 rfl ?_
  by_cases c_1 : w < 0 ∨ 12 < w
  · refine w_tableOut (pc' := 163) dX11_count_1 c_1 rfl ?_
    refine w_iconst (pc' := 164) (by decide) dX11_count_163 rfl ?_
    refine v_ireturn rfl dX11_count_164 ?_
    exact ⟨(congrArg gI (by (repeat' split) <;> omega)), QC.refl hI⟩
  · rcases (show w = 0 ∨ w = 1 ∨ w = 2 ∨ w = 3 ∨ w = 4 ∨ w = 5 ∨ w = 6 ∨ w = 7 ∨ w = 8 ∨ w = 9 ∨ w = 10 ∨ w = 11 ∨ w = 12 by omega) with c_1 | c_1 | c_1 | c_1 | c_1 | c_1 | c_1 | c_1 | c_1 | c_1 | c_1 | c_1 | c_1
    · refine w_tableIn (pc' := 68) (off := 67) dX11_count_1 (by omega) (by omega) (by rw [c_1]; rfl) rfl ?_
      refine w_aload_n (pc' := 69) (i := 0) (by rfl) (by rfl) dX11_count_68 rfl ?_
      refine v_getI (pc' := 72) (ji := 4) rfl fg_X11_96 kd_0 dX11_count_69 rfl ?_
      refine v_ireturn rfl dX11_count_72 ?_
      exact ⟨(congrArg gI (by (repeat' split) <;> omega)), QC.refl hI⟩
    · refine w_tableIn (pc' := 73) (off := 72) dX11_count_1 (by omega) (by omega) (by rw [c_1]; rfl) rfl ?_
      refine w_aload_n (pc' := 74) (i := 0) (by rfl) (by rfl) dX11_count_73 rfl ?_
      refine w_getS (pc' := 77) (q := 3) fg_X11_21 kd_0 sf_X11_5 gr_0_5 dX11_count_74 rfl ?_
      refine v_callVE (pc' := 80) (st' := [gI (σ0 3 2)]) (d' := 0) (av := []) mi_mX8_total lk_X11_270 rfl ci_X8 kd_3 rfl (Nat.le_of_ble_eq_true rfl) (Nat.le_of_ble_eq_true rfl) dX11_count_77 rfl rfl (hmP (F := fun z => gI (z 3 2)) ((QC.refl hI).1) (fun _ => rfl) (k_pTotal σ0)) ?_
      refine v_ireturn rfl dX11_count_80 ?_
      exact ⟨(congrArg gI (by (repeat' split) <;> omega)), QC.refl hI⟩
    · refine w_tableIn (pc' := 81) (off := 80) dX11_count_1 (by omega) (by omega) (by rw [c_1]; rfl) rfl ?_
      refine w_aload_n (pc' := 82) (i := 0) (by rfl) (by rfl) dX11_count_81 rfl ?_
      refine w_getS (pc' := 85) (q := 14) fg_X11_28 kd_0 sf_X11_6 gr_0_6 dX11_count_82 rfl ?_
      refine v_callVE (pc' := 88) (st' := [gI (σ0 15 6)]) (d' := 1) (av := []) mi_mX7_total lk_X11_273 rfl ci_X7 kd_14 rfl (Nat.le_of_ble_eq_true rfl) (Nat.le_of_ble_eq_true rfl) dX11_count_85 rfl rfl (hmP (F := fun z => gI (z 15 6)) ((QC.refl hI).1) (fun _ => rfl) (k_oTotal σ0)) ?_
      refine v_ireturn rfl dX11_count_88 ?_
      exact ⟨(congrArg gI (by (repeat' split) <;> omega)), QC.refl hI⟩
    · refine w_tableIn (pc' := 89) (off := 88) dX11_count_1 (by omega) (by omega) (by rw [c_1]; rfl) rfl ?_
      refine w_aload_n (pc' := 90) (i := 0) (by rfl) (by rfl) dX11_count_89 rfl ?_
      refine w_getS (pc' := 93) (q := 3) fg_X11_21 kd_0 sf_X11_5 gr_0_5 dX11_count_90 rfl ?_
      refine v_callVE (pc' := 96) (st' := [gI (σ0 6 6)]) (d' := 1) (av := []) mi_mX8_totalKin lk_X11_274 rfl ci_X8 kd_3 rfl (Nat.le_of_ble_eq_true rfl) (Nat.le_of_ble_eq_true rfl) dX11_count_93 rfl rfl (hmP (F := fun z => gI (z 6 6)) ((QC.refl hI).1) (fun _ => rfl) (k_kTotal σ0)) ?_
      refine v_ireturn rfl dX11_count_96 ?_
      exact ⟨(congrArg gI (by (repeat' split) <;> omega)), QC.refl hI⟩
    · refine w_tableIn (pc' := 97) (off := 96) dX11_count_1 (by omega) (by omega) (by rw [c_1]; rfl) rfl ?_
      refine w_aload_n (pc' := 98) (i := 0) (by rfl) (by rfl) dX11_count_97 rfl ?_
      refine w_getS (pc' := 101) (q := 34) fg_X11_44 kd_0 sf_X11_8 gr_0_8 dX11_count_98 rfl ?_
      refine v_callVE (pc' := 104) (st' := [gI (σ0 34 6)]) (d' := 0) (av := []) mi_mX9_total lk_X11_277 rfl ci_X9 kd_34 rfl (Nat.le_of_ble_eq_true rfl) (Nat.le_of_ble_eq_true rfl) dX11_count_101 rfl rfl (hmP (F := fun z => gI (z 34 6)) ((QC.refl hI).1) (fun _ => rfl) (sp_total sp_34 σ0)) ?_
      refine v_ireturn rfl dX11_count_104 ?_
      exact ⟨(congrArg gI (by (repeat' split) <;> omega)), QC.refl hI⟩
    · refine w_tableIn (pc' := 105) (off := 104) dX11_count_1 (by omega) (by omega) (by rw [c_1]; rfl) rfl ?_
      refine w_aload_n (pc' := 106) (i := 0) (by rfl) (by rfl) dX11_count_105 rfl ?_
      refine w_getS (pc' := 109) (q := 41) fg_X11_51 kd_0 sf_X11_9 gr_0_9 dX11_count_106 rfl ?_
      refine v_callVE (pc' := 112) (st' := [gI (σ0 41 11)]) (d' := 0) (av := []) mi_mX2_total lk_X11_278 rfl ci_X2 kd_41 rfl (Nat.le_of_ble_eq_true rfl) (Nat.le_of_ble_eq_true rfl) dX11_count_109 rfl rfl (hmP (F := fun z => gI (z 41 11)) ((QC.refl hI).1) (fun _ => rfl) (g_total σ0 (hm_FA ((QC.refl hI).1) hI.1).1.hz)) ?_
      refine v_ireturn rfl dX11_count_112 ?_
      exact ⟨(congrArg gI (by (repeat' split) <;> omega)), QC.refl hI⟩
    · refine w_tableIn (pc' := 113) (off := 112) dX11_count_1 (by omega) (by omega) (by rw [c_1]; rfl) rfl ?_
      refine w_aload_n (pc' := 114) (i := 0) (by rfl) (by rfl) dX11_count_113 rfl ?_
      refine w_getS (pc' := 117) (q := 57) fg_X11_58 kd_0 sf_X11_10 gr_0_10 dX11_count_114 rfl ?_
      refine v_callVE (pc' := 120) (st' := [gI (σ0 57 2)]) (d' := 0) (av := []) mi_mX5_total lk_X11_279 rfl ci_X5 kd_57 rfl (Nat.le_of_ble_eq_true rfl) (Nat.le_of_ble_eq_true rfl) dX11_count_117 rfl rfl (hmP (F := fun z => gI (z 57 2)) ((QC.refl hI).1) (fun _ => rfl) (k_lTotal σ0)) ?_
      refine v_ireturn rfl dX11_count_120 ?_
      exact ⟨(congrArg gI (by (repeat' split) <;> omega)), QC.refl hI⟩
    · refine w_tableIn (pc' := 121) (off := 120) dX11_count_1 (by omega) (by omega) (by rw [c_1]; rfl) rfl ?_
      refine w_aload_n (pc' := 122) (i := 0) (by rfl) (by rfl) dX11_count_121 rfl ?_
      refine w_getS (pc' := 125) (q := 125) fg_X11_85 kd_0 sf_X11_13 gr_0_13 dX11_count_122 rfl ?_
      refine v_callVE (pc' := 128) (st' := [gI (σ0 125 5)]) (d' := 0) (av := []) mi_mX1_totalMatters lk_X11_280 rfl ci_X1 kd_125 rfl (Nat.le_of_ble_eq_true rfl) (Nat.le_of_ble_eq_true rfl) dX11_count_125 rfl rfl (hmP (F := fun z => gI (z 125 5)) ((QC.refl hI).1) (fun _ => rfl) (k_mTotal σ0)) ?_
      refine v_ireturn rfl dX11_count_128 ?_
      exact ⟨(congrArg gI (by (repeat' split) <;> omega)), QC.refl hI⟩
    · refine w_tableIn (pc' := 129) (off := 128) dX11_count_1 (by omega) (by omega) (by rw [c_1]; rfl) rfl ?_
      refine w_aload_n (pc' := 130) (i := 0) (by rfl) (by rfl) dX11_count_129 rfl ?_
      refine w_getS (pc' := 133) (q := 112) fg_X11_76 kd_0 sf_X11_12 gr_0_12 dX11_count_130 rfl ?_
      refine v_callVE (pc' := 136) (st' := [gI (σ0 112 8)]) (d' := 0) (av := []) mi_mX6_total lk_X11_283 rfl ci_X6 kd_112 rfl (Nat.le_of_ble_eq_true rfl) (Nat.le_of_ble_eq_true rfl) dX11_count_133 rfl rfl (hmP (F := fun z => gI (z 112 8)) ((QC.refl hI).1) (fun _ => rfl) (k_eTotal σ0)) ?_
      refine v_ireturn rfl dX11_count_136 ?_
      exact ⟨(congrArg gI (by (repeat' split) <;> omega)), QC.refl hI⟩
    · refine w_tableIn (pc' := 137) (off := 136) dX11_count_1 (by omega) (by omega) (by rw [c_1]; rfl) rfl ?_
      refine w_aload_n (pc' := 138) (i := 0) (by rfl) (by rfl) dX11_count_137 rfl ?_
      refine w_getS (pc' := 141) (q := 125) fg_X11_85 kd_0 sf_X11_13 gr_0_13 dX11_count_138 rfl ?_
      refine v_callVE (pc' := 144) (st' := [gI (σ0 125 10)]) (d' := 0) (av := []) mi_mX1_totalVotes lk_X11_284 rfl ci_X1 kd_125 rfl (Nat.le_of_ble_eq_true rfl) (Nat.le_of_ble_eq_true rfl) dX11_count_141 rfl rfl (hmP (F := fun z => gI (z 125 10)) ((QC.refl hI).1) (fun _ => rfl) (k_vTotal σ0)) ?_
      refine v_ireturn rfl dX11_count_144 ?_
      exact ⟨(congrArg gI (by (repeat' split) <;> omega)), QC.refl hI⟩
    · refine w_tableIn (pc' := 145) (off := 144) dX11_count_1 (by omega) (by omega) (by rw [c_1]; rfl) rfl ?_
      refine w_aload_n (pc' := 146) (i := 0) (by rfl) (by rfl) dX11_count_145 rfl ?_
      refine w_getS (pc' := 149) (q := 125) fg_X11_85 kd_0 sf_X11_13 gr_0_13 dX11_count_146 rfl ?_
      refine v_callVE (pc' := 152) (st' := [gI (σ0 125 2)]) (d' := 0) (av := []) mi_mX1_totalMembers lk_X11_287 rfl ci_X1 kd_125 rfl (Nat.le_of_ble_eq_true rfl) (Nat.le_of_ble_eq_true rfl) dX11_count_149 rfl rfl (hmP (F := fun z => gI (z 125 2)) ((QC.refl hI).1) (fun _ => rfl) (k_cTotal σ0)) ?_
      refine v_ireturn rfl dX11_count_152 ?_
      exact ⟨(congrArg gI (by (repeat' split) <;> omega)), QC.refl hI⟩
    · refine w_tableIn (pc' := 153) (off := 152) dX11_count_1 (by omega) (by omega) (by rw [c_1]; rfl) rfl ?_
      refine w_aload_n (pc' := 154) (i := 0) (by rfl) (by rfl) dX11_count_153 rfl ?_
      refine v_getI (pc' := 157) (ji := 1) rfl fg_X11_89 kd_0 dX11_count_154 rfl ?_
      refine v_ireturn rfl dX11_count_157 ?_
      exact ⟨(congrArg gI (by (repeat' split) <;> omega)), QC.refl hI⟩
    · refine w_tableIn (pc' := 158) (off := 157) dX11_count_1 (by omega) (by omega) (by rw [c_1]; rfl) rfl ?_
      refine w_aload_n (pc' := 159) (i := 0) (by rfl) (by rfl) dX11_count_158 rfl ?_
      refine v_getI (pc' := 162) (ji := 3) rfl fg_X11_182 kd_0 dX11_count_159 rfl ?_
      refine v_ireturn rfl dX11_count_162 ?_
      exact ⟨(congrArg gI (by (repeat' split) <;> omega)), QC.refl hI⟩
theorem m_count {σ0 : gH} (hI : Inv σ0) (w : Int) : Mt mX12_count 30 [gR 133, gI w] σ0 (fun v σ' => v = gI (if w = 0 then σ0 0 4 else if w = 1 then σ0 3 2 else if w = 2 then σ0 15 6 else if w = 3 then σ0 6 6 else if w = 4 then σ0 34 6 else if w = 5 then σ0 41 11 else if w = 6 then σ0 57 2 else if w = 7 then σ0 125 5 else if w = 8 then σ0 112 8 else if w = 9 then σ0 125 10 else if w = 10 then σ0 125 2 else if w = 11 then σ0 0 1 else if w = 12 then σ0 0 3 else -1) ∧ QM σ0 σ') := by
  refine Mt.walk (ls := [gR 133, gI w]) pn_X12 rfl (fun _ _ h => by cases h.1) (Nat.le_of_ble_eq_true rfl) rfl ?_
  refine w_aload_n (pc' := 1) (i := 0) (by rfl) (by rfl) dX12_count_0 rfl ?_
  refine w_iconst (pc' := 2) (by decide) dX12_count_1 rfl ?_
  refine v_putI (pc' := 5) (ji := 0) rfl fp_X12_244 kd_133 sf_X12_0 dX12_count_2 rfl ?_
  refine w_iload_n (pc' := 6) (i := 1) (by rfl) (by rfl) dX12_count_5 rfl ?_
  by_cases c_6 : w < 0 ∨ 12 < w
  · refine w_tableOut (pc' := 137) dX12_count_6 c_6 rfl ?_
    refine w_iconst (pc' := 138) (by decide) dX12_count_137 rfl ?_
    refine v_ireturn rfl dX12_count_138 ?_
    exact ⟨(congrArg gI (by (repeat' split) <;> omega)), QM.up (QM.refl hI) (by decide) (fun h => h)⟩
  · rcases (show w = 0 ∨ w = 1 ∨ w = 2 ∨ w = 3 ∨ w = 4 ∨ w = 5 ∨ w = 6 ∨ w = 7 ∨ w = 8 ∨ w = 9 ∨ w = 10 ∨ w = 11 ∨ w = 12 by omega) with c_6 | c_6 | c_6 | c_6 | c_6 | c_6 | c_6 | c_6 | c_6 | c_6 | c_6 | c_6 | c_6
    · refine w_tableIn (pc' := 72) (off := 66) dX12_count_6 (by omega) (by omega) (by rw [c_6]; rfl) rfl ?_
      refine w_aload_n (pc' := 73) (i := 0) (by rfl) (by rfl) dX12_count_72 rfl ?_
      refine v_getI (pc' := 76) (ji := 3) rfl fg_X12_258 kd_133 dX12_count_73 rfl ?_
      show Wp _ _ _ _ _ _ [gI (σ0 133 3)]
      rw [hI.f3]
      refine v_ireturn rfl dX12_count_76 ?_
      exact ⟨(congrArg gI (by (repeat' split) <;> omega)), QM.up (QM.refl hI) (by decide) (fun h => h)⟩
    · refine w_tableIn (pc' := 77) (off := 71) dX12_count_6 (by omega) (by omega) (by rw [c_6]; rfl) rfl ?_
      refine w_aload_n (pc' := 78) (i := 0) (by rfl) (by rfl) dX12_count_77 rfl ?_
      refine v_getI (pc' := 81) (ji := 6) rfl fg_X12_273 kd_133 dX12_count_78 rfl ?_
      show Wp _ _ _ _ _ _ [gI (σ0 133 6)]
      rw [hI.f6]
      refine v_ireturn rfl dX12_count_81 ?_
      exact ⟨(congrArg gI (by (repeat' split) <;> omega)), QM.up (QM.refl hI) (by decide) (fun h => h)⟩
    · refine w_tableIn (pc' := 82) (off := 76) dX12_count_6 (by omega) (by omega) (by rw [c_6]; rfl) rfl ?_
      refine w_aload_n (pc' := 83) (i := 0) (by rfl) (by rfl) dX12_count_82 rfl ?_
      refine v_getI (pc' := 86) (ji := 14) rfl fg_X12_283 kd_133 dX12_count_83 rfl ?_
      show Wp _ _ _ _ _ _ [gI (σ0 133 14)]
      rw [hI.f14]
      refine v_ireturn rfl dX12_count_86 ?_
      exact ⟨(congrArg gI (by (repeat' split) <;> omega)), QM.up (QM.refl hI) (by decide) (fun h => h)⟩
    · refine w_tableIn (pc' := 87) (off := 81) dX12_count_6 (by omega) (by omega) (by rw [c_6]; rfl) rfl ?_
      refine w_aload_n (pc' := 88) (i := 0) (by rfl) (by rfl) dX12_count_87 rfl ?_
      refine v_getI (pc' := 91) (ji := 25) rfl fg_X12_302 kd_133 dX12_count_88 rfl ?_
      show Wp _ _ _ _ _ _ [gI (σ0 133 25)]
      rw [hI.f25]
      refine v_ireturn rfl dX12_count_91 ?_
      exact ⟨(congrArg gI (by (repeat' split) <;> omega)), QM.up (QM.refl hI) (by decide) (fun h => h)⟩
    · refine w_tableIn (pc' := 92) (off := 86) dX12_count_6 (by omega) (by omega) (by rw [c_6]; rfl) rfl ?_
      refine w_aload_n (pc' := 93) (i := 0) (by rfl) (by rfl) dX12_count_92 rfl ?_
      refine v_getI (pc' := 96) (ji := 26) rfl fg_X12_305 kd_133 dX12_count_93 rfl ?_
      show Wp _ _ _ _ _ _ [gI (σ0 133 26)]
      rw [hI.f26]
      refine v_ireturn rfl dX12_count_96 ?_
      exact ⟨(congrArg gI (by (repeat' split) <;> omega)), QM.up (QM.refl hI) (by decide) (fun h => h)⟩
    · refine w_tableIn (pc' := 97) (off := 91) dX12_count_6 (by omega) (by omega) (by rw [c_6]; rfl) rfl ?_
      refine w_aload_n (pc' := 98) (i := 0) (by rfl) (by rfl) dX12_count_97 rfl ?_
      refine v_getI (pc' := 101) (ji := 42) rfl fg_X12_313 kd_133 dX12_count_98 rfl ?_
      show Wp _ _ _ _ _ _ [gI (σ0 133 42)]
      rw [hI.f42]
      refine v_ireturn rfl dX12_count_101 ?_
      exact ⟨(congrArg gI (by (repeat' split) <;> omega)), QM.up (QM.refl hI) (by decide) (fun h => h)⟩
    · refine w_tableIn (pc' := 102) (off := 96) dX12_count_6 (by omega) (by omega) (by rw [c_6]; rfl) rfl ?_
      refine w_aload_n (pc' := 103) (i := 0) (by rfl) (by rfl) dX12_count_102 rfl ?_
      refine v_getI (pc' := 106) (ji := 77) rfl fg_X12_494 kd_133 dX12_count_103 rfl ?_
      show Wp _ _ _ _ _ _ [gI (σ0 133 77)]
      rw [hI.f77]
      refine v_ireturn rfl dX12_count_106 ?_
      exact ⟨(congrArg gI (by (repeat' split) <;> omega)), QM.up (QM.refl hI) (by decide) (fun h => h)⟩
    · refine w_tableIn (pc' := 107) (off := 101) dX12_count_6 (by omega) (by omega) (by rw [c_6]; rfl) rfl ?_
      refine w_aload_n (pc' := 108) (i := 0) (by rfl) (by rfl) dX12_count_107 rfl ?_
      refine v_getI (pc' := 111) (ji := 93) rfl fg_X12_549 kd_133 dX12_count_108 rfl ?_
      show Wp _ _ _ _ _ _ [gI (σ0 133 93)]
      rw [hI.f93]
      refine v_ireturn rfl dX12_count_111 ?_
      exact ⟨(congrArg gI (by (repeat' split) <;> omega)), QM.up (QM.refl hI) (by decide) (fun h => h)⟩
    · refine w_tableIn (pc' := 112) (off := 106) dX12_count_6 (by omega) (by omega) (by rw [c_6]; rfl) rfl ?_
      refine w_aload_n (pc' := 113) (i := 0) (by rfl) (by rfl) dX12_count_112 rfl ?_
      refine v_getI (pc' := 116) (ji := 99) rfl fg_X12_562 kd_133 dX12_count_113 rfl ?_
      show Wp _ _ _ _ _ _ [gI (σ0 133 99)]
      rw [hI.f99]
      refine v_ireturn rfl dX12_count_116 ?_
      exact ⟨(congrArg gI (by (repeat' split) <;> omega)), QM.up (QM.refl hI) (by decide) (fun h => h)⟩
    · refine w_tableIn (pc' := 117) (off := 111) dX12_count_6 (by omega) (by omega) (by rw [c_6]; rfl) rfl ?_
      refine w_aload_n (pc' := 118) (i := 0) (by rfl) (by rfl) dX12_count_117 rfl ?_
      refine v_getI (pc' := 121) (ji := 110) rfl fg_X12_583 kd_133 dX12_count_118 rfl ?_
      show Wp _ _ _ _ _ _ [gI (σ0 133 110)]
      rw [hI.f110]
      refine v_ireturn rfl dX12_count_121 ?_
      exact ⟨(congrArg gI (by (repeat' split) <;> omega)), QM.up (QM.refl hI) (by decide) (fun h => h)⟩
    · refine w_tableIn (pc' := 122) (off := 116) dX12_count_6 (by omega) (by omega) (by rw [c_6]; rfl) rfl ?_
      refine w_aload_n (pc' := 123) (i := 0) (by rfl) (by rfl) dX12_count_122 rfl ?_
      refine v_getI (pc' := 126) (ji := 92) rfl fg_X12_543 kd_133 dX12_count_123 rfl ?_
      show Wp _ _ _ _ _ _ [gI (σ0 133 92)]
      rw [hI.f92]
      refine v_ireturn rfl dX12_count_126 ?_
      exact ⟨(congrArg gI (by (repeat' split) <;> omega)), QM.up (QM.refl hI) (by decide) (fun h => h)⟩
    · refine w_tableIn (pc' := 127) (off := 121) dX12_count_6 (by omega) (by omega) (by rw [c_6]; rfl) rfl ?_
      refine w_aload_n (pc' := 128) (i := 0) (by rfl) (by rfl) dX12_count_127 rfl ?_
      refine v_getI (pc' := 131) (ji := 2) rfl fg_X12_247 kd_133 dX12_count_128 rfl ?_
      show Wp _ _ _ _ _ _ [gI (σ0 133 2)]
      rw [hI.f2]
      refine v_ireturn rfl dX12_count_131 ?_
      exact ⟨(congrArg gI (by (repeat' split) <;> omega)), QM.up (QM.refl hI) (by decide) (fun h => h)⟩
    · refine w_tableIn (pc' := 132) (off := 126) dX12_count_6 (by omega) (by omega) (by rw [c_6]; rfl) rfl ?_
      refine w_aload_n (pc' := 133) (i := 0) (by rfl) (by rfl) dX12_count_132 rfl ?_
      refine v_getI (pc' := 136) (ji := 51) rfl fg_X12_361 kd_133 dX12_count_133 rfl ?_
      show Wp _ _ _ _ _ _ [gI (σ0 133 51)]
      rw [hI.f51]
      refine v_ireturn rfl dX12_count_136 ?_
      exact ⟨(congrArg gI (by (repeat' split) <;> omega)), QM.up (QM.refl hI) (by decide) (fun h => h)⟩
theorem ci_count (w : Int) : CI Inv mX11_count mX12_count [gI w] := CI_query (fun σ0 => if w = 0 then σ0 0 4 else if w = 1 then σ0 3 2 else if w = 2 then σ0 15 6 else if w = 3 then σ0 6 6 else if w = 4 then σ0 34 6 else if w = 5 then σ0 41 11 else if w = 6 then σ0 57 2 else if w = 7 then σ0 125 5 else if w = 8 then σ0 112 8 else if w = 9 then σ0 125 10 else if w = 10 then σ0 125 2 else if w = 11 then σ0 0 1 else if w = 12 then σ0 0 3 else -1) (fun σ0 hI => x_count hI w) (fun σ0 hI => m_count hI w) (fun _ => rfl)
