/-! the class reads a law: what it makes of a token (gen/mod_lt.py) -/
theorem isD_lw {c : Nat} (hc : isD c) : isLw c ∧ lwF c := by
  rcases hc with rfl | rfl | rfl | rfl | rfl | rfl
  · exact lw_at (i := 0) (by decide) (by decide)
  · exact lw_at (i := 1) (by decide) (by decide)
  · exact lw_at (i := 2) (by decide) (by decide)
  · exact lw_at (i := 3) (by decide) (by decide)
  · exact lw_at (i := 4) (by decide) (by decide)
  · exact lw_at (i := 5) (by decide) (by decide)
theorem kc_await {c : Nat} {σ0 σ S : gH} (hc : isD c) (hA : AG c σ0 σ S) (w : Int) (ht : 0 ≤ S 57 17 ∧ S 57 17 < 64) : Mt mX5_await 0 [gR 57, gI w] σ (fun v σ' => v = gX 1 ∧ AG c σ0 σ' (gUp (gUp S 67 (S 57 17) w) 57 17 (S 57 17 + 1))) := by
  have e17 : σ 57 17 = S 57 17 := hA.1 17 (by decide)
  refine (kl_await w (by rw [e17]; exact ht)).mono fun v σ1 q => ?_
  obtain ⟨rfl, rfl⟩ := q
  rw [e17]
  exact ⟨rfl, AG.u57 hc (AG.u67 hc hA) rfl⟩
theorem kc_isAtom {c : Nat} {σ0 σ S : gH} (hc : isD c) (hA : AG c σ0 σ S) (w : Int) : Mt mX5_isAtom 0 [gR 57, gI w] σ (rE (gI (gb (atmK (S 57 11) w))) σ) := by
  have e : σ 57 11 = S 57 11 := hA.1 11 (by decide)
  rw [← e]
  exact kl_isAtom w
theorem kc_isCutOff {c : Nat} {σ0 σ S : gH} (hc : isD c) (hA : AG c σ0 σ S) : Mt mX10_isCutOff 0 [gR 66] σ (rE (gI (gb (500 < S 66 1))) σ) := by
  refine Mt.walk (ls := [gR 66]) pn_X10 rfl (fun _ _ h => by cases h.1) (Nat.le_of_ble_eq_true rfl) rfl ?_
  have hK := (isD_lw hc).1
  refine w_aload_n (pc' := 1) (i := 0) (by rfl) (by rfl) dX10_isCutOff_0 rfl ?_
  refine v_getI (pc' := 4) (ji := 1) rfl fg_X10_24 kd_66 dX10_isCutOff_1 rfl ?_
  rw [(hA).rd (k := 66) (i := 1) rfl]
  refine w_sipush (pc' := 7) (by decide) (by decide) dX10_isCutOff_4 rfl ?_
  refine w_icmp_le (pc' := 10) (t := 14) dX10_isCutOff_7 rfl rfl (fun c_7 => ?_) (fun c_7 => ?_)
  · skip
    refine w_iconst (pc' := 15) (by decide) dX10_isCutOff_14 rfl ?_
    refine w_zreturn rfl (.inl rfl) dX10_isCutOff_15 ?_
    first | (exfalso; omega) | exact ⟨congrArg gI (gb_t (by omega)).symm, rfl⟩ | exact ⟨congrArg gI (gb_f (by omega)).symm, rfl⟩
  · skip
    refine w_iconst (pc' := 11) (by decide) dX10_isCutOff_10 rfl ?_
    refine w_goto (pc' := 15) dX10_isCutOff_11 rfl ?_
    refine w_zreturn rfl (.inr rfl) dX10_isCutOff_15 ?_
    first | (exfalso; omega) | exact ⟨congrArg gI (gb_t (by omega)).symm, rfl⟩ | exact ⟨congrArg gI (gb_f (by omega)).symm, rfl⟩
/-! the functions: the state behind a token, and the fault -/
def LTE (S : gH) : gH × Int := (gUp S 57 6 10, gb (500 < S 66 1))
abbrev isRw (w : Int) : Prop := w = 8 ∨ (19 ≤ w ∧ w ≤ 25)
def TLD (S : gH) (w : Int) : Int := gB32 (fun a b => a ||| b) (S 57 7) (gB32 (fun a b => a <<< (b &&& 31)) 1 w)
def LTRs (S : gH) (w : Int) : gH := gUp (gUp (gUp (gUp (gUp S 57 7 (TLD S w)) 57 8 w) 57 10 30) 57 11 (gb (w = 19))) 57 6 (if w = 19 then 1 else if w = 20 ∨ w = 21 then 3 else 8)
def LTR (S : gH) (w : Int) : gH × Int := if ¬ isRw w then (S, 1) else if (w = 19 ∧ 8 ≤ S 68 3) ∨ (w ≠ 19 ∧ gB32 (fun a b => a &&& b) (gB32 (fun a b => a >>> (b &&& 31)) (S 57 7) w) 1 ≠ 0) then (S, 3) else (LTRs S w, 0)
def LTD (S : gH) (k v : Int) : gH × Int := if k ≠ 3 then (S, 1) else (gUp (gUp S 57 10 v) 57 6 3, if 0 ≤ v ∧ v ≤ 999 then 0 else 2)
/-- the rule's begin -/
def BGN (S : gH) (r : Int) : gH := gUp (gUp (gUp (gUp (gUp (gUp S 70 r (S 68 15)) 71 r (S 68 15)) 57 14 1) 57 15 0) 57 17 0) 57 6 4
def ADT (S : gH) : gH := gUp (gUp (gUp S 69 (S 68 3) (S 57 10)) 68 3 (S 68 3 + 1)) 57 12 (S 68 3)
def LTI (S : gH) (w : Int) : gH × Int := if w ≠ 17 then (S, 1) else if S 57 11 ≠ 0 then (BGN (ADT S) (S 68 3), 0) else (BGN (gUp S 57 12 (if S 57 8 = 20 then 8 else 9)) (if S 57 8 = 20 then 8 else 9), 0)
def LTA (S : gH) (w s n : Int) : gH := CNS (PTS S w s n)
def AWT (S : gH) (x : Int) : gH := gUp (gUp S 67 (S 57 17) x) 57 17 (S 57 17 + 1)
def ONE (S : gH) : gH := gUp S 57 13 (S 57 13 + 1)
def NST (S : gH) (k : Int) : gH := gUp (gUp (AWT (ONE S) (if k = 40 then 40 else 14)) 57 15 (S 57 15 + gb (k = 40))) 57 14 (S 57 14 + 1)
def LTO (S : gH) (k w : Int) : gH × Int := if ¬ (k = 40 ∨ w = 14) ∧ ¬ atmK (S 57 11) w then (S, 1) else if 60 ≤ S 57 13 ∨ 20 < S 57 14 then (S, 4) else
  if k = 40 ∨ w = 14 then (NST S k, 0) else if isMeas w then (gUp (gUp (ONE S) 57 8 w) 57 6 5, 0) else (LTA (ONE S) w 0 0, 0)
def LTF (S : gH) (k : Int) : gH × Int := if k ≠ 59 then (S, 1) else (gUp (gUp S 68 2 (S 68 2 + 1)) 57 6 0, 0)
def UNB (S : gH) : gH := gUp (gUp (gUp (CLS S 16) 57 17 (lkF (S 67) 16 (S 57 17).toNat - 1)) 57 15 (S 57 15 - 1)) 57 14 (S 57 14 - 1)
def FNR (S : gH) : gH := gUp (CLS S 16) 71 (S 57 12) (CLS S 16 68 15)
def LTL (S : gH) (k w : Int) : gH × Int := if w = 15 ∨ w = 16 then (gUp (AWT (CLS S w) w) 57 6 4, 0) else if k = 41 ∧ 0 < S 57 15 then (CNS (UNB S), 0) else if k = 59 ∧ S 57 15 = 0 then LTF (FNR S) k else (S, 1)
def LTS (S : gH) (k v : Int) : gH × Int := if k ≠ 3 then (S, 1) else if v < gb (S 57 8 = 22 ∨ S 57 8 = 24) ∨ GRF (S 57 8) < v then (S, 2) else (gUp (gUp S 68 (stJ (S 57 8)) v) 57 6 9, 0)
def TAK (S : gH) (k v : Int) : gH × Int :=
  if S 57 6 = 0 then (if k = 0 then LTE S else LTR S (wdO k v))
  else if S 57 6 = 1 then (if wdO k v = 18 then (gUp S 57 6 2, 0) else LTI S (wdO k v))
  else if S 57 6 = 2 then LTD S k v
  else if S 57 6 = 3 then LTI S (wdO k v)
  else if S 57 6 = 4 then LTO S k (wdO k v)
  else if S 57 6 = 5 then (gUp (gUp S 57 9 k) 57 6 6, if k = 60 ∨ k = 61 ∨ k = 62 then 0 else 1)
  else if S 57 6 = 6 then (if k ≠ 3 then (S, 1) else (LTA S (S 57 8) (S 57 9) v, 0))
  else if S 57 6 = 7 then LTL S k (wdO k v)
  else if S 57 6 = 8 then LTS S k v
  else LTF S k
theorem kt_takeEnd {c : Nat} {σ0 σ S : gH} (hc : isD c) (hA : AG c σ0 σ S)  : Mt mX5_takeEnd 1 [gR 57] σ (fun r9 σ' => r9 = gI (LTE S).2 ∧ AG c σ0 σ' (LTE S).1) := by
  refine Mt.walk (ls := [gR 57]) pn_X5 rfl (fun _ _ h => by cases h.1) (Nat.le_of_ble_eq_true rfl) rfl ?_
  have hK := (isD_lw hc).1
  refine w_aload_n (pc' := 1) (i := 0) (by rfl) (by rfl) dX5_takeEnd_0 rfl ?_
  refine w_bipush (pc' := 3) (by decide) (by decide) dX5_takeEnd_1 rfl ?_
  refine v_putI (pc' := 6) (ji := 6) rfl fp_X5_63 kd_57 sf_X5_6 dX5_takeEnd_3 rfl ?_
  refine w_aload_n (pc' := 7) (i := 0) (by rfl) (by rfl) dX5_takeEnd_6 rfl ?_
  refine w_getS (pc' := 10) (q := 66) fg_X5_25 kd_57 sf_X5_4 gr_57_4 dX5_takeEnd_7 rfl ?_
  refine v_callVE (pc' := 13) (st' := [gI (gb (500 < S 66 1))]) (d' := 0) (av := []) mi_mX10_isCutOff lk_X5_126 rfl ci_X10 kd_66 rfl (Nat.le_of_ble_eq_true rfl) (Nat.le_of_ble_eq_true rfl) dX5_takeEnd_10 rfl rfl (kc_isCutOff hc (AG.u57 hc hA rfl) ) ?_
  have hj_21 : Wp mX5_takeEnd 1 (fun r9 σ' => r9 = gI (LTE S).2 ∧ AG c σ0 σ' (LTE S).1) (gUp σ 57 6 10) 21 [gR 57] [gI (gb (500 < S 66 1))] := by
    refine v_ireturn rfl dX5_takeEnd_21 ?_
    have e9 : LTE S = (gUp S 57 6 10, gb (500 < S 66 1)) := by
      first
      | (exfalso; omega)
      | (unfold LTE; repeat' (first | rfl | (exfalso; omega) | split))
    rw [e9]
    exact ⟨rfl, (AG.u57 hc hA rfl)⟩
  refine v_if_eqB (pc' := 16) (t := 20) dX5_takeEnd_13 rfl rfl (fun c_13 => ?_) (fun c_13 => ?_)
  · skip
    refine w_iconst (pc' := 21) (by decide) dX5_takeEnd_20 rfl ?_
    exact Wp.stI (by first | (exfalso; omega) | exact (gb_f (P := 500 < S 66 1) (by omega)).symm) hj_21
  · skip
    refine w_iconst (pc' := 17) (by decide) dX5_takeEnd_16 rfl ?_
    refine w_goto (pc' := 21) dX5_takeEnd_17 rfl ?_
    exact Wp.stI (by first | (exfalso; omega) | exact (gb_t (P := 500 < S 66 1) (by omega)).symm) hj_21
theorem kt_takeRule {c : Nat} {σ0 σ S : gH} (hc : isD c) (hA : AG c σ0 σ S) (w : Int) (hw : -1 ≤ w ∧ w ≤ 25) (ht : 0 ≤ S 68 3) : Mt mX5_takeRule 1 [gR 57, gI w] σ (fun r9 σ' => r9 = gI (LTR S w).2 ∧ AG c σ0 σ' (LTR S w).1) := by
  refine Mt.walk (ls := [gR 57, gI w, gX 1, gX 1, gX 1]) pn_X5 rfl (fun _ _ h => by cases h.1) (Nat.le_of_ble_eq_true rfl) rfl ?_
  have hK := (isD_lw hc).1
  have hj_11 : Wp mX5_takeRule 1 (fun r9 σ' => r9 = gI (LTR S w).2 ∧ AG c σ0 σ' (LTR S w).1) σ 11 [gR 57, gI w, gX 1, gX 1, gX 1] [gI (gb (w = 19))] := by
    refine w_istore_n (pc' := 12) (i := 2) (ls' := [gR 57, gI w, gI (gb (w = 19)), gX 1, gX 1]) (by rfl) (by decide) (by rfl) dX5_takeRule_11 rfl ?_
    have hj_29 : Wp mX5_takeRule 1 (fun r9 σ' => r9 = gI (LTR S w).2 ∧ AG c σ0 σ' (LTR S w).1) σ 29 [gR 57, gI w, gI (gb (w = 19)), gX 1, gX 1] [gI (gb (w = 20 ∨ w = 21))] := by
      refine w_istore_n (pc' := 30) (i := 3) (ls' := [gR 57, gI w, gI (gb (w = 19)), gI (gb (w = 20 ∨ w = 21)), gX 1]) (by rfl) (by decide) (by rfl) dX5_takeRule_29 rfl ?_
      have hj_53 : Wp mX5_takeRule 1 (fun r9 σ' => r9 = gI (LTR S w).2 ∧ AG c σ0 σ' (LTR S w).1) σ 53 [gR 57, gI w, gI (gb (w = 19)), gI (gb (w = 20 ∨ w = 21)), gX 1] [gI (gb (w = 8 ∨ (22 ≤ w ∧ w ≤ 25)))] := by
        refine w_istore (pc' := 55) (ls' := [gR 57, gI w, gI (gb (w = 19)), gI (gb (w = 20 ∨ w = 21)), gI (gb (w = 8 ∨ (22 ≤ w ∧ w ≤ 25)))]) (by decide) (by rfl) dX5_takeRule_53 rfl ?_
        refine w_iload_n (pc' := 56) (i := 2) (by rfl) (by rfl) dX5_takeRule_55 rfl ?_
        refine v_if_neB (pc' := 59) (t := 70) dX5_takeRule_56 rfl rfl (fun c_56 => ?_) (fun c_56 => ?_)
        · skip
          have hj_102 : (¬ ((w = 19 ∧ 8 ≤ S 68 3) ∨ (w ≠ 19 ∧ gB32 (fun a b => a &&& b) (gB32 (fun a b => a >>> (b &&& 31)) (S 57 7) w) 1 ≠ 0))) → Wp mX5_takeRule 1 (fun r9 σ' => r9 = gI (LTR S w).2 ∧ AG c σ0 σ' (LTR S w).1) σ 102 [gR 57, gI w, gI (gb (w = 19)), gI (gb (w = 20 ∨ w = 21)), gI (gb (w = 8 ∨ (22 ≤ w ∧ w ≤ 25)))] [] := by
            intro hj70
            refine w_aload_n (pc' := 103) (i := 0) (by rfl) (by rfl) dX5_takeRule_102 rfl ?_
            refine w_dup (pc' := 104) dX5_takeRule_103 rfl ?_
            refine v_getI (pc' := 107) (ji := 7) rfl fg_X5_66 kd_57 dX5_takeRule_104 rfl ?_
            rw [(hA).rd (k := 57) (i := 7) rfl]
            refine w_iconst (pc' := 108) (by decide) dX5_takeRule_107 rfl ?_
            refine w_iload_n (pc' := 109) (i := 1) (by rfl) (by rfl) dX5_takeRule_108 rfl ?_
            refine w_ishl (pc' := 110) dX5_takeRule_109 rfl ?_
            refine w_ior (pc' := 111) dX5_takeRule_110 rfl ?_
            refine v_putI (pc' := 114) (ji := 7) rfl fp_X5_66 kd_57 sf_X5_7 dX5_takeRule_111 rfl ?_
            refine w_aload_n (pc' := 115) (i := 0) (by rfl) (by rfl) dX5_takeRule_114 rfl ?_
            refine w_iload_n (pc' := 116) (i := 1) (by rfl) (by rfl) dX5_takeRule_115 rfl ?_
            refine v_putI (pc' := 119) (ji := 8) rfl fp_X5_110 kd_57 sf_X5_8 dX5_takeRule_116 rfl ?_
            refine w_aload_n (pc' := 120) (i := 0) (by rfl) (by rfl) dX5_takeRule_119 rfl ?_
            refine w_bipush (pc' := 122) (by decide) (by decide) dX5_takeRule_120 rfl ?_
            refine v_putI (pc' := 125) (ji := 10) rfl fp_X5_133 kd_57 sf_X5_10 dX5_takeRule_122 rfl ?_
            refine w_aload_n (pc' := 126) (i := 0) (by rfl) (by rfl) dX5_takeRule_125 rfl ?_
            refine w_iload_n (pc' := 127) (i := 2) (by rfl) (by rfl) dX5_takeRule_126 rfl ?_
            refine v_putZ (pc' := 130) (ji := 11) (gb_01 _) rfl fp_X5_136 kd_57 sf_X5_11 dX5_takeRule_127 rfl ?_
            refine w_aload_n (pc' := 131) (i := 0) (by rfl) (by rfl) dX5_takeRule_130 rfl ?_
            have hj_149 : Wp mX5_takeRule 1 (fun r9 σ' => r9 = gI (LTR S w).2 ∧ AG c σ0 σ' (LTR S w).1) (gUp (gUp (gUp (gUp σ 57 7 (gB32 (fun a b => a ||| b) (S 57 7) (gB32 (fun a b => a <<< (b &&& 31)) 1 w))) 57 8 w) 57 10 30) 57 11 (gb (w = 19))) 149 [gR 57, gI w, gI (gb (w = 19)), gI (gb (w = 20 ∨ w = 21)), gI (gb (w = 8 ∨ (22 ≤ w ∧ w ≤ 25)))] [gI (if w = 19 then 1 else if w = 20 ∨ w = 21 then 3 else 8), gR 57] := by
              refine v_putI (pc' := 152) (ji := 6) rfl fp_X5_63 kd_57 sf_X5_6 dX5_takeRule_149 rfl ?_
              refine w_iconst (pc' := 153) (by decide) dX5_takeRule_152 rfl ?_
              refine v_ireturn rfl dX5_takeRule_153 ?_
              have e9 : LTR S w = (gUp (gUp (gUp (gUp (gUp S 57 7 (gB32 (fun a b => a ||| b) (S 57 7) (gB32 (fun a b => a <<< (b &&& 31)) 1 w))) 57 8 w) 57 10 30) 57 11 (gb (w = 19))) 57 6 (if w = 19 then 1 else if w = 20 ∨ w = 21 then 3 else 8), 0) := by
                first
                | (exfalso; omega)
                | (unfold LTR LTRs TLD; repeat' (first | rfl | (exfalso; omega) | split))
              rw [e9]
              exact ⟨rfl, (AG.u57 hc (AG.u57 hc (AG.u57 hc (AG.u57 hc (AG.u57 hc hA rfl) rfl) rfl) rfl) rfl)⟩
            refine w_iload_n (pc' := 132) (i := 2) (by rfl) (by rfl) dX5_takeRule_131 rfl ?_
            refine v_if_eqB (pc' := 135) (t := 139) dX5_takeRule_132 rfl rfl (fun c_132 => ?_) (fun c_132 => ?_)
            · skip
              refine w_iload_n (pc' := 140) (i := 3) (by rfl) (by rfl) dX5_takeRule_139 rfl ?_
              refine v_if_eqB (pc' := 143) (t := 147) dX5_takeRule_140 rfl rfl (fun c_140 => ?_) (fun c_140 => ?_)
              · skip
                refine w_bipush (pc' := 149) (by decide) (by decide) dX5_takeRule_147 rfl ?_
                exact Wp.stI (by first | (exfalso; omega) | ((repeat' split) <;> first | rfl | (exfalso; omega))) hj_149
              · skip
                refine w_iconst (pc' := 144) (by decide) dX5_takeRule_143 rfl ?_
                refine w_goto (pc' := 149) dX5_takeRule_144 rfl ?_
                exact Wp.stI (by first | (exfalso; omega) | ((repeat' split) <;> first | rfl | (exfalso; omega))) hj_149
            · skip
              refine w_iconst (pc' := 136) (by decide) dX5_takeRule_135 rfl ?_
              refine w_goto (pc' := 149) dX5_takeRule_136 rfl ?_
              exact Wp.stI (by first | (exfalso; omega) | ((repeat' split) <;> first | rfl | (exfalso; omega))) hj_149
          refine w_iload_n (pc' := 71) (i := 2) (by rfl) (by rfl) dX5_takeRule_70 rfl ?_
          refine v_if_eqB (pc' := 74) (t := 89) dX5_takeRule_71 rfl rfl (fun c_71 => ?_) (fun c_71 => ?_)
          · skip
            refine w_aload_n (pc' := 90) (i := 0) (by rfl) (by rfl) dX5_takeRule_89 rfl ?_
            refine v_getI (pc' := 93) (ji := 7) rfl fg_X5_66 kd_57 dX5_takeRule_90 rfl ?_
            rw [(hA).rd (k := 57) (i := 7) rfl]
            refine w_iload_n (pc' := 94) (i := 1) (by rfl) (by rfl) dX5_takeRule_93 rfl ?_
            refine w_ishr (pc' := 95) dX5_takeRule_94 rfl ?_
            refine w_iconst (pc' := 96) (by decide) dX5_takeRule_95 rfl ?_
            refine w_iand (pc' := 97) dX5_takeRule_96 rfl ?_
            refine w_if_eq (pc' := 100) (t := 102) dX5_takeRule_97 rfl rfl (fun c_97 => ?_) (fun c_97 => ?_)
            · skip
              exact hj_102 (by omega)
            · skip
              refine w_iconst (pc' := 101) (by decide) dX5_takeRule_100 rfl ?_
              refine v_ireturn rfl dX5_takeRule_101 ?_
              have e9 : LTR S w = (S, 3) := by
                first
                | (exfalso; omega)
                | (unfold LTR LTRs TLD; repeat' (first | rfl | (exfalso; omega) | split))
              rw [e9]
              exact ⟨rfl, hA⟩
          · skip
            refine w_aload_n (pc' := 75) (i := 0) (by rfl) (by rfl) dX5_takeRule_74 rfl ?_
            refine v_getM (pc' := 78) (q := c) (ji := 5) rfl fg_X5_29 kd_57 hA.dr dX5_takeRule_75 rfl ?_
            refine v_callVE (pc' := 81) (st' := [gI (S 68 3)]) (d' := 0) (av := []) mi_mX4_totalTells lk_X5_130 rfl ci_X4 hK.1 rfl (Nat.le_of_ble_eq_true rfl) (Nat.le_of_ble_eq_true rfl) dX5_takeRule_78 rfl rfl (kc_totalTells hc hA ) ?_
            refine w_bipush (pc' := 83) (by decide) (by decide) dX5_takeRule_81 rfl ?_
            refine w_icmp_lt (pc' := 86) (t := 102) dX5_takeRule_83 rfl rfl (fun c_83 => ?_) (fun c_83 => ?_)
            · skip
              exact hj_102 (by omega)
            · skip
              refine w_goto (pc' := 100) dX5_takeRule_86 rfl ?_
              refine w_iconst (pc' := 101) (by decide) dX5_takeRule_100 rfl ?_
              refine v_ireturn rfl dX5_takeRule_101 ?_
              have e9 : LTR S w = (S, 3) := by
                first
                | (exfalso; omega)
                | (unfold LTR LTRs TLD; repeat' (first | rfl | (exfalso; omega) | split))
              rw [e9]
              exact ⟨rfl, hA⟩
        · skip
          refine w_iload_n (pc' := 60) (i := 3) (by rfl) (by rfl) dX5_takeRule_59 rfl ?_
          refine v_if_neB (pc' := 63) (t := 70) dX5_takeRule_60 rfl rfl (fun c_60 => ?_) (fun c_60 => ?_)
          · skip
            have hj_102 : (¬ ((w = 19 ∧ 8 ≤ S 68 3) ∨ (w ≠ 19 ∧ gB32 (fun a b => a &&& b) (gB32 (fun a b => a >>> (b &&& 31)) (S 57 7) w) 1 ≠ 0))) → Wp mX5_takeRule 1 (fun r9 σ' => r9 = gI (LTR S w).2 ∧ AG c σ0 σ' (LTR S w).1) σ 102 [gR 57, gI w, gI (gb (w = 19)), gI (gb (w = 20 ∨ w = 21)), gI (gb (w = 8 ∨ (22 ≤ w ∧ w ≤ 25)))] [] := by
              intro hj70
              refine w_aload_n (pc' := 103) (i := 0) (by rfl) (by rfl) dX5_takeRule_102 rfl ?_
              refine w_dup (pc' := 104) dX5_takeRule_103 rfl ?_
              refine v_getI (pc' := 107) (ji := 7) rfl fg_X5_66 kd_57 dX5_takeRule_104 rfl ?_
              rw [(hA).rd (k := 57) (i := 7) rfl]
              refine w_iconst (pc' := 108) (by decide) dX5_takeRule_107 rfl ?_
              refine w_iload_n (pc' := 109) (i := 1) (by rfl) (by rfl) dX5_takeRule_108 rfl ?_
              refine w_ishl (pc' := 110) dX5_takeRule_109 rfl ?_
              refine w_ior (pc' := 111) dX5_takeRule_110 rfl ?_
              refine v_putI (pc' := 114) (ji := 7) rfl fp_X5_66 kd_57 sf_X5_7 dX5_takeRule_111 rfl ?_
              refine w_aload_n (pc' := 115) (i := 0) (by rfl) (by rfl) dX5_takeRule_114 rfl ?_
              refine w_iload_n (pc' := 116) (i := 1) (by rfl) (by rfl) dX5_takeRule_115 rfl ?_
              refine v_putI (pc' := 119) (ji := 8) rfl fp_X5_110 kd_57 sf_X5_8 dX5_takeRule_116 rfl ?_
              refine w_aload_n (pc' := 120) (i := 0) (by rfl) (by rfl) dX5_takeRule_119 rfl ?_
              refine w_bipush (pc' := 122) (by decide) (by decide) dX5_takeRule_120 rfl ?_
              refine v_putI (pc' := 125) (ji := 10) rfl fp_X5_133 kd_57 sf_X5_10 dX5_takeRule_122 rfl ?_
              refine w_aload_n (pc' := 126) (i := 0) (by rfl) (by rfl) dX5_takeRule_125 rfl ?_
              refine w_iload_n (pc' := 127) (i := 2) (by rfl) (by rfl) dX5_takeRule_126 rfl ?_
              refine v_putZ (pc' := 130) (ji := 11) (gb_01 _) rfl fp_X5_136 kd_57 sf_X5_11 dX5_takeRule_127 rfl ?_
              refine w_aload_n (pc' := 131) (i := 0) (by rfl) (by rfl) dX5_takeRule_130 rfl ?_
              have hj_149 : Wp mX5_takeRule 1 (fun r9 σ' => r9 = gI (LTR S w).2 ∧ AG c σ0 σ' (LTR S w).1) (gUp (gUp (gUp (gUp σ 57 7 (gB32 (fun a b => a ||| b) (S 57 7) (gB32 (fun a b => a <<< (b &&& 31)) 1 w))) 57 8 w) 57 10 30) 57 11 (gb (w = 19))) 149 [gR 57, gI w, gI (gb (w = 19)), gI (gb (w = 20 ∨ w = 21)), gI (gb (w = 8 ∨ (22 ≤ w ∧ w ≤ 25)))] [gI (if w = 19 then 1 else if w = 20 ∨ w = 21 then 3 else 8), gR 57] := by
                refine v_putI (pc' := 152) (ji := 6) rfl fp_X5_63 kd_57 sf_X5_6 dX5_takeRule_149 rfl ?_
                refine w_iconst (pc' := 153) (by decide) dX5_takeRule_152 rfl ?_
                refine v_ireturn rfl dX5_takeRule_153 ?_
                have e9 : LTR S w = (gUp (gUp (gUp (gUp (gUp S 57 7 (gB32 (fun a b => a ||| b) (S 57 7) (gB32 (fun a b => a <<< (b &&& 31)) 1 w))) 57 8 w) 57 10 30) 57 11 (gb (w = 19))) 57 6 (if w = 19 then 1 else if w = 20 ∨ w = 21 then 3 else 8), 0) := by
                  first
                  | (exfalso; omega)
                  | (unfold LTR LTRs TLD; repeat' (first | rfl | (exfalso; omega) | split))
                rw [e9]
                exact ⟨rfl, (AG.u57 hc (AG.u57 hc (AG.u57 hc (AG.u57 hc (AG.u57 hc hA rfl) rfl) rfl) rfl) rfl)⟩
              refine w_iload_n (pc' := 132) (i := 2) (by rfl) (by rfl) dX5_takeRule_131 rfl ?_
              refine v_if_eqB (pc' := 135) (t := 139) dX5_takeRule_132 rfl rfl (fun c_132 => ?_) (fun c_132 => ?_)
              · skip
                refine w_iload_n (pc' := 140) (i := 3) (by rfl) (by rfl) dX5_takeRule_139 rfl ?_
                refine v_if_eqB (pc' := 143) (t := 147) dX5_takeRule_140 rfl rfl (fun c_140 => ?_) (fun c_140 => ?_)
                · skip
                  refine w_bipush (pc' := 149) (by decide) (by decide) dX5_takeRule_147 rfl ?_
                  exact Wp.stI (by first | (exfalso; omega) | ((repeat' split) <;> first | rfl | (exfalso; omega))) hj_149
                · skip
                  refine w_iconst (pc' := 144) (by decide) dX5_takeRule_143 rfl ?_
                  refine w_goto (pc' := 149) dX5_takeRule_144 rfl ?_
                  exact Wp.stI (by first | (exfalso; omega) | ((repeat' split) <;> first | rfl | (exfalso; omega))) hj_149
              · skip
                refine w_iconst (pc' := 136) (by decide) dX5_takeRule_135 rfl ?_
                refine w_goto (pc' := 149) dX5_takeRule_136 rfl ?_
                exact Wp.stI (by first | (exfalso; omega) | ((repeat' split) <;> first | rfl | (exfalso; omega))) hj_149
            refine w_iload_n (pc' := 71) (i := 2) (by rfl) (by rfl) dX5_takeRule_70 rfl ?_
            refine v_if_eqB (pc' := 74) (t := 89) dX5_takeRule_71 rfl rfl (fun c_71 => ?_) (fun c_71 => ?_)
            · skip
              refine w_aload_n (pc' := 90) (i := 0) (by rfl) (by rfl) dX5_takeRule_89 rfl ?_
              refine v_getI (pc' := 93) (ji := 7) rfl fg_X5_66 kd_57 dX5_takeRule_90 rfl ?_
              rw [(hA).rd (k := 57) (i := 7) rfl]
              refine w_iload_n (pc' := 94) (i := 1) (by rfl) (by rfl) dX5_takeRule_93 rfl ?_
              refine w_ishr (pc' := 95) dX5_takeRule_94 rfl ?_
              refine w_iconst (pc' := 96) (by decide) dX5_takeRule_95 rfl ?_
              refine w_iand (pc' := 97) dX5_takeRule_96 rfl ?_
              refine w_if_eq (pc' := 100) (t := 102) dX5_takeRule_97 rfl rfl (fun c_97 => ?_) (fun c_97 => ?_)
              · skip
                exact hj_102 (by omega)
              · skip
                refine w_iconst (pc' := 101) (by decide) dX5_takeRule_100 rfl ?_
                refine v_ireturn rfl dX5_takeRule_101 ?_
                have e9 : LTR S w = (S, 3) := by
                  first
                  | (exfalso; omega)
                  | (unfold LTR LTRs TLD; repeat' (first | rfl | (exfalso; omega) | split))
                rw [e9]
                exact ⟨rfl, hA⟩
            · skip
              refine w_aload_n (pc' := 75) (i := 0) (by rfl) (by rfl) dX5_takeRule_74 rfl ?_
              refine v_getM (pc' := 78) (q := c) (ji := 5) rfl fg_X5_29 kd_57 hA.dr dX5_takeRule_75 rfl ?_
              refine v_callVE (pc' := 81) (st' := [gI (S 68 3)]) (d' := 0) (av := []) mi_mX4_totalTells lk_X5_130 rfl ci_X4 hK.1 rfl (Nat.le_of_ble_eq_true rfl) (Nat.le_of_ble_eq_true rfl) dX5_takeRule_78 rfl rfl (kc_totalTells hc hA ) ?_
              refine w_bipush (pc' := 83) (by decide) (by decide) dX5_takeRule_81 rfl ?_
              refine w_icmp_lt (pc' := 86) (t := 102) dX5_takeRule_83 rfl rfl (fun c_83 => ?_) (fun c_83 => ?_)
              · skip
                exact hj_102 (by omega)
              · skip
                refine w_goto (pc' := 100) dX5_takeRule_86 rfl ?_
                refine w_iconst (pc' := 101) (by decide) dX5_takeRule_100 rfl ?_
                refine v_ireturn rfl dX5_takeRule_101 ?_
                have e9 : LTR S w = (S, 3) := by
                  first
                  | (exfalso; omega)
                  | (unfold LTR LTRs TLD; repeat' (first | rfl | (exfalso; omega) | split))
                rw [e9]
                exact ⟨rfl, hA⟩
          · skip
            refine w_iload (pc' := 65) (by rfl) dX5_takeRule_63 rfl ?_
            refine v_if_neB (pc' := 68) (t := 70) dX5_takeRule_65 rfl rfl (fun c_65 => ?_) (fun c_65 => ?_)
            · skip
              have hj_102 : (¬ ((w = 19 ∧ 8 ≤ S 68 3) ∨ (w ≠ 19 ∧ gB32 (fun a b => a &&& b) (gB32 (fun a b => a >>> (b &&& 31)) (S 57 7) w) 1 ≠ 0))) → Wp mX5_takeRule 1 (fun r9 σ' => r9 = gI (LTR S w).2 ∧ AG c σ0 σ' (LTR S w).1) σ 102 [gR 57, gI w, gI (gb (w = 19)), gI (gb (w = 20 ∨ w = 21)), gI (gb (w = 8 ∨ (22 ≤ w ∧ w ≤ 25)))] [] := by
                intro hj70
                refine w_aload_n (pc' := 103) (i := 0) (by rfl) (by rfl) dX5_takeRule_102 rfl ?_
                refine w_dup (pc' := 104) dX5_takeRule_103 rfl ?_
                refine v_getI (pc' := 107) (ji := 7) rfl fg_X5_66 kd_57 dX5_takeRule_104 rfl ?_
                rw [(hA).rd (k := 57) (i := 7) rfl]
                refine w_iconst (pc' := 108) (by decide) dX5_takeRule_107 rfl ?_
                refine w_iload_n (pc' := 109) (i := 1) (by rfl) (by rfl) dX5_takeRule_108 rfl ?_
                refine w_ishl (pc' := 110) dX5_takeRule_109 rfl ?_
                refine w_ior (pc' := 111) dX5_takeRule_110 rfl ?_
                refine v_putI (pc' := 114) (ji := 7) rfl fp_X5_66 kd_57 sf_X5_7 dX5_takeRule_111 rfl ?_
                refine w_aload_n (pc' := 115) (i := 0) (by rfl) (by rfl) dX5_takeRule_114 rfl ?_
                refine w_iload_n (pc' := 116) (i := 1) (by rfl) (by rfl) dX5_takeRule_115 rfl ?_
                refine v_putI (pc' := 119) (ji := 8) rfl fp_X5_110 kd_57 sf_X5_8 dX5_takeRule_116 rfl ?_
                refine w_aload_n (pc' := 120) (i := 0) (by rfl) (by rfl) dX5_takeRule_119 rfl ?_
                refine w_bipush (pc' := 122) (by decide) (by decide) dX5_takeRule_120 rfl ?_
                refine v_putI (pc' := 125) (ji := 10) rfl fp_X5_133 kd_57 sf_X5_10 dX5_takeRule_122 rfl ?_
                refine w_aload_n (pc' := 126) (i := 0) (by rfl) (by rfl) dX5_takeRule_125 rfl ?_
                refine w_iload_n (pc' := 127) (i := 2) (by rfl) (by rfl) dX5_takeRule_126 rfl ?_
                refine v_putZ (pc' := 130) (ji := 11) (gb_01 _) rfl fp_X5_136 kd_57 sf_X5_11 dX5_takeRule_127 rfl ?_
                refine w_aload_n (pc' := 131) (i := 0) (by rfl) (by rfl) dX5_takeRule_130 rfl ?_
                have hj_149 : Wp mX5_takeRule 1 (fun r9 σ' => r9 = gI (LTR S w).2 ∧ AG c σ0 σ' (LTR S w).1) (gUp (gUp (gUp (gUp σ 57 7 (gB32 (fun a b => a ||| b) (S 57 7) (gB32 (fun a b => a <<< (b &&& 31)) 1 w))) 57 8 w) 57 10 30) 57 11 (gb (w = 19))) 149 [gR 57, gI w, gI (gb (w = 19)), gI (gb (w = 20 ∨ w = 21)), gI (gb (w = 8 ∨ (22 ≤ w ∧ w ≤ 25)))] [gI (if w = 19 then 1 else if w = 20 ∨ w = 21 then 3 else 8), gR 57] := by
                  refine v_putI (pc' := 152) (ji := 6) rfl fp_X5_63 kd_57 sf_X5_6 dX5_takeRule_149 rfl ?_
                  refine w_iconst (pc' := 153) (by decide) dX5_takeRule_152 rfl ?_
                  refine v_ireturn rfl dX5_takeRule_153 ?_
                  have e9 : LTR S w = (gUp (gUp (gUp (gUp (gUp S 57 7 (gB32 (fun a b => a ||| b) (S 57 7) (gB32 (fun a b => a <<< (b &&& 31)) 1 w))) 57 8 w) 57 10 30) 57 11 (gb (w = 19))) 57 6 (if w = 19 then 1 else if w = 20 ∨ w = 21 then 3 else 8), 0) := by
                    first
                    | (exfalso; omega)
                    | (unfold LTR LTRs TLD; repeat' (first | rfl | (exfalso; omega) | split))
                  rw [e9]
                  exact ⟨rfl, (AG.u57 hc (AG.u57 hc (AG.u57 hc (AG.u57 hc (AG.u57 hc hA rfl) rfl) rfl) rfl) rfl)⟩
                refine w_iload_n (pc' := 132) (i := 2) (by rfl) (by rfl) dX5_takeRule_131 rfl ?_
                refine v_if_eqB (pc' := 135) (t := 139) dX5_takeRule_132 rfl rfl (fun c_132 => ?_) (fun c_132 => ?_)
                · skip
                  refine w_iload_n (pc' := 140) (i := 3) (by rfl) (by rfl) dX5_takeRule_139 rfl ?_
                  refine v_if_eqB (pc' := 143) (t := 147) dX5_takeRule_140 rfl rfl (fun c_140 => ?_) (fun c_140 => ?_)
                  · skip
                    refine w_bipush (pc' := 149) (by decide) (by decide) dX5_takeRule_147 rfl ?_
                    exact Wp.stI (by first | (exfalso; omega) | ((repeat' split) <;> first | rfl | (exfalso; omega))) hj_149
                  · skip
                    refine w_iconst (pc' := 144) (by decide) dX5_takeRule_143 rfl ?_
                    refine w_goto (pc' := 149) dX5_takeRule_144 rfl ?_
                    exact Wp.stI (by first | (exfalso; omega) | ((repeat' split) <;> first | rfl | (exfalso; omega))) hj_149
                · skip
                  refine w_iconst (pc' := 136) (by decide) dX5_takeRule_135 rfl ?_
                  refine w_goto (pc' := 149) dX5_takeRule_136 rfl ?_
                  exact Wp.stI (by first | (exfalso; omega) | ((repeat' split) <;> first | rfl | (exfalso; omega))) hj_149
              refine w_iload_n (pc' := 71) (i := 2) (by rfl) (by rfl) dX5_takeRule_70 rfl ?_
              refine v_if_eqB (pc' := 74) (t := 89) dX5_takeRule_71 rfl rfl (fun c_71 => ?_) (fun c_71 => ?_)
              · skip
                refine w_aload_n (pc' := 90) (i := 0) (by rfl) (by rfl) dX5_takeRule_89 rfl ?_
                refine v_getI (pc' := 93) (ji := 7) rfl fg_X5_66 kd_57 dX5_takeRule_90 rfl ?_
                rw [(hA).rd (k := 57) (i := 7) rfl]
                refine w_iload_n (pc' := 94) (i := 1) (by rfl) (by rfl) dX5_takeRule_93 rfl ?_
                refine w_ishr (pc' := 95) dX5_takeRule_94 rfl ?_
                refine w_iconst (pc' := 96) (by decide) dX5_takeRule_95 rfl ?_
                refine w_iand (pc' := 97) dX5_takeRule_96 rfl ?_
                refine w_if_eq (pc' := 100) (t := 102) dX5_takeRule_97 rfl rfl (fun c_97 => ?_) (fun c_97 => ?_)
                · skip
                  exact hj_102 (by omega)
                · skip
                  refine w_iconst (pc' := 101) (by decide) dX5_takeRule_100 rfl ?_
                  refine v_ireturn rfl dX5_takeRule_101 ?_
                  have e9 : LTR S w = (S, 3) := by
                    first
                    | (exfalso; omega)
                    | (unfold LTR LTRs TLD; repeat' (first | rfl | (exfalso; omega) | split))
                  rw [e9]
                  exact ⟨rfl, hA⟩
              · skip
                refine w_aload_n (pc' := 75) (i := 0) (by rfl) (by rfl) dX5_takeRule_74 rfl ?_
                refine v_getM (pc' := 78) (q := c) (ji := 5) rfl fg_X5_29 kd_57 hA.dr dX5_takeRule_75 rfl ?_
                refine v_callVE (pc' := 81) (st' := [gI (S 68 3)]) (d' := 0) (av := []) mi_mX4_totalTells lk_X5_130 rfl ci_X4 hK.1 rfl (Nat.le_of_ble_eq_true rfl) (Nat.le_of_ble_eq_true rfl) dX5_takeRule_78 rfl rfl (kc_totalTells hc hA ) ?_
                refine w_bipush (pc' := 83) (by decide) (by decide) dX5_takeRule_81 rfl ?_
                refine w_icmp_lt (pc' := 86) (t := 102) dX5_takeRule_83 rfl rfl (fun c_83 => ?_) (fun c_83 => ?_)
                · skip
                  exact hj_102 (by omega)
                · skip
                  refine w_goto (pc' := 100) dX5_takeRule_86 rfl ?_
                  refine w_iconst (pc' := 101) (by decide) dX5_takeRule_100 rfl ?_
                  refine v_ireturn rfl dX5_takeRule_101 ?_
                  have e9 : LTR S w = (S, 3) := by
                    first
                    | (exfalso; omega)
                    | (unfold LTR LTRs TLD; repeat' (first | rfl | (exfalso; omega) | split))
                  rw [e9]
                  exact ⟨rfl, hA⟩
            · skip
              refine w_iconst (pc' := 69) (by decide) dX5_takeRule_68 rfl ?_
              refine v_ireturn rfl dX5_takeRule_69 ?_
              have e9 : LTR S w = (S, 1) := by
                first
                | (exfalso; omega)
                | (unfold LTR LTRs TLD; repeat' (first | rfl | (exfalso; omega) | split))
              rw [e9]
              exact ⟨rfl, hA⟩
      refine w_iload_n (pc' := 31) (i := 1) (by rfl) (by rfl) dX5_takeRule_30 rfl ?_
      refine w_bipush (pc' := 33) (by decide) (by decide) dX5_takeRule_31 rfl ?_
      refine w_icmp_eq (pc' := 36) (t := 48) dX5_takeRule_33 rfl rfl (fun c_33 => ?_) (fun c_33 => ?_)
      · skip
        refine w_iconst (pc' := 49) (by decide) dX5_takeRule_48 rfl ?_
        refine w_goto (pc' := 53) dX5_takeRule_49 rfl ?_
        exact Wp.stI (by first | (exfalso; omega) | exact (gb_t (P := w = 8 ∨ (22 ≤ w ∧ w ≤ 25)) (by omega)).symm) hj_53
      · skip
        refine w_iload_n (pc' := 37) (i := 1) (by rfl) (by rfl) dX5_takeRule_36 rfl ?_
        refine w_bipush (pc' := 39) (by decide) (by decide) dX5_takeRule_37 rfl ?_
        refine w_icmp_lt (pc' := 42) (t := 52) dX5_takeRule_39 rfl rfl (fun c_39 => ?_) (fun c_39 => ?_)
        · skip
          refine w_iconst (pc' := 53) (by decide) dX5_takeRule_52 rfl ?_
          exact Wp.stI (by first | (exfalso; omega) | exact (gb_f (P := w = 8 ∨ (22 ≤ w ∧ w ≤ 25)) (by omega)).symm) hj_53
        · skip
          refine w_iload_n (pc' := 43) (i := 1) (by rfl) (by rfl) dX5_takeRule_42 rfl ?_
          refine w_bipush (pc' := 45) (by decide) (by decide) dX5_takeRule_43 rfl ?_
          refine w_icmp_gt (pc' := 48) (t := 52) dX5_takeRule_45 rfl rfl (fun c_45 => ?_) (fun c_45 => ?_)
          · skip
            refine w_iconst (pc' := 53) (by decide) dX5_takeRule_52 rfl ?_
            exact Wp.stI (by first | (exfalso; omega) | exact (gb_f (P := w = 8 ∨ (22 ≤ w ∧ w ≤ 25)) (by omega)).symm) hj_53
          · skip
            refine w_iconst (pc' := 49) (by decide) dX5_takeRule_48 rfl ?_
            refine w_goto (pc' := 53) dX5_takeRule_49 rfl ?_
            exact Wp.stI (by first | (exfalso; omega) | exact (gb_t (P := w = 8 ∨ (22 ≤ w ∧ w ≤ 25)) (by omega)).symm) hj_53
    refine w_iload_n (pc' := 13) (i := 1) (by rfl) (by rfl) dX5_takeRule_12 rfl ?_
    refine w_bipush (pc' := 15) (by decide) (by decide) dX5_takeRule_13 rfl ?_
    refine w_icmp_eq (pc' := 18) (t := 24) dX5_takeRule_15 rfl rfl (fun c_15 => ?_) (fun c_15 => ?_)
    · skip
      refine w_iconst (pc' := 25) (by decide) dX5_takeRule_24 rfl ?_
      refine w_goto (pc' := 29) dX5_takeRule_25 rfl ?_
      exact Wp.stI (by first | (exfalso; omega) | exact (gb_t (P := w = 20 ∨ w = 21) (by omega)).symm) hj_29
    · skip
      refine w_iload_n (pc' := 19) (i := 1) (by rfl) (by rfl) dX5_takeRule_18 rfl ?_
      refine w_bipush (pc' := 21) (by decide) (by decide) dX5_takeRule_19 rfl ?_
      refine w_icmp_ne (pc' := 24) (t := 28) dX5_takeRule_21 rfl rfl (fun c_21 => ?_) (fun c_21 => ?_)
      · skip
        refine w_iconst (pc' := 29) (by decide) dX5_takeRule_28 rfl ?_
        exact Wp.stI (by first | (exfalso; omega) | exact (gb_f (P := w = 20 ∨ w = 21) (by omega)).symm) hj_29
      · skip
        refine w_iconst (pc' := 25) (by decide) dX5_takeRule_24 rfl ?_
        refine w_goto (pc' := 29) dX5_takeRule_25 rfl ?_
        exact Wp.stI (by first | (exfalso; omega) | exact (gb_t (P := w = 20 ∨ w = 21) (by omega)).symm) hj_29
  refine w_iload_n (pc' := 1) (i := 1) (by rfl) (by rfl) dX5_takeRule_0 rfl ?_
  refine w_bipush (pc' := 3) (by decide) (by decide) dX5_takeRule_1 rfl ?_
  refine w_icmp_ne (pc' := 6) (t := 10) dX5_takeRule_3 rfl rfl (fun c_3 => ?_) (fun c_3 => ?_)
  · skip
    refine w_iconst (pc' := 11) (by decide) dX5_takeRule_10 rfl ?_
    exact Wp.stI (by first | (exfalso; omega) | exact (gb_f (P := w = 19) (by omega)).symm) hj_11
  · skip
    refine w_iconst (pc' := 7) (by decide) dX5_takeRule_6 rfl ?_
    refine w_goto (pc' := 11) dX5_takeRule_7 rfl ?_
    exact Wp.stI (by first | (exfalso; omega) | exact (gb_t (P := w = 19) (by omega)).symm) hj_11
theorem kt_takeDays {c : Nat} {σ0 σ S : gH} (hc : isD c) (hA : AG c σ0 σ S) (k v : Int) : Mt mX5_takeDays 0 [gR 57, gI k, gI v] σ (fun r9 σ' => r9 = gI (LTD S k v).2 ∧ AG c σ0 σ' (LTD S k v).1) := by
  refine Mt.walk (ls := [gR 57, gI k, gI v]) pn_X5 rfl (fun _ _ h => by cases h.1) (Nat.le_of_ble_eq_true rfl) rfl ?_
  have hK := (isD_lw hc).1
  refine w_iload_n (pc' := 1) (i := 1) (by rfl) (by rfl) dX5_takeDays_0 rfl ?_
  refine w_iconst (pc' := 2) (by decide) dX5_takeDays_1 rfl ?_
  refine w_icmp_eq (pc' := 5) (t := 7) dX5_takeDays_2 rfl rfl (fun c_2 => ?_) (fun c_2 => ?_)
  · skip
    refine w_aload_n (pc' := 8) (i := 0) (by rfl) (by rfl) dX5_takeDays_7 rfl ?_
    refine w_iload_n (pc' := 9) (i := 2) (by rfl) (by rfl) dX5_takeDays_8 rfl ?_
    refine v_putI (pc' := 12) (ji := 10) rfl fp_X5_133 kd_57 sf_X5_10 dX5_takeDays_9 rfl ?_
    refine w_aload_n (pc' := 13) (i := 0) (by rfl) (by rfl) dX5_takeDays_12 rfl ?_
    refine w_iconst (pc' := 14) (by decide) dX5_takeDays_13 rfl ?_
    refine v_putI (pc' := 17) (ji := 6) rfl fp_X5_63 kd_57 sf_X5_6 dX5_takeDays_14 rfl ?_
    have hj_33 : Wp mX5_takeDays 0 (fun r9 σ' => r9 = gI (LTD S k v).2 ∧ AG c σ0 σ' (LTD S k v).1) (gUp (gUp σ 57 10 v) 57 6 3) 33 [gR 57, gI k, gI v] [gI (if 0 ≤ v ∧ v ≤ 999 then 0 else 2)] := by
      refine v_ireturn rfl dX5_takeDays_33 ?_
      have e9 : LTD S k v = (gUp (gUp S 57 10 v) 57 6 3, if 0 ≤ v ∧ v ≤ 999 then 0 else 2) := by
        first
        | (exfalso; omega)
        | (unfold LTD; repeat' (first | rfl | (exfalso; omega) | split))
      rw [e9]
      exact ⟨rfl, (AG.u57 hc (AG.u57 hc hA rfl) rfl)⟩
    refine w_iload_n (pc' := 18) (i := 2) (by rfl) (by rfl) dX5_takeDays_17 rfl ?_
    refine w_if_lt (pc' := 21) (t := 32) dX5_takeDays_18 rfl rfl (fun c_18 => ?_) (fun c_18 => ?_)
    · skip
      refine w_iconst (pc' := 33) (by decide) dX5_takeDays_32 rfl ?_
      exact Wp.stI (by first | (exfalso; omega) | (split <;> first | rfl | (exfalso; omega))) hj_33
    · skip
      refine w_iload_n (pc' := 22) (i := 2) (by rfl) (by rfl) dX5_takeDays_21 rfl ?_
      refine w_sipush (pc' := 25) (by decide) (by decide) dX5_takeDays_22 rfl ?_
      refine w_icmp_gt (pc' := 28) (t := 32) dX5_takeDays_25 rfl rfl (fun c_25 => ?_) (fun c_25 => ?_)
      · skip
        refine w_iconst (pc' := 33) (by decide) dX5_takeDays_32 rfl ?_
        exact Wp.stI (by first | (exfalso; omega) | (split <;> first | rfl | (exfalso; omega))) hj_33
      · skip
        refine w_iconst (pc' := 29) (by decide) dX5_takeDays_28 rfl ?_
        refine w_goto (pc' := 33) dX5_takeDays_29 rfl ?_
        exact Wp.stI (by first | (exfalso; omega) | (split <;> first | rfl | (exfalso; omega))) hj_33
  · skip
    refine w_iconst (pc' := 6) (by decide) dX5_takeDays_5 rfl ?_
    refine v_ireturn rfl dX5_takeDays_6 ?_
    have e9 : LTD S k v = (S, 1) := by
      first
      | (exfalso; omega)
      | (unfold LTD; repeat' (first | rfl | (exfalso; omega) | split))
    rw [e9]
    exact ⟨rfl, hA⟩
theorem kt_takeIf {c : Nat} {σ0 σ S : gH} (hc : isD c) (hA : AG c σ0 σ S) (w : Int) (ht : 0 ≤ S 68 3) (ht2 : S 57 11 ≠ 0 → S 68 3 < 8) : Mt mX5_takeIf 1 [gR 57, gI w] σ (fun r9 σ' => r9 = gI (LTI S w).2 ∧ AG c σ0 σ' (LTI S w).1) := by
  refine Mt.walk (ls := [gR 57, gI w]) pn_X5 rfl (fun _ _ h => by cases h.1) (Nat.le_of_ble_eq_true rfl) rfl ?_
  have hK := (isD_lw hc).1
  refine w_iload_n (pc' := 1) (i := 1) (by rfl) (by rfl) dX5_takeIf_0 rfl ?_
  refine w_bipush (pc' := 3) (by decide) (by decide) dX5_takeIf_1 rfl ?_
  refine w_icmp_eq (pc' := 6) (t := 8) dX5_takeIf_3 rfl rfl (fun c_3 => ?_) (fun c_3 => ?_)
  · skip
    refine w_aload_n (pc' := 9) (i := 0) (by rfl) (by rfl) dX5_takeIf_8 rfl ?_
    refine v_getZ (pc' := 12) (ji := 11) rfl fg_X5_136 kd_57 dX5_takeIf_9 rfl ?_
    rw [(hA).rd (k := 57) (i := 11) rfl]
    refine w_if_eq (pc' := 15) (t := 33) dX5_takeIf_12 rfl rfl (fun c_12 => ?_) (fun c_12 => ?_)
    · skip
      refine w_aload_n (pc' := 34) (i := 0) (by rfl) (by rfl) dX5_takeIf_33 rfl ?_
      refine w_aload_n (pc' := 35) (i := 0) (by rfl) (by rfl) dX5_takeIf_34 rfl ?_
      have hj_50 : Wp mX5_takeIf 1 (fun r9 σ' => r9 = gI (LTI S w).2 ∧ AG c σ0 σ' (LTI S w).1) σ 50 [gR 57, gI w] [gI (if S 57 8 = 20 then 8 else 9), gR 57] := by
        refine v_putI (pc' := 53) (ji := 12) rfl fp_X5_143 kd_57 sf_X5_12 dX5_takeIf_50 rfl ?_
        refine w_aload_n (pc' := 54) (i := 0) (by rfl) (by rfl) dX5_takeIf_53 rfl ?_
        refine v_getM (pc' := 57) (q := c) (ji := 5) rfl fg_X5_29 kd_57 hA.dr dX5_takeIf_54 rfl ?_
        refine w_aload_n (pc' := 58) (i := 0) (by rfl) (by rfl) dX5_takeIf_57 rfl ?_
        refine v_getI (pc' := 61) (ji := 12) rfl fg_X5_143 kd_57 dX5_takeIf_58 rfl ?_
        show Wp _ _ _ _ _ _ [gI (if S 57 8 = 20 then 8 else 9), gR c]
        refine w_callV (pc' := 64) (d' := 0) (av := [gI (if S 57 8 = 20 then 8 else 9)]) mi_mX4_begin lk_X5_146 rfl ci_X4 hK.1 rfl (Nat.le_of_ble_eq_true rfl) (Nat.le_of_ble_eq_true rfl) dX5_takeIf_61 rfl (kc_begin hc (AG.u57 hc hA rfl) (if S 57 8 = 20 then 8 else 9) (show 0 ≤ (if S 57 8 = 20 then 8 else 9) ∧ (if S 57 8 = 20 then 8 else 9) < 10 by omega)) (fun v_61 σ61 q_61 => ?_)
        obtain ⟨rfl, hA_61⟩ := q_61
        show Wp _ _ _ _ _ _ []
        refine w_aload_n (pc' := 65) (i := 0) (by rfl) (by rfl) dX5_takeIf_64 rfl ?_
        refine w_iconst (pc' := 66) (by decide) dX5_takeIf_65 rfl ?_
        refine v_putI (pc' := 69) (ji := 14) rfl fp_X5_150 kd_57 sf_X5_14 dX5_takeIf_66 rfl ?_
        refine w_aload_n (pc' := 70) (i := 0) (by rfl) (by rfl) dX5_takeIf_69 rfl ?_
        refine w_iconst (pc' := 71) (by decide) dX5_takeIf_70 rfl ?_
        refine v_putI (pc' := 74) (ji := 15) rfl fp_X5_153 kd_57 sf_X5_15 dX5_takeIf_71 rfl ?_
        refine w_aload_n (pc' := 75) (i := 0) (by rfl) (by rfl) dX5_takeIf_74 rfl ?_
        refine w_iconst (pc' := 76) (by decide) dX5_takeIf_75 rfl ?_
        refine v_putI (pc' := 79) (ji := 17) rfl fp_X5_156 kd_57 sf_X5_17 dX5_takeIf_76 rfl ?_
        refine w_aload_n (pc' := 80) (i := 0) (by rfl) (by rfl) dX5_takeIf_79 rfl ?_
        refine w_iconst (pc' := 81) (by decide) dX5_takeIf_80 rfl ?_
        refine v_putI (pc' := 84) (ji := 6) rfl fp_X5_63 kd_57 sf_X5_6 dX5_takeIf_81 rfl ?_
        refine w_iconst (pc' := 85) (by decide) dX5_takeIf_84 rfl ?_
        refine v_ireturn rfl dX5_takeIf_85 ?_
        have e9 : LTI S w = (gUp (gUp (gUp (gUp (gUp (gUp (gUp S 57 12 (if S 57 8 = 20 then 8 else 9)) 70 (if S 57 8 = 20 then 8 else 9) ((gUp S 57 12 (if S 57 8 = 20 then 8 else 9)) 68 15)) 71 (if S 57 8 = 20 then 8 else 9) ((gUp S 57 12 (if S 57 8 = 20 then 8 else 9)) 68 15)) 57 14 1) 57 15 0) 57 17 0) 57 6 4, 0) := by
          first
          | (exfalso; omega)
          | (unfold LTI; repeat' (first | rfl | (exfalso; omega) | split))
        rw [e9]
        exact ⟨rfl, (AG.u57 hc (AG.u57 hc (AG.u57 hc (AG.u57 hc hA_61 rfl) rfl) rfl) rfl)⟩
      refine v_getI (pc' := 38) (ji := 8) rfl fg_X5_110 kd_57 dX5_takeIf_35 rfl ?_
      rw [(hA).rd (k := 57) (i := 8) rfl]
      refine w_bipush (pc' := 40) (by decide) (by decide) dX5_takeIf_38 rfl ?_
      refine w_icmp_ne (pc' := 43) (t := 48) dX5_takeIf_40 rfl rfl (fun c_40 => ?_) (fun c_40 => ?_)
      · skip
        refine w_bipush (pc' := 50) (by decide) (by decide) dX5_takeIf_48 rfl ?_
        exact Wp.stI (by first | (exfalso; omega) | (split <;> first | rfl | (exfalso; omega))) hj_50
      · skip
        refine w_bipush (pc' := 45) (by decide) (by decide) dX5_takeIf_43 rfl ?_
        refine w_goto (pc' := 50) dX5_takeIf_45 rfl ?_
        exact Wp.stI (by first | (exfalso; omega) | (split <;> first | rfl | (exfalso; omega))) hj_50
    · skip
      refine w_aload_n (pc' := 16) (i := 0) (by rfl) (by rfl) dX5_takeIf_15 rfl ?_
      refine w_aload_n (pc' := 17) (i := 0) (by rfl) (by rfl) dX5_takeIf_16 rfl ?_
      refine v_getM (pc' := 20) (q := c) (ji := 5) rfl fg_X5_29 kd_57 hA.dr dX5_takeIf_17 rfl ?_
      refine w_aload_n (pc' := 21) (i := 0) (by rfl) (by rfl) dX5_takeIf_20 rfl ?_
      refine v_getI (pc' := 24) (ji := 10) rfl fg_X5_133 kd_57 dX5_takeIf_21 rfl ?_
      rw [(hA).rd (k := 57) (i := 10) rfl]
      refine w_callV (pc' := 27) (d' := 0) (av := [gI (S 57 10)]) mi_mX4_addTell lk_X5_140 rfl ci_X4 hK.1 rfl (Nat.le_of_ble_eq_true rfl) (Nat.le_of_ble_eq_true rfl) dX5_takeIf_24 rfl (kc_addTell hc hA (S 57 10) (show 0 ≤ S 68 3 ∧ S 68 3 < 8 by omega)) (fun v_24 σ24 q_24 => ?_)
      obtain ⟨rfl, hA_24⟩ := q_24
      show Wp _ _ _ _ _ _ [gI (S 68 3), gR 57]
      refine v_putI (pc' := 30) (ji := 12) rfl fp_X5_143 kd_57 sf_X5_12 dX5_takeIf_27 rfl ?_
      refine w_goto (pc' := 53) dX5_takeIf_30 rfl ?_
      refine w_aload_n (pc' := 54) (i := 0) (by rfl) (by rfl) dX5_takeIf_53 rfl ?_
      refine v_getM (pc' := 57) (q := c) (ji := 5) rfl fg_X5_29 kd_57 hA_24.dr dX5_takeIf_54 rfl ?_
      refine w_aload_n (pc' := 58) (i := 0) (by rfl) (by rfl) dX5_takeIf_57 rfl ?_
      refine v_getI (pc' := 61) (ji := 12) rfl fg_X5_143 kd_57 dX5_takeIf_58 rfl ?_
      show Wp _ _ _ _ _ _ [gI (S 68 3), gR c]
      refine w_callV (pc' := 64) (d' := 0) (av := [gI (S 68 3)]) mi_mX4_begin lk_X5_146 rfl ci_X4 hK.1 rfl (Nat.le_of_ble_eq_true rfl) (Nat.le_of_ble_eq_true rfl) dX5_takeIf_61 rfl (kc_begin hc (AG.u57 hc hA_24 rfl) (S 68 3) (show 0 ≤ (S 68 3) ∧ (S 68 3) < 10 by omega)) (fun v_61 σ61 q_61 => ?_)
      obtain ⟨rfl, hA_61⟩ := q_61
      show Wp _ _ _ _ _ _ []
      refine w_aload_n (pc' := 65) (i := 0) (by rfl) (by rfl) dX5_takeIf_64 rfl ?_
      refine w_iconst (pc' := 66) (by decide) dX5_takeIf_65 rfl ?_
      refine v_putI (pc' := 69) (ji := 14) rfl fp_X5_150 kd_57 sf_X5_14 dX5_takeIf_66 rfl ?_
      refine w_aload_n (pc' := 70) (i := 0) (by rfl) (by rfl) dX5_takeIf_69 rfl ?_
      refine w_iconst (pc' := 71) (by decide) dX5_takeIf_70 rfl ?_
      refine v_putI (pc' := 74) (ji := 15) rfl fp_X5_153 kd_57 sf_X5_15 dX5_takeIf_71 rfl ?_
      refine w_aload_n (pc' := 75) (i := 0) (by rfl) (by rfl) dX5_takeIf_74 rfl ?_
      refine w_iconst (pc' := 76) (by decide) dX5_takeIf_75 rfl ?_
      refine v_putI (pc' := 79) (ji := 17) rfl fp_X5_156 kd_57 sf_X5_17 dX5_takeIf_76 rfl ?_
      refine w_aload_n (pc' := 80) (i := 0) (by rfl) (by rfl) dX5_takeIf_79 rfl ?_
      refine w_iconst (pc' := 81) (by decide) dX5_takeIf_80 rfl ?_
      refine v_putI (pc' := 84) (ji := 6) rfl fp_X5_63 kd_57 sf_X5_6 dX5_takeIf_81 rfl ?_
      refine w_iconst (pc' := 85) (by decide) dX5_takeIf_84 rfl ?_
      refine v_ireturn rfl dX5_takeIf_85 ?_
      have e9 : LTI S w = (gUp (gUp (gUp (gUp (gUp (gUp (gUp (gUp (gUp S 69 (S 68 3) (S 57 10)) 68 3 (S 68 3 + 1)) 57 12 (S 68 3)) 70 (S 68 3) ((gUp (gUp (gUp S 69 (S 68 3) (S 57 10)) 68 3 (S 68 3 + 1)) 57 12 (S 68 3)) 68 15)) 71 (S 68 3) ((gUp (gUp (gUp S 69 (S 68 3) (S 57 10)) 68 3 (S 68 3 + 1)) 57 12 (S 68 3)) 68 15)) 57 14 1) 57 15 0) 57 17 0) 57 6 4, 0) := by
        first
        | (exfalso; omega)
        | (unfold LTI; repeat' (first | rfl | (exfalso; omega) | split))
      rw [e9]
      exact ⟨rfl, (AG.u57 hc (AG.u57 hc (AG.u57 hc (AG.u57 hc hA_61 rfl) rfl) rfl) rfl)⟩
  · skip
    refine w_iconst (pc' := 7) (by decide) dX5_takeIf_6 rfl ?_
    refine v_ireturn rfl dX5_takeIf_7 ?_
    have e9 : LTI S w = (S, 1) := by
      first
      | (exfalso; omega)
      | (unfold LTI; repeat' (first | rfl | (exfalso; omega) | split))
    rw [e9]
    exact ⟨rfl, hA⟩
theorem kt_takeAtom {c : Nat} {σ0 σ S : gH} (hc : isD c) (hA : AG c σ0 σ S) (w s n : Int) (h15 : 0 ≤ S 68 15 ∧ S 68 15 + 1 + S 57 17 ≤ 120) (h17 : 0 ≤ S 57 17 ∧ S 57 17 ≤ 64) (h14 : -1000 ≤ S 57 14 ∧ S 57 14 ≤ 1000) : Mt mX5_takeAtom 2 [gR 57, gI w, gI s, gI n] σ (fun v σ' => v = gI 0 ∧ AG c σ0 σ' (LTA S w s n)) := by
  refine Mt.walk (ls := [gR 57, gI w, gI s, gI n]) pn_X5 rfl (fun _ _ h => by cases h.1) (Nat.le_of_ble_eq_true rfl) rfl ?_
  have hK := (isD_lw hc).1
  refine w_aload_n (pc' := 1) (i := 0) (by rfl) (by rfl) dX5_takeAtom_0 rfl ?_
  refine v_getM (pc' := 4) (q := c) (ji := 5) rfl fg_X5_29 kd_57 hA.dr dX5_takeAtom_1 rfl ?_
  refine w_iload_n (pc' := 5) (i := 1) (by rfl) (by rfl) dX5_takeAtom_4 rfl ?_
  refine w_iload_n (pc' := 6) (i := 2) (by rfl) (by rfl) dX5_takeAtom_5 rfl ?_
  refine w_iload_n (pc' := 7) (i := 3) (by rfl) (by rfl) dX5_takeAtom_6 rfl ?_
  refine w_callV (pc' := 10) (d' := 0) (av := [gI w, gI s, gI n]) mi_mX4_put lk_X5_168 rfl ci_X4 hK.1 rfl (Nat.le_of_ble_eq_true rfl) (Nat.le_of_ble_eq_true rfl) dX5_takeAtom_7 rfl (kc_put hc hA w s n (show 0 ≤ S 68 15 ∧ S 68 15 < 120 by omega)) (fun v_7 σ7 q_7 => ?_)
  obtain ⟨rfl, hA_7⟩ := q_7
  show Wp _ _ _ _ _ _ []
  refine w_aload_n (pc' := 11) (i := 0) (by rfl) (by rfl) dX5_takeAtom_10 rfl ?_
  refine w_callV (pc' := 14) (d' := 1) (av := []) mi_mX5_closeNots lk_X5_172 rfl ci_X5 kd_57 rfl (Nat.le_of_ble_eq_true rfl) (Nat.le_of_ble_eq_true rfl) dX5_takeAtom_11 rfl (kc_closeNots hc hA_7 (show 0 ≤ (S 57 17) ∧ (S 57 17) ≤ 64 by omega) (show 0 ≤ ((S 68 15) + 1) ∧ ((S 68 15) + 1) + (S 57 17) ≤ 120 by omega) (show -1000 ≤ (S 57 14) ∧ (S 57 14) ≤ 1000 by omega)) (fun v_11 σ11 q_11 => ?_)
  obtain ⟨rfl, hA_11⟩ := q_11
  show Wp _ _ _ _ _ _ []
  refine w_iconst (pc' := 15) (by decide) dX5_takeAtom_14 rfl ?_
  refine v_ireturn rfl dX5_takeAtom_15 ?_
  exact ⟨rfl, hA_11⟩
theorem kt_takeOne {c : Nat} {σ0 σ S : gH} (hc : isD c) (hA : AG c σ0 σ S) (k w : Int) (h13 : 0 ≤ S 57 13) (h15 : 0 ≤ S 68 15 ∧ (S 57 13 < 60 → S 68 15 + 1 + S 57 17 ≤ 120)) (h17 : 0 ≤ S 57 17 ∧ S 57 17 ≤ 63) (h14 : 0 ≤ S 57 14 ∧ S 57 14 ≤ 1000) (hbr : 0 ≤ S 57 15 ∧ S 57 15 ≤ 1000) : Mt mX5_takeOne 3 [gR 57, gI k, gI w] σ (fun r9 σ' => r9 = gI (LTO S k w).2 ∧ AG c σ0 σ' (LTO S k w).1) := by
  refine Mt.walk (ls := [gR 57, gI k, gI w, gX 1]) pn_X5 rfl (fun _ _ h => by cases h.1) (Nat.le_of_ble_eq_true rfl) rfl ?_
  have hK := (isD_lw hc).1
  have hj_17 : Wp mX5_takeOne 3 (fun r9 σ' => r9 = gI (LTO S k w).2 ∧ AG c σ0 σ' (LTO S k w).1) σ 17 [gR 57, gI k, gI w, gX 1] [gI (gb (k = 40 ∨ w = 14))] := by
    refine w_istore_n (pc' := 18) (i := 3) (ls' := [gR 57, gI k, gI w, gI (gb (k = 40 ∨ w = 14))]) (by rfl) (by decide) (by rfl) dX5_takeOne_17 rfl ?_
    have hj_32 : (¬ (¬ (k = 40 ∨ w = 14) ∧ ¬ atmK (S 57 11) w)) → Wp mX5_takeOne 3 (fun r9 σ' => r9 = gI (LTO S k w).2 ∧ AG c σ0 σ' (LTO S k w).1) σ 32 [gR 57, gI k, gI w, gI (gb (k = 40 ∨ w = 14))] [] := by
      intro hj18
      refine w_aload_n (pc' := 33) (i := 0) (by rfl) (by rfl) dX5_takeOne_32 rfl ?_
      refine v_getI (pc' := 36) (ji := 13) rfl fg_X5_69 kd_57 dX5_takeOne_33 rfl ?_
      rw [(hA).rd (k := 57) (i := 13) rfl]
      refine w_bipush (pc' := 38) (by decide) (by decide) dX5_takeOne_36 rfl ?_
      refine w_icmp_ge (pc' := 41) (t := 50) dX5_takeOne_38 rfl rfl (fun c_38 => ?_) (fun c_38 => ?_)
      · skip
        refine w_iconst (pc' := 51) (by decide) dX5_takeOne_50 rfl ?_
        refine v_ireturn rfl dX5_takeOne_51 ?_
        have e9 : LTO S k w = (S, 4) := by
          first
          | (exfalso; omega)
          | (unfold LTO; repeat' (first | rfl | (exfalso; omega) | split))
        rw [e9]
        exact ⟨rfl, hA⟩
      · skip
        refine w_aload_n (pc' := 42) (i := 0) (by rfl) (by rfl) dX5_takeOne_41 rfl ?_
        refine v_getI (pc' := 45) (ji := 14) rfl fg_X5_150 kd_57 dX5_takeOne_42 rfl ?_
        rw [(hA).rd (k := 57) (i := 14) rfl]
        refine w_bipush (pc' := 47) (by decide) (by decide) dX5_takeOne_45 rfl ?_
        refine w_icmp_le (pc' := 50) (t := 52) dX5_takeOne_47 rfl rfl (fun c_47 => ?_) (fun c_47 => ?_)
        · skip
          refine w_aload_n (pc' := 53) (i := 0) (by rfl) (by rfl) dX5_takeOne_52 rfl ?_
          refine w_dup (pc' := 54) dX5_takeOne_53 rfl ?_
          refine v_getI (pc' := 57) (ji := 13) rfl fg_X5_69 kd_57 dX5_takeOne_54 rfl ?_
          rw [(hA).rd (k := 57) (i := 13) rfl]
          refine w_iconst (pc' := 58) (by decide) dX5_takeOne_57 rfl ?_
          refine v_iadd (pc' := 59) (by omega) dX5_takeOne_58 rfl ?_
          refine v_putI (pc' := 62) (ji := 13) rfl fp_X5_69 kd_57 sf_X5_13 dX5_takeOne_59 rfl ?_
          refine w_iload_n (pc' := 63) (i := 3) (by rfl) (by rfl) dX5_takeOne_62 rfl ?_
          refine v_if_eqB (pc' := 66) (t := 115) dX5_takeOne_63 rfl rfl (fun c_63 => ?_) (fun c_63 => ?_)
          · skip
            refine w_iload_n (pc' := 116) (i := 2) (by rfl) (by rfl) dX5_takeOne_115 rfl ?_
            refine v_callSE (pc' := 119) (st' := [gI (gb (isMeas w))]) (d' := 0) (av := [gI w]) ms_mX5_isCompared st_mX5_isCompared lk_X5_165 rfl rfl (Nat.le_of_ble_eq_true rfl) (Nat.le_of_ble_eq_true rfl) dX5_takeOne_116 rfl rfl (kl_isCompared (σ := gUp σ 57 13 ((S 57 13) + 1)) w) ?_
            refine v_if_eqB (pc' := 122) (t := 134) dX5_takeOne_119 rfl rfl (fun c_119 => ?_) (fun c_119 => ?_)
            · skip
              refine w_aload_n (pc' := 135) (i := 0) (by rfl) (by rfl) dX5_takeOne_134 rfl ?_
              refine w_iload_n (pc' := 136) (i := 2) (by rfl) (by rfl) dX5_takeOne_135 rfl ?_
              refine w_iconst (pc' := 137) (by decide) dX5_takeOne_136 rfl ?_
              refine w_iconst (pc' := 138) (by decide) dX5_takeOne_137 rfl ?_
              refine w_callV (pc' := 141) (d' := 2) (av := [gI w, gI 0, gI 0]) mi_mX5_takeAtom lk_X5_113 rfl ci_X5 kd_57 rfl (Nat.le_of_ble_eq_true rfl) (Nat.le_of_ble_eq_true rfl) dX5_takeOne_138 rfl (kt_takeAtom hc (AG.u57 hc hA rfl) w 0 0 (show 0 ≤ (S 68 15) ∧ (S 68 15) + 1 + (S 57 17) ≤ 120 by omega) (show 0 ≤ (S 57 17) ∧ (S 57 17) ≤ 64 by omega) (show -1000 ≤ (S 57 14) ∧ (S 57 14) ≤ 1000 by omega)) (fun v_138 σ138 q_138 => ?_)
              obtain ⟨rfl, hA_138⟩ := q_138
              show Wp _ _ _ _ _ _ [gI 0]
              refine v_ireturn rfl dX5_takeOne_141 ?_
              have e9 : LTO S k w = ((LTA (gUp S 57 13 ((S 57 13) + 1)) w 0 0), 0) := by
                first
                | (exfalso; omega)
                | (unfold LTO; repeat' (first | rfl | (exfalso; omega) | split))
              rw [e9]
              exact ⟨rfl, hA_138⟩
            · skip
              refine w_aload_n (pc' := 123) (i := 0) (by rfl) (by rfl) dX5_takeOne_122 rfl ?_
              refine w_iload_n (pc' := 124) (i := 2) (by rfl) (by rfl) dX5_takeOne_123 rfl ?_
              refine v_putI (pc' := 127) (ji := 8) rfl fp_X5_110 kd_57 sf_X5_8 dX5_takeOne_124 rfl ?_
              refine w_aload_n (pc' := 128) (i := 0) (by rfl) (by rfl) dX5_takeOne_127 rfl ?_
              refine w_iconst (pc' := 129) (by decide) dX5_takeOne_128 rfl ?_
              refine v_putI (pc' := 132) (ji := 6) rfl fp_X5_63 kd_57 sf_X5_6 dX5_takeOne_129 rfl ?_
              refine w_iconst (pc' := 133) (by decide) dX5_takeOne_132 rfl ?_
              refine v_ireturn rfl dX5_takeOne_133 ?_
              have e9 : LTO S k w = (gUp (gUp (gUp S 57 13 ((S 57 13) + 1)) 57 8 w) 57 6 5, 0) := by
                first
                | (exfalso; omega)
                | (unfold LTO; repeat' (first | rfl | (exfalso; omega) | split))
              rw [e9]
              exact ⟨rfl, (AG.u57 hc (AG.u57 hc (AG.u57 hc hA rfl) rfl) rfl)⟩
          · skip
            refine w_aload_n (pc' := 67) (i := 0) (by rfl) (by rfl) dX5_takeOne_66 rfl ?_
            have hj_80 : Wp mX5_takeOne 3 (fun r9 σ' => r9 = gI (LTO S k w).2 ∧ AG c σ0 σ' (LTO S k w).1) (gUp σ 57 13 ((S 57 13) + 1)) 80 [gR 57, gI k, gI w, gI (gb (k = 40 ∨ w = 14))] [gI (if k = 40 then 40 else 14), gR 57] := by
              refine w_callV (pc' := 83) (d' := 0) (av := [gI (if k = 40 then 40 else 14)]) mi_mX5_await lk_X5_162 rfl ci_X5 kd_57 rfl (Nat.le_of_ble_eq_true rfl) (Nat.le_of_ble_eq_true rfl) dX5_takeOne_80 rfl (kc_await hc (AG.u57 hc hA rfl) (if k = 40 then 40 else 14) (show 0 ≤ S 57 17 ∧ S 57 17 < 64 by omega)) (fun v_80 σ80 q_80 => ?_)
              obtain ⟨rfl, hA_80⟩ := q_80
              show Wp _ _ _ _ _ _ []
              refine w_aload_n (pc' := 84) (i := 0) (by rfl) (by rfl) dX5_takeOne_83 rfl ?_
              refine w_dup (pc' := 85) dX5_takeOne_84 rfl ?_
              refine v_getI (pc' := 88) (ji := 15) rfl fg_X5_153 kd_57 dX5_takeOne_85 rfl ?_
              rw [(hA_80).rd (k := 57) (i := 15) rfl]
              show Wp _ _ _ _ _ _ [gI (S 57 15), gR 57]
              have hj_99 : Wp mX5_takeOne 3 (fun r9 σ' => r9 = gI (LTO S k w).2 ∧ AG c σ0 σ' (LTO S k w).1) σ80 99 [gR 57, gI k, gI w, gI (gb (k = 40 ∨ w = 14))] [gI (gb (k = 40)), gI (S 57 15), gR 57] := by
                refine v_iadd (pc' := 100) (by have := gb_01 (k = 40); omega) dX5_takeOne_99 rfl ?_
                refine v_putI (pc' := 103) (ji := 15) rfl fp_X5_153 kd_57 sf_X5_15 dX5_takeOne_100 rfl ?_
                refine w_aload_n (pc' := 104) (i := 0) (by rfl) (by rfl) dX5_takeOne_103 rfl ?_
                refine w_dup (pc' := 105) dX5_takeOne_104 rfl ?_
                refine v_getI (pc' := 108) (ji := 14) rfl fg_X5_150 kd_57 dX5_takeOne_105 rfl ?_
                show Wp _ _ _ _ _ _ [gI (σ80 57 14), gR 57]
                rw [(hA_80).rd (k := 57) (i := 14) rfl]
                show Wp _ _ _ _ _ _ [gI (S 57 14), gR 57]
                refine w_iconst (pc' := 109) (by decide) dX5_takeOne_108 rfl ?_
                refine v_iadd (pc' := 110) (by omega) dX5_takeOne_109 rfl ?_
                refine v_putI (pc' := 113) (ji := 14) rfl fp_X5_150 kd_57 sf_X5_14 dX5_takeOne_110 rfl ?_
                refine w_iconst (pc' := 114) (by decide) dX5_takeOne_113 rfl ?_
                refine v_ireturn rfl dX5_takeOne_114 ?_
                have e9 : LTO S k w = (gUp (gUp (gUp (gUp (gUp S 57 13 ((S 57 13) + 1)) 67 ((gUp S 57 13 ((S 57 13) + 1)) 57 17) (if k = 40 then 40 else 14)) 57 17 ((gUp S 57 13 ((S 57 13) + 1)) 57 17 + 1)) 57 15 ((S 57 15) + (gb (k = 40)))) 57 14 ((S 57 14) + 1), 0) := by
                  first
                  | (exfalso; omega)
                  | (unfold LTO; repeat' (first | rfl | (exfalso; omega) | split))
                rw [e9]
                exact ⟨rfl, (AG.u57 hc (AG.u57 hc hA_80 rfl) rfl)⟩
              refine w_iload_n (pc' := 89) (i := 1) (by rfl) (by rfl) dX5_takeOne_88 rfl ?_
              refine w_bipush (pc' := 91) (by decide) (by decide) dX5_takeOne_89 rfl ?_
              refine w_icmp_ne (pc' := 94) (t := 98) dX5_takeOne_91 rfl rfl (fun c_91 => ?_) (fun c_91 => ?_)
              · skip
                refine w_iconst (pc' := 99) (by decide) dX5_takeOne_98 rfl ?_
                exact Wp.stI (by first | (exfalso; omega) | exact (gb_f (P := k = 40) (by omega)).symm) hj_99
              · skip
                refine w_iconst (pc' := 95) (by decide) dX5_takeOne_94 rfl ?_
                refine w_goto (pc' := 99) dX5_takeOne_95 rfl ?_
                exact Wp.stI (by first | (exfalso; omega) | exact (gb_t (P := k = 40) (by omega)).symm) hj_99
            refine w_iload_n (pc' := 68) (i := 1) (by rfl) (by rfl) dX5_takeOne_67 rfl ?_
            refine w_bipush (pc' := 70) (by decide) (by decide) dX5_takeOne_68 rfl ?_
            refine w_icmp_ne (pc' := 73) (t := 78) dX5_takeOne_70 rfl rfl (fun c_70 => ?_) (fun c_70 => ?_)
            · skip
              refine w_bipush (pc' := 80) (by decide) (by decide) dX5_takeOne_78 rfl ?_
              exact Wp.stI (by first | (exfalso; omega) | (split <;> first | rfl | (exfalso; omega))) hj_80
            · skip
              refine w_bipush (pc' := 75) (by decide) (by decide) dX5_takeOne_73 rfl ?_
              refine w_goto (pc' := 80) dX5_takeOne_75 rfl ?_
              exact Wp.stI (by first | (exfalso; omega) | (split <;> first | rfl | (exfalso; omega))) hj_80
        · skip
          refine w_iconst (pc' := 51) (by decide) dX5_takeOne_50 rfl ?_
          refine v_ireturn rfl dX5_takeOne_51 ?_
          have e9 : LTO S k w = (S, 4) := by
            first
            | (exfalso; omega)
            | (unfold LTO; repeat' (first | rfl | (exfalso; omega) | split))
          rw [e9]
          exact ⟨rfl, hA⟩
    refine w_iload_n (pc' := 19) (i := 3) (by rfl) (by rfl) dX5_takeOne_18 rfl ?_
    refine v_if_neB (pc' := 22) (t := 32) dX5_takeOne_19 rfl rfl (fun c_19 => ?_) (fun c_19 => ?_)
    · skip
      exact hj_32 (by omega)
    · skip
      refine w_aload_n (pc' := 23) (i := 0) (by rfl) (by rfl) dX5_takeOne_22 rfl ?_
      refine w_iload_n (pc' := 24) (i := 2) (by rfl) (by rfl) dX5_takeOne_23 rfl ?_
      refine v_callVE (pc' := 27) (st' := [gI (gb (atmK (S 57 11) w))]) (d' := 0) (av := [gI w]) mi_mX5_isAtom lk_X5_159 rfl ci_X5 kd_57 rfl (Nat.le_of_ble_eq_true rfl) (Nat.le_of_ble_eq_true rfl) dX5_takeOne_24 rfl rfl (kc_isAtom hc hA w) ?_
      refine v_if_neB (pc' := 30) (t := 32) dX5_takeOne_27 rfl rfl (fun c_27 => ?_) (fun c_27 => ?_)
      · skip
        exact hj_32 (by omega)
      · skip
        refine w_iconst (pc' := 31) (by decide) dX5_takeOne_30 rfl ?_
        refine v_ireturn rfl dX5_takeOne_31 ?_
        have e9 : LTO S k w = (S, 1) := by
          first
          | (exfalso; omega)
          | (unfold LTO; repeat' (first | rfl | (exfalso; omega) | split))
        rw [e9]
        exact ⟨rfl, hA⟩
  refine w_iload_n (pc' := 1) (i := 1) (by rfl) (by rfl) dX5_takeOne_0 rfl ?_
  refine w_bipush (pc' := 3) (by decide) (by decide) dX5_takeOne_1 rfl ?_
  refine w_icmp_eq (pc' := 6) (t := 12) dX5_takeOne_3 rfl rfl (fun c_3 => ?_) (fun c_3 => ?_)
  · skip
    refine w_iconst (pc' := 13) (by decide) dX5_takeOne_12 rfl ?_
    refine w_goto (pc' := 17) dX5_takeOne_13 rfl ?_
    exact Wp.stI (by first | (exfalso; omega) | exact (gb_t (P := k = 40 ∨ w = 14) (by omega)).symm) hj_17
  · skip
    refine w_iload_n (pc' := 7) (i := 2) (by rfl) (by rfl) dX5_takeOne_6 rfl ?_
    refine w_bipush (pc' := 9) (by decide) (by decide) dX5_takeOne_7 rfl ?_
    refine w_icmp_ne (pc' := 12) (t := 16) dX5_takeOne_9 rfl rfl (fun c_9 => ?_) (fun c_9 => ?_)
    · skip
      refine w_iconst (pc' := 17) (by decide) dX5_takeOne_16 rfl ?_
      exact Wp.stI (by first | (exfalso; omega) | exact (gb_f (P := k = 40 ∨ w = 14) (by omega)).symm) hj_17
    · skip
      refine w_iconst (pc' := 13) (by decide) dX5_takeOne_12 rfl ?_
      refine w_goto (pc' := 17) dX5_takeOne_13 rfl ?_
      exact Wp.stI (by first | (exfalso; omega) | exact (gb_t (P := k = 40 ∨ w = 14) (by omega)).symm) hj_17
theorem kt_takeRuleEnd {c : Nat} {σ0 σ S : gH} (hc : isD c) (hA : AG c σ0 σ S) (k : Int) (h2 : 0 ≤ S 68 2 ∧ S 68 2 < 600) : Mt mX5_takeRuleEnd 1 [gR 57, gI k] σ (fun r9 σ' => r9 = gI (LTF S k).2 ∧ AG c σ0 σ' (LTF S k).1) := by
  refine Mt.walk (ls := [gR 57, gI k]) pn_X5 rfl (fun _ _ h => by cases h.1) (Nat.le_of_ble_eq_true rfl) rfl ?_
  have hK := (isD_lw hc).1
  refine w_iload_n (pc' := 1) (i := 1) (by rfl) (by rfl) dX5_takeRuleEnd_0 rfl ?_
  refine w_bipush (pc' := 3) (by decide) (by decide) dX5_takeRuleEnd_1 rfl ?_
  refine w_icmp_eq (pc' := 6) (t := 8) dX5_takeRuleEnd_3 rfl rfl (fun c_3 => ?_) (fun c_3 => ?_)
  · skip
    refine w_aload_n (pc' := 9) (i := 0) (by rfl) (by rfl) dX5_takeRuleEnd_8 rfl ?_
    refine v_getM (pc' := 12) (q := c) (ji := 5) rfl fg_X5_29 kd_57 hA.dr dX5_takeRuleEnd_9 rfl ?_
    refine w_callV (pc' := 15) (d' := 0) (av := []) mi_mX4_countRule lk_X5_190 rfl ci_X4 hK.1 rfl (Nat.le_of_ble_eq_true rfl) (Nat.le_of_ble_eq_true rfl) dX5_takeRuleEnd_12 rfl (kc_countRule hc hA (show 0 ≤ S 68 2 ∧ S 68 2 < 600 by omega)) (fun v_12 σ12 q_12 => ?_)
    obtain ⟨rfl, hA_12⟩ := q_12
    show Wp _ _ _ _ _ _ []
    refine w_aload_n (pc' := 16) (i := 0) (by rfl) (by rfl) dX5_takeRuleEnd_15 rfl ?_
    refine w_iconst (pc' := 17) (by decide) dX5_takeRuleEnd_16 rfl ?_
    refine v_putI (pc' := 20) (ji := 6) rfl fp_X5_63 kd_57 sf_X5_6 dX5_takeRuleEnd_17 rfl ?_
    refine w_iconst (pc' := 21) (by decide) dX5_takeRuleEnd_20 rfl ?_
    refine v_ireturn rfl dX5_takeRuleEnd_21 ?_
    have e9 : LTF S k = (gUp (gUp S 68 2 (S 68 2 + 1)) 57 6 0, 0) := by
      first
      | (exfalso; omega)
      | (unfold LTF; repeat' (first | rfl | (exfalso; omega) | split))
    rw [e9]
    exact ⟨rfl, (AG.u57 hc hA_12 rfl)⟩
  · skip
    refine w_iconst (pc' := 7) (by decide) dX5_takeRuleEnd_6 rfl ?_
    refine v_ireturn rfl dX5_takeRuleEnd_7 ?_
    have e9 : LTF S k = (S, 1) := by
      first
      | (exfalso; omega)
      | (unfold LTF; repeat' (first | rfl | (exfalso; omega) | split))
    rw [e9]
    exact ⟨rfl, hA⟩
theorem kt_takeLink {c : Nat} {σ0 σ S : gH} (hc : isD c) (hA : AG c σ0 σ S) (k w : Int) (h2 : 0 ≤ S 68 2 ∧ S 68 2 < 600) (h15 : 0 ≤ S 68 15 ∧ S 68 15 + S 57 17 ≤ 120) (h17 : 0 ≤ S 57 17 ∧ S 57 17 ≤ 63) (h14 : 0 ≤ S 57 14 ∧ S 57 14 ≤ 1000) (hbr : 0 ≤ S 57 15 ∧ S 57 15 ≤ 1000) (h12 : 0 ≤ S 57 12 ∧ S 57 12 < 10) (hb : 0 < S 57 15 → 1 ≤ lkF (S 67) 16 (S 57 17).toNat) : Mt mX5_takeLink 2 [gR 57, gI k, gI w] σ (fun r9 σ' => r9 = gI (LTL S k w).2 ∧ AG c σ0 σ' (LTL S k w).1) := by
  refine Mt.walk (ls := [gR 57, gI k, gI w]) pn_X5 rfl (fun _ _ h => by cases h.1) (Nat.le_of_ble_eq_true rfl) rfl ?_
  have hK := (isD_lw hc).1
  have hl := (lkF_at (W := S 67) (x := w) h17.1).1
  have hl6 := (lkF_at (W := S 67) (x := 16) h17.1).1
  refine w_iload_n (pc' := 1) (i := 2) (by rfl) (by rfl) dX5_takeLink_0 rfl ?_
  refine w_bipush (pc' := 3) (by decide) (by decide) dX5_takeLink_1 rfl ?_
  refine w_icmp_eq (pc' := 6) (t := 12) dX5_takeLink_3 rfl rfl (fun c_3 => ?_) (fun c_3 => ?_)
  · skip
    refine w_aload_n (pc' := 13) (i := 0) (by rfl) (by rfl) dX5_takeLink_12 rfl ?_
    refine w_iload_n (pc' := 14) (i := 2) (by rfl) (by rfl) dX5_takeLink_13 rfl ?_
    refine w_callV (pc' := 17) (d' := 1) (av := [gI w]) mi_mX5_closeLinks lk_X5_175 rfl ci_X5 kd_57 rfl (Nat.le_of_ble_eq_true rfl) (Nat.le_of_ble_eq_true rfl) dX5_takeLink_14 rfl (kc_closeLinks hc hA w (by omega) (show 0 ≤ S 57 17 ∧ S 57 17 ≤ 64 by omega) (show 0 ≤ S 68 15 ∧ S 68 15 + S 57 17 ≤ 120 by omega)) (fun v_14 σ14 q_14 => ?_)
    obtain ⟨rfl, hA_14⟩ := q_14
    show Wp _ _ _ _ _ _ []
    refine w_aload_n (pc' := 18) (i := 0) (by rfl) (by rfl) dX5_takeLink_17 rfl ?_
    refine w_iload_n (pc' := 19) (i := 2) (by rfl) (by rfl) dX5_takeLink_18 rfl ?_
    refine w_callV (pc' := 22) (d' := 0) (av := [gI w]) mi_mX5_await lk_X5_162 rfl ci_X5 kd_57 rfl (Nat.le_of_ble_eq_true rfl) (Nat.le_of_ble_eq_true rfl) dX5_takeLink_19 rfl (kc_await hc hA_14 w (show 0 ≤ lkF (S 67) w (S 57 17).toNat ∧ lkF (S 67) w (S 57 17).toNat < 64 by omega)) (fun v_19 σ19 q_19 => ?_)
    obtain ⟨rfl, hA_19⟩ := q_19
    show Wp _ _ _ _ _ _ []
    refine w_aload_n (pc' := 23) (i := 0) (by rfl) (by rfl) dX5_takeLink_22 rfl ?_
    refine w_iconst (pc' := 24) (by decide) dX5_takeLink_23 rfl ?_
    refine v_putI (pc' := 27) (ji := 6) rfl fp_X5_63 kd_57 sf_X5_6 dX5_takeLink_24 rfl ?_
    refine w_iconst (pc' := 28) (by decide) dX5_takeLink_27 rfl ?_
    refine v_ireturn rfl dX5_takeLink_28 ?_
    have e9 : LTL S k w = (gUp (gUp (gUp (CLS S w) 67 ((CLS S w) 57 17) w) 57 17 ((CLS S w) 57 17 + 1)) 57 6 4, 0) := by
      first
      | (exfalso; omega)
      | (unfold LTL; repeat' (first | rfl | (exfalso; omega) | split))
    rw [e9]
    exact ⟨rfl, (AG.u57 hc hA_19 rfl)⟩
  · skip
    refine w_iload_n (pc' := 7) (i := 2) (by rfl) (by rfl) dX5_takeLink_6 rfl ?_
    refine w_bipush (pc' := 9) (by decide) (by decide) dX5_takeLink_7 rfl ?_
    refine w_icmp_ne (pc' := 12) (t := 29) dX5_takeLink_9 rfl rfl (fun c_9 => ?_) (fun c_9 => ?_)
    · skip
      refine w_iload_n (pc' := 30) (i := 1) (by rfl) (by rfl) dX5_takeLink_29 rfl ?_
      refine w_bipush (pc' := 32) (by decide) (by decide) dX5_takeLink_30 rfl ?_
      refine w_icmp_ne (pc' := 35) (t := 84) dX5_takeLink_32 rfl rfl (fun c_32 => ?_) (fun c_32 => ?_)
      · skip
        refine w_iload_n (pc' := 85) (i := 1) (by rfl) (by rfl) dX5_takeLink_84 rfl ?_
        refine w_bipush (pc' := 87) (by decide) (by decide) dX5_takeLink_85 rfl ?_
        refine w_icmp_ne (pc' := 90) (t := 120) dX5_takeLink_87 rfl rfl (fun c_87 => ?_) (fun c_87 => ?_)
        · skip
          refine w_iconst (pc' := 121) (by decide) dX5_takeLink_120 rfl ?_
          refine v_ireturn rfl dX5_takeLink_121 ?_
          have e9 : LTL S k w = (S, 1) := by
            first
            | (exfalso; omega)
            | (unfold LTL; repeat' (first | rfl | (exfalso; omega) | split))
          rw [e9]
          exact ⟨rfl, hA⟩
        · skip
          refine w_aload_n (pc' := 91) (i := 0) (by rfl) (by rfl) dX5_takeLink_90 rfl ?_
          refine v_getI (pc' := 94) (ji := 15) rfl fg_X5_153 kd_57 dX5_takeLink_91 rfl ?_
          rw [(hA).rd (k := 57) (i := 15) rfl]
          refine w_if_ne (pc' := 97) (t := 120) dX5_takeLink_94 rfl rfl (fun c_94 => ?_) (fun c_94 => ?_)
          · skip
            refine w_iconst (pc' := 121) (by decide) dX5_takeLink_120 rfl ?_
            refine v_ireturn rfl dX5_takeLink_121 ?_
            have e9 : LTL S k w = (S, 1) := by
              first
              | (exfalso; omega)
              | (unfold LTL; repeat' (first | rfl | (exfalso; omega) | split))
            rw [e9]
            exact ⟨rfl, hA⟩
          · skip
            refine w_aload_n (pc' := 98) (i := 0) (by rfl) (by rfl) dX5_takeLink_97 rfl ?_
            refine w_bipush (pc' := 100) (by decide) (by decide) dX5_takeLink_98 rfl ?_
            refine w_callV (pc' := 103) (d' := 1) (av := [gI 16]) mi_mX5_closeLinks lk_X5_175 rfl ci_X5 kd_57 rfl (Nat.le_of_ble_eq_true rfl) (Nat.le_of_ble_eq_true rfl) dX5_takeLink_100 rfl (kc_closeLinks hc hA 16 (by omega) (show 0 ≤ S 57 17 ∧ S 57 17 ≤ 64 by omega) (show 0 ≤ S 68 15 ∧ S 68 15 + S 57 17 ≤ 120 by omega)) (fun v_100 σ100 q_100 => ?_)
            obtain ⟨rfl, hA_100⟩ := q_100
            show Wp _ _ _ _ _ _ []
            refine w_aload_n (pc' := 104) (i := 0) (by rfl) (by rfl) dX5_takeLink_103 rfl ?_
            refine v_getM (pc' := 107) (q := c) (ji := 5) rfl fg_X5_29 kd_57 hA_100.dr dX5_takeLink_104 rfl ?_
            refine w_aload_n (pc' := 108) (i := 0) (by rfl) (by rfl) dX5_takeLink_107 rfl ?_
            refine v_getI (pc' := 111) (ji := 12) rfl fg_X5_143 kd_57 dX5_takeLink_108 rfl ?_
            rw [(hA_100).rd (k := 57) (i := 12) rfl]
            show Wp _ _ _ _ _ _ [gI (S 57 12), gR c]
            refine w_callV (pc' := 114) (d' := 0) (av := [gI (S 57 12)]) mi_mX4_finish lk_X5_178 rfl ci_X4 hK.1 rfl (Nat.le_of_ble_eq_true rfl) (Nat.le_of_ble_eq_true rfl) dX5_takeLink_111 rfl (kc_finish hc hA_100 (S 57 12) (show 0 ≤ (S 57 12) ∧ (S 57 12) < 10 by omega)) (fun v_111 σ111 q_111 => ?_)
            obtain ⟨rfl, hA_111⟩ := q_111
            show Wp _ _ _ _ _ _ []
            refine w_aload_n (pc' := 115) (i := 0) (by rfl) (by rfl) dX5_takeLink_114 rfl ?_
            refine w_iload_n (pc' := 116) (i := 1) (by rfl) (by rfl) dX5_takeLink_115 rfl ?_
            refine w_callV (pc' := 119) (d' := 1) (av := [gI k]) mi_mX5_takeRuleEnd lk_X5_123 rfl ci_X5 kd_57 rfl (Nat.le_of_ble_eq_true rfl) (Nat.le_of_ble_eq_true rfl) dX5_takeLink_116 rfl (kt_takeRuleEnd hc hA_111 k (show 0 ≤ S 68 2 ∧ S 68 2 < 600 by omega)) (fun v_116 σ116 q_116 => ?_)
            obtain ⟨rfl, hA_116⟩ := q_116
            show Wp _ _ _ _ _ _ [gI ((LTF (gUp (CLS S 16) 71 (S 57 12) ((CLS S 16) 68 15)) k).2)]
            refine v_ireturn rfl dX5_takeLink_119 ?_
            have e9 : LTL S k w = (((LTF (gUp (CLS S 16) 71 (S 57 12) ((CLS S 16) 68 15)) k).1), (LTF (gUp (CLS S 16) 71 (S 57 12) ((CLS S 16) 68 15)) k).2) := by
              first
              | (exfalso; omega)
              | (unfold LTL; repeat' (first | rfl | (exfalso; omega) | split))
            rw [e9]
            exact ⟨rfl, hA_116⟩
      · skip
        refine w_aload_n (pc' := 36) (i := 0) (by rfl) (by rfl) dX5_takeLink_35 rfl ?_
        refine v_getI (pc' := 39) (ji := 15) rfl fg_X5_153 kd_57 dX5_takeLink_36 rfl ?_
        rw [(hA).rd (k := 57) (i := 15) rfl]
        refine w_if_le (pc' := 42) (t := 84) dX5_takeLink_39 rfl rfl (fun c_39 => ?_) (fun c_39 => ?_)
        · skip
          refine w_iload_n (pc' := 85) (i := 1) (by rfl) (by rfl) dX5_takeLink_84 rfl ?_
          refine w_bipush (pc' := 87) (by decide) (by decide) dX5_takeLink_85 rfl ?_
          refine w_icmp_ne (pc' := 90) (t := 120) dX5_takeLink_87 rfl rfl (fun c_87 => ?_) (fun c_87 => ?_)
          · skip
            refine w_iconst (pc' := 121) (by decide) dX5_takeLink_120 rfl ?_
            refine v_ireturn rfl dX5_takeLink_121 ?_
            have e9 : LTL S k w = (S, 1) := by
              first
              | (exfalso; omega)
              | (unfold LTL; repeat' (first | rfl | (exfalso; omega) | split))
            rw [e9]
            exact ⟨rfl, hA⟩
          · skip
            refine w_aload_n (pc' := 91) (i := 0) (by rfl) (by rfl) dX5_takeLink_90 rfl ?_
            refine v_getI (pc' := 94) (ji := 15) rfl fg_X5_153 kd_57 dX5_takeLink_91 rfl ?_
            rw [(hA).rd (k := 57) (i := 15) rfl]
            refine w_if_ne (pc' := 97) (t := 120) dX5_takeLink_94 rfl rfl (fun c_94 => ?_) (fun c_94 => ?_)
            · skip
              refine w_iconst (pc' := 121) (by decide) dX5_takeLink_120 rfl ?_
              refine v_ireturn rfl dX5_takeLink_121 ?_
              have e9 : LTL S k w = (S, 1) := by
                first
                | (exfalso; omega)
                | (unfold LTL; repeat' (first | rfl | (exfalso; omega) | split))
              rw [e9]
              exact ⟨rfl, hA⟩
            · skip
              refine w_aload_n (pc' := 98) (i := 0) (by rfl) (by rfl) dX5_takeLink_97 rfl ?_
              refine w_bipush (pc' := 100) (by decide) (by decide) dX5_takeLink_98 rfl ?_
              refine w_callV (pc' := 103) (d' := 1) (av := [gI 16]) mi_mX5_closeLinks lk_X5_175 rfl ci_X5 kd_57 rfl (Nat.le_of_ble_eq_true rfl) (Nat.le_of_ble_eq_true rfl) dX5_takeLink_100 rfl (kc_closeLinks hc hA 16 (by omega) (show 0 ≤ S 57 17 ∧ S 57 17 ≤ 64 by omega) (show 0 ≤ S 68 15 ∧ S 68 15 + S 57 17 ≤ 120 by omega)) (fun v_100 σ100 q_100 => ?_)
              obtain ⟨rfl, hA_100⟩ := q_100
              show Wp _ _ _ _ _ _ []
              refine w_aload_n (pc' := 104) (i := 0) (by rfl) (by rfl) dX5_takeLink_103 rfl ?_
              refine v_getM (pc' := 107) (q := c) (ji := 5) rfl fg_X5_29 kd_57 hA_100.dr dX5_takeLink_104 rfl ?_
              refine w_aload_n (pc' := 108) (i := 0) (by rfl) (by rfl) dX5_takeLink_107 rfl ?_
              refine v_getI (pc' := 111) (ji := 12) rfl fg_X5_143 kd_57 dX5_takeLink_108 rfl ?_
              rw [(hA_100).rd (k := 57) (i := 12) rfl]
              show Wp _ _ _ _ _ _ [gI (S 57 12), gR c]
              refine w_callV (pc' := 114) (d' := 0) (av := [gI (S 57 12)]) mi_mX4_finish lk_X5_178 rfl ci_X4 hK.1 rfl (Nat.le_of_ble_eq_true rfl) (Nat.le_of_ble_eq_true rfl) dX5_takeLink_111 rfl (kc_finish hc hA_100 (S 57 12) (show 0 ≤ (S 57 12) ∧ (S 57 12) < 10 by omega)) (fun v_111 σ111 q_111 => ?_)
              obtain ⟨rfl, hA_111⟩ := q_111
              show Wp _ _ _ _ _ _ []
              refine w_aload_n (pc' := 115) (i := 0) (by rfl) (by rfl) dX5_takeLink_114 rfl ?_
              refine w_iload_n (pc' := 116) (i := 1) (by rfl) (by rfl) dX5_takeLink_115 rfl ?_
              refine w_callV (pc' := 119) (d' := 1) (av := [gI k]) mi_mX5_takeRuleEnd lk_X5_123 rfl ci_X5 kd_57 rfl (Nat.le_of_ble_eq_true rfl) (Nat.le_of_ble_eq_true rfl) dX5_takeLink_116 rfl (kt_takeRuleEnd hc hA_111 k (show 0 ≤ S 68 2 ∧ S 68 2 < 600 by omega)) (fun v_116 σ116 q_116 => ?_)
              obtain ⟨rfl, hA_116⟩ := q_116
              show Wp _ _ _ _ _ _ [gI ((LTF (gUp (CLS S 16) 71 (S 57 12) ((CLS S 16) 68 15)) k).2)]
              refine v_ireturn rfl dX5_takeLink_119 ?_
              have e9 : LTL S k w = (((LTF (gUp (CLS S 16) 71 (S 57 12) ((CLS S 16) 68 15)) k).1), (LTF (gUp (CLS S 16) 71 (S 57 12) ((CLS S 16) 68 15)) k).2) := by
                first
                | (exfalso; omega)
                | (unfold LTL; repeat' (first | rfl | (exfalso; omega) | split))
              rw [e9]
              exact ⟨rfl, hA_116⟩
        · skip
          refine w_aload_n (pc' := 43) (i := 0) (by rfl) (by rfl) dX5_takeLink_42 rfl ?_
          refine w_bipush (pc' := 45) (by decide) (by decide) dX5_takeLink_43 rfl ?_
          refine w_callV (pc' := 48) (d' := 1) (av := [gI 16]) mi_mX5_closeLinks lk_X5_175 rfl ci_X5 kd_57 rfl (Nat.le_of_ble_eq_true rfl) (Nat.le_of_ble_eq_true rfl) dX5_takeLink_45 rfl (kc_closeLinks hc hA 16 (by omega) (show 0 ≤ S 57 17 ∧ S 57 17 ≤ 64 by omega) (show 0 ≤ S 68 15 ∧ S 68 15 + S 57 17 ≤ 120 by omega)) (fun v_45 σ45 q_45 => ?_)
          obtain ⟨rfl, hA_45⟩ := q_45
          show Wp _ _ _ _ _ _ []
          refine w_aload_n (pc' := 49) (i := 0) (by rfl) (by rfl) dX5_takeLink_48 rfl ?_
          refine w_dup (pc' := 50) dX5_takeLink_49 rfl ?_
          refine v_getI (pc' := 53) (ji := 17) rfl fg_X5_156 kd_57 dX5_takeLink_50 rfl ?_
          rw [(hA_45).rd (k := 57) (i := 17) rfl]
          show Wp _ _ _ _ _ _ [gI (lkF (S 67) 16 (S 57 17).toNat), gR 57]
          refine w_iconst (pc' := 54) (by decide) dX5_takeLink_53 rfl ?_
          refine v_isub (pc' := 55) (by omega) dX5_takeLink_54 rfl ?_
          refine v_putI (pc' := 58) (ji := 17) rfl fp_X5_156 kd_57 sf_X5_17 dX5_takeLink_55 rfl ?_
          refine w_aload_n (pc' := 59) (i := 0) (by rfl) (by rfl) dX5_takeLink_58 rfl ?_
          refine w_dup (pc' := 60) dX5_takeLink_59 rfl ?_
          refine v_getI (pc' := 63) (ji := 15) rfl fg_X5_153 kd_57 dX5_takeLink_60 rfl ?_
          show Wp _ _ _ _ _ _ [gI (σ45 57 15), gR 57]
          rw [(hA_45).rd (k := 57) (i := 15) rfl]
          show Wp _ _ _ _ _ _ [gI (S 57 15), gR 57]
          refine w_iconst (pc' := 64) (by decide) dX5_takeLink_63 rfl ?_
          refine v_isub (pc' := 65) (by omega) dX5_takeLink_64 rfl ?_
          refine v_putI (pc' := 68) (ji := 15) rfl fp_X5_153 kd_57 sf_X5_15 dX5_takeLink_65 rfl ?_
          refine w_aload_n (pc' := 69) (i := 0) (by rfl) (by rfl) dX5_takeLink_68 rfl ?_
          refine w_dup (pc' := 70) dX5_takeLink_69 rfl ?_
          refine v_getI (pc' := 73) (ji := 14) rfl fg_X5_150 kd_57 dX5_takeLink_70 rfl ?_
          show Wp _ _ _ _ _ _ [gI (σ45 57 14), gR 57]
          rw [(hA_45).rd (k := 57) (i := 14) rfl]
          show Wp _ _ _ _ _ _ [gI (S 57 14), gR 57]
          refine w_iconst (pc' := 74) (by decide) dX5_takeLink_73 rfl ?_
          refine v_isub (pc' := 75) (by omega) dX5_takeLink_74 rfl ?_
          refine v_putI (pc' := 78) (ji := 14) rfl fp_X5_150 kd_57 sf_X5_14 dX5_takeLink_75 rfl ?_
          refine w_aload_n (pc' := 79) (i := 0) (by rfl) (by rfl) dX5_takeLink_78 rfl ?_
          refine w_callV (pc' := 82) (d' := 1) (av := []) mi_mX5_closeNots lk_X5_172 rfl ci_X5 kd_57 rfl (Nat.le_of_ble_eq_true rfl) (Nat.le_of_ble_eq_true rfl) dX5_takeLink_79 rfl (kc_closeNots hc (AG.u57 hc (AG.u57 hc (AG.u57 hc hA_45 rfl) rfl) rfl) (show 0 ≤ ((lkF (S 67) 16 (S 57 17).toNat) - 1) ∧ ((lkF (S 67) 16 (S 57 17).toNat) - 1) ≤ 64 by omega) (show 0 ≤ ((S 68 15) + ((S 57 17) - (lkF (S 67) 16 (S 57 17).toNat))) ∧ ((S 68 15) + ((S 57 17) - (lkF (S 67) 16 (S 57 17).toNat))) + ((lkF (S 67) 16 (S 57 17).toNat) - 1) ≤ 120 by omega) (show -1000 ≤ ((S 57 14) - 1) ∧ ((S 57 14) - 1) ≤ 1000 by omega)) (fun v_79 σ79 q_79 => ?_)
          obtain ⟨rfl, hA_79⟩ := q_79
          show Wp _ _ _ _ _ _ []
          refine w_iconst (pc' := 83) (by decide) dX5_takeLink_82 rfl ?_
          refine v_ireturn rfl dX5_takeLink_83 ?_
          have e9 : LTL S k w = ((CNS (gUp (gUp (gUp (CLS S 16) 57 17 ((lkF (S 67) 16 (S 57 17).toNat) - 1)) 57 15 ((S 57 15) - 1)) 57 14 ((S 57 14) - 1))), 0) := by
            first
            | (exfalso; omega)
            | (unfold LTL; repeat' (first | rfl | (exfalso; omega) | split))
          rw [e9]
          exact ⟨rfl, hA_79⟩
    · skip
      refine w_aload_n (pc' := 13) (i := 0) (by rfl) (by rfl) dX5_takeLink_12 rfl ?_
      refine w_iload_n (pc' := 14) (i := 2) (by rfl) (by rfl) dX5_takeLink_13 rfl ?_
      refine w_callV (pc' := 17) (d' := 1) (av := [gI w]) mi_mX5_closeLinks lk_X5_175 rfl ci_X5 kd_57 rfl (Nat.le_of_ble_eq_true rfl) (Nat.le_of_ble_eq_true rfl) dX5_takeLink_14 rfl (kc_closeLinks hc hA w (by omega) (show 0 ≤ S 57 17 ∧ S 57 17 ≤ 64 by omega) (show 0 ≤ S 68 15 ∧ S 68 15 + S 57 17 ≤ 120 by omega)) (fun v_14 σ14 q_14 => ?_)
      obtain ⟨rfl, hA_14⟩ := q_14
      show Wp _ _ _ _ _ _ []
      refine w_aload_n (pc' := 18) (i := 0) (by rfl) (by rfl) dX5_takeLink_17 rfl ?_
      refine w_iload_n (pc' := 19) (i := 2) (by rfl) (by rfl) dX5_takeLink_18 rfl ?_
      refine w_callV (pc' := 22) (d' := 0) (av := [gI w]) mi_mX5_await lk_X5_162 rfl ci_X5 kd_57 rfl (Nat.le_of_ble_eq_true rfl) (Nat.le_of_ble_eq_true rfl) dX5_takeLink_19 rfl (kc_await hc hA_14 w (show 0 ≤ lkF (S 67) w (S 57 17).toNat ∧ lkF (S 67) w (S 57 17).toNat < 64 by omega)) (fun v_19 σ19 q_19 => ?_)
      obtain ⟨rfl, hA_19⟩ := q_19
      show Wp _ _ _ _ _ _ []
      refine w_aload_n (pc' := 23) (i := 0) (by rfl) (by rfl) dX5_takeLink_22 rfl ?_
      refine w_iconst (pc' := 24) (by decide) dX5_takeLink_23 rfl ?_
      refine v_putI (pc' := 27) (ji := 6) rfl fp_X5_63 kd_57 sf_X5_6 dX5_takeLink_24 rfl ?_
      refine w_iconst (pc' := 28) (by decide) dX5_takeLink_27 rfl ?_
      refine v_ireturn rfl dX5_takeLink_28 ?_
      have e9 : LTL S k w = (gUp (gUp (gUp (CLS S w) 67 ((CLS S w) 57 17) w) 57 17 ((CLS S w) 57 17 + 1)) 57 6 4, 0) := by
        first
        | (exfalso; omega)
        | (unfold LTL; repeat' (first | rfl | (exfalso; omega) | split))
      rw [e9]
      exact ⟨rfl, (AG.u57 hc hA_19 rfl)⟩
theorem kt_takeSetting {c : Nat} {σ0 σ S : gH} (hc : isD c) (hA : AG c σ0 σ S) (k v : Int) : Mt mX5_takeSetting 1 [gR 57, gI k, gI v] σ (fun r9 σ' => r9 = gI (LTS S k v).2 ∧ AG c σ0 σ' (LTS S k v).1) := by
  refine Mt.walk (ls := [gR 57, gI k, gI v, gX 1]) pn_X5 rfl (fun _ _ h => by cases h.1) (Nat.le_of_ble_eq_true rfl) rfl ?_
  have hK := (isD_lw hc).1
  refine w_iload_n (pc' := 1) (i := 1) (by rfl) (by rfl) dX5_takeSetting_0 rfl ?_
  refine w_iconst (pc' := 2) (by decide) dX5_takeSetting_1 rfl ?_
  refine w_icmp_eq (pc' := 5) (t := 7) dX5_takeSetting_2 rfl rfl (fun c_2 => ?_) (fun c_2 => ?_)
  · skip
    have hj_30 : Wp mX5_takeSetting 1 (fun r9 σ' => r9 = gI (LTS S k v).2 ∧ AG c σ0 σ' (LTS S k v).1) σ 30 [gR 57, gI k, gI v, gX 1] [gI (gb (S 57 8 = 22 ∨ S 57 8 = 24))] := by
      refine w_istore_n (pc' := 31) (i := 3) (ls' := [gR 57, gI k, gI v, gI (gb (S 57 8 = 22 ∨ S 57 8 = 24))]) (by rfl) (by decide) (by rfl) dX5_takeSetting_30 rfl ?_
      have hj_49 : (¬ (v < gb (S 57 8 = 22 ∨ S 57 8 = 24) ∨ GRF (S 57 8) < v)) → Wp mX5_takeSetting 1 (fun r9 σ' => r9 = gI (LTS S k v).2 ∧ AG c σ0 σ' (LTS S k v).1) σ 49 [gR 57, gI k, gI v, gI (gb (S 57 8 = 22 ∨ S 57 8 = 24))] [] := by
        intro hj31
        refine w_aload_n (pc' := 50) (i := 0) (by rfl) (by rfl) dX5_takeSetting_49 rfl ?_
        refine v_getM (pc' := 53) (q := c) (ji := 5) rfl fg_X5_29 kd_57 hA.dr dX5_takeSetting_50 rfl ?_
        refine w_aload_n (pc' := 54) (i := 0) (by rfl) (by rfl) dX5_takeSetting_53 rfl ?_
        refine v_getI (pc' := 57) (ji := 8) rfl fg_X5_110 kd_57 dX5_takeSetting_54 rfl ?_
        rw [(hA).rd (k := 57) (i := 8) rfl]
        refine w_iload_n (pc' := 58) (i := 2) (by rfl) (by rfl) dX5_takeSetting_57 rfl ?_
        refine w_callV (pc' := 61) (d' := 0) (av := [gI (S 57 8), gI v]) mi_mX4_set lk_X5_187 rfl ci_X4 hK.1 rfl (Nat.le_of_ble_eq_true rfl) (Nat.le_of_ble_eq_true rfl) dX5_takeSetting_58 rfl (kc_set hc hA (S 57 8) v) (fun v_58 σ58 q_58 => ?_)
        obtain ⟨rfl, hA_58⟩ := q_58
        show Wp _ _ _ _ _ _ []
        refine w_aload_n (pc' := 62) (i := 0) (by rfl) (by rfl) dX5_takeSetting_61 rfl ?_
        refine w_bipush (pc' := 64) (by decide) (by decide) dX5_takeSetting_62 rfl ?_
        refine v_putI (pc' := 67) (ji := 6) rfl fp_X5_63 kd_57 sf_X5_6 dX5_takeSetting_64 rfl ?_
        refine w_iconst (pc' := 68) (by decide) dX5_takeSetting_67 rfl ?_
        refine v_ireturn rfl dX5_takeSetting_68 ?_
        have e9 : LTS S k v = (gUp (gUp S 68 (stJ (S 57 8)) v) 57 6 9, 0) := by
          first
          | (exfalso; omega)
          | (unfold LTS; repeat' (first | rfl | (exfalso; omega) | split))
        rw [e9]
        exact ⟨rfl, (AG.u57 hc hA_58 rfl)⟩
      refine w_iload_n (pc' := 32) (i := 2) (by rfl) (by rfl) dX5_takeSetting_31 rfl ?_
      refine w_iload_n (pc' := 33) (i := 3) (by rfl) (by rfl) dX5_takeSetting_32 rfl ?_
      refine w_icmp_lt (pc' := 36) (t := 47) dX5_takeSetting_33 rfl rfl (fun c_33 => ?_) (fun c_33 => ?_)
      · skip
        refine w_iconst (pc' := 48) (by decide) dX5_takeSetting_47 rfl ?_
        refine v_ireturn rfl dX5_takeSetting_48 ?_
        have e9 : LTS S k v = (S, 2) := by
          first
          | (exfalso; omega)
          | (unfold LTS; repeat' (first | rfl | (exfalso; omega) | split))
        rw [e9]
        exact ⟨rfl, hA⟩
      · skip
        refine w_iload_n (pc' := 37) (i := 2) (by rfl) (by rfl) dX5_takeSetting_36 rfl ?_
        refine w_aload_n (pc' := 38) (i := 0) (by rfl) (by rfl) dX5_takeSetting_37 rfl ?_
        refine v_getI (pc' := 41) (ji := 8) rfl fg_X5_110 kd_57 dX5_takeSetting_38 rfl ?_
        rw [(hA).rd (k := 57) (i := 8) rfl]
        refine v_callSE (pc' := 44) (st' := [gI (GRF (S 57 8)), gI v]) (d' := 0) (av := [gI (S 57 8)]) ms_mX5_greatestFor st_mX5_greatestFor lk_X5_184 rfl rfl (Nat.le_of_ble_eq_true rfl) (Nat.le_of_ble_eq_true rfl) dX5_takeSetting_41 rfl rfl (kl_greatestFor (σ := σ) (S 57 8)) ?_
        refine w_icmp_le (pc' := 47) (t := 49) dX5_takeSetting_44 rfl rfl (fun c_44 => ?_) (fun c_44 => ?_)
        · skip
          exact hj_49 (by omega)
        · skip
          refine w_iconst (pc' := 48) (by decide) dX5_takeSetting_47 rfl ?_
          refine v_ireturn rfl dX5_takeSetting_48 ?_
          have e9 : LTS S k v = (S, 2) := by
            first
            | (exfalso; omega)
            | (unfold LTS; repeat' (first | rfl | (exfalso; omega) | split))
          rw [e9]
          exact ⟨rfl, hA⟩
    refine w_aload_n (pc' := 8) (i := 0) (by rfl) (by rfl) dX5_takeSetting_7 rfl ?_
    refine v_getI (pc' := 11) (ji := 8) rfl fg_X5_110 kd_57 dX5_takeSetting_8 rfl ?_
    rw [(hA).rd (k := 57) (i := 8) rfl]
    refine w_bipush (pc' := 13) (by decide) (by decide) dX5_takeSetting_11 rfl ?_
    refine w_icmp_eq (pc' := 16) (t := 25) dX5_takeSetting_13 rfl rfl (fun c_13 => ?_) (fun c_13 => ?_)
    · skip
      refine w_iconst (pc' := 26) (by decide) dX5_takeSetting_25 rfl ?_
      refine w_goto (pc' := 30) dX5_takeSetting_26 rfl ?_
      exact Wp.stI (by first | (exfalso; omega) | exact (gb_t (P := S 57 8 = 22 ∨ S 57 8 = 24) (by omega)).symm) hj_30
    · skip
      refine w_aload_n (pc' := 17) (i := 0) (by rfl) (by rfl) dX5_takeSetting_16 rfl ?_
      refine v_getI (pc' := 20) (ji := 8) rfl fg_X5_110 kd_57 dX5_takeSetting_17 rfl ?_
      rw [(hA).rd (k := 57) (i := 8) rfl]
      refine w_bipush (pc' := 22) (by decide) (by decide) dX5_takeSetting_20 rfl ?_
      refine w_icmp_ne (pc' := 25) (t := 29) dX5_takeSetting_22 rfl rfl (fun c_22 => ?_) (fun c_22 => ?_)
      · skip
        refine w_iconst (pc' := 30) (by decide) dX5_takeSetting_29 rfl ?_
        exact Wp.stI (by first | (exfalso; omega) | exact (gb_f (P := S 57 8 = 22 ∨ S 57 8 = 24) (by omega)).symm) hj_30
      · skip
        refine w_iconst (pc' := 26) (by decide) dX5_takeSetting_25 rfl ?_
        refine w_goto (pc' := 30) dX5_takeSetting_26 rfl ?_
        exact Wp.stI (by first | (exfalso; omega) | exact (gb_t (P := S 57 8 = 22 ∨ S 57 8 = 24) (by omega)).symm) hj_30
  · skip
    refine w_iconst (pc' := 6) (by decide) dX5_takeSetting_5 rfl ?_
    refine v_ireturn rfl dX5_takeSetting_6 ?_
    have e9 : LTS S k v = (S, 1) := by
      first
      | (exfalso; omega)
      | (unfold LTS; repeat' (first | rfl | (exfalso; omega) | split))
    rw [e9]
    exact ⟨rfl, hA⟩
