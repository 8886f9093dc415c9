/-! the constructors, cell by cell (written by wip/whole/gen/mod_init.py) -/
def hc_6 (σ : gH) : gH := gUp (gUr (gUp (gUr (gUp (gUr (gUp (gUr (gUp (gUr (gUp (gUr (σ) 7 (fun _ => 0)) 6 0 7) 8 (fun _ => 0)) 6 1 8) 9 (fun _ => 0)) 6 2 9) 10 (fun _ => 0)) 6 3 10) 11 (fun _ => 0)) 6 4 11) 12 (fun _ => 0)) 6 5 12
set_option maxRecDepth 100000 in
theorem kc_6 (σ : gH) : gMt mX9_init 1 6 600 [gR 6, gI 100] (gL.take 7) σ (tQ 13 (hc_6 σ)) := by
  refine gMt.walkT (ls := [gR 6, gI 100, gX 1]) pn_X9 rfl (Nat.le_of_ble_eq_true rfl) rfl ?_
  refine wg_aload_n (pc' := 1) (i := 0) (by rfl) (by rfl) dX9_init_0 rfl ?_
  refine wg_objInit (pc' := 4) lo_X9_3 oi_in oi_code (by decide) dX9_init_1 rfl ?_
  refine wg_iload_n (pc' := 5) (i := 1) (by rfl) (by rfl) dX9_init_4 rfl ?_
  refine wg_if_ge (pc' := 8) (t := 12) dX9_init_5 rfl rfl (fun _ => ?_) (fun c => absurd (by decide) c)
  refine wg_iload_n (pc' := 13) (i := 1) (by rfl) (by rfl) dX9_init_12 rfl ?_
  refine wg_istore_n (pc' := 14) (i := 2) (ls' := [gR 6, gI 100, gI 100]) (by rfl) (by decide) (by rfl) dX9_init_13 rfl ?_
  refine wg_aload_n (pc' := 15) (i := 0) (by rfl) (by rfl) dX9_init_14 rfl ?_
  refine wg_iload_n (pc' := 16) (i := 2) (by rfl) (by rfl) dX9_init_15 rfl ?_
  refine t_newarray (mc := 5) (ms := 500) (N := 100) (tc := 0) (ty := .int) (pc' := 18) (n' := 8) kd_7 (by decide) (by decide) ac_I dX9_init_16 rfl rfl ⟨rfl, rfl⟩ ?_
  refine wg_putR (pc' := 21) fp_X9_9 (fun _ => rfl) rfl (tk kd_6 (by decide)) dX9_init_18 rfl ?_
  refine wg_aload_n (pc' := 22) (i := 0) (by rfl) (by rfl) dX9_init_21 rfl ?_
  refine wg_iload_n (pc' := 23) (i := 2) (by rfl) (by rfl) dX9_init_22 rfl ?_
  refine t_newarray (mc := 4) (ms := 400) (N := 100) (tc := 0) (ty := .int) (pc' := 25) (n' := 9) kd_8 (by decide) (by decide) ac_I dX9_init_23 rfl rfl ⟨rfl, rfl⟩ ?_
  refine wg_putR (pc' := 28) fp_X9_15 (fun _ => rfl) rfl (tk kd_6 (by decide)) dX9_init_25 rfl ?_
  refine wg_aload_n (pc' := 29) (i := 0) (by rfl) (by rfl) dX9_init_28 rfl ?_
  refine wg_iload_n (pc' := 30) (i := 2) (by rfl) (by rfl) dX9_init_29 rfl ?_
  refine t_newarray (mc := 3) (ms := 300) (N := 100) (tc := 0) (ty := .int) (pc' := 32) (n' := 10) kd_9 (by decide) (by decide) ac_I dX9_init_30 rfl rfl ⟨rfl, rfl⟩ ?_
  refine wg_putR (pc' := 35) fp_X9_18 (fun _ => rfl) rfl (tk kd_6 (by decide)) dX9_init_32 rfl ?_
  refine wg_aload_n (pc' := 36) (i := 0) (by rfl) (by rfl) dX9_init_35 rfl ?_
  refine wg_iload_n (pc' := 37) (i := 2) (by rfl) (by rfl) dX9_init_36 rfl ?_
  refine t_newarray (mc := 2) (ms := 200) (N := 100) (tc := 0) (ty := .int) (pc' := 39) (n' := 11) kd_10 (by decide) (by decide) ac_I dX9_init_37 rfl rfl ⟨rfl, rfl⟩ ?_
  refine wg_putR (pc' := 42) fp_X9_21 (fun _ => rfl) rfl (tk kd_6 (by decide)) dX9_init_39 rfl ?_
  refine wg_aload_n (pc' := 43) (i := 0) (by rfl) (by rfl) dX9_init_42 rfl ?_
  refine wg_iload_n (pc' := 44) (i := 2) (by rfl) (by rfl) dX9_init_43 rfl ?_
  refine t_newarray (mc := 1) (ms := 100) (N := 100) (tc := 0) (ty := .int) (pc' := 46) (n' := 12) kd_11 (by decide) (by decide) ac_I dX9_init_44 rfl rfl ⟨rfl, rfl⟩ ?_
  refine wg_putR (pc' := 49) fp_X9_24 (fun _ => rfl) rfl (tk kd_6 (by decide)) dX9_init_46 rfl ?_
  refine wg_aload_n (pc' := 50) (i := 0) (by rfl) (by rfl) dX9_init_49 rfl ?_
  refine wg_iload_n (pc' := 51) (i := 2) (by rfl) (by rfl) dX9_init_50 rfl ?_
  refine t_newarray (mc := 0) (ms := 0) (N := 100) (tc := 0) (ty := .int) (pc' := 53) (n' := 13) kd_12 (by decide) (by decide) ac_I dX9_init_51 rfl rfl ⟨rfl, rfl⟩ ?_
  refine wg_putR (pc' := 56) fp_X9_27 (fun _ => rfl) rfl (tk kd_6 (by decide)) dX9_init_53 rfl ?_
  exact wg_return rfl dX9_init_56 ⟨rfl, rfl, rfl⟩
def hc_3 (σ : gH) : gH := gUp (gUp (gUr (gUp (hc_6 (gUr (gUp (gUr (gUp (gUr (σ) 4 (fun _ => 0)) 3 0 4) 5 (fun _ => 0)) 3 1 5) 6 (gDf 9))) 3 3 6) 13 (fun _ => 0)) 3 4 13) 3 5 (-1)
set_option maxRecDepth 100000 in
theorem kc_3 (σ : gH) : gMt mX8_init 2 10 787 [gR 3] (gL.take 4) σ (tQ 14 (hc_3 σ)) := by
  refine gMt.walkT (ls := [gR 3]) pn_X8 rfl (Nat.le_of_ble_eq_true rfl) rfl ?_
  refine wg_aload_n (pc' := 1) (i := 0) (by rfl) (by rfl) dX8_init_0 rfl ?_
  refine wg_objInit (pc' := 4) lo_X8_3 oi_in oi_code (by decide) dX8_init_1 rfl ?_
  refine wg_aload_n (pc' := 5) (i := 0) (by rfl) (by rfl) dX8_init_4 rfl ?_
  refine wg_bipush (pc' := 7) (by decide) (by decide) dX8_init_5 rfl ?_
  refine t_newarray (mc := 9) (ms := 727) (N := 60) (tc := 0) (ty := .int) (pc' := 9) (n' := 5) kd_4 (by decide) (by decide) ac_I dX8_init_7 rfl rfl ⟨rfl, rfl⟩ ?_
  refine wg_putR (pc' := 12) fp_X8_9 (fun _ => rfl) rfl (tk kd_3 (by decide)) dX8_init_9 rfl ?_
  refine wg_aload_n (pc' := 13) (i := 0) (by rfl) (by rfl) dX8_init_12 rfl ?_
  refine wg_bipush (pc' := 15) (by decide) (by decide) dX8_init_13 rfl ?_
  refine t_newarray (mc := 8) (ms := 667) (N := 60) (tc := 1) (ty := .long) (pc' := 17) (n' := 6) kd_5 (by decide) (by decide) ac_J dX8_init_15 rfl rfl ⟨rfl, rfl⟩ ?_
  refine wg_putR (pc' := 20) fp_X8_15 (fun _ => rfl) rfl (tk kd_3 (by decide)) dX8_init_17 rfl ?_
  refine wg_aload_n (pc' := 21) (i := 0) (by rfl) (by rfl) dX8_init_20 rfl ?_
  refine t_new (mc := 7) (ms := 660) (ci := 9) (C1 := RX9) (N1 := 7) (pc' := 24) (n' := 7) kd_6 nw_X9 nc_X9 nf_X9 cn_X8_19 dX8_init_21 rfl rfl ⟨rfl, rfl⟩ ?_
  refine wg_dup (pc' := 25) dX8_init_24 rfl ?_
  refine wg_bipush (pc' := 27) (by decide) (by decide) dX8_init_25 rfl ?_
  refine t_callI (mc := 1) (ms := 60) (pc' := 30) (d' := 1) (mc' := 6) (ms' := 600) (n' := 13) (av := [gI 100]) ms_mX9_init rfl in_mX9_init rfl lk_X8_21 rfl rfl (Nat.le_of_ble_eq_true rfl) (by decide) dX8_init_27 rfl ⟨rfl, rfl⟩ (kc_6 _) ?_
  refine wg_putR (pc' := 33) fp_X8_24 (fun _ => rfl) rfl (tk kd_3 (by decide)) dX8_init_30 rfl ?_
  refine wg_aload_n (pc' := 34) (i := 0) (by rfl) (by rfl) dX8_init_33 rfl ?_
  refine wg_bipush (pc' := 36) (by decide) (by decide) dX8_init_34 rfl ?_
  refine t_newarray (mc := 0) (ms := 0) (N := 60) (tc := 0) (ty := .int) (pc' := 38) (n' := 14) kd_13 (by decide) (by decide) ac_I dX8_init_36 rfl rfl ⟨rfl, rfl⟩ ?_
  refine wg_putR (pc' := 41) fp_X8_28 (fun _ => rfl) rfl (tk kd_3 (by decide)) dX8_init_38 rfl ?_
  refine wg_aload_n (pc' := 42) (i := 0) (by rfl) (by rfl) dX8_init_41 rfl ?_
  refine wg_iconst (pc' := 43) (by decide) dX8_init_42 rfl ?_
  refine wg_putI (pc' := 46) fp_X8_31 (tk kd_3 (by decide)) dX8_init_43 rfl ?_
  exact wg_return rfl dX8_init_46 ⟨rfl, rfl, rfl⟩
def hc_15 (σ : gH) : gH := gUp (gUr (gUp (gUr (gUp (gUr (gUp (gUr (gUp (gUr (gUp (gUr (σ) 16 (fun _ => 0)) 15 0 16) 17 (fun _ => 0)) 15 1 17) 18 (fun _ => 0)) 15 2 18) 19 (fun _ => 0)) 15 3 19) 20 (fun _ => 0)) 15 4 20) 21 (fun _ => 0)) 15 5 21
set_option maxRecDepth 100000 in
theorem kc_15 (σ : gH) : gMt mX9_init 1 6 1200 [gR 15, gI 200] (gL.take 16) σ (tQ 22 (hc_15 σ)) := by
  refine gMt.walkT (ls := [gR 15, gI 200, gX 1]) pn_X9 rfl (Nat.le_of_ble_eq_true rfl) rfl ?_
  refine wg_aload_n (pc' := 1) (i := 0) (by rfl) (by rfl) dX9_init_0 rfl ?_
  refine wg_objInit (pc' := 4) lo_X9_3 oi_in oi_code (by decide) dX9_init_1 rfl ?_
  refine wg_iload_n (pc' := 5) (i := 1) (by rfl) (by rfl) dX9_init_4 rfl ?_
  refine wg_if_ge (pc' := 8) (t := 12) dX9_init_5 rfl rfl (fun _ => ?_) (fun c => absurd (by decide) c)
  refine wg_iload_n (pc' := 13) (i := 1) (by rfl) (by rfl) dX9_init_12 rfl ?_
  refine wg_istore_n (pc' := 14) (i := 2) (ls' := [gR 15, gI 200, gI 200]) (by rfl) (by decide) (by rfl) dX9_init_13 rfl ?_
  refine wg_aload_n (pc' := 15) (i := 0) (by rfl) (by rfl) dX9_init_14 rfl ?_
  refine wg_iload_n (pc' := 16) (i := 2) (by rfl) (by rfl) dX9_init_15 rfl ?_
  refine t_newarray (mc := 5) (ms := 1000) (N := 200) (tc := 0) (ty := .int) (pc' := 18) (n' := 17) kd_16 (by decide) (by decide) ac_I dX9_init_16 rfl rfl ⟨rfl, rfl⟩ ?_
  refine wg_putR (pc' := 21) fp_X9_9 (fun _ => rfl) rfl (tk kd_15 (by decide)) dX9_init_18 rfl ?_
  refine wg_aload_n (pc' := 22) (i := 0) (by rfl) (by rfl) dX9_init_21 rfl ?_
  refine wg_iload_n (pc' := 23) (i := 2) (by rfl) (by rfl) dX9_init_22 rfl ?_
  refine t_newarray (mc := 4) (ms := 800) (N := 200) (tc := 0) (ty := .int) (pc' := 25) (n' := 18) kd_17 (by decide) (by decide) ac_I dX9_init_23 rfl rfl ⟨rfl, rfl⟩ ?_
  refine wg_putR (pc' := 28) fp_X9_15 (fun _ => rfl) rfl (tk kd_15 (by decide)) dX9_init_25 rfl ?_
  refine wg_aload_n (pc' := 29) (i := 0) (by rfl) (by rfl) dX9_init_28 rfl ?_
  refine wg_iload_n (pc' := 30) (i := 2) (by rfl) (by rfl) dX9_init_29 rfl ?_
  refine t_newarray (mc := 3) (ms := 600) (N := 200) (tc := 0) (ty := .int) (pc' := 32) (n' := 19) kd_18 (by decide) (by decide) ac_I dX9_init_30 rfl rfl ⟨rfl, rfl⟩ ?_
  refine wg_putR (pc' := 35) fp_X9_18 (fun _ => rfl) rfl (tk kd_15 (by decide)) dX9_init_32 rfl ?_
  refine wg_aload_n (pc' := 36) (i := 0) (by rfl) (by rfl) dX9_init_35 rfl ?_
  refine wg_iload_n (pc' := 37) (i := 2) (by rfl) (by rfl) dX9_init_36 rfl ?_
  refine t_newarray (mc := 2) (ms := 400) (N := 200) (tc := 0) (ty := .int) (pc' := 39) (n' := 20) kd_19 (by decide) (by decide) ac_I dX9_init_37 rfl rfl ⟨rfl, rfl⟩ ?_
  refine wg_putR (pc' := 42) fp_X9_21 (fun _ => rfl) rfl (tk kd_15 (by decide)) dX9_init_39 rfl ?_
  refine wg_aload_n (pc' := 43) (i := 0) (by rfl) (by rfl) dX9_init_42 rfl ?_
  refine wg_iload_n (pc' := 44) (i := 2) (by rfl) (by rfl) dX9_init_43 rfl ?_
  refine t_newarray (mc := 1) (ms := 200) (N := 200) (tc := 0) (ty := .int) (pc' := 46) (n' := 21) kd_20 (by decide) (by decide) ac_I dX9_init_44 rfl rfl ⟨rfl, rfl⟩ ?_
  refine wg_putR (pc' := 49) fp_X9_24 (fun _ => rfl) rfl (tk kd_15 (by decide)) dX9_init_46 rfl ?_
  refine wg_aload_n (pc' := 50) (i := 0) (by rfl) (by rfl) dX9_init_49 rfl ?_
  refine wg_iload_n (pc' := 51) (i := 2) (by rfl) (by rfl) dX9_init_50 rfl ?_
  refine t_newarray (mc := 0) (ms := 0) (N := 200) (tc := 0) (ty := .int) (pc' := 53) (n' := 22) kd_21 (by decide) (by decide) ac_I dX9_init_51 rfl rfl ⟨rfl, rfl⟩ ?_
  refine wg_putR (pc' := 56) fp_X9_27 (fun _ => rfl) rfl (tk kd_15 (by decide)) dX9_init_53 rfl ?_
  exact wg_return rfl dX9_init_56 ⟨rfl, rfl, rfl⟩
def hc_14 (σ : gH) : gH := gUp (gUr (gUp (gUr (gUp (gUr (gUp (gUr (gUp (gUp (gUp (gUr (gUp (gUr (gUp (gUr (gUp (gUr (gUp (hc_15 (gUr (σ) 15 (gDf 9))) 14 0 15) 22 (fun _ => 0)) 14 1 22) 23 (fun _ => 0)) 14 2 23) 24 (fun _ => 0)) 14 3 24) 25 (fun _ => 0)) 14 4 25) 14 5 (-1)) 14 7 (-1)) 26 (fun _ => 0)) 14 8 26) 27 (fun _ => 0)) 14 9 27) 28 (fun _ => 0)) 14 10 28) 29 (fun _ => 0)) 14 11 29
set_option maxRecDepth 100000 in
theorem kc_14 (σ : gH) : gMt mX7_init 2 15 2108 [gR 14] (gL.take 15) σ (tQ 30 (hc_14 σ)) := by
  refine gMt.walkT (ls := [gR 14]) pn_X7 rfl (Nat.le_of_ble_eq_true rfl) rfl ?_
  refine wg_aload_n (pc' := 1) (i := 0) (by rfl) (by rfl) dX7_init_0 rfl ?_
  refine wg_objInit (pc' := 4) lo_X7_3 oi_in oi_code (by decide) dX7_init_1 rfl ?_
  refine wg_aload_n (pc' := 5) (i := 0) (by rfl) (by rfl) dX7_init_4 rfl ?_
  refine t_new (mc := 14) (ms := 2101) (ci := 9) (C1 := RX9) (N1 := 7) (pc' := 8) (n' := 16) kd_15 nw_X9 nc_X9 nf_X9 cn_X7_9 dX7_init_5 rfl rfl ⟨rfl, rfl⟩ ?_
  refine wg_dup (pc' := 9) dX7_init_8 rfl ?_
  refine wg_sipush (pc' := 12) (by decide) (by decide) dX7_init_9 rfl ?_
  refine t_callI (mc := 8) (ms := 901) (pc' := 15) (d' := 1) (mc' := 6) (ms' := 1200) (n' := 22) (av := [gI 200]) ms_mX9_init rfl in_mX9_init rfl lk_X7_11 rfl rfl (Nat.le_of_ble_eq_true rfl) (by decide) dX7_init_12 rfl ⟨rfl, rfl⟩ (kc_15 _) ?_
  refine wg_putR (pc' := 18) fp_X7_14 (fun _ => rfl) rfl (tk kd_14 (by decide)) dX7_init_15 rfl ?_
  refine wg_aload_n (pc' := 19) (i := 0) (by rfl) (by rfl) dX7_init_18 rfl ?_
  refine wg_sipush (pc' := 22) (by decide) (by decide) dX7_init_19 rfl ?_
  refine t_newarray (mc := 7) (ms := 701) (N := 200) (tc := 0) (ty := .int) (pc' := 24) (n' := 23) kd_22 (by decide) (by decide) ac_I dX7_init_22 rfl rfl ⟨rfl, rfl⟩ ?_
  refine wg_putR (pc' := 27) fp_X7_20 (fun _ => rfl) rfl (tk kd_14 (by decide)) dX7_init_24 rfl ?_
  refine wg_aload_n (pc' := 28) (i := 0) (by rfl) (by rfl) dX7_init_27 rfl ?_
  refine wg_bipush (pc' := 30) (by decide) (by decide) dX7_init_28 rfl ?_
  refine t_newarray (mc := 6) (ms := 640) (N := 61) (tc := 0) (ty := .int) (pc' := 32) (n' := 24) kd_23 (by decide) (by decide) ac_I dX7_init_30 rfl rfl ⟨rfl, rfl⟩ ?_
  refine wg_putR (pc' := 35) fp_X7_24 (fun _ => rfl) rfl (tk kd_14 (by decide)) dX7_init_32 rfl ?_
  refine wg_aload_n (pc' := 36) (i := 0) (by rfl) (by rfl) dX7_init_35 rfl ?_
  refine wg_sipush (pc' := 39) (by decide) (by decide) dX7_init_36 rfl ?_
  refine t_newarray (mc := 5) (ms := 440) (N := 200) (tc := 0) (ty := .int) (pc' := 41) (n' := 25) kd_24 (by decide) (by decide) ac_I dX7_init_39 rfl rfl ⟨rfl, rfl⟩ ?_
  refine wg_putR (pc' := 44) fp_X7_27 (fun _ => rfl) rfl (tk kd_14 (by decide)) dX7_init_41 rfl ?_
  refine wg_aload_n (pc' := 45) (i := 0) (by rfl) (by rfl) dX7_init_44 rfl ?_
  refine wg_sipush (pc' := 48) (by decide) (by decide) dX7_init_45 rfl ?_
  refine t_newarray (mc := 4) (ms := 240) (N := 200) (tc := 0) (ty := .int) (pc' := 50) (n' := 26) kd_25 (by decide) (by decide) ac_I dX7_init_48 rfl rfl ⟨rfl, rfl⟩ ?_
  refine wg_putR (pc' := 53) fp_X7_30 (fun _ => rfl) rfl (tk kd_14 (by decide)) dX7_init_50 rfl ?_
  refine wg_aload_n (pc' := 54) (i := 0) (by rfl) (by rfl) dX7_init_53 rfl ?_
  refine wg_iconst (pc' := 55) (by decide) dX7_init_54 rfl ?_
  refine wg_putI (pc' := 58) fp_X7_33 (tk kd_14 (by decide)) dX7_init_55 rfl ?_
  refine wg_aload_n (pc' := 59) (i := 0) (by rfl) (by rfl) dX7_init_58 rfl ?_
  refine wg_iconst (pc' := 60) (by decide) dX7_init_59 rfl ?_
  refine wg_putI (pc' := 63) fp_X7_37 (tk kd_14 (by decide)) dX7_init_60 rfl ?_
  refine wg_aload_n (pc' := 64) (i := 0) (by rfl) (by rfl) dX7_init_63 rfl ?_
  refine wg_bipush (pc' := 66) (by decide) (by decide) dX7_init_64 rfl ?_
  refine t_newarray (mc := 3) (ms := 180) (N := 60) (tc := 0) (ty := .int) (pc' := 68) (n' := 27) kd_26 (by decide) (by decide) ac_I dX7_init_66 rfl rfl ⟨rfl, rfl⟩ ?_
  refine wg_putR (pc' := 71) fp_X7_40 (fun _ => rfl) rfl (tk kd_14 (by decide)) dX7_init_68 rfl ?_
  refine wg_aload_n (pc' := 72) (i := 0) (by rfl) (by rfl) dX7_init_71 rfl ?_
  refine wg_bipush (pc' := 74) (by decide) (by decide) dX7_init_72 rfl ?_
  refine t_newarray (mc := 2) (ms := 120) (N := 60) (tc := 1) (ty := .long) (pc' := 76) (n' := 28) kd_27 (by decide) (by decide) ac_J dX7_init_74 rfl rfl ⟨rfl, rfl⟩ ?_
  refine wg_putR (pc' := 79) fp_X7_43 (fun _ => rfl) rfl (tk kd_14 (by decide)) dX7_init_76 rfl ?_
  refine wg_aload_n (pc' := 80) (i := 0) (by rfl) (by rfl) dX7_init_79 rfl ?_
  refine wg_bipush (pc' := 82) (by decide) (by decide) dX7_init_80 rfl ?_
  refine t_newarray (mc := 1) (ms := 60) (N := 60) (tc := 0) (ty := .int) (pc' := 84) (n' := 29) kd_28 (by decide) (by decide) ac_I dX7_init_82 rfl rfl ⟨rfl, rfl⟩ ?_
  refine wg_putR (pc' := 87) fp_X7_47 (fun _ => rfl) rfl (tk kd_14 (by decide)) dX7_init_84 rfl ?_
  refine wg_aload_n (pc' := 88) (i := 0) (by rfl) (by rfl) dX7_init_87 rfl ?_
  refine wg_bipush (pc' := 90) (by decide) (by decide) dX7_init_88 rfl ?_
  refine t_newarray (mc := 0) (ms := 0) (N := 60) (tc := 0) (ty := .int) (pc' := 92) (n' := 30) kd_29 (by decide) (by decide) ac_I dX7_init_90 rfl rfl ⟨rfl, rfl⟩ ?_
  refine wg_putR (pc' := 95) fp_X7_50 (fun _ => rfl) rfl (tk kd_14 (by decide)) dX7_init_92 rfl ?_
  exact wg_return rfl dX7_init_95 ⟨rfl, rfl, rfl⟩
def hc_30 (σ : gH) : gH := gUp (gUp (gUr (gUp (gUr (gUp (gUr (σ) 31 (fun _ => 0)) 30 1 31) 32 (fun _ => 0)) 30 2 32) 33 (fun _ => 0)) 30 3 33) 30 0 14
set_option maxRecDepth 100000 in
theorem kc_30 (σ : gH) : gMt mX0_init 1 3 70 [gR 30, gR 14] (gL.take 31) σ (tQ 34 (hc_30 σ)) := by
  refine gMt.walkT (ls := [gR 30, gR 14]) pn_X0 rfl (Nat.le_of_ble_eq_true rfl) rfl ?_
  refine wg_aload_n (pc' := 1) (i := 0) (by rfl) (by rfl) dX0_init_0 rfl ?_
  refine wg_objInit (pc' := 4) lo_X0_3 oi_in oi_code (by decide) dX0_init_1 rfl ?_
  refine wg_aload_n (pc' := 5) (i := 0) (by rfl) (by rfl) dX0_init_4 rfl ?_
  refine wg_bipush (pc' := 7) (by decide) (by decide) dX0_init_5 rfl ?_
  refine t_newarray (mc := 2) (ms := 10) (N := 60) (tc := 1) (ty := .long) (pc' := 9) (n' := 32) kd_31 (by decide) (by decide) ac_J dX0_init_7 rfl rfl ⟨rfl, rfl⟩ ?_
  refine wg_putR (pc' := 12) fp_X0_9 (fun _ => rfl) rfl (tk kd_30 (by decide)) dX0_init_9 rfl ?_
  refine wg_aload_n (pc' := 13) (i := 0) (by rfl) (by rfl) dX0_init_12 rfl ?_
  refine wg_iconst (pc' := 14) (by decide) dX0_init_13 rfl ?_
  refine t_newarray (mc := 1) (ms := 5) (N := 5) (tc := 0) (ty := .int) (pc' := 16) (n' := 33) kd_32 (by decide) (by decide) ac_I dX0_init_14 rfl rfl ⟨rfl, rfl⟩ ?_
  refine wg_putR (pc' := 19) fp_X0_15 (fun _ => rfl) rfl (tk kd_30 (by decide)) dX0_init_16 rfl ?_
  refine wg_aload_n (pc' := 20) (i := 0) (by rfl) (by rfl) dX0_init_19 rfl ?_
  refine wg_iconst (pc' := 21) (by decide) dX0_init_20 rfl ?_
  refine t_newarray (mc := 0) (ms := 0) (N := 5) (tc := 0) (ty := .int) (pc' := 23) (n' := 34) kd_33 (by decide) (by decide) ac_I dX0_init_21 rfl rfl ⟨rfl, rfl⟩ ?_
  refine wg_putR (pc' := 26) fp_X0_19 (fun _ => rfl) rfl (tk kd_30 (by decide)) dX0_init_23 rfl ?_
  refine wg_aload_n (pc' := 27) (i := 0) (by rfl) (by rfl) dX0_init_26 rfl ?_
  refine wg_aload_n (pc' := 28) (i := 1) (by rfl) (by rfl) dX0_init_27 rfl ?_
  refine wg_putR (pc' := 31) fp_X0_22 (fun _ => rfl) rfl (tk kd_30 (by decide)) dX0_init_28 rfl ?_
  exact wg_return rfl dX0_init_31 ⟨rfl, rfl, rfl⟩
def hc_34 (σ : gH) : gH := gUp (gUr (gUp (gUr (gUp (gUr (gUp (gUr (gUp (gUr (gUp (gUr (σ) 35 (fun _ => 0)) 34 0 35) 36 (fun _ => 0)) 34 1 36) 37 (fun _ => 0)) 34 2 37) 38 (fun _ => 0)) 34 3 38) 39 (fun _ => 0)) 34 4 39) 40 (fun _ => 0)) 34 5 40
set_option maxRecDepth 100000 in
theorem kc_34 (σ : gH) : gMt mX9_init 1 6 360 [gR 34, gI 60] (gL.take 35) σ (tQ 41 (hc_34 σ)) := by
  refine gMt.walkT (ls := [gR 34, gI 60, gX 1]) pn_X9 rfl (Nat.le_of_ble_eq_true rfl) rfl ?_
  refine wg_aload_n (pc' := 1) (i := 0) (by rfl) (by rfl) dX9_init_0 rfl ?_
  refine wg_objInit (pc' := 4) lo_X9_3 oi_in oi_code (by decide) dX9_init_1 rfl ?_
  refine wg_iload_n (pc' := 5) (i := 1) (by rfl) (by rfl) dX9_init_4 rfl ?_
  refine wg_if_ge (pc' := 8) (t := 12) dX9_init_5 rfl rfl (fun _ => ?_) (fun c => absurd (by decide) c)
  refine wg_iload_n (pc' := 13) (i := 1) (by rfl) (by rfl) dX9_init_12 rfl ?_
  refine wg_istore_n (pc' := 14) (i := 2) (ls' := [gR 34, gI 60, gI 60]) (by rfl) (by decide) (by rfl) dX9_init_13 rfl ?_
  refine wg_aload_n (pc' := 15) (i := 0) (by rfl) (by rfl) dX9_init_14 rfl ?_
  refine wg_iload_n (pc' := 16) (i := 2) (by rfl) (by rfl) dX9_init_15 rfl ?_
  refine t_newarray (mc := 5) (ms := 300) (N := 60) (tc := 0) (ty := .int) (pc' := 18) (n' := 36) kd_35 (by decide) (by decide) ac_I dX9_init_16 rfl rfl ⟨rfl, rfl⟩ ?_
  refine wg_putR (pc' := 21) fp_X9_9 (fun _ => rfl) rfl (tk kd_34 (by decide)) dX9_init_18 rfl ?_
  refine wg_aload_n (pc' := 22) (i := 0) (by rfl) (by rfl) dX9_init_21 rfl ?_
  refine wg_iload_n (pc' := 23) (i := 2) (by rfl) (by rfl) dX9_init_22 rfl ?_
  refine t_newarray (mc := 4) (ms := 240) (N := 60) (tc := 0) (ty := .int) (pc' := 25) (n' := 37) kd_36 (by decide) (by decide) ac_I dX9_init_23 rfl rfl ⟨rfl, rfl⟩ ?_
  refine wg_putR (pc' := 28) fp_X9_15 (fun _ => rfl) rfl (tk kd_34 (by decide)) dX9_init_25 rfl ?_
  refine wg_aload_n (pc' := 29) (i := 0) (by rfl) (by rfl) dX9_init_28 rfl ?_
  refine wg_iload_n (pc' := 30) (i := 2) (by rfl) (by rfl) dX9_init_29 rfl ?_
  refine t_newarray (mc := 3) (ms := 180) (N := 60) (tc := 0) (ty := .int) (pc' := 32) (n' := 38) kd_37 (by decide) (by decide) ac_I dX9_init_30 rfl rfl ⟨rfl, rfl⟩ ?_
  refine wg_putR (pc' := 35) fp_X9_18 (fun _ => rfl) rfl (tk kd_34 (by decide)) dX9_init_32 rfl ?_
  refine wg_aload_n (pc' := 36) (i := 0) (by rfl) (by rfl) dX9_init_35 rfl ?_
  refine wg_iload_n (pc' := 37) (i := 2) (by rfl) (by rfl) dX9_init_36 rfl ?_
  refine t_newarray (mc := 2) (ms := 120) (N := 60) (tc := 0) (ty := .int) (pc' := 39) (n' := 39) kd_38 (by decide) (by decide) ac_I dX9_init_37 rfl rfl ⟨rfl, rfl⟩ ?_
  refine wg_putR (pc' := 42) fp_X9_21 (fun _ => rfl) rfl (tk kd_34 (by decide)) dX9_init_39 rfl ?_
  refine wg_aload_n (pc' := 43) (i := 0) (by rfl) (by rfl) dX9_init_42 rfl ?_
  refine wg_iload_n (pc' := 44) (i := 2) (by rfl) (by rfl) dX9_init_43 rfl ?_
  refine t_newarray (mc := 1) (ms := 60) (N := 60) (tc := 0) (ty := .int) (pc' := 46) (n' := 40) kd_39 (by decide) (by decide) ac_I dX9_init_44 rfl rfl ⟨rfl, rfl⟩ ?_
  refine wg_putR (pc' := 49) fp_X9_24 (fun _ => rfl) rfl (tk kd_34 (by decide)) dX9_init_46 rfl ?_
  refine wg_aload_n (pc' := 50) (i := 0) (by rfl) (by rfl) dX9_init_49 rfl ?_
  refine wg_iload_n (pc' := 51) (i := 2) (by rfl) (by rfl) dX9_init_50 rfl ?_
  refine t_newarray (mc := 0) (ms := 0) (N := 60) (tc := 0) (ty := .int) (pc' := 53) (n' := 41) kd_40 (by decide) (by decide) ac_I dX9_init_51 rfl rfl ⟨rfl, rfl⟩ ?_
  refine wg_putR (pc' := 56) fp_X9_27 (fun _ => rfl) rfl (tk kd_34 (by decide)) dX9_init_53 rfl ?_
  exact wg_return rfl dX9_init_56 ⟨rfl, rfl, rfl⟩
def hc_41 (σ : gH) : gH := gUp (gUr (gUp (gUr (gUp (gUr (gUp (gUr (gUp (gUr (gUp (gUr (gUp (gUr (gUp (gUr (gUp (gUr (gUp (gUr (gUp (gUr (gUp (gUr (gUp (gUr (gUp (gUr (gUp (gUr (σ) 42 (fun _ => 0)) 41 0 42) 43 (fun _ => 0)) 41 1 43) 44 (fun _ => 0)) 41 2 44) 45 (fun _ => 0)) 41 3 45) 46 (fun _ => 0)) 41 4 46) 47 (fun _ => 0)) 41 5 47) 48 (fun _ => 0)) 41 6 48) 49 (fun _ => 0)) 41 7 49) 50 (fun _ => 0)) 41 8 50) 51 (fun _ => 0)) 41 9 51) 52 (fun _ => 0)) 41 10 52) 53 (fun _ => 0)) 41 12 53) 54 (fun _ => 0)) 41 13 54) 55 (fun _ => 0)) 41 14 55) 56 (fun _ => 0)) 41 15 56
set_option maxRecDepth 100000 in
theorem kc_41 (σ : gH) : gMt mX2_init 1 15 2120 [gR 41] (gL.take 42) σ (tQ 57 (hc_41 σ)) := by
  refine gMt.walkT (ls := [gR 41]) pn_X2 rfl (Nat.le_of_ble_eq_true rfl) rfl ?_
  refine wg_aload_n (pc' := 1) (i := 0) (by rfl) (by rfl) dX2_init_0 rfl ?_
  refine wg_objInit (pc' := 4) lo_X2_3 oi_in oi_code (by decide) dX2_init_1 rfl ?_
  refine wg_aload_n (pc' := 5) (i := 0) (by rfl) (by rfl) dX2_init_4 rfl ?_
  refine wg_bipush (pc' := 7) (by decide) (by decide) dX2_init_5 rfl ?_
  refine t_newarray (mc := 14) (ms := 2000) (N := 120) (tc := 0) (ty := .int) (pc' := 9) (n' := 43) kd_42 (by decide) (by decide) ac_I dX2_init_7 rfl rfl ⟨rfl, rfl⟩ ?_
  refine wg_putR (pc' := 12) fp_X2_9 (fun _ => rfl) rfl (tk kd_41 (by decide)) dX2_init_9 rfl ?_
  refine wg_aload_n (pc' := 13) (i := 0) (by rfl) (by rfl) dX2_init_12 rfl ?_
  refine wg_bipush (pc' := 15) (by decide) (by decide) dX2_init_13 rfl ?_
  refine t_newarray (mc := 13) (ms := 1880) (N := 120) (tc := 0) (ty := .int) (pc' := 17) (n' := 44) kd_43 (by decide) (by decide) ac_I dX2_init_15 rfl rfl ⟨rfl, rfl⟩ ?_
  refine wg_putR (pc' := 20) fp_X2_15 (fun _ => rfl) rfl (tk kd_41 (by decide)) dX2_init_17 rfl ?_
  refine wg_aload_n (pc' := 21) (i := 0) (by rfl) (by rfl) dX2_init_20 rfl ?_
  refine wg_bipush (pc' := 23) (by decide) (by decide) dX2_init_21 rfl ?_
  refine t_newarray (mc := 12) (ms := 1760) (N := 120) (tc := 0) (ty := .int) (pc' := 25) (n' := 45) kd_44 (by decide) (by decide) ac_I dX2_init_23 rfl rfl ⟨rfl, rfl⟩ ?_
  refine wg_putR (pc' := 28) fp_X2_18 (fun _ => rfl) rfl (tk kd_41 (by decide)) dX2_init_25 rfl ?_
  refine wg_aload_n (pc' := 29) (i := 0) (by rfl) (by rfl) dX2_init_28 rfl ?_
  refine wg_bipush (pc' := 31) (by decide) (by decide) dX2_init_29 rfl ?_
  refine t_newarray (mc := 11) (ms := 1640) (N := 120) (tc := 0) (ty := .int) (pc' := 33) (n' := 46) kd_45 (by decide) (by decide) ac_I dX2_init_31 rfl rfl ⟨rfl, rfl⟩ ?_
  refine wg_putR (pc' := 36) fp_X2_21 (fun _ => rfl) rfl (tk kd_41 (by decide)) dX2_init_33 rfl ?_
  refine wg_aload_n (pc' := 37) (i := 0) (by rfl) (by rfl) dX2_init_36 rfl ?_
  refine wg_bipush (pc' := 39) (by decide) (by decide) dX2_init_37 rfl ?_
  refine t_newarray (mc := 10) (ms := 1520) (N := 120) (tc := 2) (ty := .boolean) (pc' := 41) (n' := 47) kd_46 (by decide) (by decide) ac_Z dX2_init_39 rfl rfl ⟨rfl, rfl⟩ ?_
  refine wg_putR (pc' := 44) fp_X2_24 (fun _ => rfl) rfl (tk kd_41 (by decide)) dX2_init_41 rfl ?_
  refine wg_aload_n (pc' := 45) (i := 0) (by rfl) (by rfl) dX2_init_44 rfl ?_
  refine wg_bipush (pc' := 47) (by decide) (by decide) dX2_init_45 rfl ?_
  refine t_newarray (mc := 9) (ms := 1400) (N := 120) (tc := 0) (ty := .int) (pc' := 49) (n' := 48) kd_47 (by decide) (by decide) ac_I dX2_init_47 rfl rfl ⟨rfl, rfl⟩ ?_
  refine wg_putR (pc' := 52) fp_X2_28 (fun _ => rfl) rfl (tk kd_41 (by decide)) dX2_init_49 rfl ?_
  refine wg_aload_n (pc' := 53) (i := 0) (by rfl) (by rfl) dX2_init_52 rfl ?_
  refine wg_bipush (pc' := 55) (by decide) (by decide) dX2_init_53 rfl ?_
  refine t_newarray (mc := 8) (ms := 1280) (N := 120) (tc := 0) (ty := .int) (pc' := 57) (n' := 49) kd_48 (by decide) (by decide) ac_I dX2_init_55 rfl rfl ⟨rfl, rfl⟩ ?_
  refine wg_putR (pc' := 60) fp_X2_31 (fun _ => rfl) rfl (tk kd_41 (by decide)) dX2_init_57 rfl ?_
  refine wg_aload_n (pc' := 61) (i := 0) (by rfl) (by rfl) dX2_init_60 rfl ?_
  refine wg_bipush (pc' := 63) (by decide) (by decide) dX2_init_61 rfl ?_
  refine t_newarray (mc := 7) (ms := 1160) (N := 120) (tc := 0) (ty := .int) (pc' := 65) (n' := 50) kd_49 (by decide) (by decide) ac_I dX2_init_63 rfl rfl ⟨rfl, rfl⟩ ?_
  refine wg_putR (pc' := 68) fp_X2_34 (fun _ => rfl) rfl (tk kd_41 (by decide)) dX2_init_65 rfl ?_
  refine wg_aload_n (pc' := 69) (i := 0) (by rfl) (by rfl) dX2_init_68 rfl ?_
  refine wg_bipush (pc' := 71) (by decide) (by decide) dX2_init_69 rfl ?_
  refine t_newarray (mc := 6) (ms := 1040) (N := 120) (tc := 0) (ty := .int) (pc' := 73) (n' := 51) kd_50 (by decide) (by decide) ac_I dX2_init_71 rfl rfl ⟨rfl, rfl⟩ ?_
  refine wg_putR (pc' := 76) fp_X2_37 (fun _ => rfl) rfl (tk kd_41 (by decide)) dX2_init_73 rfl ?_
  refine wg_aload_n (pc' := 77) (i := 0) (by rfl) (by rfl) dX2_init_76 rfl ?_
  refine wg_bipush (pc' := 79) (by decide) (by decide) dX2_init_77 rfl ?_
  refine t_newarray (mc := 5) (ms := 920) (N := 120) (tc := 0) (ty := .int) (pc' := 81) (n' := 52) kd_51 (by decide) (by decide) ac_I dX2_init_79 rfl rfl ⟨rfl, rfl⟩ ?_
  refine wg_putR (pc' := 84) fp_X2_40 (fun _ => rfl) rfl (tk kd_41 (by decide)) dX2_init_81 rfl ?_
  refine wg_aload_n (pc' := 85) (i := 0) (by rfl) (by rfl) dX2_init_84 rfl ?_
  refine wg_bipush (pc' := 87) (by decide) (by decide) dX2_init_85 rfl ?_
  refine t_newarray (mc := 4) (ms := 800) (N := 120) (tc := 0) (ty := .int) (pc' := 89) (n' := 53) kd_52 (by decide) (by decide) ac_I dX2_init_87 rfl rfl ⟨rfl, rfl⟩ ?_
  refine wg_putR (pc' := 92) fp_X2_43 (fun _ => rfl) rfl (tk kd_41 (by decide)) dX2_init_89 rfl ?_
  refine wg_aload_n (pc' := 93) (i := 0) (by rfl) (by rfl) dX2_init_92 rfl ?_
  refine wg_sipush (pc' := 96) (by decide) (by decide) dX2_init_93 rfl ?_
  refine t_newarray (mc := 3) (ms := 600) (N := 200) (tc := 0) (ty := .int) (pc' := 98) (n' := 54) kd_53 (by decide) (by decide) ac_I dX2_init_96 rfl rfl ⟨rfl, rfl⟩ ?_
  refine wg_putR (pc' := 101) fp_X2_46 (fun _ => rfl) rfl (tk kd_41 (by decide)) dX2_init_98 rfl ?_
  refine wg_aload_n (pc' := 102) (i := 0) (by rfl) (by rfl) dX2_init_101 rfl ?_
  refine wg_sipush (pc' := 105) (by decide) (by decide) dX2_init_102 rfl ?_
  refine t_newarray (mc := 2) (ms := 400) (N := 200) (tc := 0) (ty := .int) (pc' := 107) (n' := 55) kd_54 (by decide) (by decide) ac_I dX2_init_105 rfl rfl ⟨rfl, rfl⟩ ?_
  refine wg_putR (pc' := 110) fp_X2_49 (fun _ => rfl) rfl (tk kd_41 (by decide)) dX2_init_107 rfl ?_
  refine wg_aload_n (pc' := 111) (i := 0) (by rfl) (by rfl) dX2_init_110 rfl ?_
  refine wg_sipush (pc' := 114) (by decide) (by decide) dX2_init_111 rfl ?_
  refine t_newarray (mc := 1) (ms := 200) (N := 200) (tc := 0) (ty := .int) (pc' := 116) (n' := 56) kd_55 (by decide) (by decide) ac_I dX2_init_114 rfl rfl ⟨rfl, rfl⟩ ?_
  refine wg_putR (pc' := 119) fp_X2_52 (fun _ => rfl) rfl (tk kd_41 (by decide)) dX2_init_116 rfl ?_
  refine wg_aload_n (pc' := 120) (i := 0) (by rfl) (by rfl) dX2_init_119 rfl ?_
  refine wg_sipush (pc' := 123) (by decide) (by decide) dX2_init_120 rfl ?_
  refine t_newarray (mc := 0) (ms := 0) (N := 200) (tc := 0) (ty := .int) (pc' := 125) (n' := 57) kd_56 (by decide) (by decide) ac_I dX2_init_123 rfl rfl ⟨rfl, rfl⟩ ?_
  refine wg_putR (pc' := 128) fp_X2_55 (fun _ => rfl) rfl (tk kd_41 (by decide)) dX2_init_125 rfl ?_
  exact wg_return rfl dX2_init_128 ⟨rfl, rfl, rfl⟩
def hc_59 (σ : gH) : gH := gUp (gUr (gUp (gUr (gUp (gUr (gUp (gUr (gUp (gUr (gUp (gUr (gUp (gUp (gUp (gUp (σ) 59 4 1) 59 5 365) 59 6 365) 59 7 90) 60 (fun _ => 0)) 59 9 60) 61 (fun _ => 0)) 59 10 61) 62 (fun _ => 0)) 59 11 62) 63 (fun _ => 0)) 59 12 63) 64 (fun _ => 0)) 59 13 64) 65 (fun _ => 0)) 59 14 65
set_option maxRecDepth 100000 in
theorem kc_59 (σ : gH) : gMt mX4_init 1 6 388 [gR 59] (gL.take 60) σ (tQ 66 (hc_59 σ)) := by
  refine gMt.walkT (ls := [gR 59]) pn_X4 rfl (Nat.le_of_ble_eq_true rfl) rfl ?_
  refine wg_aload_n (pc' := 1) (i := 0) (by rfl) (by rfl) dX4_init_0 rfl ?_
  refine wg_objInit (pc' := 4) lo_X4_3 oi_in oi_code (by decide) dX4_init_1 rfl ?_
  refine wg_aload_n (pc' := 5) (i := 0) (by rfl) (by rfl) dX4_init_4 rfl ?_
  refine wg_iconst (pc' := 6) (by decide) dX4_init_5 rfl ?_
  refine wg_putI (pc' := 9) fp_X4_11 (tk kd_59 (by decide)) dX4_init_6 rfl ?_
  refine wg_aload_n (pc' := 10) (i := 0) (by rfl) (by rfl) dX4_init_9 rfl ?_
  refine wg_sipush (pc' := 13) (by decide) (by decide) dX4_init_10 rfl ?_
  refine wg_putI (pc' := 16) fp_X4_15 (tk kd_59 (by decide)) dX4_init_13 rfl ?_
  refine wg_aload_n (pc' := 17) (i := 0) (by rfl) (by rfl) dX4_init_16 rfl ?_
  refine wg_sipush (pc' := 20) (by decide) (by decide) dX4_init_17 rfl ?_
  refine wg_putI (pc' := 23) fp_X4_18 (tk kd_59 (by decide)) dX4_init_20 rfl ?_
  refine wg_aload_n (pc' := 24) (i := 0) (by rfl) (by rfl) dX4_init_23 rfl ?_
  refine wg_bipush (pc' := 26) (by decide) (by decide) dX4_init_24 rfl ?_
  refine wg_putI (pc' := 29) fp_X4_21 (tk kd_59 (by decide)) dX4_init_26 rfl ?_
  refine wg_aload_n (pc' := 30) (i := 0) (by rfl) (by rfl) dX4_init_29 rfl ?_
  refine wg_bipush (pc' := 32) (by decide) (by decide) dX4_init_30 rfl ?_
  refine t_newarray (mc := 5) (ms := 380) (N := 8) (tc := 0) (ty := .int) (pc' := 34) (n' := 61) kd_60 (by decide) (by decide) ac_I dX4_init_32 rfl rfl ⟨rfl, rfl⟩ ?_
  refine wg_putR (pc' := 37) fp_X4_24 (fun _ => rfl) rfl (tk kd_59 (by decide)) dX4_init_34 rfl ?_
  refine wg_aload_n (pc' := 38) (i := 0) (by rfl) (by rfl) dX4_init_37 rfl ?_
  refine wg_bipush (pc' := 40) (by decide) (by decide) dX4_init_38 rfl ?_
  refine t_newarray (mc := 4) (ms := 370) (N := 10) (tc := 0) (ty := .int) (pc' := 42) (n' := 62) kd_61 (by decide) (by decide) ac_I dX4_init_40 rfl rfl ⟨rfl, rfl⟩ ?_
  refine wg_putR (pc' := 45) fp_X4_28 (fun _ => rfl) rfl (tk kd_59 (by decide)) dX4_init_42 rfl ?_
  refine wg_aload_n (pc' := 46) (i := 0) (by rfl) (by rfl) dX4_init_45 rfl ?_
  refine wg_bipush (pc' := 48) (by decide) (by decide) dX4_init_46 rfl ?_
  refine t_newarray (mc := 3) (ms := 360) (N := 10) (tc := 0) (ty := .int) (pc' := 50) (n' := 63) kd_62 (by decide) (by decide) ac_I dX4_init_48 rfl rfl ⟨rfl, rfl⟩ ?_
  refine wg_putR (pc' := 53) fp_X4_31 (fun _ => rfl) rfl (tk kd_59 (by decide)) dX4_init_50 rfl ?_
  refine wg_aload_n (pc' := 54) (i := 0) (by rfl) (by rfl) dX4_init_53 rfl ?_
  refine wg_bipush (pc' := 56) (by decide) (by decide) dX4_init_54 rfl ?_
  refine t_newarray (mc := 2) (ms := 240) (N := 120) (tc := 0) (ty := .int) (pc' := 58) (n' := 64) kd_63 (by decide) (by decide) ac_I dX4_init_56 rfl rfl ⟨rfl, rfl⟩ ?_
  refine wg_putR (pc' := 61) fp_X4_34 (fun _ => rfl) rfl (tk kd_59 (by decide)) dX4_init_58 rfl ?_
  refine wg_aload_n (pc' := 62) (i := 0) (by rfl) (by rfl) dX4_init_61 rfl ?_
  refine wg_bipush (pc' := 64) (by decide) (by decide) dX4_init_62 rfl ?_
  refine t_newarray (mc := 1) (ms := 120) (N := 120) (tc := 0) (ty := .int) (pc' := 66) (n' := 65) kd_64 (by decide) (by decide) ac_I dX4_init_64 rfl rfl ⟨rfl, rfl⟩ ?_
  refine wg_putR (pc' := 69) fp_X4_37 (fun _ => rfl) rfl (tk kd_59 (by decide)) dX4_init_66 rfl ?_
  refine wg_aload_n (pc' := 70) (i := 0) (by rfl) (by rfl) dX4_init_69 rfl ?_
  refine wg_bipush (pc' := 72) (by decide) (by decide) dX4_init_70 rfl ?_
  refine t_newarray (mc := 0) (ms := 0) (N := 120) (tc := 0) (ty := .int) (pc' := 74) (n' := 66) kd_65 (by decide) (by decide) ac_I dX4_init_72 rfl rfl ⟨rfl, rfl⟩ ?_
  refine wg_putR (pc' := 77) fp_X4_40 (fun _ => rfl) rfl (tk kd_59 (by decide)) dX4_init_74 rfl ?_
  exact wg_return rfl dX4_init_77 ⟨rfl, rfl, rfl⟩
def hc_66 (σ : gH) : gH := σ
set_option maxRecDepth 100000 in
theorem kc_66 (σ : gH) : gMt mX10_init 1 0 0 [gR 66] (gL.take 67) σ (tQ 67 (hc_66 σ)) := by
  refine gMt.walkT (ls := [gR 66]) pn_X10 rfl (Nat.le_of_ble_eq_true rfl) rfl ?_
  refine wg_aload_n (pc' := 1) (i := 0) (by rfl) (by rfl) dX10_init_0 rfl ?_
  refine wg_objInit (pc' := 4) lo_X10_3 oi_in oi_code (by decide) dX10_init_1 rfl ?_
  exact wg_return rfl dX10_init_4 ⟨rfl, rfl, rfl⟩
def hc_68 (σ : gH) : gH := gUp (gUr (gUp (gUr (gUp (gUr (gUp (gUr (gUp (gUr (gUp (gUr (gUp (gUp (gUp (gUp (σ) 68 4 1) 68 5 365) 68 6 365) 68 7 90) 69 (fun _ => 0)) 68 9 69) 70 (fun _ => 0)) 68 10 70) 71 (fun _ => 0)) 68 11 71) 72 (fun _ => 0)) 68 12 72) 73 (fun _ => 0)) 68 13 73) 74 (fun _ => 0)) 68 14 74
set_option maxRecDepth 100000 in
theorem kc_68 (σ : gH) : gMt mX4_init 1 6 388 [gR 68] (gL.take 69) σ (tQ 75 (hc_68 σ)) := by
  refine gMt.walkT (ls := [gR 68]) pn_X4 rfl (Nat.le_of_ble_eq_true rfl) rfl ?_
  refine wg_aload_n (pc' := 1) (i := 0) (by rfl) (by rfl) dX4_init_0 rfl ?_
  refine wg_objInit (pc' := 4) lo_X4_3 oi_in oi_code (by decide) dX4_init_1 rfl ?_
  refine wg_aload_n (pc' := 5) (i := 0) (by rfl) (by rfl) dX4_init_4 rfl ?_
  refine wg_iconst (pc' := 6) (by decide) dX4_init_5 rfl ?_
  refine wg_putI (pc' := 9) fp_X4_11 (tk kd_68 (by decide)) dX4_init_6 rfl ?_
  refine wg_aload_n (pc' := 10) (i := 0) (by rfl) (by rfl) dX4_init_9 rfl ?_
  refine wg_sipush (pc' := 13) (by decide) (by decide) dX4_init_10 rfl ?_
  refine wg_putI (pc' := 16) fp_X4_15 (tk kd_68 (by decide)) dX4_init_13 rfl ?_
  refine wg_aload_n (pc' := 17) (i := 0) (by rfl) (by rfl) dX4_init_16 rfl ?_
  refine wg_sipush (pc' := 20) (by decide) (by decide) dX4_init_17 rfl ?_
  refine wg_putI (pc' := 23) fp_X4_18 (tk kd_68 (by decide)) dX4_init_20 rfl ?_
  refine wg_aload_n (pc' := 24) (i := 0) (by rfl) (by rfl) dX4_init_23 rfl ?_
  refine wg_bipush (pc' := 26) (by decide) (by decide) dX4_init_24 rfl ?_
  refine wg_putI (pc' := 29) fp_X4_21 (tk kd_68 (by decide)) dX4_init_26 rfl ?_
  refine wg_aload_n (pc' := 30) (i := 0) (by rfl) (by rfl) dX4_init_29 rfl ?_
  refine wg_bipush (pc' := 32) (by decide) (by decide) dX4_init_30 rfl ?_
  refine t_newarray (mc := 5) (ms := 380) (N := 8) (tc := 0) (ty := .int) (pc' := 34) (n' := 70) kd_69 (by decide) (by decide) ac_I dX4_init_32 rfl rfl ⟨rfl, rfl⟩ ?_
  refine wg_putR (pc' := 37) fp_X4_24 (fun _ => rfl) rfl (tk kd_68 (by decide)) dX4_init_34 rfl ?_
  refine wg_aload_n (pc' := 38) (i := 0) (by rfl) (by rfl) dX4_init_37 rfl ?_
  refine wg_bipush (pc' := 40) (by decide) (by decide) dX4_init_38 rfl ?_
  refine t_newarray (mc := 4) (ms := 370) (N := 10) (tc := 0) (ty := .int) (pc' := 42) (n' := 71) kd_70 (by decide) (by decide) ac_I dX4_init_40 rfl rfl ⟨rfl, rfl⟩ ?_
  refine wg_putR (pc' := 45) fp_X4_28 (fun _ => rfl) rfl (tk kd_68 (by decide)) dX4_init_42 rfl ?_
  refine wg_aload_n (pc' := 46) (i := 0) (by rfl) (by rfl) dX4_init_45 rfl ?_
  refine wg_bipush (pc' := 48) (by decide) (by decide) dX4_init_46 rfl ?_
  refine t_newarray (mc := 3) (ms := 360) (N := 10) (tc := 0) (ty := .int) (pc' := 50) (n' := 72) kd_71 (by decide) (by decide) ac_I dX4_init_48 rfl rfl ⟨rfl, rfl⟩ ?_
  refine wg_putR (pc' := 53) fp_X4_31 (fun _ => rfl) rfl (tk kd_68 (by decide)) dX4_init_50 rfl ?_
  refine wg_aload_n (pc' := 54) (i := 0) (by rfl) (by rfl) dX4_init_53 rfl ?_
  refine wg_bipush (pc' := 56) (by decide) (by decide) dX4_init_54 rfl ?_
  refine t_newarray (mc := 2) (ms := 240) (N := 120) (tc := 0) (ty := .int) (pc' := 58) (n' := 73) kd_72 (by decide) (by decide) ac_I dX4_init_56 rfl rfl ⟨rfl, rfl⟩ ?_
  refine wg_putR (pc' := 61) fp_X4_34 (fun _ => rfl) rfl (tk kd_68 (by decide)) dX4_init_58 rfl ?_
  refine wg_aload_n (pc' := 62) (i := 0) (by rfl) (by rfl) dX4_init_61 rfl ?_
  refine wg_bipush (pc' := 64) (by decide) (by decide) dX4_init_62 rfl ?_
  refine t_newarray (mc := 1) (ms := 120) (N := 120) (tc := 0) (ty := .int) (pc' := 66) (n' := 74) kd_73 (by decide) (by decide) ac_I dX4_init_64 rfl rfl ⟨rfl, rfl⟩ ?_
  refine wg_putR (pc' := 69) fp_X4_37 (fun _ => rfl) rfl (tk kd_68 (by decide)) dX4_init_66 rfl ?_
  refine wg_aload_n (pc' := 70) (i := 0) (by rfl) (by rfl) dX4_init_69 rfl ?_
  refine wg_bipush (pc' := 72) (by decide) (by decide) dX4_init_70 rfl ?_
  refine t_newarray (mc := 0) (ms := 0) (N := 120) (tc := 0) (ty := .int) (pc' := 74) (n' := 75) kd_74 (by decide) (by decide) ac_I dX4_init_72 rfl rfl ⟨rfl, rfl⟩ ?_
  refine wg_putR (pc' := 77) fp_X4_40 (fun _ => rfl) rfl (tk kd_68 (by decide)) dX4_init_74 rfl ?_
  exact wg_return rfl dX4_init_77 ⟨rfl, rfl, rfl⟩
def hc_75 (σ : gH) : gH := gUp (gUr (gUp (gUr (gUp (gUr (gUp (gUr (gUp (gUr (gUp (gUr (gUp (gUp (gUp (gUp (σ) 75 4 1) 75 5 365) 75 6 365) 75 7 90) 76 (fun _ => 0)) 75 9 76) 77 (fun _ => 0)) 75 10 77) 78 (fun _ => 0)) 75 11 78) 79 (fun _ => 0)) 75 12 79) 80 (fun _ => 0)) 75 13 80) 81 (fun _ => 0)) 75 14 81
set_option maxRecDepth 100000 in
theorem kc_75 (σ : gH) : gMt mX4_init 1 6 388 [gR 75] (gL.take 76) σ (tQ 82 (hc_75 σ)) := by
  refine gMt.walkT (ls := [gR 75]) pn_X4 rfl (Nat.le_of_ble_eq_true rfl) rfl ?_
  refine wg_aload_n (pc' := 1) (i := 0) (by rfl) (by rfl) dX4_init_0 rfl ?_
  refine wg_objInit (pc' := 4) lo_X4_3 oi_in oi_code (by decide) dX4_init_1 rfl ?_
  refine wg_aload_n (pc' := 5) (i := 0) (by rfl) (by rfl) dX4_init_4 rfl ?_
  refine wg_iconst (pc' := 6) (by decide) dX4_init_5 rfl ?_
  refine wg_putI (pc' := 9) fp_X4_11 (tk kd_75 (by decide)) dX4_init_6 rfl ?_
  refine wg_aload_n (pc' := 10) (i := 0) (by rfl) (by rfl) dX4_init_9 rfl ?_
  refine wg_sipush (pc' := 13) (by decide) (by decide) dX4_init_10 rfl ?_
  refine wg_putI (pc' := 16) fp_X4_15 (tk kd_75 (by decide)) dX4_init_13 rfl ?_
  refine wg_aload_n (pc' := 17) (i := 0) (by rfl) (by rfl) dX4_init_16 rfl ?_
  refine wg_sipush (pc' := 20) (by decide) (by decide) dX4_init_17 rfl ?_
  refine wg_putI (pc' := 23) fp_X4_18 (tk kd_75 (by decide)) dX4_init_20 rfl ?_
  refine wg_aload_n (pc' := 24) (i := 0) (by rfl) (by rfl) dX4_init_23 rfl ?_
  refine wg_bipush (pc' := 26) (by decide) (by decide) dX4_init_24 rfl ?_
  refine wg_putI (pc' := 29) fp_X4_21 (tk kd_75 (by decide)) dX4_init_26 rfl ?_
  refine wg_aload_n (pc' := 30) (i := 0) (by rfl) (by rfl) dX4_init_29 rfl ?_
  refine wg_bipush (pc' := 32) (by decide) (by decide) dX4_init_30 rfl ?_
  refine t_newarray (mc := 5) (ms := 380) (N := 8) (tc := 0) (ty := .int) (pc' := 34) (n' := 77) kd_76 (by decide) (by decide) ac_I dX4_init_32 rfl rfl ⟨rfl, rfl⟩ ?_
  refine wg_putR (pc' := 37) fp_X4_24 (fun _ => rfl) rfl (tk kd_75 (by decide)) dX4_init_34 rfl ?_
  refine wg_aload_n (pc' := 38) (i := 0) (by rfl) (by rfl) dX4_init_37 rfl ?_
  refine wg_bipush (pc' := 40) (by decide) (by decide) dX4_init_38 rfl ?_
  refine t_newarray (mc := 4) (ms := 370) (N := 10) (tc := 0) (ty := .int) (pc' := 42) (n' := 78) kd_77 (by decide) (by decide) ac_I dX4_init_40 rfl rfl ⟨rfl, rfl⟩ ?_
  refine wg_putR (pc' := 45) fp_X4_28 (fun _ => rfl) rfl (tk kd_75 (by decide)) dX4_init_42 rfl ?_
  refine wg_aload_n (pc' := 46) (i := 0) (by rfl) (by rfl) dX4_init_45 rfl ?_
  refine wg_bipush (pc' := 48) (by decide) (by decide) dX4_init_46 rfl ?_
  refine t_newarray (mc := 3) (ms := 360) (N := 10) (tc := 0) (ty := .int) (pc' := 50) (n' := 79) kd_78 (by decide) (by decide) ac_I dX4_init_48 rfl rfl ⟨rfl, rfl⟩ ?_
  refine wg_putR (pc' := 53) fp_X4_31 (fun _ => rfl) rfl (tk kd_75 (by decide)) dX4_init_50 rfl ?_
  refine wg_aload_n (pc' := 54) (i := 0) (by rfl) (by rfl) dX4_init_53 rfl ?_
  refine wg_bipush (pc' := 56) (by decide) (by decide) dX4_init_54 rfl ?_
  refine t_newarray (mc := 2) (ms := 240) (N := 120) (tc := 0) (ty := .int) (pc' := 58) (n' := 80) kd_79 (by decide) (by decide) ac_I dX4_init_56 rfl rfl ⟨rfl, rfl⟩ ?_
  refine wg_putR (pc' := 61) fp_X4_34 (fun _ => rfl) rfl (tk kd_75 (by decide)) dX4_init_58 rfl ?_
  refine wg_aload_n (pc' := 62) (i := 0) (by rfl) (by rfl) dX4_init_61 rfl ?_
  refine wg_bipush (pc' := 64) (by decide) (by decide) dX4_init_62 rfl ?_
  refine t_newarray (mc := 1) (ms := 120) (N := 120) (tc := 0) (ty := .int) (pc' := 66) (n' := 81) kd_80 (by decide) (by decide) ac_I dX4_init_64 rfl rfl ⟨rfl, rfl⟩ ?_
  refine wg_putR (pc' := 69) fp_X4_37 (fun _ => rfl) rfl (tk kd_75 (by decide)) dX4_init_66 rfl ?_
  refine wg_aload_n (pc' := 70) (i := 0) (by rfl) (by rfl) dX4_init_69 rfl ?_
  refine wg_bipush (pc' := 72) (by decide) (by decide) dX4_init_70 rfl ?_
  refine t_newarray (mc := 0) (ms := 0) (N := 120) (tc := 0) (ty := .int) (pc' := 74) (n' := 82) kd_81 (by decide) (by decide) ac_I dX4_init_72 rfl rfl ⟨rfl, rfl⟩ ?_
  refine wg_putR (pc' := 77) fp_X4_40 (fun _ => rfl) rfl (tk kd_75 (by decide)) dX4_init_74 rfl ?_
  exact wg_return rfl dX4_init_77 ⟨rfl, rfl, rfl⟩
def hc_82 (σ : gH) : gH := gUp (gUr (gUp (gUr (gUp (gUr (gUp (gUr (gUp (gUr (gUp (gUr (gUp (gUp (gUp (gUp (σ) 82 4 1) 82 5 365) 82 6 365) 82 7 90) 83 (fun _ => 0)) 82 9 83) 84 (fun _ => 0)) 82 10 84) 85 (fun _ => 0)) 82 11 85) 86 (fun _ => 0)) 82 12 86) 87 (fun _ => 0)) 82 13 87) 88 (fun _ => 0)) 82 14 88
set_option maxRecDepth 100000 in
theorem kc_82 (σ : gH) : gMt mX4_init 1 6 388 [gR 82] (gL.take 83) σ (tQ 89 (hc_82 σ)) := by
  refine gMt.walkT (ls := [gR 82]) pn_X4 rfl (Nat.le_of_ble_eq_true rfl) rfl ?_
  refine wg_aload_n (pc' := 1) (i := 0) (by rfl) (by rfl) dX4_init_0 rfl ?_
  refine wg_objInit (pc' := 4) lo_X4_3 oi_in oi_code (by decide) dX4_init_1 rfl ?_
  refine wg_aload_n (pc' := 5) (i := 0) (by rfl) (by rfl) dX4_init_4 rfl ?_
  refine wg_iconst (pc' := 6) (by decide) dX4_init_5 rfl ?_
  refine wg_putI (pc' := 9) fp_X4_11 (tk kd_82 (by decide)) dX4_init_6 rfl ?_
  refine wg_aload_n (pc' := 10) (i := 0) (by rfl) (by rfl) dX4_init_9 rfl ?_
  refine wg_sipush (pc' := 13) (by decide) (by decide) dX4_init_10 rfl ?_
  refine wg_putI (pc' := 16) fp_X4_15 (tk kd_82 (by decide)) dX4_init_13 rfl ?_
  refine wg_aload_n (pc' := 17) (i := 0) (by rfl) (by rfl) dX4_init_16 rfl ?_
  refine wg_sipush (pc' := 20) (by decide) (by decide) dX4_init_17 rfl ?_
  refine wg_putI (pc' := 23) fp_X4_18 (tk kd_82 (by decide)) dX4_init_20 rfl ?_
  refine wg_aload_n (pc' := 24) (i := 0) (by rfl) (by rfl) dX4_init_23 rfl ?_
  refine wg_bipush (pc' := 26) (by decide) (by decide) dX4_init_24 rfl ?_
  refine wg_putI (pc' := 29) fp_X4_21 (tk kd_82 (by decide)) dX4_init_26 rfl ?_
  refine wg_aload_n (pc' := 30) (i := 0) (by rfl) (by rfl) dX4_init_29 rfl ?_
  refine wg_bipush (pc' := 32) (by decide) (by decide) dX4_init_30 rfl ?_
  refine t_newarray (mc := 5) (ms := 380) (N := 8) (tc := 0) (ty := .int) (pc' := 34) (n' := 84) kd_83 (by decide) (by decide) ac_I dX4_init_32 rfl rfl ⟨rfl, rfl⟩ ?_
  refine wg_putR (pc' := 37) fp_X4_24 (fun _ => rfl) rfl (tk kd_82 (by decide)) dX4_init_34 rfl ?_
  refine wg_aload_n (pc' := 38) (i := 0) (by rfl) (by rfl) dX4_init_37 rfl ?_
  refine wg_bipush (pc' := 40) (by decide) (by decide) dX4_init_38 rfl ?_
  refine t_newarray (mc := 4) (ms := 370) (N := 10) (tc := 0) (ty := .int) (pc' := 42) (n' := 85) kd_84 (by decide) (by decide) ac_I dX4_init_40 rfl rfl ⟨rfl, rfl⟩ ?_
  refine wg_putR (pc' := 45) fp_X4_28 (fun _ => rfl) rfl (tk kd_82 (by decide)) dX4_init_42 rfl ?_
  refine wg_aload_n (pc' := 46) (i := 0) (by rfl) (by rfl) dX4_init_45 rfl ?_
  refine wg_bipush (pc' := 48) (by decide) (by decide) dX4_init_46 rfl ?_
  refine t_newarray (mc := 3) (ms := 360) (N := 10) (tc := 0) (ty := .int) (pc' := 50) (n' := 86) kd_85 (by decide) (by decide) ac_I dX4_init_48 rfl rfl ⟨rfl, rfl⟩ ?_
  refine wg_putR (pc' := 53) fp_X4_31 (fun _ => rfl) rfl (tk kd_82 (by decide)) dX4_init_50 rfl ?_
  refine wg_aload_n (pc' := 54) (i := 0) (by rfl) (by rfl) dX4_init_53 rfl ?_
  refine wg_bipush (pc' := 56) (by decide) (by decide) dX4_init_54 rfl ?_
  refine t_newarray (mc := 2) (ms := 240) (N := 120) (tc := 0) (ty := .int) (pc' := 58) (n' := 87) kd_86 (by decide) (by decide) ac_I dX4_init_56 rfl rfl ⟨rfl, rfl⟩ ?_
  refine wg_putR (pc' := 61) fp_X4_34 (fun _ => rfl) rfl (tk kd_82 (by decide)) dX4_init_58 rfl ?_
  refine wg_aload_n (pc' := 62) (i := 0) (by rfl) (by rfl) dX4_init_61 rfl ?_
  refine wg_bipush (pc' := 64) (by decide) (by decide) dX4_init_62 rfl ?_
  refine t_newarray (mc := 1) (ms := 120) (N := 120) (tc := 0) (ty := .int) (pc' := 66) (n' := 88) kd_87 (by decide) (by decide) ac_I dX4_init_64 rfl rfl ⟨rfl, rfl⟩ ?_
  refine wg_putR (pc' := 69) fp_X4_37 (fun _ => rfl) rfl (tk kd_82 (by decide)) dX4_init_66 rfl ?_
  refine wg_aload_n (pc' := 70) (i := 0) (by rfl) (by rfl) dX4_init_69 rfl ?_
  refine wg_bipush (pc' := 72) (by decide) (by decide) dX4_init_70 rfl ?_
  refine t_newarray (mc := 0) (ms := 0) (N := 120) (tc := 0) (ty := .int) (pc' := 74) (n' := 89) kd_88 (by decide) (by decide) ac_I dX4_init_72 rfl rfl ⟨rfl, rfl⟩ ?_
  refine wg_putR (pc' := 77) fp_X4_40 (fun _ => rfl) rfl (tk kd_82 (by decide)) dX4_init_74 rfl ?_
  exact wg_return rfl dX4_init_77 ⟨rfl, rfl, rfl⟩
def hc_89 (σ : gH) : gH := gUp (gUr (gUp (gUr (gUp (gUr (gUp (gUr (gUp (gUr (gUp (gUr (gUp (gUp (gUp (gUp (σ) 89 4 1) 89 5 365) 89 6 365) 89 7 90) 90 (fun _ => 0)) 89 9 90) 91 (fun _ => 0)) 89 10 91) 92 (fun _ => 0)) 89 11 92) 93 (fun _ => 0)) 89 12 93) 94 (fun _ => 0)) 89 13 94) 95 (fun _ => 0)) 89 14 95
set_option maxRecDepth 100000 in
theorem kc_89 (σ : gH) : gMt mX4_init 1 6 388 [gR 89] (gL.take 90) σ (tQ 96 (hc_89 σ)) := by
  refine gMt.walkT (ls := [gR 89]) pn_X4 rfl (Nat.le_of_ble_eq_true rfl) rfl ?_
  refine wg_aload_n (pc' := 1) (i := 0) (by rfl) (by rfl) dX4_init_0 rfl ?_
  refine wg_objInit (pc' := 4) lo_X4_3 oi_in oi_code (by decide) dX4_init_1 rfl ?_
  refine wg_aload_n (pc' := 5) (i := 0) (by rfl) (by rfl) dX4_init_4 rfl ?_
  refine wg_iconst (pc' := 6) (by decide) dX4_init_5 rfl ?_
  refine wg_putI (pc' := 9) fp_X4_11 (tk kd_89 (by decide)) dX4_init_6 rfl ?_
  refine wg_aload_n (pc' := 10) (i := 0) (by rfl) (by rfl) dX4_init_9 rfl ?_
  refine wg_sipush (pc' := 13) (by decide) (by decide) dX4_init_10 rfl ?_
  refine wg_putI (pc' := 16) fp_X4_15 (tk kd_89 (by decide)) dX4_init_13 rfl ?_
  refine wg_aload_n (pc' := 17) (i := 0) (by rfl) (by rfl) dX4_init_16 rfl ?_
  refine wg_sipush (pc' := 20) (by decide) (by decide) dX4_init_17 rfl ?_
  refine wg_putI (pc' := 23) fp_X4_18 (tk kd_89 (by decide)) dX4_init_20 rfl ?_
  refine wg_aload_n (pc' := 24) (i := 0) (by rfl) (by rfl) dX4_init_23 rfl ?_
  refine wg_bipush (pc' := 26) (by decide) (by decide) dX4_init_24 rfl ?_
  refine wg_putI (pc' := 29) fp_X4_21 (tk kd_89 (by decide)) dX4_init_26 rfl ?_
  refine wg_aload_n (pc' := 30) (i := 0) (by rfl) (by rfl) dX4_init_29 rfl ?_
  refine wg_bipush (pc' := 32) (by decide) (by decide) dX4_init_30 rfl ?_
  refine t_newarray (mc := 5) (ms := 380) (N := 8) (tc := 0) (ty := .int) (pc' := 34) (n' := 91) kd_90 (by decide) (by decide) ac_I dX4_init_32 rfl rfl ⟨rfl, rfl⟩ ?_
  refine wg_putR (pc' := 37) fp_X4_24 (fun _ => rfl) rfl (tk kd_89 (by decide)) dX4_init_34 rfl ?_
  refine wg_aload_n (pc' := 38) (i := 0) (by rfl) (by rfl) dX4_init_37 rfl ?_
  refine wg_bipush (pc' := 40) (by decide) (by decide) dX4_init_38 rfl ?_
  refine t_newarray (mc := 4) (ms := 370) (N := 10) (tc := 0) (ty := .int) (pc' := 42) (n' := 92) kd_91 (by decide) (by decide) ac_I dX4_init_40 rfl rfl ⟨rfl, rfl⟩ ?_
  refine wg_putR (pc' := 45) fp_X4_28 (fun _ => rfl) rfl (tk kd_89 (by decide)) dX4_init_42 rfl ?_
  refine wg_aload_n (pc' := 46) (i := 0) (by rfl) (by rfl) dX4_init_45 rfl ?_
  refine wg_bipush (pc' := 48) (by decide) (by decide) dX4_init_46 rfl ?_
  refine t_newarray (mc := 3) (ms := 360) (N := 10) (tc := 0) (ty := .int) (pc' := 50) (n' := 93) kd_92 (by decide) (by decide) ac_I dX4_init_48 rfl rfl ⟨rfl, rfl⟩ ?_
  refine wg_putR (pc' := 53) fp_X4_31 (fun _ => rfl) rfl (tk kd_89 (by decide)) dX4_init_50 rfl ?_
  refine wg_aload_n (pc' := 54) (i := 0) (by rfl) (by rfl) dX4_init_53 rfl ?_
  refine wg_bipush (pc' := 56) (by decide) (by decide) dX4_init_54 rfl ?_
  refine t_newarray (mc := 2) (ms := 240) (N := 120) (tc := 0) (ty := .int) (pc' := 58) (n' := 94) kd_93 (by decide) (by decide) ac_I dX4_init_56 rfl rfl ⟨rfl, rfl⟩ ?_
  refine wg_putR (pc' := 61) fp_X4_34 (fun _ => rfl) rfl (tk kd_89 (by decide)) dX4_init_58 rfl ?_
  refine wg_aload_n (pc' := 62) (i := 0) (by rfl) (by rfl) dX4_init_61 rfl ?_
  refine wg_bipush (pc' := 64) (by decide) (by decide) dX4_init_62 rfl ?_
  refine t_newarray (mc := 1) (ms := 120) (N := 120) (tc := 0) (ty := .int) (pc' := 66) (n' := 95) kd_94 (by decide) (by decide) ac_I dX4_init_64 rfl rfl ⟨rfl, rfl⟩ ?_
  refine wg_putR (pc' := 69) fp_X4_37 (fun _ => rfl) rfl (tk kd_89 (by decide)) dX4_init_66 rfl ?_
  refine wg_aload_n (pc' := 70) (i := 0) (by rfl) (by rfl) dX4_init_69 rfl ?_
  refine wg_bipush (pc' := 72) (by decide) (by decide) dX4_init_70 rfl ?_
  refine t_newarray (mc := 0) (ms := 0) (N := 120) (tc := 0) (ty := .int) (pc' := 74) (n' := 96) kd_95 (by decide) (by decide) ac_I dX4_init_72 rfl rfl ⟨rfl, rfl⟩ ?_
  refine wg_putR (pc' := 77) fp_X4_40 (fun _ => rfl) rfl (tk kd_89 (by decide)) dX4_init_74 rfl ?_
  exact wg_return rfl dX4_init_77 ⟨rfl, rfl, rfl⟩
def hc_96 (σ : gH) : gH := gUp (gUr (gUp (gUr (gUp (gUr (gUp (gUr (gUp (gUr (gUp (gUr (gUp (gUp (gUp (gUp (σ) 96 4 1) 96 5 365) 96 6 365) 96 7 90) 97 (fun _ => 0)) 96 9 97) 98 (fun _ => 0)) 96 10 98) 99 (fun _ => 0)) 96 11 99) 100 (fun _ => 0)) 96 12 100) 101 (fun _ => 0)) 96 13 101) 102 (fun _ => 0)) 96 14 102
set_option maxRecDepth 100000 in
theorem kc_96 (σ : gH) : gMt mX4_init 1 6 388 [gR 96] (gL.take 97) σ (tQ 103 (hc_96 σ)) := by
  refine gMt.walkT (ls := [gR 96]) pn_X4 rfl (Nat.le_of_ble_eq_true rfl) rfl ?_
  refine wg_aload_n (pc' := 1) (i := 0) (by rfl) (by rfl) dX4_init_0 rfl ?_
  refine wg_objInit (pc' := 4) lo_X4_3 oi_in oi_code (by decide) dX4_init_1 rfl ?_
  refine wg_aload_n (pc' := 5) (i := 0) (by rfl) (by rfl) dX4_init_4 rfl ?_
  refine wg_iconst (pc' := 6) (by decide) dX4_init_5 rfl ?_
  refine wg_putI (pc' := 9) fp_X4_11 (tk kd_96 (by decide)) dX4_init_6 rfl ?_
  refine wg_aload_n (pc' := 10) (i := 0) (by rfl) (by rfl) dX4_init_9 rfl ?_
  refine wg_sipush (pc' := 13) (by decide) (by decide) dX4_init_10 rfl ?_
  refine wg_putI (pc' := 16) fp_X4_15 (tk kd_96 (by decide)) dX4_init_13 rfl ?_
  refine wg_aload_n (pc' := 17) (i := 0) (by rfl) (by rfl) dX4_init_16 rfl ?_
  refine wg_sipush (pc' := 20) (by decide) (by decide) dX4_init_17 rfl ?_
  refine wg_putI (pc' := 23) fp_X4_18 (tk kd_96 (by decide)) dX4_init_20 rfl ?_
  refine wg_aload_n (pc' := 24) (i := 0) (by rfl) (by rfl) dX4_init_23 rfl ?_
  refine wg_bipush (pc' := 26) (by decide) (by decide) dX4_init_24 rfl ?_
  refine wg_putI (pc' := 29) fp_X4_21 (tk kd_96 (by decide)) dX4_init_26 rfl ?_
  refine wg_aload_n (pc' := 30) (i := 0) (by rfl) (by rfl) dX4_init_29 rfl ?_
  refine wg_bipush (pc' := 32) (by decide) (by decide) dX4_init_30 rfl ?_
  refine t_newarray (mc := 5) (ms := 380) (N := 8) (tc := 0) (ty := .int) (pc' := 34) (n' := 98) kd_97 (by decide) (by decide) ac_I dX4_init_32 rfl rfl ⟨rfl, rfl⟩ ?_
  refine wg_putR (pc' := 37) fp_X4_24 (fun _ => rfl) rfl (tk kd_96 (by decide)) dX4_init_34 rfl ?_
  refine wg_aload_n (pc' := 38) (i := 0) (by rfl) (by rfl) dX4_init_37 rfl ?_
  refine wg_bipush (pc' := 40) (by decide) (by decide) dX4_init_38 rfl ?_
  refine t_newarray (mc := 4) (ms := 370) (N := 10) (tc := 0) (ty := .int) (pc' := 42) (n' := 99) kd_98 (by decide) (by decide) ac_I dX4_init_40 rfl rfl ⟨rfl, rfl⟩ ?_
  refine wg_putR (pc' := 45) fp_X4_28 (fun _ => rfl) rfl (tk kd_96 (by decide)) dX4_init_42 rfl ?_
  refine wg_aload_n (pc' := 46) (i := 0) (by rfl) (by rfl) dX4_init_45 rfl ?_
  refine wg_bipush (pc' := 48) (by decide) (by decide) dX4_init_46 rfl ?_
  refine t_newarray (mc := 3) (ms := 360) (N := 10) (tc := 0) (ty := .int) (pc' := 50) (n' := 100) kd_99 (by decide) (by decide) ac_I dX4_init_48 rfl rfl ⟨rfl, rfl⟩ ?_
  refine wg_putR (pc' := 53) fp_X4_31 (fun _ => rfl) rfl (tk kd_96 (by decide)) dX4_init_50 rfl ?_
  refine wg_aload_n (pc' := 54) (i := 0) (by rfl) (by rfl) dX4_init_53 rfl ?_
  refine wg_bipush (pc' := 56) (by decide) (by decide) dX4_init_54 rfl ?_
  refine t_newarray (mc := 2) (ms := 240) (N := 120) (tc := 0) (ty := .int) (pc' := 58) (n' := 101) kd_100 (by decide) (by decide) ac_I dX4_init_56 rfl rfl ⟨rfl, rfl⟩ ?_
  refine wg_putR (pc' := 61) fp_X4_34 (fun _ => rfl) rfl (tk kd_96 (by decide)) dX4_init_58 rfl ?_
  refine wg_aload_n (pc' := 62) (i := 0) (by rfl) (by rfl) dX4_init_61 rfl ?_
  refine wg_bipush (pc' := 64) (by decide) (by decide) dX4_init_62 rfl ?_
  refine t_newarray (mc := 1) (ms := 120) (N := 120) (tc := 0) (ty := .int) (pc' := 66) (n' := 102) kd_101 (by decide) (by decide) ac_I dX4_init_64 rfl rfl ⟨rfl, rfl⟩ ?_
  refine wg_putR (pc' := 69) fp_X4_37 (fun _ => rfl) rfl (tk kd_96 (by decide)) dX4_init_66 rfl ?_
  refine wg_aload_n (pc' := 70) (i := 0) (by rfl) (by rfl) dX4_init_69 rfl ?_
  refine wg_bipush (pc' := 72) (by decide) (by decide) dX4_init_70 rfl ?_
  refine t_newarray (mc := 0) (ms := 0) (N := 120) (tc := 0) (ty := .int) (pc' := 74) (n' := 103) kd_102 (by decide) (by decide) ac_I dX4_init_72 rfl rfl ⟨rfl, rfl⟩ ?_
  refine wg_putR (pc' := 77) fp_X4_40 (fun _ => rfl) rfl (tk kd_96 (by decide)) dX4_init_74 rfl ?_
  exact wg_return rfl dX4_init_77 ⟨rfl, rfl, rfl⟩
def hc_103 (σ : gH) : gH := gUp (gUr (gUp (gUr (gUp (gUr (gUp (gUr (gUp (gUr (gUp (gUr (gUp (gUp (gUp (gUp (σ) 103 4 1) 103 5 365) 103 6 365) 103 7 90) 104 (fun _ => 0)) 103 9 104) 105 (fun _ => 0)) 103 10 105) 106 (fun _ => 0)) 103 11 106) 107 (fun _ => 0)) 103 12 107) 108 (fun _ => 0)) 103 13 108) 109 (fun _ => 0)) 103 14 109
set_option maxRecDepth 100000 in
theorem kc_103 (σ : gH) : gMt mX4_init 1 6 388 [gR 103] (gL.take 104) σ (tQ 110 (hc_103 σ)) := by
  refine gMt.walkT (ls := [gR 103]) pn_X4 rfl (Nat.le_of_ble_eq_true rfl) rfl ?_
  refine wg_aload_n (pc' := 1) (i := 0) (by rfl) (by rfl) dX4_init_0 rfl ?_
  refine wg_objInit (pc' := 4) lo_X4_3 oi_in oi_code (by decide) dX4_init_1 rfl ?_
  refine wg_aload_n (pc' := 5) (i := 0) (by rfl) (by rfl) dX4_init_4 rfl ?_
  refine wg_iconst (pc' := 6) (by decide) dX4_init_5 rfl ?_
  refine wg_putI (pc' := 9) fp_X4_11 (tk kd_103 (by decide)) dX4_init_6 rfl ?_
  refine wg_aload_n (pc' := 10) (i := 0) (by rfl) (by rfl) dX4_init_9 rfl ?_
  refine wg_sipush (pc' := 13) (by decide) (by decide) dX4_init_10 rfl ?_
  refine wg_putI (pc' := 16) fp_X4_15 (tk kd_103 (by decide)) dX4_init_13 rfl ?_
  refine wg_aload_n (pc' := 17) (i := 0) (by rfl) (by rfl) dX4_init_16 rfl ?_
  refine wg_sipush (pc' := 20) (by decide) (by decide) dX4_init_17 rfl ?_
  refine wg_putI (pc' := 23) fp_X4_18 (tk kd_103 (by decide)) dX4_init_20 rfl ?_
  refine wg_aload_n (pc' := 24) (i := 0) (by rfl) (by rfl) dX4_init_23 rfl ?_
  refine wg_bipush (pc' := 26) (by decide) (by decide) dX4_init_24 rfl ?_
  refine wg_putI (pc' := 29) fp_X4_21 (tk kd_103 (by decide)) dX4_init_26 rfl ?_
  refine wg_aload_n (pc' := 30) (i := 0) (by rfl) (by rfl) dX4_init_29 rfl ?_
  refine wg_bipush (pc' := 32) (by decide) (by decide) dX4_init_30 rfl ?_
  refine t_newarray (mc := 5) (ms := 380) (N := 8) (tc := 0) (ty := .int) (pc' := 34) (n' := 105) kd_104 (by decide) (by decide) ac_I dX4_init_32 rfl rfl ⟨rfl, rfl⟩ ?_
  refine wg_putR (pc' := 37) fp_X4_24 (fun _ => rfl) rfl (tk kd_103 (by decide)) dX4_init_34 rfl ?_
  refine wg_aload_n (pc' := 38) (i := 0) (by rfl) (by rfl) dX4_init_37 rfl ?_
  refine wg_bipush (pc' := 40) (by decide) (by decide) dX4_init_38 rfl ?_
  refine t_newarray (mc := 4) (ms := 370) (N := 10) (tc := 0) (ty := .int) (pc' := 42) (n' := 106) kd_105 (by decide) (by decide) ac_I dX4_init_40 rfl rfl ⟨rfl, rfl⟩ ?_
  refine wg_putR (pc' := 45) fp_X4_28 (fun _ => rfl) rfl (tk kd_103 (by decide)) dX4_init_42 rfl ?_
  refine wg_aload_n (pc' := 46) (i := 0) (by rfl) (by rfl) dX4_init_45 rfl ?_
  refine wg_bipush (pc' := 48) (by decide) (by decide) dX4_init_46 rfl ?_
  refine t_newarray (mc := 3) (ms := 360) (N := 10) (tc := 0) (ty := .int) (pc' := 50) (n' := 107) kd_106 (by decide) (by decide) ac_I dX4_init_48 rfl rfl ⟨rfl, rfl⟩ ?_
  refine wg_putR (pc' := 53) fp_X4_31 (fun _ => rfl) rfl (tk kd_103 (by decide)) dX4_init_50 rfl ?_
  refine wg_aload_n (pc' := 54) (i := 0) (by rfl) (by rfl) dX4_init_53 rfl ?_
  refine wg_bipush (pc' := 56) (by decide) (by decide) dX4_init_54 rfl ?_
  refine t_newarray (mc := 2) (ms := 240) (N := 120) (tc := 0) (ty := .int) (pc' := 58) (n' := 108) kd_107 (by decide) (by decide) ac_I dX4_init_56 rfl rfl ⟨rfl, rfl⟩ ?_
  refine wg_putR (pc' := 61) fp_X4_34 (fun _ => rfl) rfl (tk kd_103 (by decide)) dX4_init_58 rfl ?_
  refine wg_aload_n (pc' := 62) (i := 0) (by rfl) (by rfl) dX4_init_61 rfl ?_
  refine wg_bipush (pc' := 64) (by decide) (by decide) dX4_init_62 rfl ?_
  refine t_newarray (mc := 1) (ms := 120) (N := 120) (tc := 0) (ty := .int) (pc' := 66) (n' := 109) kd_108 (by decide) (by decide) ac_I dX4_init_64 rfl rfl ⟨rfl, rfl⟩ ?_
  refine wg_putR (pc' := 69) fp_X4_37 (fun _ => rfl) rfl (tk kd_103 (by decide)) dX4_init_66 rfl ?_
  refine wg_aload_n (pc' := 70) (i := 0) (by rfl) (by rfl) dX4_init_69 rfl ?_
  refine wg_bipush (pc' := 72) (by decide) (by decide) dX4_init_70 rfl ?_
  refine t_newarray (mc := 0) (ms := 0) (N := 120) (tc := 0) (ty := .int) (pc' := 74) (n' := 110) kd_109 (by decide) (by decide) ac_I dX4_init_72 rfl rfl ⟨rfl, rfl⟩ ?_
  refine wg_putR (pc' := 77) fp_X4_40 (fun _ => rfl) rfl (tk kd_103 (by decide)) dX4_init_74 rfl ?_
  exact wg_return rfl dX4_init_77 ⟨rfl, rfl, rfl⟩
def hc_57 (σ : gH) : gH := gUp (hc_103 (gUr (gUp (hc_96 (gUr (gUp (hc_89 (gUr (gUp (hc_82 (gUr (gUp (hc_75 (gUr (gUp (hc_68 (gUr (gUp (gUr (gUp (gUp (hc_66 (gUr (gUp (hc_59 (gUr (gUp (gUr (σ) 58 (fun _ => -1)) 57 0 58) 59 (gDf 4))) 57 1 59) 66 (gDf 10))) 57 4 66) 57 5 59) 67 (fun _ => 0)) 57 16 67) 68 (gDf 4))) 58 0 68) 75 (gDf 4))) 58 1 75) 82 (gDf 4))) 58 2 82) 89 (gDf 4))) 58 3 89) 96 (gDf 4))) 58 4 96) 103 (gDf 4))) 58 5 103
set_option maxRecDepth 100000 in
theorem kc_57 (σ : gH) : gMt mX5_init 2 52 2905 [gR 57] (gL.take 58) σ (tQ 110 (hc_57 σ)) := by
  refine gMt.walkT (ls := [gR 57, gX 1]) pn_X5 rfl (Nat.le_of_ble_eq_true rfl) rfl ?_
  refine wg_aload_n (pc' := 1) (i := 0) (by rfl) (by rfl) dX5_init_0 rfl ?_
  refine wg_objInit (pc' := 4) lo_X5_3 oi_in oi_code (by decide) dX5_init_1 rfl ?_
  refine wg_aload_n (pc' := 5) (i := 0) (by rfl) (by rfl) dX5_init_4 rfl ?_
  refine wg_bipush (pc' := 7) (by decide) (by decide) dX5_init_5 rfl ?_
  refine t_anewarray (mc := 51) (ms := 2899) (N := 6) (pc' := 10) (n' := 59) kd_58 (by decide) cn_X5_11 dX5_init_7 rfl rfl ⟨rfl, rfl⟩ ?_
  refine wg_putR (pc' := 13) fp_X5_13 (fun _ => rfl) rfl (tk kd_57 (by decide)) dX5_init_10 rfl ?_
  refine wg_aload_n (pc' := 14) (i := 0) (by rfl) (by rfl) dX5_init_13 rfl ?_
  refine t_new (mc := 50) (ms := 2883) (ci := 4) (C1 := RX4) (N1 := 16) (pc' := 17) (n' := 60) kd_59 nw_X4 nc_X4 nf_X4 cn_X5_11 dX5_init_14 rfl rfl ⟨rfl, rfl⟩ ?_
  refine wg_dup (pc' := 18) dX5_init_17 rfl ?_
  refine t_callIN (mc := 44) (ms := 2495) (pc' := 21) (d' := 1) (mc' := 6) (ms' := 388) (n' := 66) (av := []) ms_mX4_init rfl in_mX4_init rfl ln_X5_17 rfl rfl (Nat.le_of_ble_eq_true rfl) (by decide) dX5_init_18 rfl ⟨rfl, rfl⟩ (kc_59 _) ?_
  refine wg_putR (pc' := 24) fp_X5_18 (fun _ => rfl) rfl (tk kd_57 (by decide)) dX5_init_21 rfl ?_
  refine wg_aload_n (pc' := 25) (i := 0) (by rfl) (by rfl) dX5_init_24 rfl ?_
  refine t_new (mc := 43) (ms := 2488) (ci := 10) (C1 := RX10) (N1 := 7) (pc' := 28) (n' := 67) kd_66 nw_X10 nc_X10 nf_X10 cn_X5_22 dX5_init_25 rfl rfl ⟨rfl, rfl⟩ ?_
  refine wg_dup (pc' := 29) dX5_init_28 rfl ?_
  refine t_callIN (mc := 43) (ms := 2488) (pc' := 32) (d' := 1) (mc' := 0) (ms' := 0) (n' := 67) (av := []) ms_mX10_init rfl in_mX10_init rfl ln_X5_24 rfl rfl (Nat.le_of_ble_eq_true rfl) (by decide) dX5_init_29 rfl ⟨rfl, rfl⟩ (kc_66 _) ?_
  refine wg_putR (pc' := 35) fp_X5_25 (fun _ => rfl) rfl (tk kd_57 (by decide)) dX5_init_32 rfl ?_
  refine wg_aload_n (pc' := 36) (i := 0) (by rfl) (by rfl) dX5_init_35 rfl ?_
  refine wg_aload_n (pc' := 37) (i := 0) (by rfl) (by rfl) dX5_init_36 rfl ?_
  refine wg_getR (pc' := 40) (q := 59) fg_X5_18 (tk kd_57 (by decide)) (by rfl) dX5_init_37 rfl ?_
  refine wg_putR (pc' := 43) fp_X5_29 (fun _ => rfl) rfl (tk kd_57 (by decide)) dX5_init_40 rfl ?_
  refine wg_aload_n (pc' := 44) (i := 0) (by rfl) (by rfl) dX5_init_43 rfl ?_
  refine wg_bipush (pc' := 46) (by decide) (by decide) dX5_init_44 rfl ?_
  refine t_newarray (mc := 42) (ms := 2424) (N := 64) (tc := 0) (ty := .int) (pc' := 48) (n' := 68) kd_67 (by decide) (by decide) ac_I dX5_init_46 rfl rfl ⟨rfl, rfl⟩ ?_
  refine wg_putR (pc' := 51) fp_X5_32 (fun _ => rfl) rfl (tk kd_57 (by decide)) dX5_init_48 rfl ?_
  refine wg_iconst (pc' := 52) (by decide) dX5_init_51 rfl ?_
  refine wg_istore_n (pc' := 53) (i := 1) (ls' := [gR 57, gI 0]) (by rfl) (by decide) (by rfl) dX5_init_52 rfl ?_
  refine wg_iload_n (pc' := 54) (i := 1) (by rfl) (by rfl) dX5_init_53 rfl ?_
  refine wg_bipush (pc' := 56) (by decide) (by decide) dX5_init_54 rfl ?_
  refine wg_icmp_ge (pc' := 59) (t := 78) dX5_init_56 rfl rfl (fun c => absurd c (by decide)) (fun _ => ?_)
  refine wg_aload_n (pc' := 60) (i := 0) (by rfl) (by rfl) dX5_init_59 rfl ?_
  refine wg_getR (pc' := 63) (q := 58) fg_X5_13 (tk kd_57 (by decide)) (by rfl) dX5_init_60 rfl ?_
  refine wg_iload_n (pc' := 64) (i := 1) (by rfl) (by rfl) dX5_init_63 rfl ?_
  refine t_new (mc := 41) (ms := 2408) (ci := 4) (C1 := RX4) (N1 := 16) (pc' := 67) (n' := 69) kd_68 nw_X4 nc_X4 nf_X4 cn_X5_11 dX5_init_64 rfl rfl ⟨rfl, rfl⟩ ?_
  refine wg_dup (pc' := 68) dX5_init_67 rfl ?_
  refine t_callIN (mc := 35) (ms := 2020) (pc' := 71) (d' := 1) (mc' := 6) (ms' := 388) (n' := 75) (av := []) ms_mX4_init rfl in_mX4_init rfl ln_X5_17 rfl rfl (Nat.le_of_ble_eq_true rfl) (by decide) dX5_init_68 rfl ⟨rfl, rfl⟩ (kc_68 _) ?_
  refine wg_aast (pc' := 72) (tk kd_58 (by decide)) (tk kd_68 (by decide)) (by decide) (by decide) dX5_init_71 rfl ?_
  refine t_iinc (x := 0) (pc' := 75) (ls' := [gR 57, gI 1]) (by decide) (by decide) (by rfl) (by rfl) dX5_init_72 rfl ?_
  refine wg_goto (pc' := 53) dX5_init_75 rfl ?_
  refine wg_iload_n (pc' := 54) (i := 1) (by rfl) (by rfl) dX5_init_53 rfl ?_
  refine wg_bipush (pc' := 56) (by decide) (by decide) dX5_init_54 rfl ?_
  refine wg_icmp_ge (pc' := 59) (t := 78) dX5_init_56 rfl rfl (fun c => absurd c (by decide)) (fun _ => ?_)
  refine wg_aload_n (pc' := 60) (i := 0) (by rfl) (by rfl) dX5_init_59 rfl ?_
  refine wg_getR (pc' := 63) (q := 58) fg_X5_13 (tk kd_57 (by decide)) (by rfl) dX5_init_60 rfl ?_
  refine wg_iload_n (pc' := 64) (i := 1) (by rfl) (by rfl) dX5_init_63 rfl ?_
  refine t_new (mc := 34) (ms := 2004) (ci := 4) (C1 := RX4) (N1 := 16) (pc' := 67) (n' := 76) kd_75 nw_X4 nc_X4 nf_X4 cn_X5_11 dX5_init_64 rfl rfl ⟨rfl, rfl⟩ ?_
  refine wg_dup (pc' := 68) dX5_init_67 rfl ?_
  refine t_callIN (mc := 28) (ms := 1616) (pc' := 71) (d' := 1) (mc' := 6) (ms' := 388) (n' := 82) (av := []) ms_mX4_init rfl in_mX4_init rfl ln_X5_17 rfl rfl (Nat.le_of_ble_eq_true rfl) (by decide) dX5_init_68 rfl ⟨rfl, rfl⟩ (kc_75 _) ?_
  refine wg_aast (pc' := 72) (tk kd_58 (by decide)) (tk kd_75 (by decide)) (by decide) (by decide) dX5_init_71 rfl ?_
  refine t_iinc (x := 1) (pc' := 75) (ls' := [gR 57, gI 2]) (by decide) (by decide) (by rfl) (by rfl) dX5_init_72 rfl ?_
  refine wg_goto (pc' := 53) dX5_init_75 rfl ?_
  refine wg_iload_n (pc' := 54) (i := 1) (by rfl) (by rfl) dX5_init_53 rfl ?_
  refine wg_bipush (pc' := 56) (by decide) (by decide) dX5_init_54 rfl ?_
  refine wg_icmp_ge (pc' := 59) (t := 78) dX5_init_56 rfl rfl (fun c => absurd c (by decide)) (fun _ => ?_)
  refine wg_aload_n (pc' := 60) (i := 0) (by rfl) (by rfl) dX5_init_59 rfl ?_
  refine wg_getR (pc' := 63) (q := 58) fg_X5_13 (tk kd_57 (by decide)) (by rfl) dX5_init_60 rfl ?_
  refine wg_iload_n (pc' := 64) (i := 1) (by rfl) (by rfl) dX5_init_63 rfl ?_
  refine t_new (mc := 27) (ms := 1600) (ci := 4) (C1 := RX4) (N1 := 16) (pc' := 67) (n' := 83) kd_82 nw_X4 nc_X4 nf_X4 cn_X5_11 dX5_init_64 rfl rfl ⟨rfl, rfl⟩ ?_
  refine wg_dup (pc' := 68) dX5_init_67 rfl ?_
  refine t_callIN (mc := 21) (ms := 1212) (pc' := 71) (d' := 1) (mc' := 6) (ms' := 388) (n' := 89) (av := []) ms_mX4_init rfl in_mX4_init rfl ln_X5_17 rfl rfl (Nat.le_of_ble_eq_true rfl) (by decide) dX5_init_68 rfl ⟨rfl, rfl⟩ (kc_82 _) ?_
  refine wg_aast (pc' := 72) (tk kd_58 (by decide)) (tk kd_82 (by decide)) (by decide) (by decide) dX5_init_71 rfl ?_
  refine t_iinc (x := 2) (pc' := 75) (ls' := [gR 57, gI 3]) (by decide) (by decide) (by rfl) (by rfl) dX5_init_72 rfl ?_
  refine wg_goto (pc' := 53) dX5_init_75 rfl ?_
  refine wg_iload_n (pc' := 54) (i := 1) (by rfl) (by rfl) dX5_init_53 rfl ?_
  refine wg_bipush (pc' := 56) (by decide) (by decide) dX5_init_54 rfl ?_
  refine wg_icmp_ge (pc' := 59) (t := 78) dX5_init_56 rfl rfl (fun c => absurd c (by decide)) (fun _ => ?_)
  refine wg_aload_n (pc' := 60) (i := 0) (by rfl) (by rfl) dX5_init_59 rfl ?_
  refine wg_getR (pc' := 63) (q := 58) fg_X5_13 (tk kd_57 (by decide)) (by rfl) dX5_init_60 rfl ?_
  refine wg_iload_n (pc' := 64) (i := 1) (by rfl) (by rfl) dX5_init_63 rfl ?_
  refine t_new (mc := 20) (ms := 1196) (ci := 4) (C1 := RX4) (N1 := 16) (pc' := 67) (n' := 90) kd_89 nw_X4 nc_X4 nf_X4 cn_X5_11 dX5_init_64 rfl rfl ⟨rfl, rfl⟩ ?_
  refine wg_dup (pc' := 68) dX5_init_67 rfl ?_
  refine t_callIN (mc := 14) (ms := 808) (pc' := 71) (d' := 1) (mc' := 6) (ms' := 388) (n' := 96) (av := []) ms_mX4_init rfl in_mX4_init rfl ln_X5_17 rfl rfl (Nat.le_of_ble_eq_true rfl) (by decide) dX5_init_68 rfl ⟨rfl, rfl⟩ (kc_89 _) ?_
  refine wg_aast (pc' := 72) (tk kd_58 (by decide)) (tk kd_89 (by decide)) (by decide) (by decide) dX5_init_71 rfl ?_
  refine t_iinc (x := 3) (pc' := 75) (ls' := [gR 57, gI 4]) (by decide) (by decide) (by rfl) (by rfl) dX5_init_72 rfl ?_
  refine wg_goto (pc' := 53) dX5_init_75 rfl ?_
  refine wg_iload_n (pc' := 54) (i := 1) (by rfl) (by rfl) dX5_init_53 rfl ?_
  refine wg_bipush (pc' := 56) (by decide) (by decide) dX5_init_54 rfl ?_
  refine wg_icmp_ge (pc' := 59) (t := 78) dX5_init_56 rfl rfl (fun c => absurd c (by decide)) (fun _ => ?_)
  refine wg_aload_n (pc' := 60) (i := 0) (by rfl) (by rfl) dX5_init_59 rfl ?_
  refine wg_getR (pc' := 63) (q := 58) fg_X5_13 (tk kd_57 (by decide)) (by rfl) dX5_init_60 rfl ?_
  refine wg_iload_n (pc' := 64) (i := 1) (by rfl) (by rfl) dX5_init_63 rfl ?_
  refine t_new (mc := 13) (ms := 792) (ci := 4) (C1 := RX4) (N1 := 16) (pc' := 67) (n' := 97) kd_96 nw_X4 nc_X4 nf_X4 cn_X5_11 dX5_init_64 rfl rfl ⟨rfl, rfl⟩ ?_
  refine wg_dup (pc' := 68) dX5_init_67 rfl ?_
  refine t_callIN (mc := 7) (ms := 404) (pc' := 71) (d' := 1) (mc' := 6) (ms' := 388) (n' := 103) (av := []) ms_mX4_init rfl in_mX4_init rfl ln_X5_17 rfl rfl (Nat.le_of_ble_eq_true rfl) (by decide) dX5_init_68 rfl ⟨rfl, rfl⟩ (kc_96 _) ?_
  refine wg_aast (pc' := 72) (tk kd_58 (by decide)) (tk kd_96 (by decide)) (by decide) (by decide) dX5_init_71 rfl ?_
  refine t_iinc (x := 4) (pc' := 75) (ls' := [gR 57, gI 5]) (by decide) (by decide) (by rfl) (by rfl) dX5_init_72 rfl ?_
  refine wg_goto (pc' := 53) dX5_init_75 rfl ?_
  refine wg_iload_n (pc' := 54) (i := 1) (by rfl) (by rfl) dX5_init_53 rfl ?_
  refine wg_bipush (pc' := 56) (by decide) (by decide) dX5_init_54 rfl ?_
  refine wg_icmp_ge (pc' := 59) (t := 78) dX5_init_56 rfl rfl (fun c => absurd c (by decide)) (fun _ => ?_)
  refine wg_aload_n (pc' := 60) (i := 0) (by rfl) (by rfl) dX5_init_59 rfl ?_
  refine wg_getR (pc' := 63) (q := 58) fg_X5_13 (tk kd_57 (by decide)) (by rfl) dX5_init_60 rfl ?_
  refine wg_iload_n (pc' := 64) (i := 1) (by rfl) (by rfl) dX5_init_63 rfl ?_
  refine t_new (mc := 6) (ms := 388) (ci := 4) (C1 := RX4) (N1 := 16) (pc' := 67) (n' := 104) kd_103 nw_X4 nc_X4 nf_X4 cn_X5_11 dX5_init_64 rfl rfl ⟨rfl, rfl⟩ ?_
  refine wg_dup (pc' := 68) dX5_init_67 rfl ?_
  refine t_callIN (mc := 0) (ms := 0) (pc' := 71) (d' := 1) (mc' := 6) (ms' := 388) (n' := 110) (av := []) ms_mX4_init rfl in_mX4_init rfl ln_X5_17 rfl rfl (Nat.le_of_ble_eq_true rfl) (by decide) dX5_init_68 rfl ⟨rfl, rfl⟩ (kc_103 _) ?_
  refine wg_aast (pc' := 72) (tk kd_58 (by decide)) (tk kd_103 (by decide)) (by decide) (by decide) dX5_init_71 rfl ?_
  refine t_iinc (x := 5) (pc' := 75) (ls' := [gR 57, gI 6]) (by decide) (by decide) (by rfl) (by rfl) dX5_init_72 rfl ?_
  refine wg_goto (pc' := 53) dX5_init_75 rfl ?_
  refine wg_iload_n (pc' := 54) (i := 1) (by rfl) (by rfl) dX5_init_53 rfl ?_
  refine wg_bipush (pc' := 56) (by decide) (by decide) dX5_init_54 rfl ?_
  refine wg_icmp_ge (pc' := 59) (t := 78) dX5_init_56 rfl rfl (fun _ => ?_) (fun c => absurd (by decide) c)
  exact wg_return rfl dX5_init_78 ⟨rfl, rfl, rfl⟩
def hc_110 (σ : gH) : gH := gUp (gUp (gUp (gUp (gUp (gUp (gUp (gUr (σ) 111 (fun _ => 0)) 110 6 111) 110 0 3) 110 1 14) 110 2 30) 110 3 34) 110 4 41) 110 5 57
set_option maxRecDepth 100000 in
theorem kc_110 (σ : gH) : gMt mX3_init 1 1 14 [gR 110, gR 3, gR 14, gR 30, gR 34, gR 41, gR 57] (gL.take 111) σ (tQ 112 (hc_110 σ)) := by
  refine gMt.walkT (ls := [gR 110, gR 3, gR 14, gR 30, gR 34, gR 41, gR 57]) pn_X3 rfl (Nat.le_of_ble_eq_true rfl) rfl ?_
  refine wg_aload_n (pc' := 1) (i := 0) (by rfl) (by rfl) dX3_init_0 rfl ?_
  refine wg_objInit (pc' := 4) lo_X3_3 oi_in oi_code (by decide) dX3_init_1 rfl ?_
  refine wg_aload_n (pc' := 5) (i := 0) (by rfl) (by rfl) dX3_init_4 rfl ?_
  refine wg_bipush (pc' := 7) (by decide) (by decide) dX3_init_5 rfl ?_
  refine t_newarray (mc := 0) (ms := 0) (N := 14) (tc := 0) (ty := .int) (pc' := 9) (n' := 112) kd_111 (by decide) (by decide) ac_I dX3_init_7 rfl rfl ⟨rfl, rfl⟩ ?_
  refine wg_putR (pc' := 12) fp_X3_9 (fun _ => rfl) rfl (tk kd_110 (by decide)) dX3_init_9 rfl ?_
  refine wg_aload_n (pc' := 13) (i := 0) (by rfl) (by rfl) dX3_init_12 rfl ?_
  refine wg_aload_n (pc' := 14) (i := 1) (by rfl) (by rfl) dX3_init_13 rfl ?_
  refine wg_putR (pc' := 17) fp_X3_15 (fun _ => rfl) rfl (tk kd_110 (by decide)) dX3_init_14 rfl ?_
  refine wg_aload_n (pc' := 18) (i := 0) (by rfl) (by rfl) dX3_init_17 rfl ?_
  refine wg_aload_n (pc' := 19) (i := 2) (by rfl) (by rfl) dX3_init_18 rfl ?_
  refine wg_putR (pc' := 22) fp_X3_19 (fun _ => rfl) rfl (tk kd_110 (by decide)) dX3_init_19 rfl ?_
  refine wg_aload_n (pc' := 23) (i := 0) (by rfl) (by rfl) dX3_init_22 rfl ?_
  refine wg_aload_n (pc' := 24) (i := 3) (by rfl) (by rfl) dX3_init_23 rfl ?_
  refine wg_putR (pc' := 27) fp_X3_23 (fun _ => rfl) rfl (tk kd_110 (by decide)) dX3_init_24 rfl ?_
  refine wg_aload_n (pc' := 28) (i := 0) (by rfl) (by rfl) dX3_init_27 rfl ?_
  refine wg_aload (pc' := 30) (by rfl) dX3_init_28 rfl ?_
  refine wg_putR (pc' := 33) fp_X3_27 (fun _ => rfl) rfl (tk kd_110 (by decide)) dX3_init_30 rfl ?_
  refine wg_aload_n (pc' := 34) (i := 0) (by rfl) (by rfl) dX3_init_33 rfl ?_
  refine wg_aload (pc' := 36) (by rfl) dX3_init_34 rfl ?_
  refine wg_putR (pc' := 39) fp_X3_31 (fun _ => rfl) rfl (tk kd_110 (by decide)) dX3_init_36 rfl ?_
  refine wg_aload_n (pc' := 40) (i := 0) (by rfl) (by rfl) dX3_init_39 rfl ?_
  refine wg_aload (pc' := 42) (by rfl) dX3_init_40 rfl ?_
  refine wg_putR (pc' := 45) fp_X3_35 (fun _ => rfl) rfl (tk kd_110 (by decide)) dX3_init_42 rfl ?_
  exact wg_return rfl dX3_init_45 ⟨rfl, rfl, rfl⟩
def hc_112 (σ : gH) : gH := gUp (gUp (gUp (gUp (gUr (gUp (gUr (gUp (gUr (gUp (gUr (gUp (gUr (gUp (gUr (gUp (gUr (gUp (gUr (gUp (gUr (gUp (gUr (gUp (gUr (gUp (gUr (σ) 113 (fun _ => 0)) 112 3 113) 114 (fun _ => 0)) 112 4 114) 115 (fun _ => 0)) 112 5 115) 116 (fun _ => 0)) 112 6 116) 117 (fun _ => 0)) 112 7 117) 118 (fun _ => 0)) 112 9 118) 119 (fun _ => 0)) 112 10 119) 120 (fun _ => 0)) 112 11 120) 121 (fun _ => 0)) 112 12 121) 122 (fun _ => 0)) 112 13 122) 123 (fun _ => 0)) 112 14 123) 124 (fun _ => 0)) 112 15 124) 112 0 3) 112 1 14) 112 2 41
set_option maxRecDepth 100000 in
theorem kc_112 (σ : gH) : gMt mX6_init 1 12 1144 [gR 112, gR 3, gR 14, gR 41] (gL.take 113) σ (tQ 125 (hc_112 σ)) := by
  refine gMt.walkT (ls := [gR 112, gR 3, gR 14, gR 41]) pn_X6 rfl (Nat.le_of_ble_eq_true rfl) rfl ?_
  refine wg_aload_n (pc' := 1) (i := 0) (by rfl) (by rfl) dX6_init_0 rfl ?_
  refine wg_objInit (pc' := 4) lo_X6_3 oi_in oi_code (by decide) dX6_init_1 rfl ?_
  refine wg_aload_n (pc' := 5) (i := 0) (by rfl) (by rfl) dX6_init_4 rfl ?_
  refine wg_bipush (pc' := 7) (by decide) (by decide) dX6_init_5 rfl ?_
  refine t_newarray (mc := 11) (ms := 1044) (N := 100) (tc := 0) (ty := .int) (pc' := 9) (n' := 114) kd_113 (by decide) (by decide) ac_I dX6_init_7 rfl rfl ⟨rfl, rfl⟩ ?_
  refine wg_putR (pc' := 12) fp_X6_11 (fun _ => rfl) rfl (tk kd_112 (by decide)) dX6_init_9 rfl ?_
  refine wg_aload_n (pc' := 13) (i := 0) (by rfl) (by rfl) dX6_init_12 rfl ?_
  refine wg_bipush (pc' := 15) (by decide) (by decide) dX6_init_13 rfl ?_
  refine t_newarray (mc := 10) (ms := 944) (N := 100) (tc := 1) (ty := .long) (pc' := 17) (n' := 115) kd_114 (by decide) (by decide) ac_J dX6_init_15 rfl rfl ⟨rfl, rfl⟩ ?_
  refine wg_putR (pc' := 20) fp_X6_15 (fun _ => rfl) rfl (tk kd_112 (by decide)) dX6_init_17 rfl ?_
  refine wg_aload_n (pc' := 21) (i := 0) (by rfl) (by rfl) dX6_init_20 rfl ?_
  refine wg_bipush (pc' := 23) (by decide) (by decide) dX6_init_21 rfl ?_
  refine t_newarray (mc := 9) (ms := 844) (N := 100) (tc := 0) (ty := .int) (pc' := 25) (n' := 116) kd_115 (by decide) (by decide) ac_I dX6_init_23 rfl rfl ⟨rfl, rfl⟩ ?_
  refine wg_putR (pc' := 28) fp_X6_19 (fun _ => rfl) rfl (tk kd_112 (by decide)) dX6_init_25 rfl ?_
  refine wg_aload_n (pc' := 29) (i := 0) (by rfl) (by rfl) dX6_init_28 rfl ?_
  refine wg_bipush (pc' := 31) (by decide) (by decide) dX6_init_29 rfl ?_
  refine t_newarray (mc := 8) (ms := 744) (N := 100) (tc := 0) (ty := .int) (pc' := 33) (n' := 117) kd_116 (by decide) (by decide) ac_I dX6_init_31 rfl rfl ⟨rfl, rfl⟩ ?_
  refine wg_putR (pc' := 36) fp_X6_22 (fun _ => rfl) rfl (tk kd_112 (by decide)) dX6_init_33 rfl ?_
  refine wg_aload_n (pc' := 37) (i := 0) (by rfl) (by rfl) dX6_init_36 rfl ?_
  refine wg_bipush (pc' := 39) (by decide) (by decide) dX6_init_37 rfl ?_
  refine t_newarray (mc := 7) (ms := 644) (N := 100) (tc := 0) (ty := .int) (pc' := 41) (n' := 118) kd_117 (by decide) (by decide) ac_I dX6_init_39 rfl rfl ⟨rfl, rfl⟩ ?_
  refine wg_putR (pc' := 44) fp_X6_25 (fun _ => rfl) rfl (tk kd_112 (by decide)) dX6_init_41 rfl ?_
  refine wg_aload_n (pc' := 45) (i := 0) (by rfl) (by rfl) dX6_init_44 rfl ?_
  refine wg_sipush (pc' := 48) (by decide) (by decide) dX6_init_45 rfl ?_
  refine t_newarray (mc := 6) (ms := 444) (N := 200) (tc := 1) (ty := .long) (pc' := 50) (n' := 119) kd_118 (by decide) (by decide) ac_J dX6_init_48 rfl rfl ⟨rfl, rfl⟩ ?_
  refine wg_putR (pc' := 53) fp_X6_28 (fun _ => rfl) rfl (tk kd_112 (by decide)) dX6_init_50 rfl ?_
  refine wg_aload_n (pc' := 54) (i := 0) (by rfl) (by rfl) dX6_init_53 rfl ?_
  refine wg_iconst (pc' := 55) (by decide) dX6_init_54 rfl ?_
  refine t_newarray (mc := 5) (ms := 442) (N := 2) (tc := 1) (ty := .long) (pc' := 57) (n' := 120) kd_119 (by decide) (by decide) ac_J dX6_init_55 rfl rfl ⟨rfl, rfl⟩ ?_
  refine wg_putR (pc' := 60) fp_X6_31 (fun _ => rfl) rfl (tk kd_112 (by decide)) dX6_init_57 rfl ?_
  refine wg_aload_n (pc' := 61) (i := 0) (by rfl) (by rfl) dX6_init_60 rfl ?_
  refine wg_iconst (pc' := 62) (by decide) dX6_init_61 rfl ?_
  refine t_newarray (mc := 4) (ms := 440) (N := 2) (tc := 1) (ty := .long) (pc' := 64) (n' := 121) kd_120 (by decide) (by decide) ac_J dX6_init_62 rfl rfl ⟨rfl, rfl⟩ ?_
  refine wg_putR (pc' := 67) fp_X6_34 (fun _ => rfl) rfl (tk kd_112 (by decide)) dX6_init_64 rfl ?_
  refine wg_aload_n (pc' := 68) (i := 0) (by rfl) (by rfl) dX6_init_67 rfl ?_
  refine wg_bipush (pc' := 70) (by decide) (by decide) dX6_init_68 rfl ?_
  refine t_newarray (mc := 3) (ms := 340) (N := 100) (tc := 0) (ty := .int) (pc' := 72) (n' := 122) kd_121 (by decide) (by decide) ac_I dX6_init_70 rfl rfl ⟨rfl, rfl⟩ ?_
  refine wg_putR (pc' := 75) fp_X6_37 (fun _ => rfl) rfl (tk kd_112 (by decide)) dX6_init_72 rfl ?_
  refine wg_aload_n (pc' := 76) (i := 0) (by rfl) (by rfl) dX6_init_75 rfl ?_
  refine wg_bipush (pc' := 78) (by decide) (by decide) dX6_init_76 rfl ?_
  refine t_newarray (mc := 2) (ms := 220) (N := 120) (tc := 0) (ty := .int) (pc' := 80) (n' := 123) kd_122 (by decide) (by decide) ac_I dX6_init_78 rfl rfl ⟨rfl, rfl⟩ ?_
  refine wg_putR (pc' := 83) fp_X6_40 (fun _ => rfl) rfl (tk kd_112 (by decide)) dX6_init_80 rfl ?_
  refine wg_aload_n (pc' := 84) (i := 0) (by rfl) (by rfl) dX6_init_83 rfl ?_
  refine wg_bipush (pc' := 86) (by decide) (by decide) dX6_init_84 rfl ?_
  refine t_newarray (mc := 1) (ms := 100) (N := 120) (tc := 0) (ty := .int) (pc' := 88) (n' := 124) kd_123 (by decide) (by decide) ac_I dX6_init_86 rfl rfl ⟨rfl, rfl⟩ ?_
  refine wg_putR (pc' := 91) fp_X6_43 (fun _ => rfl) rfl (tk kd_112 (by decide)) dX6_init_88 rfl ?_
  refine wg_aload_n (pc' := 92) (i := 0) (by rfl) (by rfl) dX6_init_91 rfl ?_
  refine wg_bipush (pc' := 94) (by decide) (by decide) dX6_init_92 rfl ?_
  refine t_newarray (mc := 0) (ms := 0) (N := 100) (tc := 0) (ty := .int) (pc' := 96) (n' := 125) kd_124 (by decide) (by decide) ac_I dX6_init_94 rfl rfl ⟨rfl, rfl⟩ ?_
  refine wg_putR (pc' := 99) fp_X6_46 (fun _ => rfl) rfl (tk kd_112 (by decide)) dX6_init_96 rfl ?_
  refine wg_aload_n (pc' := 100) (i := 0) (by rfl) (by rfl) dX6_init_99 rfl ?_
  refine wg_aload_n (pc' := 101) (i := 1) (by rfl) (by rfl) dX6_init_100 rfl ?_
  refine wg_putR (pc' := 104) fp_X6_49 (fun _ => rfl) rfl (tk kd_112 (by decide)) dX6_init_101 rfl ?_
  refine wg_aload_n (pc' := 105) (i := 0) (by rfl) (by rfl) dX6_init_104 rfl ?_
  refine wg_aload_n (pc' := 106) (i := 2) (by rfl) (by rfl) dX6_init_105 rfl ?_
  refine wg_putR (pc' := 109) fp_X6_53 (fun _ => rfl) rfl (tk kd_112 (by decide)) dX6_init_106 rfl ?_
  refine wg_aload_n (pc' := 110) (i := 0) (by rfl) (by rfl) dX6_init_109 rfl ?_
  refine wg_aload_n (pc' := 111) (i := 3) (by rfl) (by rfl) dX6_init_110 rfl ?_
  refine wg_putR (pc' := 114) fp_X6_57 (fun _ => rfl) rfl (tk kd_112 (by decide)) dX6_init_111 rfl ?_
  exact wg_return rfl dX6_init_114 ⟨rfl, rfl, rfl⟩
def hc_125 (σ : gH) : gH := gUp (gUp (gUr (gUp (gUr (gUp (gUr (gUp (gUr (gUp (gUr (gUp (gUr (gUp (gUr (σ) 126 (fun _ => 0)) 125 1 126) 127 (fun _ => 0)) 125 3 127) 128 (fun _ => 0)) 125 4 128) 129 (fun _ => 0)) 125 6 129) 130 (fun _ => 0)) 125 7 130) 131 (fun _ => 0)) 125 8 131) 132 (fun _ => 0)) 125 9 132) 125 0 110
set_option maxRecDepth 100000 in
theorem kc_125 (σ : gH) : gMt mX1_init 1 7 932 [gR 125, gR 110] (gL.take 126) σ (tQ 133 (hc_125 σ)) := by
  refine gMt.walkT (ls := [gR 125, gR 110]) pn_X1 rfl (Nat.le_of_ble_eq_true rfl) rfl ?_
  refine wg_aload_n (pc' := 1) (i := 0) (by rfl) (by rfl) dX1_init_0 rfl ?_
  refine wg_objInit (pc' := 4) lo_X1_3 oi_in oi_code (by decide) dX1_init_1 rfl ?_
  refine wg_aload_n (pc' := 5) (i := 0) (by rfl) (by rfl) dX1_init_4 rfl ?_
  refine wg_bipush (pc' := 7) (by decide) (by decide) dX1_init_5 rfl ?_
  refine t_newarray (mc := 6) (ms := 920) (N := 12) (tc := 0) (ty := .int) (pc' := 9) (n' := 127) kd_126 (by decide) (by decide) ac_I dX1_init_7 rfl rfl ⟨rfl, rfl⟩ ?_
  refine wg_putR (pc' := 12) fp_X1_11 (fun _ => rfl) rfl (tk kd_125 (by decide)) dX1_init_9 rfl ?_
  refine wg_aload_n (pc' := 13) (i := 0) (by rfl) (by rfl) dX1_init_12 rfl ?_
  refine wg_bipush (pc' := 15) (by decide) (by decide) dX1_init_13 rfl ?_
  refine t_newarray (mc := 5) (ms := 860) (N := 60) (tc := 0) (ty := .int) (pc' := 17) (n' := 128) kd_127 (by decide) (by decide) ac_I dX1_init_15 rfl rfl ⟨rfl, rfl⟩ ?_
  refine wg_putR (pc' := 20) fp_X1_15 (fun _ => rfl) rfl (tk kd_125 (by decide)) dX1_init_17 rfl ?_
  refine wg_aload_n (pc' := 21) (i := 0) (by rfl) (by rfl) dX1_init_20 rfl ?_
  refine wg_bipush (pc' := 23) (by decide) (by decide) dX1_init_21 rfl ?_
  refine t_newarray (mc := 4) (ms := 800) (N := 60) (tc := 0) (ty := .int) (pc' := 25) (n' := 129) kd_128 (by decide) (by decide) ac_I dX1_init_23 rfl rfl ⟨rfl, rfl⟩ ?_
  refine wg_putR (pc' := 28) fp_X1_18 (fun _ => rfl) rfl (tk kd_125 (by decide)) dX1_init_25 rfl ?_
  refine wg_aload_n (pc' := 29) (i := 0) (by rfl) (by rfl) dX1_init_28 rfl ?_
  refine wg_sipush (pc' := 32) (by decide) (by decide) dX1_init_29 rfl ?_
  refine t_newarray (mc := 3) (ms := 600) (N := 200) (tc := 0) (ty := .int) (pc' := 34) (n' := 130) kd_129 (by decide) (by decide) ac_I dX1_init_32 rfl rfl ⟨rfl, rfl⟩ ?_
  refine wg_putR (pc' := 37) fp_X1_21 (fun _ => rfl) rfl (tk kd_125 (by decide)) dX1_init_34 rfl ?_
  refine wg_aload_n (pc' := 38) (i := 0) (by rfl) (by rfl) dX1_init_37 rfl ?_
  refine wg_sipush (pc' := 41) (by decide) (by decide) dX1_init_38 rfl ?_
  refine t_newarray (mc := 2) (ms := 400) (N := 200) (tc := 0) (ty := .int) (pc' := 43) (n' := 131) kd_130 (by decide) (by decide) ac_I dX1_init_41 rfl rfl ⟨rfl, rfl⟩ ?_
  refine wg_putR (pc' := 46) fp_X1_24 (fun _ => rfl) rfl (tk kd_125 (by decide)) dX1_init_43 rfl ?_
  refine wg_aload_n (pc' := 47) (i := 0) (by rfl) (by rfl) dX1_init_46 rfl ?_
  refine wg_sipush (pc' := 50) (by decide) (by decide) dX1_init_47 rfl ?_
  refine t_newarray (mc := 1) (ms := 200) (N := 200) (tc := 2) (ty := .boolean) (pc' := 52) (n' := 132) kd_131 (by decide) (by decide) ac_Z dX1_init_50 rfl rfl ⟨rfl, rfl⟩ ?_
  refine wg_putR (pc' := 55) fp_X1_27 (fun _ => rfl) rfl (tk kd_125 (by decide)) dX1_init_52 rfl ?_
  refine wg_aload_n (pc' := 56) (i := 0) (by rfl) (by rfl) dX1_init_55 rfl ?_
  refine wg_sipush (pc' := 59) (by decide) (by decide) dX1_init_56 rfl ?_
  refine t_newarray (mc := 0) (ms := 0) (N := 200) (tc := 0) (ty := .int) (pc' := 61) (n' := 133) kd_132 (by decide) (by decide) ac_I dX1_init_59 rfl rfl ⟨rfl, rfl⟩ ?_
  refine wg_putR (pc' := 64) fp_X1_31 (fun _ => rfl) rfl (tk kd_125 (by decide)) dX1_init_61 rfl ?_
  refine wg_aload_n (pc' := 65) (i := 0) (by rfl) (by rfl) dX1_init_64 rfl ?_
  refine wg_aload_n (pc' := 66) (i := 1) (by rfl) (by rfl) dX1_init_65 rfl ?_
  refine wg_putR (pc' := 69) fp_X1_34 (fun _ => rfl) rfl (tk kd_125 (by decide)) dX1_init_66 rfl ?_
  exact wg_return rfl dX1_init_69 ⟨rfl, rfl, rfl⟩
def hc_0 (σ : gH) : gH := gUp (hc_125 (gUr (gUp (hc_112 (gUr (gUp (hc_110 (gUr (gUp (hc_57 (gUr (gUp (hc_41 (gUr (gUp (hc_34 (gUr (gUp (hc_30 (gUr (gUp (hc_14 (gUr (gUp (hc_3 (gUr (gUp (gUr (gUp (gUr (σ) 1 (fun _ => 0)) 0 0 1) 2 (fun _ => 0)) 0 2 2) 3 (gDf 8))) 0 5 3) 14 (gDf 7))) 0 6 14) 30 (gDf 0))) 0 7 30) 34 (gDf 9))) 0 8 34) 41 (gDf 2))) 0 9 41) 57 (gDf 5))) 0 10 57) 110 (gDf 3))) 0 11 110) 112 (gDf 6))) 0 12 112) 125 (gDf 1))) 0 13 125
set_option maxRecDepth 100000 in
theorem kc_0 (σ : gH) : gMt mX11_init 3 132 11094 [gR 0] (gL.take 1) σ (tQ 133 (hc_0 σ)) := by
  refine gMt.walkT (ls := [gR 0]) pn_X11 rfl (Nat.le_of_ble_eq_true rfl) rfl ?_
  refine wg_aload_n (pc' := 1) (i := 0) (by rfl) (by rfl) dX11_init_0 rfl ?_
  refine wg_objInit (pc' := 4) lo_X11_1 oi_in oi_code (by decide) dX11_init_1 rfl ?_
  refine wg_aload_n (pc' := 5) (i := 0) (by rfl) (by rfl) dX11_init_4 rfl ?_
  refine wg_sipush (pc' := 8) (by decide) (by decide) dX11_init_5 rfl ?_
  refine t_newarray (mc := 131) (ms := 10554) (N := 540) (tc := 0) (ty := .int) (pc' := 10) (n' := 2) kd_1 (by decide) (by decide) ac_I dX11_init_8 rfl rfl ⟨rfl, rfl⟩ ?_
  refine wg_putR (pc' := 13) fp_X11_9 (fun _ => rfl) rfl (tk kd_0 (by decide)) dX11_init_10 rfl ?_
  refine wg_aload_n (pc' := 14) (i := 0) (by rfl) (by rfl) dX11_init_13 rfl ?_
  refine wg_iconst (pc' := 15) (by decide) dX11_init_14 rfl ?_
  refine t_newarray (mc := 130) (ms := 10549) (N := 5) (tc := 0) (ty := .int) (pc' := 17) (n' := 3) kd_2 (by decide) (by decide) ac_I dX11_init_15 rfl rfl ⟨rfl, rfl⟩ ?_
  refine wg_putR (pc' := 20) fp_X11_15 (fun _ => rfl) rfl (tk kd_0 (by decide)) dX11_init_17 rfl ?_
  refine wg_aload_n (pc' := 21) (i := 0) (by rfl) (by rfl) dX11_init_20 rfl ?_
  refine t_new (mc := 129) (ms := 10540) (ci := 8) (C1 := RX8) (N1 := 9) (pc' := 24) (n' := 4) kd_3 nw_X8 nc_X8 nf_X8 cn_X11_18 dX11_init_21 rfl rfl ⟨rfl, rfl⟩ ?_
  refine wg_dup (pc' := 25) dX11_init_24 rfl ?_
  refine t_callIN (mc := 119) (ms := 9753) (pc' := 28) (d' := 2) (mc' := 10) (ms' := 787) (n' := 14) (av := []) ms_mX8_init rfl in_mX8_init rfl ln_X11_20 rfl rfl (Nat.le_of_ble_eq_true rfl) (by decide) dX11_init_25 rfl ⟨rfl, rfl⟩ (kc_3 _) ?_
  refine wg_putR (pc' := 31) fp_X11_21 (fun _ => rfl) rfl (tk kd_0 (by decide)) dX11_init_28 rfl ?_
  refine wg_aload_n (pc' := 32) (i := 0) (by rfl) (by rfl) dX11_init_31 rfl ?_
  refine t_new (mc := 118) (ms := 9740) (ci := 7) (C1 := RX7) (N1 := 13) (pc' := 35) (n' := 15) kd_14 nw_X7 nc_X7 nf_X7 cn_X11_25 dX11_init_32 rfl rfl ⟨rfl, rfl⟩ ?_
  refine wg_dup (pc' := 36) dX11_init_35 rfl ?_
  refine t_callIN (mc := 103) (ms := 7632) (pc' := 39) (d' := 2) (mc' := 15) (ms' := 2108) (n' := 30) (av := []) ms_mX7_init rfl in_mX7_init rfl ln_X11_27 rfl rfl (Nat.le_of_ble_eq_true rfl) (by decide) dX11_init_36 rfl ⟨rfl, rfl⟩ (kc_14 _) ?_
  refine wg_putR (pc' := 42) fp_X11_28 (fun _ => rfl) rfl (tk kd_0 (by decide)) dX11_init_39 rfl ?_
  refine wg_aload_n (pc' := 43) (i := 0) (by rfl) (by rfl) dX11_init_42 rfl ?_
  refine t_new (mc := 102) (ms := 7624) (ci := 0) (C1 := RX0) (N1 := 8) (pc' := 46) (n' := 31) kd_30 nw_X0 nc_X0 nf_X0 cn_X11_13 dX11_init_43 rfl rfl ⟨rfl, rfl⟩ ?_
  refine wg_dup (pc' := 47) dX11_init_46 rfl ?_
  refine wg_aload_n (pc' := 48) (i := 0) (by rfl) (by rfl) dX11_init_47 rfl ?_
  refine wg_getR (pc' := 51) (q := 14) fg_X11_28 (tk kd_0 (by decide)) (by rfl) dX11_init_48 rfl ?_
  refine t_callI (mc := 99) (ms := 7554) (pc' := 54) (d' := 1) (mc' := 3) (ms' := 70) (n' := 34) (av := [gR 14]) ms_mX0_init rfl in_mX0_init rfl lk_X11_32 rfl rfl (Nat.le_of_ble_eq_true rfl) (by decide) dX11_init_51 rfl ⟨rfl, rfl⟩ (kc_30 _) ?_
  refine wg_putR (pc' := 57) fp_X11_35 (fun _ => rfl) rfl (tk kd_0 (by decide)) dX11_init_54 rfl ?_
  refine wg_aload_n (pc' := 58) (i := 0) (by rfl) (by rfl) dX11_init_57 rfl ?_
  refine t_new (mc := 98) (ms := 7547) (ci := 9) (C1 := RX9) (N1 := 7) (pc' := 61) (n' := 35) kd_34 nw_X9 nc_X9 nf_X9 cn_X11_39 dX11_init_58 rfl rfl ⟨rfl, rfl⟩ ?_
  refine wg_dup (pc' := 62) dX11_init_61 rfl ?_
  refine wg_bipush (pc' := 64) (by decide) (by decide) dX11_init_62 rfl ?_
  refine t_callI (mc := 92) (ms := 7187) (pc' := 67) (d' := 1) (mc' := 6) (ms' := 360) (n' := 41) (av := [gI 60]) ms_mX9_init rfl in_mX9_init rfl lk_X11_41 rfl rfl (Nat.le_of_ble_eq_true rfl) (by decide) dX11_init_64 rfl ⟨rfl, rfl⟩ (kc_34 _) ?_
  refine wg_putR (pc' := 70) fp_X11_44 (fun _ => rfl) rfl (tk kd_0 (by decide)) dX11_init_67 rfl ?_
  refine wg_aload_n (pc' := 71) (i := 0) (by rfl) (by rfl) dX11_init_70 rfl ?_
  refine t_new (mc := 91) (ms := 7170) (ci := 2) (C1 := RX2) (N1 := 17) (pc' := 74) (n' := 42) kd_41 nw_X2 nc_X2 nf_X2 cn_X11_48 dX11_init_71 rfl rfl ⟨rfl, rfl⟩ ?_
  refine wg_dup (pc' := 75) dX11_init_74 rfl ?_
  refine t_callIN (mc := 76) (ms := 5050) (pc' := 78) (d' := 1) (mc' := 15) (ms' := 2120) (n' := 57) (av := []) ms_mX2_init rfl in_mX2_init rfl ln_X11_50 rfl rfl (Nat.le_of_ble_eq_true rfl) (by decide) dX11_init_75 rfl ⟨rfl, rfl⟩ (kc_41 _) ?_
  refine wg_putR (pc' := 81) fp_X11_51 (fun _ => rfl) rfl (tk kd_0 (by decide)) dX11_init_78 rfl ?_
  refine wg_aload_n (pc' := 82) (i := 0) (by rfl) (by rfl) dX11_init_81 rfl ?_
  refine t_new (mc := 75) (ms := 5032) (ci := 5) (C1 := RX5) (N1 := 18) (pc' := 85) (n' := 58) kd_57 nw_X5 nc_X5 nf_X5 cn_X11_55 dX11_init_82 rfl rfl ⟨rfl, rfl⟩ ?_
  refine wg_dup (pc' := 86) dX11_init_85 rfl ?_
  refine t_callI (mc := 23) (ms := 2127) (pc' := 89) (d' := 2) (mc' := 52) (ms' := 2905) (n' := 110) (av := []) ms_mX5_init rfl in_mX5_init rfl lk_X11_57 rfl rfl (Nat.le_of_ble_eq_true rfl) (by decide) dX11_init_86 rfl ⟨rfl, rfl⟩ (kc_57 _) ?_
  refine wg_putR (pc' := 92) fp_X11_58 (fun _ => rfl) rfl (tk kd_0 (by decide)) dX11_init_89 rfl ?_
  refine wg_aload_n (pc' := 93) (i := 0) (by rfl) (by rfl) dX11_init_92 rfl ?_
  refine t_new (mc := 22) (ms := 2118) (ci := 3) (C1 := RX3) (N1 := 9) (pc' := 96) (n' := 111) kd_110 nw_X3 nc_X3 nf_X3 cn_X11_62 dX11_init_93 rfl rfl ⟨rfl, rfl⟩ ?_
  refine wg_dup (pc' := 97) dX11_init_96 rfl ?_
  refine wg_aload_n (pc' := 98) (i := 0) (by rfl) (by rfl) dX11_init_97 rfl ?_
  refine wg_getR (pc' := 101) (q := 3) fg_X11_21 (tk kd_0 (by decide)) (by rfl) dX11_init_98 rfl ?_
  refine wg_aload_n (pc' := 102) (i := 0) (by rfl) (by rfl) dX11_init_101 rfl ?_
  refine wg_getR (pc' := 105) (q := 14) fg_X11_28 (tk kd_0 (by decide)) (by rfl) dX11_init_102 rfl ?_
  refine wg_aload_n (pc' := 106) (i := 0) (by rfl) (by rfl) dX11_init_105 rfl ?_
  refine wg_getR (pc' := 109) (q := 30) fg_X11_35 (tk kd_0 (by decide)) (by rfl) dX11_init_106 rfl ?_
  refine wg_aload_n (pc' := 110) (i := 0) (by rfl) (by rfl) dX11_init_109 rfl ?_
  refine wg_getR (pc' := 113) (q := 34) fg_X11_44 (tk kd_0 (by decide)) (by rfl) dX11_init_110 rfl ?_
  refine wg_aload_n (pc' := 114) (i := 0) (by rfl) (by rfl) dX11_init_113 rfl ?_
  refine wg_getR (pc' := 117) (q := 41) fg_X11_51 (tk kd_0 (by decide)) (by rfl) dX11_init_114 rfl ?_
  refine wg_aload_n (pc' := 118) (i := 0) (by rfl) (by rfl) dX11_init_117 rfl ?_
  refine wg_getR (pc' := 121) (q := 57) fg_X11_58 (tk kd_0 (by decide)) (by rfl) dX11_init_118 rfl ?_
  refine t_callI (mc := 21) (ms := 2104) (pc' := 124) (d' := 1) (mc' := 1) (ms' := 14) (n' := 112) (av := [gR 3, gR 14, gR 30, gR 34, gR 41, gR 57]) ms_mX3_init rfl in_mX3_init rfl lk_X11_64 rfl rfl (Nat.le_of_ble_eq_true rfl) (by decide) dX11_init_121 rfl ⟨rfl, rfl⟩ (kc_110 _) ?_
  refine wg_putR (pc' := 127) fp_X11_67 (fun _ => rfl) rfl (tk kd_0 (by decide)) dX11_init_124 rfl ?_
  refine wg_aload_n (pc' := 128) (i := 0) (by rfl) (by rfl) dX11_init_127 rfl ?_
  refine t_new (mc := 20) (ms := 2087) (ci := 6) (C1 := RX6) (N1 := 17) (pc' := 131) (n' := 113) kd_112 nw_X6 nc_X6 nf_X6 cn_X11_71 dX11_init_128 rfl rfl ⟨rfl, rfl⟩ ?_
  refine wg_dup (pc' := 132) dX11_init_131 rfl ?_
  refine wg_aload_n (pc' := 133) (i := 0) (by rfl) (by rfl) dX11_init_132 rfl ?_
  refine wg_getR (pc' := 136) (q := 3) fg_X11_21 (tk kd_0 (by decide)) (by rfl) dX11_init_133 rfl ?_
  refine wg_aload_n (pc' := 137) (i := 0) (by rfl) (by rfl) dX11_init_136 rfl ?_
  refine wg_getR (pc' := 140) (q := 14) fg_X11_28 (tk kd_0 (by decide)) (by rfl) dX11_init_137 rfl ?_
  refine wg_aload_n (pc' := 141) (i := 0) (by rfl) (by rfl) dX11_init_140 rfl ?_
  refine wg_getR (pc' := 144) (q := 41) fg_X11_51 (tk kd_0 (by decide)) (by rfl) dX11_init_141 rfl ?_
  refine t_callI (mc := 8) (ms := 943) (pc' := 147) (d' := 1) (mc' := 12) (ms' := 1144) (n' := 125) (av := [gR 3, gR 14, gR 41]) ms_mX6_init rfl in_mX6_init rfl lk_X11_73 rfl rfl (Nat.le_of_ble_eq_true rfl) (by decide) dX11_init_144 rfl ⟨rfl, rfl⟩ (kc_112 _) ?_
  refine wg_putR (pc' := 150) fp_X11_76 (fun _ => rfl) rfl (tk kd_0 (by decide)) dX11_init_147 rfl ?_
  refine wg_aload_n (pc' := 151) (i := 0) (by rfl) (by rfl) dX11_init_150 rfl ?_
  refine t_new (mc := 7) (ms := 932) (ci := 1) (C1 := RX1) (N1 := 11) (pc' := 154) (n' := 126) kd_125 nw_X1 nc_X1 nf_X1 cn_X11_80 dX11_init_151 rfl rfl ⟨rfl, rfl⟩ ?_
  refine wg_dup (pc' := 155) dX11_init_154 rfl ?_
  refine wg_aload_n (pc' := 156) (i := 0) (by rfl) (by rfl) dX11_init_155 rfl ?_
  refine wg_getR (pc' := 159) (q := 110) fg_X11_67 (tk kd_0 (by decide)) (by rfl) dX11_init_156 rfl ?_
  refine t_callI (mc := 0) (ms := 0) (pc' := 162) (d' := 1) (mc' := 7) (ms' := 932) (n' := 133) (av := [gR 110]) ms_mX1_init rfl in_mX1_init rfl lk_X11_82 rfl rfl (Nat.le_of_ble_eq_true rfl) (by decide) dX11_init_159 rfl ⟨rfl, rfl⟩ (kc_125 _) ?_
  refine wg_putR (pc' := 165) fp_X11_85 (fun _ => rfl) rfl (tk kd_0 (by decide)) dX11_init_162 rfl ?_
  exact wg_return rfl dX11_init_165 ⟨rfl, rfl, rfl⟩
def hc_133 (σ : gH) : gH := gUp (gUr (gUp (gUr (gUp (gUr (gUp (gUr (gUp (gUr (gUp (gUr (gUp (gUr (gUp (gUr (gUp (gUr (gUp (gUr (gUp (gUr (gUp (gUr (gUp (gUr (gUp (gUr (gUp (gUr (gUp (gUr (gUp (gUr (gUp (gUr (gUp (gUr (gUp (gUr (gUp (gUr (gUp (gUr (gUp (gUp (gUp (gUp (gUp (gUp (gUr (gUp (gUp (gUp (gUp (gUp (gUp (gUr (gUp (gUp (gUp (gUp (gUp (gUp (gUr (gUp (gUr (gUp (gUr (gUp (gUr (gUp (gUr (gUp (gUr (gUp (gUr (gUp (gUr (gUp (gUr (gUp (gUr (gUp (gUr (gUp (gUr (gUp (gUr (gUp (gUp (gUp (gUr (gUp (gUr (gUp (gUr (gUp (gUr (gUp (gUr (gUp (gUr (gUp (gUr (gUp (gUr (gUp (gUr (gUp (gUr (gUp (gUr (gUp (gUr (gUp (gUr (gUp (gUr (gUp (gUr (gUp (gUr (gUp (gUr (gUp (gUr (gUp (gUr (gUp (gUr (gUp (gUr (gUp (gUr (gUp (gUr (gUp (gUr (gUp (gUr (gUp (gUr (gUp (gUr (gUp (gUr (gUp (gUr (gUp (gUr (gUp (gUr (gUp (gUr (gUp (gUr (gUp (gUr (gUp (gUp (gUr (gUp (gUr (gUp (gUr (σ) 134 (fun _ => 0)) 133 1 134) 135 (fun _ => 0)) 133 4 135) 136 (fun _ => 0)) 133 5 136) 133 7 1) 137 (fun _ => 0)) 133 8 137) 138 (fun _ => 0)) 133 9 138) 139 (fun _ => 0)) 133 10 139) 140 (fun _ => 0)) 133 11 140) 141 (fun _ => 0)) 133 12 141) 142 (fun _ => 0)) 133 13 142) 143 (fun _ => 0)) 133 15 143) 144 (fun _ => 0)) 133 16 144) 145 (fun _ => 0)) 133 17 145) 146 (fun _ => 0)) 133 18 146) 147 (fun _ => 0)) 133 19 147) 148 (fun _ => 0)) 133 20 148) 149 (fun _ => 0)) 133 21 149) 150 (fun _ => 0)) 133 22 150) 151 (fun _ => 0)) 133 23 151) 152 (fun _ => 0)) 133 24 152) 153 (fun _ => 0)) 133 27 153) 154 (fun _ => 0)) 133 28 154) 155 (fun _ => 0)) 133 29 155) 156 (fun _ => 0)) 133 30 156) 157 (fun _ => 0)) 133 31 157) 158 (fun _ => 0)) 133 32 158) 159 (fun _ => 0)) 133 33 159) 160 (fun _ => 0)) 133 34 160) 161 (fun _ => 0)) 133 35 161) 162 (fun _ => 0)) 133 36 162) 163 (fun _ => 0)) 133 37 163) 164 (fun _ => 0)) 133 38 164) 165 (fun _ => 0)) 133 39 165) 166 (fun _ => 0)) 133 40 166) 167 (fun _ => 0)) 133 41 167) 168 (fun _ => 0)) 133 44 168) 169 (fun _ => 0)) 133 45 169) 170 (fun _ => 0)) 133 46 170) 133 47 (-1)) 133 48 (-1)) 171 (fun _ => 0)) 133 50 171) 172 (fun _ => 0)) 133 53 172) 173 (fun _ => 0)) 133 64 173) 174 (fun _ => 0)) 133 65 174) 175 (fun _ => 0)) 133 66 175) 176 (fun _ => 0)) 133 67 176) 177 (fun _ => 0)) 133 68 177) 178 (fun _ => 0)) 133 69 178) 179 (fun _ => 0)) 133 70 179) 180 (fun _ => 0)) 133 71 180) 181 (fun _ => 0)) 133 72 181) 182 (fun _ => 0)) 133 73 182) 183 (fun _ => 0)) 183 0 1) 183 1 365) 183 2 365) 183 3 90) 183 4 0) 133 74 183) 184 (fun _ => 0)) 184 0 0) 184 1 1) 184 2 0) 184 3 1) 184 4 0) 133 75 184) 185 (fun _ => 0)) 185 0 4) 185 1 999) 185 2 3650) 185 3 999) 185 4 12) 133 76 185) 186 (fun _ => 0)) 133 78 186) 187 (fun _ => 0)) 133 85 187) 188 (fun _ => 0)) 133 86 188) 189 (fun _ => 0)) 133 89 189) 190 (fun _ => 0)) 133 90 190) 191 (fun _ => 0)) 133 91 191) 192 (fun _ => 0)) 133 94 192) 193 (fun _ => 0)) 133 95 193) 194 (fun _ => 0)) 133 96 194) 195 (fun _ => 0)) 133 97 195) 196 (fun _ => 0)) 133 98 196) 197 (fun _ => 0)) 133 100 197) 198 (fun _ => 0)) 133 101 198) 199 (fun _ => 0)) 133 102 199) 200 (fun _ => 0)) 133 103 200) 201 (fun _ => 0)) 133 104 201) 202 (fun _ => 0)) 133 105 202) 203 (fun _ => 0)) 133 106 203) 204 (fun _ => 0)) 133 107 204) 205 (fun _ => 0)) 133 108 205) 206 (fun _ => 0)) 133 109 206) 207 (fun _ => 0)) 133 115 207
set_option maxRecDepth 100000 in
theorem kc_133 (σ : gH) : gMt mX12_init 1 74 30918 [gR 133] (gL.take 134) σ (tQ 208 (hc_133 σ)) := by
  refine gMt.walkT (ls := [gR 133]) pn_X12 rfl (Nat.le_of_ble_eq_true rfl) rfl ?_
  refine wg_aload_n (pc' := 1) (i := 0) (by rfl) (by rfl) dX12_init_0 rfl ?_
  refine wg_objInit (pc' := 4) lo_X12_1 oi_in oi_code (by decide) dX12_init_1 rfl ?_
  refine wg_aload_n (pc' := 5) (i := 0) (by rfl) (by rfl) dX12_init_4 rfl ?_
  refine wg_sipush (pc' := 8) (by decide) (by decide) dX12_init_5 rfl ?_
  refine t_newarray (mc := 73) (ms := 30378) (N := 540) (tc := 0) (ty := .int) (pc' := 10) (n' := 135) kd_134 (by decide) (by decide) ac_I dX12_init_8 rfl rfl ⟨rfl, rfl⟩ ?_
  refine wg_putR (pc' := 13) fp_X12_7 (fun _ => rfl) rfl (tk kd_133 (by decide)) dX12_init_10 rfl ?_
  refine wg_aload_n (pc' := 14) (i := 0) (by rfl) (by rfl) dX12_init_13 rfl ?_
  refine wg_bipush (pc' := 16) (by decide) (by decide) dX12_init_14 rfl ?_
  refine t_newarray (mc := 72) (ms := 30318) (N := 60) (tc := 0) (ty := .int) (pc' := 18) (n' := 136) kd_135 (by decide) (by decide) ac_I dX12_init_16 rfl rfl ⟨rfl, rfl⟩ ?_
  refine wg_putR (pc' := 21) fp_X12_13 (fun _ => rfl) rfl (tk kd_133 (by decide)) dX12_init_18 rfl ?_
  refine wg_aload_n (pc' := 22) (i := 0) (by rfl) (by rfl) dX12_init_21 rfl ?_
  refine wg_bipush (pc' := 24) (by decide) (by decide) dX12_init_22 rfl ?_
  refine t_newarray (mc := 71) (ms := 30258) (N := 60) (tc := 1) (ty := .long) (pc' := 26) (n' := 137) kd_136 (by decide) (by decide) ac_J dX12_init_24 rfl rfl ⟨rfl, rfl⟩ ?_
  refine wg_putR (pc' := 29) fp_X12_16 (fun _ => rfl) rfl (tk kd_133 (by decide)) dX12_init_26 rfl ?_
  refine wg_aload_n (pc' := 30) (i := 0) (by rfl) (by rfl) dX12_init_29 rfl ?_
  refine wg_iconst (pc' := 31) (by decide) dX12_init_30 rfl ?_
  refine wg_putI (pc' := 34) fp_X12_20 (tk kd_133 (by decide)) dX12_init_31 rfl ?_
  refine wg_aload_n (pc' := 35) (i := 0) (by rfl) (by rfl) dX12_init_34 rfl ?_
  refine wg_sipush (pc' := 38) (by decide) (by decide) dX12_init_35 rfl ?_
  refine t_newarray (mc := 70) (ms := 30058) (N := 200) (tc := 0) (ty := .int) (pc' := 40) (n' := 138) kd_137 (by decide) (by decide) ac_I dX12_init_38 rfl rfl ⟨rfl, rfl⟩ ?_
  refine wg_putR (pc' := 43) fp_X12_24 (fun _ => rfl) rfl (tk kd_133 (by decide)) dX12_init_40 rfl ?_
  refine wg_aload_n (pc' := 44) (i := 0) (by rfl) (by rfl) dX12_init_43 rfl ?_
  refine wg_sipush (pc' := 47) (by decide) (by decide) dX12_init_44 rfl ?_
  refine t_newarray (mc := 69) (ms := 29858) (N := 200) (tc := 0) (ty := .int) (pc' := 49) (n' := 139) kd_138 (by decide) (by decide) ac_I dX12_init_47 rfl rfl ⟨rfl, rfl⟩ ?_
  refine wg_putR (pc' := 52) fp_X12_27 (fun _ => rfl) rfl (tk kd_133 (by decide)) dX12_init_49 rfl ?_
  refine wg_aload_n (pc' := 53) (i := 0) (by rfl) (by rfl) dX12_init_52 rfl ?_
  refine wg_sipush (pc' := 56) (by decide) (by decide) dX12_init_53 rfl ?_
  refine t_newarray (mc := 68) (ms := 29658) (N := 200) (tc := 0) (ty := .int) (pc' := 58) (n' := 140) kd_139 (by decide) (by decide) ac_I dX12_init_56 rfl rfl ⟨rfl, rfl⟩ ?_
  refine wg_putR (pc' := 61) fp_X12_30 (fun _ => rfl) rfl (tk kd_133 (by decide)) dX12_init_58 rfl ?_
  refine wg_aload_n (pc' := 62) (i := 0) (by rfl) (by rfl) dX12_init_61 rfl ?_
  refine wg_sipush (pc' := 65) (by decide) (by decide) dX12_init_62 rfl ?_
  refine t_newarray (mc := 67) (ms := 29458) (N := 200) (tc := 0) (ty := .int) (pc' := 67) (n' := 141) kd_140 (by decide) (by decide) ac_I dX12_init_65 rfl rfl ⟨rfl, rfl⟩ ?_
  refine wg_putR (pc' := 70) fp_X12_33 (fun _ => rfl) rfl (tk kd_133 (by decide)) dX12_init_67 rfl ?_
  refine wg_aload_n (pc' := 71) (i := 0) (by rfl) (by rfl) dX12_init_70 rfl ?_
  refine wg_sipush (pc' := 74) (by decide) (by decide) dX12_init_71 rfl ?_
  refine t_newarray (mc := 66) (ms := 29258) (N := 200) (tc := 0) (ty := .int) (pc' := 76) (n' := 142) kd_141 (by decide) (by decide) ac_I dX12_init_74 rfl rfl ⟨rfl, rfl⟩ ?_
  refine wg_putR (pc' := 79) fp_X12_36 (fun _ => rfl) rfl (tk kd_133 (by decide)) dX12_init_76 rfl ?_
  refine wg_aload_n (pc' := 80) (i := 0) (by rfl) (by rfl) dX12_init_79 rfl ?_
  refine wg_sipush (pc' := 83) (by decide) (by decide) dX12_init_80 rfl ?_
  refine t_newarray (mc := 65) (ms := 29058) (N := 200) (tc := 0) (ty := .int) (pc' := 85) (n' := 143) kd_142 (by decide) (by decide) ac_I dX12_init_83 rfl rfl ⟨rfl, rfl⟩ ?_
  refine wg_putR (pc' := 88) fp_X12_39 (fun _ => rfl) rfl (tk kd_133 (by decide)) dX12_init_85 rfl ?_
  refine wg_aload_n (pc' := 89) (i := 0) (by rfl) (by rfl) dX12_init_88 rfl ?_
  refine wg_bipush (pc' := 91) (by decide) (by decide) dX12_init_89 rfl ?_
  refine t_newarray (mc := 64) (ms := 28958) (N := 100) (tc := 0) (ty := .int) (pc' := 93) (n' := 144) kd_143 (by decide) (by decide) ac_I dX12_init_91 rfl rfl ⟨rfl, rfl⟩ ?_
  refine wg_putR (pc' := 96) fp_X12_42 (fun _ => rfl) rfl (tk kd_133 (by decide)) dX12_init_93 rfl ?_
  refine wg_aload_n (pc' := 97) (i := 0) (by rfl) (by rfl) dX12_init_96 rfl ?_
  refine wg_bipush (pc' := 99) (by decide) (by decide) dX12_init_97 rfl ?_
  refine t_newarray (mc := 63) (ms := 28858) (N := 100) (tc := 0) (ty := .int) (pc' := 101) (n' := 145) kd_144 (by decide) (by decide) ac_I dX12_init_99 rfl rfl ⟨rfl, rfl⟩ ?_
  refine wg_putR (pc' := 104) fp_X12_45 (fun _ => rfl) rfl (tk kd_133 (by decide)) dX12_init_101 rfl ?_
  refine wg_aload_n (pc' := 105) (i := 0) (by rfl) (by rfl) dX12_init_104 rfl ?_
  refine wg_bipush (pc' := 107) (by decide) (by decide) dX12_init_105 rfl ?_
  refine t_newarray (mc := 62) (ms := 28758) (N := 100) (tc := 0) (ty := .int) (pc' := 109) (n' := 146) kd_145 (by decide) (by decide) ac_I dX12_init_107 rfl rfl ⟨rfl, rfl⟩ ?_
  refine wg_putR (pc' := 112) fp_X12_48 (fun _ => rfl) rfl (tk kd_133 (by decide)) dX12_init_109 rfl ?_
  refine wg_aload_n (pc' := 113) (i := 0) (by rfl) (by rfl) dX12_init_112 rfl ?_
  refine wg_bipush (pc' := 115) (by decide) (by decide) dX12_init_113 rfl ?_
  refine t_newarray (mc := 61) (ms := 28658) (N := 100) (tc := 0) (ty := .int) (pc' := 117) (n' := 147) kd_146 (by decide) (by decide) ac_I dX12_init_115 rfl rfl ⟨rfl, rfl⟩ ?_
  refine wg_putR (pc' := 120) fp_X12_51 (fun _ => rfl) rfl (tk kd_133 (by decide)) dX12_init_117 rfl ?_
  refine wg_aload_n (pc' := 121) (i := 0) (by rfl) (by rfl) dX12_init_120 rfl ?_
  refine wg_bipush (pc' := 123) (by decide) (by decide) dX12_init_121 rfl ?_
  refine t_newarray (mc := 60) (ms := 28558) (N := 100) (tc := 0) (ty := .int) (pc' := 125) (n' := 148) kd_147 (by decide) (by decide) ac_I dX12_init_123 rfl rfl ⟨rfl, rfl⟩ ?_
  refine wg_putR (pc' := 128) fp_X12_54 (fun _ => rfl) rfl (tk kd_133 (by decide)) dX12_init_125 rfl ?_
  refine wg_aload_n (pc' := 129) (i := 0) (by rfl) (by rfl) dX12_init_128 rfl ?_
  refine wg_bipush (pc' := 131) (by decide) (by decide) dX12_init_129 rfl ?_
  refine t_newarray (mc := 59) (ms := 28498) (N := 60) (tc := 0) (ty := .int) (pc' := 133) (n' := 149) kd_148 (by decide) (by decide) ac_I dX12_init_131 rfl rfl ⟨rfl, rfl⟩ ?_
  refine wg_putR (pc' := 136) fp_X12_57 (fun _ => rfl) rfl (tk kd_133 (by decide)) dX12_init_133 rfl ?_
  refine wg_aload_n (pc' := 137) (i := 0) (by rfl) (by rfl) dX12_init_136 rfl ?_
  refine wg_bipush (pc' := 139) (by decide) (by decide) dX12_init_137 rfl ?_
  refine t_newarray (mc := 58) (ms := 28438) (N := 60) (tc := 0) (ty := .int) (pc' := 141) (n' := 150) kd_149 (by decide) (by decide) ac_I dX12_init_139 rfl rfl ⟨rfl, rfl⟩ ?_
  refine wg_putR (pc' := 144) fp_X12_60 (fun _ => rfl) rfl (tk kd_133 (by decide)) dX12_init_141 rfl ?_
  refine wg_aload_n (pc' := 145) (i := 0) (by rfl) (by rfl) dX12_init_144 rfl ?_
  refine wg_bipush (pc' := 147) (by decide) (by decide) dX12_init_145 rfl ?_
  refine t_newarray (mc := 57) (ms := 28378) (N := 60) (tc := 0) (ty := .int) (pc' := 149) (n' := 151) kd_150 (by decide) (by decide) ac_I dX12_init_147 rfl rfl ⟨rfl, rfl⟩ ?_
  refine wg_putR (pc' := 152) fp_X12_63 (fun _ => rfl) rfl (tk kd_133 (by decide)) dX12_init_149 rfl ?_
  refine wg_aload_n (pc' := 153) (i := 0) (by rfl) (by rfl) dX12_init_152 rfl ?_
  refine wg_bipush (pc' := 155) (by decide) (by decide) dX12_init_153 rfl ?_
  refine t_newarray (mc := 56) (ms := 28318) (N := 60) (tc := 0) (ty := .int) (pc' := 157) (n' := 152) kd_151 (by decide) (by decide) ac_I dX12_init_155 rfl rfl ⟨rfl, rfl⟩ ?_
  refine wg_putR (pc' := 160) fp_X12_66 (fun _ => rfl) rfl (tk kd_133 (by decide)) dX12_init_157 rfl ?_
  refine wg_aload_n (pc' := 161) (i := 0) (by rfl) (by rfl) dX12_init_160 rfl ?_
  refine wg_bipush (pc' := 163) (by decide) (by decide) dX12_init_161 rfl ?_
  refine t_newarray (mc := 55) (ms := 28258) (N := 60) (tc := 0) (ty := .int) (pc' := 165) (n' := 153) kd_152 (by decide) (by decide) ac_I dX12_init_163 rfl rfl ⟨rfl, rfl⟩ ?_
  refine wg_putR (pc' := 168) fp_X12_69 (fun _ => rfl) rfl (tk kd_133 (by decide)) dX12_init_165 rfl ?_
  refine wg_aload_n (pc' := 169) (i := 0) (by rfl) (by rfl) dX12_init_168 rfl ?_
  refine wg_bipush (pc' := 171) (by decide) (by decide) dX12_init_169 rfl ?_
  refine t_newarray (mc := 54) (ms := 28138) (N := 120) (tc := 0) (ty := .int) (pc' := 173) (n' := 154) kd_153 (by decide) (by decide) ac_I dX12_init_171 rfl rfl ⟨rfl, rfl⟩ ?_
  refine wg_putR (pc' := 176) fp_X12_72 (fun _ => rfl) rfl (tk kd_133 (by decide)) dX12_init_173 rfl ?_
  refine wg_aload_n (pc' := 177) (i := 0) (by rfl) (by rfl) dX12_init_176 rfl ?_
  refine wg_bipush (pc' := 179) (by decide) (by decide) dX12_init_177 rfl ?_
  refine t_newarray (mc := 53) (ms := 28018) (N := 120) (tc := 0) (ty := .int) (pc' := 181) (n' := 155) kd_154 (by decide) (by decide) ac_I dX12_init_179 rfl rfl ⟨rfl, rfl⟩ ?_
  refine wg_putR (pc' := 184) fp_X12_75 (fun _ => rfl) rfl (tk kd_133 (by decide)) dX12_init_181 rfl ?_
  refine wg_aload_n (pc' := 185) (i := 0) (by rfl) (by rfl) dX12_init_184 rfl ?_
  refine wg_bipush (pc' := 187) (by decide) (by decide) dX12_init_185 rfl ?_
  refine t_newarray (mc := 52) (ms := 27898) (N := 120) (tc := 0) (ty := .int) (pc' := 189) (n' := 156) kd_155 (by decide) (by decide) ac_I dX12_init_187 rfl rfl ⟨rfl, rfl⟩ ?_
  refine wg_putR (pc' := 192) fp_X12_78 (fun _ => rfl) rfl (tk kd_133 (by decide)) dX12_init_189 rfl ?_
  refine wg_aload_n (pc' := 193) (i := 0) (by rfl) (by rfl) dX12_init_192 rfl ?_
  refine wg_bipush (pc' := 195) (by decide) (by decide) dX12_init_193 rfl ?_
  refine t_newarray (mc := 51) (ms := 27778) (N := 120) (tc := 0) (ty := .int) (pc' := 197) (n' := 157) kd_156 (by decide) (by decide) ac_I dX12_init_195 rfl rfl ⟨rfl, rfl⟩ ?_
  refine wg_putR (pc' := 200) fp_X12_81 (fun _ => rfl) rfl (tk kd_133 (by decide)) dX12_init_197 rfl ?_
  refine wg_aload_n (pc' := 201) (i := 0) (by rfl) (by rfl) dX12_init_200 rfl ?_
  refine wg_bipush (pc' := 203) (by decide) (by decide) dX12_init_201 rfl ?_
  refine t_newarray (mc := 50) (ms := 27658) (N := 120) (tc := 0) (ty := .int) (pc' := 205) (n' := 158) kd_157 (by decide) (by decide) ac_I dX12_init_203 rfl rfl ⟨rfl, rfl⟩ ?_
  refine wg_putR (pc' := 208) fp_X12_84 (fun _ => rfl) rfl (tk kd_133 (by decide)) dX12_init_205 rfl ?_
  refine wg_aload_n (pc' := 209) (i := 0) (by rfl) (by rfl) dX12_init_208 rfl ?_
  refine wg_bipush (pc' := 211) (by decide) (by decide) dX12_init_209 rfl ?_
  refine t_newarray (mc := 49) (ms := 27538) (N := 120) (tc := 0) (ty := .int) (pc' := 213) (n' := 159) kd_158 (by decide) (by decide) ac_I dX12_init_211 rfl rfl ⟨rfl, rfl⟩ ?_
  refine wg_putR (pc' := 216) fp_X12_87 (fun _ => rfl) rfl (tk kd_133 (by decide)) dX12_init_213 rfl ?_
  refine wg_aload_n (pc' := 217) (i := 0) (by rfl) (by rfl) dX12_init_216 rfl ?_
  refine wg_bipush (pc' := 219) (by decide) (by decide) dX12_init_217 rfl ?_
  refine t_newarray (mc := 48) (ms := 27418) (N := 120) (tc := 0) (ty := .int) (pc' := 221) (n' := 160) kd_159 (by decide) (by decide) ac_I dX12_init_219 rfl rfl ⟨rfl, rfl⟩ ?_
  refine wg_putR (pc' := 224) fp_X12_90 (fun _ => rfl) rfl (tk kd_133 (by decide)) dX12_init_221 rfl ?_
  refine wg_aload_n (pc' := 225) (i := 0) (by rfl) (by rfl) dX12_init_224 rfl ?_
  refine wg_bipush (pc' := 227) (by decide) (by decide) dX12_init_225 rfl ?_
  refine t_newarray (mc := 47) (ms := 27298) (N := 120) (tc := 0) (ty := .int) (pc' := 229) (n' := 161) kd_160 (by decide) (by decide) ac_I dX12_init_227 rfl rfl ⟨rfl, rfl⟩ ?_
  refine wg_putR (pc' := 232) fp_X12_93 (fun _ => rfl) rfl (tk kd_133 (by decide)) dX12_init_229 rfl ?_
  refine wg_aload_n (pc' := 233) (i := 0) (by rfl) (by rfl) dX12_init_232 rfl ?_
  refine wg_bipush (pc' := 235) (by decide) (by decide) dX12_init_233 rfl ?_
  refine t_newarray (mc := 46) (ms := 27178) (N := 120) (tc := 0) (ty := .int) (pc' := 237) (n' := 162) kd_161 (by decide) (by decide) ac_I dX12_init_235 rfl rfl ⟨rfl, rfl⟩ ?_
  refine wg_putR (pc' := 240) fp_X12_96 (fun _ => rfl) rfl (tk kd_133 (by decide)) dX12_init_237 rfl ?_
  refine wg_aload_n (pc' := 241) (i := 0) (by rfl) (by rfl) dX12_init_240 rfl ?_
  refine wg_bipush (pc' := 243) (by decide) (by decide) dX12_init_241 rfl ?_
  refine t_newarray (mc := 45) (ms := 27058) (N := 120) (tc := 0) (ty := .int) (pc' := 245) (n' := 163) kd_162 (by decide) (by decide) ac_I dX12_init_243 rfl rfl ⟨rfl, rfl⟩ ?_
  refine wg_putR (pc' := 248) fp_X12_99 (fun _ => rfl) rfl (tk kd_133 (by decide)) dX12_init_245 rfl ?_
  refine wg_aload_n (pc' := 249) (i := 0) (by rfl) (by rfl) dX12_init_248 rfl ?_
  refine wg_bipush (pc' := 251) (by decide) (by decide) dX12_init_249 rfl ?_
  refine t_newarray (mc := 44) (ms := 26938) (N := 120) (tc := 2) (ty := .boolean) (pc' := 253) (n' := 164) kd_163 (by decide) (by decide) ac_Z dX12_init_251 rfl rfl ⟨rfl, rfl⟩ ?_
  refine wg_putR (pc' := 256) fp_X12_102 (fun _ => rfl) rfl (tk kd_133 (by decide)) dX12_init_253 rfl ?_
  refine wg_aload_n (pc' := 257) (i := 0) (by rfl) (by rfl) dX12_init_256 rfl ?_
  refine wg_sipush (pc' := 260) (by decide) (by decide) dX12_init_257 rfl ?_
  refine t_newarray (mc := 43) (ms := 26738) (N := 200) (tc := 0) (ty := .int) (pc' := 262) (n' := 165) kd_164 (by decide) (by decide) ac_I dX12_init_260 rfl rfl ⟨rfl, rfl⟩ ?_
  refine wg_putR (pc' := 265) fp_X12_106 (fun _ => rfl) rfl (tk kd_133 (by decide)) dX12_init_262 rfl ?_
  refine wg_aload_n (pc' := 266) (i := 0) (by rfl) (by rfl) dX12_init_265 rfl ?_
  refine wg_sipush (pc' := 269) (by decide) (by decide) dX12_init_266 rfl ?_
  refine t_newarray (mc := 42) (ms := 26538) (N := 200) (tc := 0) (ty := .int) (pc' := 271) (n' := 166) kd_165 (by decide) (by decide) ac_I dX12_init_269 rfl rfl ⟨rfl, rfl⟩ ?_
  refine wg_putR (pc' := 274) fp_X12_109 (fun _ => rfl) rfl (tk kd_133 (by decide)) dX12_init_271 rfl ?_
  refine wg_aload_n (pc' := 275) (i := 0) (by rfl) (by rfl) dX12_init_274 rfl ?_
  refine wg_sipush (pc' := 278) (by decide) (by decide) dX12_init_275 rfl ?_
  refine t_newarray (mc := 41) (ms := 26338) (N := 200) (tc := 0) (ty := .int) (pc' := 280) (n' := 167) kd_166 (by decide) (by decide) ac_I dX12_init_278 rfl rfl ⟨rfl, rfl⟩ ?_
  refine wg_putR (pc' := 283) fp_X12_112 (fun _ => rfl) rfl (tk kd_133 (by decide)) dX12_init_280 rfl ?_
  refine wg_aload_n (pc' := 284) (i := 0) (by rfl) (by rfl) dX12_init_283 rfl ?_
  refine wg_sipush (pc' := 287) (by decide) (by decide) dX12_init_284 rfl ?_
  refine t_newarray (mc := 40) (ms := 26138) (N := 200) (tc := 0) (ty := .int) (pc' := 289) (n' := 168) kd_167 (by decide) (by decide) ac_I dX12_init_287 rfl rfl ⟨rfl, rfl⟩ ?_
  refine wg_putR (pc' := 292) fp_X12_115 (fun _ => rfl) rfl (tk kd_133 (by decide)) dX12_init_289 rfl ?_
  refine wg_aload_n (pc' := 293) (i := 0) (by rfl) (by rfl) dX12_init_292 rfl ?_
  refine wg_sipush (pc' := 296) (by decide) (by decide) dX12_init_293 rfl ?_
  refine t_newarray (mc := 39) (ms := 22538) (N := 3600) (tc := 0) (ty := .int) (pc' := 298) (n' := 169) kd_168 (by decide) (by decide) ac_I dX12_init_296 rfl rfl ⟨rfl, rfl⟩ ?_
  refine wg_putR (pc' := 301) fp_X12_118 (fun _ => rfl) rfl (tk kd_133 (by decide)) dX12_init_298 rfl ?_
  refine wg_aload_n (pc' := 302) (i := 0) (by rfl) (by rfl) dX12_init_301 rfl ?_
  refine wg_bipush (pc' := 304) (by decide) (by decide) dX12_init_302 rfl ?_
  refine t_newarray (mc := 38) (ms := 22478) (N := 60) (tc := 0) (ty := .int) (pc' := 306) (n' := 170) kd_169 (by decide) (by decide) ac_I dX12_init_304 rfl rfl ⟨rfl, rfl⟩ ?_
  refine wg_putR (pc' := 309) fp_X12_121 (fun _ => rfl) rfl (tk kd_133 (by decide)) dX12_init_306 rfl ?_
  refine wg_aload_n (pc' := 310) (i := 0) (by rfl) (by rfl) dX12_init_309 rfl ?_
  refine wg_sipush (pc' := 313) (by decide) (by decide) dX12_init_310 rfl ?_
  refine t_newarray (mc := 37) (ms := 18878) (N := 3600) (tc := 2) (ty := .boolean) (pc' := 315) (n' := 171) kd_170 (by decide) (by decide) ac_Z dX12_init_313 rfl rfl ⟨rfl, rfl⟩ ?_
  refine wg_putR (pc' := 318) fp_X12_124 (fun _ => rfl) rfl (tk kd_133 (by decide)) dX12_init_315 rfl ?_
  refine wg_aload_n (pc' := 319) (i := 0) (by rfl) (by rfl) dX12_init_318 rfl ?_
  refine wg_iconst (pc' := 320) (by decide) dX12_init_319 rfl ?_
  refine wg_putI (pc' := 323) fp_X12_127 (tk kd_133 (by decide)) dX12_init_320 rfl ?_
  refine wg_aload_n (pc' := 324) (i := 0) (by rfl) (by rfl) dX12_init_323 rfl ?_
  refine wg_iconst (pc' := 325) (by decide) dX12_init_324 rfl ?_
  refine wg_putI (pc' := 328) fp_X12_130 (tk kd_133 (by decide)) dX12_init_325 rfl ?_
  refine wg_aload_n (pc' := 329) (i := 0) (by rfl) (by rfl) dX12_init_328 rfl ?_
  refine wg_iconst (pc' := 330) (by decide) dX12_init_329 rfl ?_
  refine t_newarray (mc := 36) (ms := 18873) (N := 5) (tc := 0) (ty := .int) (pc' := 332) (n' := 172) kd_171 (by decide) (by decide) ac_I dX12_init_330 rfl rfl ⟨rfl, rfl⟩ ?_
  refine wg_putR (pc' := 335) fp_X12_133 (fun _ => rfl) rfl (tk kd_133 (by decide)) dX12_init_332 rfl ?_
  refine wg_aload_n (pc' := 336) (i := 0) (by rfl) (by rfl) dX12_init_335 rfl ?_
  refine wg_bipush (pc' := 338) (by decide) (by decide) dX12_init_336 rfl ?_
  refine t_newarray (mc := 35) (ms := 18813) (N := 60) (tc := 0) (ty := .int) (pc' := 340) (n' := 173) kd_172 (by decide) (by decide) ac_I dX12_init_338 rfl rfl ⟨rfl, rfl⟩ ?_
  refine wg_putR (pc' := 343) fp_X12_136 (fun _ => rfl) rfl (tk kd_133 (by decide)) dX12_init_340 rfl ?_
  refine wg_aload_n (pc' := 344) (i := 0) (by rfl) (by rfl) dX12_init_343 rfl ?_
  refine wg_bipush (pc' := 346) (by decide) (by decide) dX12_init_344 rfl ?_
  refine t_newarray (mc := 34) (ms := 18807) (N := 6) (tc := 0) (ty := .int) (pc' := 348) (n' := 174) kd_173 (by decide) (by decide) ac_I dX12_init_346 rfl rfl ⟨rfl, rfl⟩ ?_
  refine wg_putR (pc' := 351) fp_X12_139 (fun _ => rfl) rfl (tk kd_133 (by decide)) dX12_init_348 rfl ?_
  refine wg_aload_n (pc' := 352) (i := 0) (by rfl) (by rfl) dX12_init_351 rfl ?_
  refine wg_bipush (pc' := 354) (by decide) (by decide) dX12_init_352 rfl ?_
  refine t_newarray (mc := 33) (ms := 18801) (N := 6) (tc := 0) (ty := .int) (pc' := 356) (n' := 175) kd_174 (by decide) (by decide) ac_I dX12_init_354 rfl rfl ⟨rfl, rfl⟩ ?_
  refine wg_putR (pc' := 359) fp_X12_142 (fun _ => rfl) rfl (tk kd_133 (by decide)) dX12_init_356 rfl ?_
  refine wg_aload_n (pc' := 360) (i := 0) (by rfl) (by rfl) dX12_init_359 rfl ?_
  refine wg_bipush (pc' := 362) (by decide) (by decide) dX12_init_360 rfl ?_
  refine t_newarray (mc := 32) (ms := 18794) (N := 7) (tc := 0) (ty := .int) (pc' := 364) (n' := 176) kd_175 (by decide) (by decide) ac_I dX12_init_362 rfl rfl ⟨rfl, rfl⟩ ?_
  refine wg_putR (pc' := 367) fp_X12_145 (fun _ => rfl) rfl (tk kd_133 (by decide)) dX12_init_364 rfl ?_
  refine wg_aload_n (pc' := 368) (i := 0) (by rfl) (by rfl) dX12_init_367 rfl ?_
  refine wg_bipush (pc' := 370) (by decide) (by decide) dX12_init_368 rfl ?_
  refine t_newarray (mc := 31) (ms := 18738) (N := 56) (tc := 0) (ty := .int) (pc' := 372) (n' := 177) kd_176 (by decide) (by decide) ac_I dX12_init_370 rfl rfl ⟨rfl, rfl⟩ ?_
  refine wg_putR (pc' := 375) fp_X12_148 (fun _ => rfl) rfl (tk kd_133 (by decide)) dX12_init_372 rfl ?_
  refine wg_aload_n (pc' := 376) (i := 0) (by rfl) (by rfl) dX12_init_375 rfl ?_
  refine wg_bipush (pc' := 378) (by decide) (by decide) dX12_init_376 rfl ?_
  refine t_newarray (mc := 30) (ms := 18703) (N := 35) (tc := 0) (ty := .int) (pc' := 380) (n' := 178) kd_177 (by decide) (by decide) ac_I dX12_init_378 rfl rfl ⟨rfl, rfl⟩ ?_
  refine wg_putR (pc' := 383) fp_X12_151 (fun _ => rfl) rfl (tk kd_133 (by decide)) dX12_init_380 rfl ?_
  refine wg_aload_n (pc' := 384) (i := 0) (by rfl) (by rfl) dX12_init_383 rfl ?_
  refine wg_bipush (pc' := 386) (by decide) (by decide) dX12_init_384 rfl ?_
  refine t_newarray (mc := 29) (ms := 18633) (N := 70) (tc := 0) (ty := .int) (pc' := 388) (n' := 179) kd_178 (by decide) (by decide) ac_I dX12_init_386 rfl rfl ⟨rfl, rfl⟩ ?_
  refine wg_putR (pc' := 391) fp_X12_154 (fun _ => rfl) rfl (tk kd_133 (by decide)) dX12_init_388 rfl ?_
  refine wg_aload_n (pc' := 392) (i := 0) (by rfl) (by rfl) dX12_init_391 rfl ?_
  refine wg_bipush (pc' := 394) (by decide) (by decide) dX12_init_392 rfl ?_
  refine t_newarray (mc := 28) (ms := 18563) (N := 70) (tc := 0) (ty := .int) (pc' := 396) (n' := 180) kd_179 (by decide) (by decide) ac_I dX12_init_394 rfl rfl ⟨rfl, rfl⟩ ?_
  refine wg_putR (pc' := 399) fp_X12_157 (fun _ => rfl) rfl (tk kd_133 (by decide)) dX12_init_396 rfl ?_
  refine wg_aload_n (pc' := 400) (i := 0) (by rfl) (by rfl) dX12_init_399 rfl ?_
  refine wg_sipush (pc' := 403) (by decide) (by decide) dX12_init_400 rfl ?_
  refine t_newarray (mc := 27) (ms := 17163) (N := 1400) (tc := 0) (ty := .int) (pc' := 405) (n' := 181) kd_180 (by decide) (by decide) ac_I dX12_init_403 rfl rfl ⟨rfl, rfl⟩ ?_
  refine wg_putR (pc' := 408) fp_X12_160 (fun _ => rfl) rfl (tk kd_133 (by decide)) dX12_init_405 rfl ?_
  refine wg_aload_n (pc' := 409) (i := 0) (by rfl) (by rfl) dX12_init_408 rfl ?_
  refine wg_sipush (pc' := 412) (by decide) (by decide) dX12_init_409 rfl ?_
  refine t_newarray (mc := 26) (ms := 15763) (N := 1400) (tc := 0) (ty := .int) (pc' := 414) (n' := 182) kd_181 (by decide) (by decide) ac_I dX12_init_412 rfl rfl ⟨rfl, rfl⟩ ?_
  refine wg_putR (pc' := 417) fp_X12_163 (fun _ => rfl) rfl (tk kd_133 (by decide)) dX12_init_414 rfl ?_
  refine wg_aload_n (pc' := 418) (i := 0) (by rfl) (by rfl) dX12_init_417 rfl ?_
  refine wg_sipush (pc' := 421) (by decide) (by decide) dX12_init_418 rfl ?_
  refine t_newarray (mc := 25) (ms := 14363) (N := 1400) (tc := 0) (ty := .int) (pc' := 423) (n' := 183) kd_182 (by decide) (by decide) ac_I dX12_init_421 rfl rfl ⟨rfl, rfl⟩ ?_
  refine wg_putR (pc' := 426) fp_X12_166 (fun _ => rfl) rfl (tk kd_133 (by decide)) dX12_init_423 rfl ?_
  refine wg_aload_n (pc' := 427) (i := 0) (by rfl) (by rfl) dX12_init_426 rfl ?_
  refine wg_iconst (pc' := 428) (by decide) dX12_init_427 rfl ?_
  refine t_newarray (mc := 24) (ms := 14358) (N := 5) (tc := 0) (ty := .int) (pc' := 430) (n' := 184) kd_183 (by decide) (by decide) ac_I dX12_init_428 rfl rfl ⟨rfl, rfl⟩ ?_
  refine wg_dup (pc' := 431) dX12_init_430 rfl ?_
  refine wg_iconst (pc' := 432) (by decide) dX12_init_431 rfl ?_
  refine wg_iconst (pc' := 433) (by decide) dX12_init_432 rfl ?_
  refine wg_iast (pc' := 434) (tk kd_183 (by decide)) (by decide) (by decide) dX12_init_433 rfl ?_
  refine wg_dup (pc' := 435) dX12_init_434 rfl ?_
  refine wg_iconst (pc' := 436) (by decide) dX12_init_435 rfl ?_
  refine wg_sipush (pc' := 439) (by decide) (by decide) dX12_init_436 rfl ?_
  refine wg_iast (pc' := 440) (tk kd_183 (by decide)) (by decide) (by decide) dX12_init_439 rfl ?_
  refine wg_dup (pc' := 441) dX12_init_440 rfl ?_
  refine wg_iconst (pc' := 442) (by decide) dX12_init_441 rfl ?_
  refine wg_sipush (pc' := 445) (by decide) (by decide) dX12_init_442 rfl ?_
  refine wg_iast (pc' := 446) (tk kd_183 (by decide)) (by decide) (by decide) dX12_init_445 rfl ?_
  refine wg_dup (pc' := 447) dX12_init_446 rfl ?_
  refine wg_iconst (pc' := 448) (by decide) dX12_init_447 rfl ?_
  refine wg_bipush (pc' := 450) (by decide) (by decide) dX12_init_448 rfl ?_
  refine wg_iast (pc' := 451) (tk kd_183 (by decide)) (by decide) (by decide) dX12_init_450 rfl ?_
  refine wg_dup (pc' := 452) dX12_init_451 rfl ?_
  refine wg_iconst (pc' := 453) (by decide) dX12_init_452 rfl ?_
  refine wg_iconst (pc' := 454) (by decide) dX12_init_453 rfl ?_
  refine wg_iast (pc' := 455) (tk kd_183 (by decide)) (by decide) (by decide) dX12_init_454 rfl ?_
  refine wg_putR (pc' := 458) fp_X12_169 (fun _ => rfl) rfl (tk kd_133 (by decide)) dX12_init_455 rfl ?_
  refine wg_aload_n (pc' := 459) (i := 0) (by rfl) (by rfl) dX12_init_458 rfl ?_
  refine wg_iconst (pc' := 460) (by decide) dX12_init_459 rfl ?_
  refine t_newarray (mc := 23) (ms := 14353) (N := 5) (tc := 0) (ty := .int) (pc' := 462) (n' := 185) kd_184 (by decide) (by decide) ac_I dX12_init_460 rfl rfl ⟨rfl, rfl⟩ ?_
  refine wg_dup (pc' := 463) dX12_init_462 rfl ?_
  refine wg_iconst (pc' := 464) (by decide) dX12_init_463 rfl ?_
  refine wg_iconst (pc' := 465) (by decide) dX12_init_464 rfl ?_
  refine wg_iast (pc' := 466) (tk kd_184 (by decide)) (by decide) (by decide) dX12_init_465 rfl ?_
  refine wg_dup (pc' := 467) dX12_init_466 rfl ?_
  refine wg_iconst (pc' := 468) (by decide) dX12_init_467 rfl ?_
  refine wg_iconst (pc' := 469) (by decide) dX12_init_468 rfl ?_
  refine wg_iast (pc' := 470) (tk kd_184 (by decide)) (by decide) (by decide) dX12_init_469 rfl ?_
  refine wg_dup (pc' := 471) dX12_init_470 rfl ?_
  refine wg_iconst (pc' := 472) (by decide) dX12_init_471 rfl ?_
  refine wg_iconst (pc' := 473) (by decide) dX12_init_472 rfl ?_
  refine wg_iast (pc' := 474) (tk kd_184 (by decide)) (by decide) (by decide) dX12_init_473 rfl ?_
  refine wg_dup (pc' := 475) dX12_init_474 rfl ?_
  refine wg_iconst (pc' := 476) (by decide) dX12_init_475 rfl ?_
  refine wg_iconst (pc' := 477) (by decide) dX12_init_476 rfl ?_
  refine wg_iast (pc' := 478) (tk kd_184 (by decide)) (by decide) (by decide) dX12_init_477 rfl ?_
  refine wg_dup (pc' := 479) dX12_init_478 rfl ?_
  refine wg_iconst (pc' := 480) (by decide) dX12_init_479 rfl ?_
  refine wg_iconst (pc' := 481) (by decide) dX12_init_480 rfl ?_
  refine wg_iast (pc' := 482) (tk kd_184 (by decide)) (by decide) (by decide) dX12_init_481 rfl ?_
  refine wg_putR (pc' := 485) fp_X12_172 (fun _ => rfl) rfl (tk kd_133 (by decide)) dX12_init_482 rfl ?_
  refine wg_aload_n (pc' := 486) (i := 0) (by rfl) (by rfl) dX12_init_485 rfl ?_
  refine wg_iconst (pc' := 487) (by decide) dX12_init_486 rfl ?_
  refine t_newarray (mc := 22) (ms := 14348) (N := 5) (tc := 0) (ty := .int) (pc' := 489) (n' := 186) kd_185 (by decide) (by decide) ac_I dX12_init_487 rfl rfl ⟨rfl, rfl⟩ ?_
  refine wg_dup (pc' := 490) dX12_init_489 rfl ?_
  refine wg_iconst (pc' := 491) (by decide) dX12_init_490 rfl ?_
  refine wg_iconst (pc' := 492) (by decide) dX12_init_491 rfl ?_
  refine wg_iast (pc' := 493) (tk kd_185 (by decide)) (by decide) (by decide) dX12_init_492 rfl ?_
  refine wg_dup (pc' := 494) dX12_init_493 rfl ?_
  refine wg_iconst (pc' := 495) (by decide) dX12_init_494 rfl ?_
  refine wg_sipush (pc' := 498) (by decide) (by decide) dX12_init_495 rfl ?_
  refine wg_iast (pc' := 499) (tk kd_185 (by decide)) (by decide) (by decide) dX12_init_498 rfl ?_
  refine wg_dup (pc' := 500) dX12_init_499 rfl ?_
  refine wg_iconst (pc' := 501) (by decide) dX12_init_500 rfl ?_
  refine wg_sipush (pc' := 504) (by decide) (by decide) dX12_init_501 rfl ?_
  refine wg_iast (pc' := 505) (tk kd_185 (by decide)) (by decide) (by decide) dX12_init_504 rfl ?_
  refine wg_dup (pc' := 506) dX12_init_505 rfl ?_
  refine wg_iconst (pc' := 507) (by decide) dX12_init_506 rfl ?_
  refine wg_sipush (pc' := 510) (by decide) (by decide) dX12_init_507 rfl ?_
  refine wg_iast (pc' := 511) (tk kd_185 (by decide)) (by decide) (by decide) dX12_init_510 rfl ?_
  refine wg_dup (pc' := 512) dX12_init_511 rfl ?_
  refine wg_iconst (pc' := 513) (by decide) dX12_init_512 rfl ?_
  refine wg_bipush (pc' := 515) (by decide) (by decide) dX12_init_513 rfl ?_
  refine wg_iast (pc' := 516) (tk kd_185 (by decide)) (by decide) (by decide) dX12_init_515 rfl ?_
  refine wg_putR (pc' := 519) fp_X12_175 (fun _ => rfl) rfl (tk kd_133 (by decide)) dX12_init_516 rfl ?_
  refine wg_aload_n (pc' := 520) (i := 0) (by rfl) (by rfl) dX12_init_519 rfl ?_
  refine wg_sipush (pc' := 523) (by decide) (by decide) dX12_init_520 rfl ?_
  refine t_newarray (mc := 21) (ms := 14208) (N := 140) (tc := 0) (ty := .int) (pc' := 525) (n' := 187) kd_186 (by decide) (by decide) ac_I dX12_init_523 rfl rfl ⟨rfl, rfl⟩ ?_
  refine wg_putR (pc' := 528) fp_X12_178 (fun _ => rfl) rfl (tk kd_133 (by decide)) dX12_init_525 rfl ?_
  refine wg_aload_n (pc' := 529) (i := 0) (by rfl) (by rfl) dX12_init_528 rfl ?_
  refine wg_bipush (pc' := 531) (by decide) (by decide) dX12_init_529 rfl ?_
  refine t_newarray (mc := 20) (ms := 14194) (N := 14) (tc := 0) (ty := .int) (pc' := 533) (n' := 188) kd_187 (by decide) (by decide) ac_I dX12_init_531 rfl rfl ⟨rfl, rfl⟩ ?_
  refine wg_putR (pc' := 536) fp_X12_181 (fun _ => rfl) rfl (tk kd_133 (by decide)) dX12_init_533 rfl ?_
  refine wg_aload_n (pc' := 537) (i := 0) (by rfl) (by rfl) dX12_init_536 rfl ?_
  refine wg_sipush (pc' := 540) (by decide) (by decide) dX12_init_537 rfl ?_
  refine t_newarray (mc := 19) (ms := 14054) (N := 140) (tc := 2) (ty := .boolean) (pc' := 542) (n' := 189) kd_188 (by decide) (by decide) ac_Z dX12_init_540 rfl rfl ⟨rfl, rfl⟩ ?_
  refine wg_putR (pc' := 545) fp_X12_184 (fun _ => rfl) rfl (tk kd_133 (by decide)) dX12_init_542 rfl ?_
  refine wg_aload_n (pc' := 546) (i := 0) (by rfl) (by rfl) dX12_init_545 rfl ?_
  refine wg_bipush (pc' := 548) (by decide) (by decide) dX12_init_546 rfl ?_
  refine t_newarray (mc := 18) (ms := 14042) (N := 12) (tc := 0) (ty := .int) (pc' := 550) (n' := 190) kd_189 (by decide) (by decide) ac_I dX12_init_548 rfl rfl ⟨rfl, rfl⟩ ?_
  refine wg_putR (pc' := 553) fp_X12_187 (fun _ => rfl) rfl (tk kd_133 (by decide)) dX12_init_550 rfl ?_
  refine wg_aload_n (pc' := 554) (i := 0) (by rfl) (by rfl) dX12_init_553 rfl ?_
  refine wg_bipush (pc' := 556) (by decide) (by decide) dX12_init_554 rfl ?_
  refine t_newarray (mc := 17) (ms := 13982) (N := 60) (tc := 0) (ty := .int) (pc' := 558) (n' := 191) kd_190 (by decide) (by decide) ac_I dX12_init_556 rfl rfl ⟨rfl, rfl⟩ ?_
  refine wg_putR (pc' := 561) fp_X12_190 (fun _ => rfl) rfl (tk kd_133 (by decide)) dX12_init_558 rfl ?_
  refine wg_aload_n (pc' := 562) (i := 0) (by rfl) (by rfl) dX12_init_561 rfl ?_
  refine wg_bipush (pc' := 564) (by decide) (by decide) dX12_init_562 rfl ?_
  refine t_newarray (mc := 16) (ms := 13922) (N := 60) (tc := 0) (ty := .int) (pc' := 566) (n' := 192) kd_191 (by decide) (by decide) ac_I dX12_init_564 rfl rfl ⟨rfl, rfl⟩ ?_
  refine wg_putR (pc' := 569) fp_X12_193 (fun _ => rfl) rfl (tk kd_133 (by decide)) dX12_init_566 rfl ?_
  refine wg_aload_n (pc' := 570) (i := 0) (by rfl) (by rfl) dX12_init_569 rfl ?_
  refine wg_bipush (pc' := 572) (by decide) (by decide) dX12_init_570 rfl ?_
  refine t_newarray (mc := 15) (ms := 13822) (N := 100) (tc := 0) (ty := .int) (pc' := 574) (n' := 193) kd_192 (by decide) (by decide) ac_I dX12_init_572 rfl rfl ⟨rfl, rfl⟩ ?_
  refine wg_putR (pc' := 577) fp_X12_196 (fun _ => rfl) rfl (tk kd_133 (by decide)) dX12_init_574 rfl ?_
  refine wg_aload_n (pc' := 578) (i := 0) (by rfl) (by rfl) dX12_init_577 rfl ?_
  refine wg_bipush (pc' := 580) (by decide) (by decide) dX12_init_578 rfl ?_
  refine t_newarray (mc := 14) (ms := 13722) (N := 100) (tc := 0) (ty := .int) (pc' := 582) (n' := 194) kd_193 (by decide) (by decide) ac_I dX12_init_580 rfl rfl ⟨rfl, rfl⟩ ?_
  refine wg_putR (pc' := 585) fp_X12_199 (fun _ => rfl) rfl (tk kd_133 (by decide)) dX12_init_582 rfl ?_
  refine wg_aload_n (pc' := 586) (i := 0) (by rfl) (by rfl) dX12_init_585 rfl ?_
  refine wg_bipush (pc' := 588) (by decide) (by decide) dX12_init_586 rfl ?_
  refine t_newarray (mc := 13) (ms := 13622) (N := 100) (tc := 0) (ty := .int) (pc' := 590) (n' := 195) kd_194 (by decide) (by decide) ac_I dX12_init_588 rfl rfl ⟨rfl, rfl⟩ ?_
  refine wg_putR (pc' := 593) fp_X12_202 (fun _ => rfl) rfl (tk kd_133 (by decide)) dX12_init_590 rfl ?_
  refine wg_aload_n (pc' := 594) (i := 0) (by rfl) (by rfl) dX12_init_593 rfl ?_
  refine wg_bipush (pc' := 596) (by decide) (by decide) dX12_init_594 rfl ?_
  refine t_newarray (mc := 12) (ms := 13522) (N := 100) (tc := 0) (ty := .int) (pc' := 598) (n' := 196) kd_195 (by decide) (by decide) ac_I dX12_init_596 rfl rfl ⟨rfl, rfl⟩ ?_
  refine wg_putR (pc' := 601) fp_X12_205 (fun _ => rfl) rfl (tk kd_133 (by decide)) dX12_init_598 rfl ?_
  refine wg_aload_n (pc' := 602) (i := 0) (by rfl) (by rfl) dX12_init_601 rfl ?_
  refine wg_bipush (pc' := 604) (by decide) (by decide) dX12_init_602 rfl ?_
  refine t_newarray (mc := 11) (ms := 13422) (N := 100) (tc := 1) (ty := .long) (pc' := 606) (n' := 197) kd_196 (by decide) (by decide) ac_J dX12_init_604 rfl rfl ⟨rfl, rfl⟩ ?_
  refine wg_putR (pc' := 609) fp_X12_208 (fun _ => rfl) rfl (tk kd_133 (by decide)) dX12_init_606 rfl ?_
  refine wg_aload_n (pc' := 610) (i := 0) (by rfl) (by rfl) dX12_init_609 rfl ?_
  refine wg_sipush (pc' := 613) (by decide) (by decide) dX12_init_610 rfl ?_
  refine t_newarray (mc := 10) (ms := 1422) (N := 12000) (tc := 2) (ty := .boolean) (pc' := 615) (n' := 198) kd_197 (by decide) (by decide) ac_Z dX12_init_613 rfl rfl ⟨rfl, rfl⟩ ?_
  refine wg_putR (pc' := 618) fp_X12_211 (fun _ => rfl) rfl (tk kd_133 (by decide)) dX12_init_615 rfl ?_
  refine wg_aload_n (pc' := 619) (i := 0) (by rfl) (by rfl) dX12_init_618 rfl ?_
  refine wg_bipush (pc' := 621) (by decide) (by decide) dX12_init_619 rfl ?_
  refine t_newarray (mc := 9) (ms := 1302) (N := 120) (tc := 2) (ty := .boolean) (pc' := 623) (n' := 199) kd_198 (by decide) (by decide) ac_Z dX12_init_621 rfl rfl ⟨rfl, rfl⟩ ?_
  refine wg_putR (pc' := 626) fp_X12_214 (fun _ => rfl) rfl (tk kd_133 (by decide)) dX12_init_623 rfl ?_
  refine wg_aload_n (pc' := 627) (i := 0) (by rfl) (by rfl) dX12_init_626 rfl ?_
  refine wg_bipush (pc' := 629) (by decide) (by decide) dX12_init_627 rfl ?_
  refine t_newarray (mc := 8) (ms := 1202) (N := 100) (tc := 0) (ty := .int) (pc' := 631) (n' := 200) kd_199 (by decide) (by decide) ac_I dX12_init_629 rfl rfl ⟨rfl, rfl⟩ ?_
  refine wg_putR (pc' := 634) fp_X12_217 (fun _ => rfl) rfl (tk kd_133 (by decide)) dX12_init_631 rfl ?_
  refine wg_aload_n (pc' := 635) (i := 0) (by rfl) (by rfl) dX12_init_634 rfl ?_
  refine wg_bipush (pc' := 637) (by decide) (by decide) dX12_init_635 rfl ?_
  refine t_newarray (mc := 7) (ms := 1082) (N := 120) (tc := 0) (ty := .int) (pc' := 639) (n' := 201) kd_200 (by decide) (by decide) ac_I dX12_init_637 rfl rfl ⟨rfl, rfl⟩ ?_
  refine wg_putR (pc' := 642) fp_X12_220 (fun _ => rfl) rfl (tk kd_133 (by decide)) dX12_init_639 rfl ?_
  refine wg_aload_n (pc' := 643) (i := 0) (by rfl) (by rfl) dX12_init_642 rfl ?_
  refine wg_bipush (pc' := 645) (by decide) (by decide) dX12_init_643 rfl ?_
  refine t_newarray (mc := 6) (ms := 962) (N := 120) (tc := 0) (ty := .int) (pc' := 647) (n' := 202) kd_201 (by decide) (by decide) ac_I dX12_init_645 rfl rfl ⟨rfl, rfl⟩ ?_
  refine wg_putR (pc' := 650) fp_X12_223 (fun _ => rfl) rfl (tk kd_133 (by decide)) dX12_init_647 rfl ?_
  refine wg_aload_n (pc' := 651) (i := 0) (by rfl) (by rfl) dX12_init_650 rfl ?_
  refine wg_bipush (pc' := 653) (by decide) (by decide) dX12_init_651 rfl ?_
  refine t_newarray (mc := 5) (ms := 862) (N := 100) (tc := 0) (ty := .int) (pc' := 655) (n' := 203) kd_202 (by decide) (by decide) ac_I dX12_init_653 rfl rfl ⟨rfl, rfl⟩ ?_
  refine wg_putR (pc' := 658) fp_X12_226 (fun _ => rfl) rfl (tk kd_133 (by decide)) dX12_init_655 rfl ?_
  refine wg_aload_n (pc' := 659) (i := 0) (by rfl) (by rfl) dX12_init_658 rfl ?_
  refine wg_sipush (pc' := 662) (by decide) (by decide) dX12_init_659 rfl ?_
  refine t_newarray (mc := 4) (ms := 662) (N := 200) (tc := 0) (ty := .int) (pc' := 664) (n' := 204) kd_203 (by decide) (by decide) ac_I dX12_init_662 rfl rfl ⟨rfl, rfl⟩ ?_
  refine wg_putR (pc' := 667) fp_X12_229 (fun _ => rfl) rfl (tk kd_133 (by decide)) dX12_init_664 rfl ?_
  refine wg_aload_n (pc' := 668) (i := 0) (by rfl) (by rfl) dX12_init_667 rfl ?_
  refine wg_sipush (pc' := 671) (by decide) (by decide) dX12_init_668 rfl ?_
  refine t_newarray (mc := 3) (ms := 462) (N := 200) (tc := 0) (ty := .int) (pc' := 673) (n' := 205) kd_204 (by decide) (by decide) ac_I dX12_init_671 rfl rfl ⟨rfl, rfl⟩ ?_
  refine wg_putR (pc' := 676) fp_X12_232 (fun _ => rfl) rfl (tk kd_133 (by decide)) dX12_init_673 rfl ?_
  refine wg_aload_n (pc' := 677) (i := 0) (by rfl) (by rfl) dX12_init_676 rfl ?_
  refine wg_sipush (pc' := 680) (by decide) (by decide) dX12_init_677 rfl ?_
  refine t_newarray (mc := 2) (ms := 262) (N := 200) (tc := 0) (ty := .int) (pc' := 682) (n' := 206) kd_205 (by decide) (by decide) ac_I dX12_init_680 rfl rfl ⟨rfl, rfl⟩ ?_
  refine wg_putR (pc' := 685) fp_X12_235 (fun _ => rfl) rfl (tk kd_133 (by decide)) dX12_init_682 rfl ?_
  refine wg_aload_n (pc' := 686) (i := 0) (by rfl) (by rfl) dX12_init_685 rfl ?_
  refine wg_sipush (pc' := 689) (by decide) (by decide) dX12_init_686 rfl ?_
  refine t_newarray (mc := 1) (ms := 62) (N := 200) (tc := 2) (ty := .boolean) (pc' := 691) (n' := 207) kd_206 (by decide) (by decide) ac_Z dX12_init_689 rfl rfl ⟨rfl, rfl⟩ ?_
  refine wg_putR (pc' := 694) fp_X12_238 (fun _ => rfl) rfl (tk kd_133 (by decide)) dX12_init_691 rfl ?_
  refine wg_aload_n (pc' := 695) (i := 0) (by rfl) (by rfl) dX12_init_694 rfl ?_
  refine wg_bipush (pc' := 697) (by decide) (by decide) dX12_init_695 rfl ?_
  refine t_newarray (mc := 0) (ms := 0) (N := 62) (tc := 1) (ty := .long) (pc' := 699) (n' := 208) kd_207 (by decide) (by decide) ac_J dX12_init_697 rfl rfl ⟨rfl, rfl⟩ ?_
  refine wg_putR (pc' := 702) fp_X12_241 (fun _ => rfl) rfl (tk kd_133 (by decide)) dX12_init_699 rfl ?_
  exact wg_return rfl dX12_init_702 ⟨rfl, rfl, rfl⟩
