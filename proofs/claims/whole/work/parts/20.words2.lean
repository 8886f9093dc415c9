/-! what the constructors need of the tables (written by wip/whole/gen/gen_words.py) -/
theorem nw_X0 : gNw 0 := ⟨(RX0, TX0, 8), tyX0, rfl, inG_X0, tyX0_ok, by decide +kernel, gG_1 146 (by decide +kernel) (by decide +kernel), gG_1 5 (by decide +kernel) (by decide +kernel)⟩
theorem nc_X0 : ∀ r, vwCl[0]? = some r → r.1 = RX0 ∧ r.2.2 = 8 := fun r h => by cases h; exact ⟨rfl, rfl⟩
theorem nf_X0 : ∀ j, gFt 0 j ≤ 3 := fun j => by show gTy (TX0 j).2.2.1 ≤ 3; unfold gTy; (repeat' split) <;> decide
theorem nw_X1 : gNw 1 := ⟨(RX1, TX1, 11), tyX1, rfl, inG_X1, tyX1_ok, by decide +kernel, gG_2 235 (by decide +kernel) (by decide +kernel), gG_1 12 (by decide +kernel) (by decide +kernel)⟩
theorem nc_X1 : ∀ r, vwCl[1]? = some r → r.1 = RX1 ∧ r.2.2 = 11 := fun r h => by cases h; exact ⟨rfl, rfl⟩
theorem nf_X1 : ∀ j, gFt 1 j ≤ 3 := fun j => by show gTy (TX1 j).2.2.1 ≤ 3; unfold gTy; (repeat' split) <;> decide
theorem nw_X2 : gNw 2 := ⟨(RX2, TX2, 17), tyX2, rfl, inG_X2, tyX2_ok, by decide +kernel, gG_1 179 (by decide +kernel) (by decide +kernel), gG_1 6 (by decide +kernel) (by decide +kernel)⟩
theorem nc_X2 : ∀ r, vwCl[2]? = some r → r.1 = RX2 ∧ r.2.2 = 17 := fun r h => by cases h; exact ⟨rfl, rfl⟩
theorem nf_X2 : ∀ j, gFt 2 j ≤ 3 := fun j => by show gTy (TX2 j).2.2.1 ≤ 3; unfold gTy; (repeat' split) <;> decide
theorem nw_X3 : gNw 3 := ⟨(RX3, TX3, 9), tyX3, rfl, inG_X3, tyX3_ok, by decide +kernel, gG_2 143 (by decide +kernel) (by decide +kernel), gG_1 10 (by decide +kernel) (by decide +kernel)⟩
theorem nc_X3 : ∀ r, vwCl[3]? = some r → r.1 = RX3 ∧ r.2.2 = 9 := fun r h => by cases h; exact ⟨rfl, rfl⟩
theorem nf_X3 : ∀ j, gFt 3 j ≤ 3 := fun j => by show gTy (TX3 j).2.2.1 ≤ 3; unfold gTy; (repeat' split) <;> decide
theorem nw_X4 : gNw 4 := ⟨(RX4, TX4, 16), tyX4, rfl, inG_X4, tyX4_ok, by decide +kernel, gG_2 5 (by decide +kernel) (by decide +kernel), gG_1 8 (by decide +kernel) (by decide +kernel)⟩
theorem nc_X4 : ∀ r, vwCl[4]? = some r → r.1 = RX4 ∧ r.2.2 = 16 := fun r h => by cases h; exact ⟨rfl, rfl⟩
theorem nf_X4 : ∀ j, gFt 4 j ≤ 3 := fun j => by show gTy (TX4 j).2.2.1 ≤ 3; unfold gTy; (repeat' split) <;> decide
theorem nw_X5 : gNw 5 := ⟨(RX5, TX5, 18), tyX5, rfl, inG_X5, tyX5_ok, by decide +kernel, gG_1 238 (by decide +kernel) (by decide +kernel), gG_1 7 (by decide +kernel) (by decide +kernel)⟩
theorem nc_X5 : ∀ r, vwCl[5]? = some r → r.1 = RX5 ∧ r.2.2 = 18 := fun r h => by cases h; exact ⟨rfl, rfl⟩
theorem nf_X5 : ∀ j, gFt 5 j ≤ 3 := fun j => by show gTy (TX5 j).2.2.1 ≤ 3; unfold gTy; (repeat' split) <;> decide
theorem nw_X6 : gNw 6 := ⟨(RX6, TX6, 17), tyX6, rfl, inG_X6, tyX6_ok, by decide +kernel, gG_2 177 (by decide +kernel) (by decide +kernel), gG_1 11 (by decide +kernel) (by decide +kernel)⟩
theorem nc_X6 : ∀ r, vwCl[6]? = some r → r.1 = RX6 ∧ r.2.2 = 17 := fun r h => by cases h; exact ⟨rfl, rfl⟩
theorem nf_X6 : ∀ j, gFt 6 j ≤ 3 := fun j => by show gTy (TX6 j).2.2.1 ≤ 3; unfold gTy; (repeat' split) <;> decide
theorem nw_X7 : gNw 7 := ⟨(RX7, TX7, 13), tyX7, rfl, inG_X7, tyX7_ok, by decide +kernel, gG_1 98 (by decide +kernel) (by decide +kernel), gG_1 4 (by decide +kernel) (by decide +kernel)⟩
theorem nc_X7 : ∀ r, vwCl[7]? = some r → r.1 = RX7 ∧ r.2.2 = 13 := fun r h => by cases h; exact ⟨rfl, rfl⟩
theorem nf_X7 : ∀ j, gFt 7 j ≤ 3 := fun j => by show gTy (TX7 j).2.2.1 ≤ 3; unfold gTy; (repeat' split) <;> decide
theorem nw_X8 : gNw 8 := ⟨(RX8, TX8, 9), tyX8, rfl, inG_X8, tyX8_ok, by decide +kernel, gG_1 34 (by decide +kernel) (by decide +kernel), gG_1 2 (by decide +kernel) (by decide +kernel)⟩
theorem nc_X8 : ∀ r, vwCl[8]? = some r → r.1 = RX8 ∧ r.2.2 = 9 := fun r h => by cases h; exact ⟨rfl, rfl⟩
theorem nf_X8 : ∀ j, gFt 8 j ≤ 3 := fun j => by show gTy (TX8 j).2.2.1 ≤ 3; unfold gTy; (repeat' split) <;> decide
theorem nw_X9 : gNw 9 := ⟨(RX9, TX9, 7), tyX9, rfl, inG_X9, tyX9_ok, by decide +kernel, gG_1 40 (by decide +kernel) (by decide +kernel), gG_1 3 (by decide +kernel) (by decide +kernel)⟩
theorem nc_X9 : ∀ r, vwCl[9]? = some r → r.1 = RX9 ∧ r.2.2 = 7 := fun r h => by cases h; exact ⟨rfl, rfl⟩
theorem nf_X9 : ∀ j, gFt 9 j ≤ 3 := fun j => by show gTy (TX9 j).2.2.1 ≤ 3; unfold gTy; (repeat' split) <;> decide
theorem nw_X10 : gNw 10 := ⟨(RX10, TX10, 7), tyX10, rfl, inG_X10, tyX10_ok, by decide +kernel, gG_2 60 (by decide +kernel) (by decide +kernel), gG_1 9 (by decide +kernel) (by decide +kernel)⟩
theorem nc_X10 : ∀ r, vwCl[10]? = some r → r.1 = RX10 ∧ r.2.2 = 7 := fun r h => by cases h; exact ⟨rfl, rfl⟩
theorem nf_X10 : ∀ j, gFt 10 j ≤ 3 := fun j => by show gTy (TX10 j).2.2.1 ≤ 3; unfold gTy; (repeat' split) <;> decide
theorem nw_X11 : gNw 11 := ⟨(RX11, TX11, 14), tyX11, rfl, inG_X11, tyX11_ok, by decide +kernel, gG_1 26 (by decide +kernel) (by decide +kernel), gG_1 1 (by decide +kernel) (by decide +kernel)⟩
theorem nc_X11 : ∀ r, vwCl[11]? = some r → r.1 = RX11 ∧ r.2.2 = 14 := fun r h => by cases h; exact ⟨rfl, rfl⟩
theorem nf_X11 : ∀ j, gFt 11 j ≤ 3 := fun j => by show gTy (TX11 j).2.2.1 ≤ 3; unfold gTy; (repeat' split) <;> decide
theorem nw_X12 : gNw 12 := ⟨(RX12, TX12, 116), tyX12, rfl, inG_X12, tyX12_ok, by decide +kernel, gG_7 99 (by decide +kernel) (by decide +kernel), gG_1 13 (by decide +kernel) (by decide +kernel)⟩
theorem nc_X12 : ∀ r, vwCl[12]? = some r → r.1 = RX12 ∧ r.2.2 = 116 := fun r h => by cases h; exact ⟨rfl, rfl⟩
theorem nf_X12 : ∀ j, gFt 12 j ≤ 3 := fun j => by show gTy (TX12 j).2.2.1 ≤ 3; unfold gTy; (repeat' split) <;> decide
theorem lo_X11_1 : Cond.methodLink RX11 1 Lib.objectInit ∈ gG := gG_1 30 (by decide +kernel) (by decide +kernel)
theorem ln_X11_20 : Cond.methodLinkNest RX11 20 yX8_init "GiftRegister" ∈ tables_1 := (List.mem_append_left _ (List.mem_of_getElem? (i := 35) (by decide +kernel)))
theorem lo_X8_3 : Cond.methodLink RX8 3 Lib.objectInit ∈ gG := gG_1 38 (by decide +kernel) (by decide +kernel)
theorem lo_X9_3 : Cond.methodLink RX9 3 Lib.objectInit ∈ gG := gG_1 44 (by decide +kernel) (by decide +kernel)
theorem ln_X11_27 : Cond.methodLinkNest RX11 27 yX7_init "GiftRegister" ∈ tables_1 := (List.mem_append_left _ (List.mem_of_getElem? (i := 99) (by decide +kernel)))
theorem lo_X7_3 : Cond.methodLink RX7 3 Lib.objectInit ∈ gG := gG_1 102 (by decide +kernel) (by decide +kernel)
theorem lo_X0_3 : Cond.methodLink RX0 3 Lib.objectInit ∈ gG := gG_1 150 (by decide +kernel) (by decide +kernel)
theorem ln_X11_50 : Cond.methodLinkNest RX11 50 yX2_init "GiftRegister" ∈ tables_1 := (List.mem_append_left _ (List.mem_of_getElem? (i := 180) (by decide +kernel)))
theorem lo_X2_3 : Cond.methodLink RX2 3 Lib.objectInit ∈ gG := gG_1 183 (by decide +kernel) (by decide +kernel)
theorem lo_X5_3 : Cond.methodLink RX5 3 Lib.objectInit ∈ gG := gG_2 2 (by decide +kernel) (by decide +kernel)
theorem ln_X5_17 : Cond.methodLinkNest RX5 17 yX4_init "GiftRegister" ∈ tables_1 := (List.mem_append_right _ (List.mem_append_left _ (List.mem_of_getElem? (i := 6) (by decide +kernel))))
theorem lo_X4_3 : Cond.methodLink RX4 3 Lib.objectInit ∈ gG := gG_2 9 (by decide +kernel) (by decide +kernel)
theorem ln_X5_24 : Cond.methodLinkNest RX5 24 yX10_init "GiftRegister" ∈ tables_1 := (List.mem_append_right _ (List.mem_append_left _ (List.mem_of_getElem? (i := 61) (by decide +kernel))))
theorem lo_X10_3 : Cond.methodLink RX10 3 Lib.objectInit ∈ gG := gG_2 64 (by decide +kernel) (by decide +kernel)
theorem lo_X3_3 : Cond.methodLink RX3 3 Lib.objectInit ∈ gG := gG_2 147 (by decide +kernel) (by decide +kernel)
theorem lo_X6_3 : Cond.methodLink RX6 3 Lib.objectInit ∈ gG := gG_2 181 (by decide +kernel) (by decide +kernel)
theorem lo_X1_3 : Cond.methodLink RX1 3 Lib.objectInit ∈ gG := gG_2 239 (by decide +kernel) (by decide +kernel)
theorem ln_X5_51 : Cond.methodLinkNest RX5 51 yX11_isDay "GiftRegister" ∈ tables_1 := (List.mem_append_right _ (List.mem_append_right _ (List.mem_append_right _ (List.mem_append_left _ (List.mem_of_getElem? (i := 3) (by decide +kernel))))))
theorem lo_X12_1 : Cond.methodLink RX12 1 Lib.objectInit ∈ gG := gG_7 103 (by decide +kernel) (by decide +kernel)
theorem oi_in : Cond.instanceMethod Lib.objectInit ∈ gG := gG_1 31 (by decide +kernel) (by decide +kernel)
theorem oi_code : Cond.code Lib.objectInit ⟨#[0xb1]⟩ 1 none ∈ gG := gG_1 32 (by decide +kernel) (by decide +kernel)
theorem lac_X6_141 : Cond.methodLink RX6 141 arraycopyName ∈ gG := gG_6 74 (by decide +kernel) (by decide +kernel)
theorem ac_st : Cond.static arraycopyName ∈ gG := gG_6 75 (by decide +kernel) (by decide +kernel)
theorem ac_na : Cond.native arraycopyName ∈ gG := gG_6 76 (by decide +kernel) (by decide +kernel)
theorem ac_in : Cond.initialized "java/lang/System" ∈ gG := gG_1 24 (by decide +kernel) (by decide +kernel)
theorem ex_in : Cond.initialized gEx ∈ gG := gG_1 23 (by decide +kernel) (by decide +kernel)
theorem fl_J0_38 : Cond.fieldLink "java/lang/String" 38 "java/lang/String" "COMPACT_STRINGS" "Z" ∈ gG := gG_4 58 (by decide +kernel) (by decide +kernel)
theorem fl_J0_1053 : Cond.fieldLink "java/lang/String" 1053 "jdk/internal/util/Preconditions" "SIOOBE_FORMATTER" "Ljava/util/function/BiFunction;" ∈ gG := gG_4 74 (by decide +kernel) (by decide +kernel)
theorem fl_J0_9 : Cond.fieldLink "java/lang/String" 9 "java/lang/String" "value" "[B" ∈ gG := gG_10 152 (by decide +kernel) (by decide +kernel)
theorem fl_J0_15 : Cond.fieldLink "java/lang/String" 15 "java/lang/String" "coder" "B" ∈ gG := gG_10 153 (by decide +kernel) (by decide +kernel)
theorem pn_J0 : plainName RJ0 = true ∧ RJ0 ≠ "GiftRegisterLaw" := by decide +kernel
theorem pn_J1 : plainName RJ1 = true ∧ RJ1 ≠ "GiftRegisterLaw" := by decide +kernel
theorem pn_J3 : plainName RJ3 = true ∧ RJ3 ≠ "GiftRegisterLaw" := by decide +kernel
theorem pn_J7 : plainName RJ7 = true ∧ RJ7 ≠ "GiftRegisterLaw" := by decide +kernel
