/-! the text of the words: String.length and String.charAt -/
def gEq (v : gV) (L : List gK) (σ : gH) : gV → List gK → gH → Prop := fun v' L' σ' => v' = v ∧ L' = L ∧ σ' = σ
theorem gEq_no {n : Int} {L0 : List gK} {σ0 : gH} : ∀ k L σ, ¬ gEq (gI n) L0 σ0 (gX (k + 9)) L σ := fun k L σ h => by cases h.1
theorem gEq_noX {L0 : List gK} {σ0 : gH} : ∀ k L σ, ¬ gEq (gX 1) L0 σ0 (gX (k + 9)) L σ := fun k L σ h => by cases h.1
theorem gBwords : ∀ i, i < 135 → (gWordB.getD i 0).toInt = (gWordB.getD i 0).toInt ∧ gi32 (gWordB.getD i 0).toInt ∧ gB32 (fun a b => a &&& b) (gWordB.getD i 0).toInt 255 = (gWordB.getD i 0).toInt ∧ 0 ≤ (gWordB.getD i 0).toInt ∧ (gWordB.getD i 0).toInt < 128 := by decide +kernel
def gCh (i : Int) : Int := (gWordB.getD i.toNat 0).toInt
theorem gCh_in {i : Int} (h0 : 0 ≤ i) (h1 : i < 135) : 0 ≤ gCh i ∧ gCh i < 128 := (gBwords i.toNat (by omega)).2.2.2
section GX
variable {M : gM} {d mc ms : Nat} {Q : gV → List gK → gH → Prop} {L : List gK} {σ : gH} {pc pc' : Nat} {ls st : List gV}
theorem wg_getCS (hcls : M.1.cls = "java/lang/String") {idx : Nat} (hlink : Cond.fieldLink "java/lang/String" idx "java/lang/String" "COMPACT_STRINGS" "Z" ∈ gG) (hd : decode M.2.1 pc = .ok (.getstatic idx, 3)) (hpc : pc + 3 = pc') (k : gWp M d mc ms Q L σ pc' ls (gI 1 :: st)) : gWp M d mc ms Q L σ pc ls st := by
  subst hpc
  intro p l e R s m args below meth c D adr0 b n0 Qf C hret adr H locs cells slots lsM hI hF
  have hZ := C.2.2.2.2.2.2.2.2.2.2.1
  exact va_gets C.1 C.2.1 hZ.2.2.2.2.2.2.2.1 hI.2.2.2.1 (by rw [← hcls]; exact C.2.2.2.1) (C.2.2.2.2.1 _ hlink) (fun _ h => h) hd (k p l e R s m args below meth c D adr0 b n0 Qf C hret adr H locs cells slots lsM hI ⟨hF.1, hF.2.1, gwcI (by decide) hF.2.2⟩)
theorem wg_getSF (hcls : M.1.cls = "java/lang/String") {idx : Nat} (hlink : Cond.fieldLink "java/lang/String" idx "jdk/internal/util/Preconditions" "SIOOBE_FORMATTER" "Ljava/util/function/BiFunction;" ∈ gG) (hd : decode M.2.1 pc = .ok (.getstatic idx, 3)) (hpc : pc + 3 = pc') (k : ∀ j, j = 0 ∨ j = 5 → gWp M d mc ms Q L σ pc' ls (gX j :: st)) : gWp M d mc ms Q L σ pc ls st := by
  subst hpc
  intro p l e R s m args below meth c D adr0 b n0 Qf C hret adr H locs cells slots lsM hI hF
  have hZ := C.2.2.2.2.2.2.2.2.2.2.1
  rcases hZ.2.2.2.2.2.2.2.2 with h | h
  · exact va_gets C.1 C.2.1 h hI.2.2.2.1 (by rw [← hcls]; exact C.2.2.2.1) (C.2.2.2.2.1 _ hlink) (fun _ h => h) hd (k 0 (Or.inl rfl) p l e R s m args below meth c D adr0 b n0 Qf C hret adr H locs cells slots lsM hI ⟨hF.1, hF.2.1, gwcX hF.2.2⟩)
  · exact va_gets C.1 C.2.1 h hI.2.2.2.1 (by rw [← hcls]; exact C.2.2.2.1) (C.2.2.2.2.1 _ hlink) (fun _ h => h) hd (k 5 (Or.inr rfl) p l e R s m args below meth c D adr0 b n0 Qf C hret adr H locs cells slots lsM hI ⟨hF.1, hF.2.1, gwcX hF.2.2⟩)
theorem wg_getSV (hcls : M.1.cls = "java/lang/String") {idx : Nat} (hlink : Cond.fieldLink "java/lang/String" idx "java/lang/String" "value" "[B" ∈ gG) (hd : decode M.2.1 pc = .ok (.getfield idx, 3)) (hpc : pc + 3 = pc') (k : gWp M d mc ms Q L σ pc' ls (gX 4 :: st)) : gWp M d mc ms Q L σ pc ls (gX 3 :: st) := by
  subst hpc
  intro p l e R s m args below meth c D adr0 b n0 Qf C hret adr H locs cells slots lsM hI hF
  have hZ := C.2.2.2.2.2.2.2.2.2.2.1
  obtain ⟨cf, k9, fi, f, cell, h1, h2, h3, h4, h5, h6⟩ := ((hZ.2.2.2.2.2.2.1.1 0 (by decide)).2.2.1).kept hI.2.2.2.1.2.1
  exact W.getf C.1 C.2.1 (by rw [← hcls]; exact C.2.2.2.1) (C.2.2.2.2.1 _ hlink) h1 h2 h3 h4 (v := .ref (b 4)) h5 rfl rfl hd (k p l e R s m args below meth c D adr0 b n0 Qf C hret adr H locs cells slots lsM hI ⟨hF.1, hF.2.1, gwcX (gw1 hF.2.2)⟩)
theorem wg_getSC (hcls : M.1.cls = "java/lang/String") {idx : Nat} (hlink : Cond.fieldLink "java/lang/String" idx "java/lang/String" "coder" "B" ∈ gG) (hd : decode M.2.1 pc = .ok (.getfield idx, 3)) (hpc : pc + 3 = pc') (k : gWp M d mc ms Q L σ pc' ls (gI 0 :: st)) : gWp M d mc ms Q L σ pc ls (gX 3 :: st) := by
  subst hpc
  intro p l e R s m args below meth c D adr0 b n0 Qf C hret adr H locs cells slots lsM hI hF
  have hZ := C.2.2.2.2.2.2.2.2.2.2.1
  obtain ⟨cf, k9, fi, f, cell, h1, h2, h3, h4, h5, h6⟩ := ((hZ.2.2.2.2.2.2.1.1 0 (by decide)).2.1).kept hI.2.2.2.1.2.1
  exact W.getf C.1 C.2.1 (by rw [← hcls]; exact C.2.2.2.1) (C.2.2.2.2.1 _ hlink) h1 h2 h3 h4 (v := .int 0) h5 rfl rfl hd (k p l e R s m args below meth c D adr0 b n0 Qf C hret adr H locs cells slots lsM hI ⟨hF.1, hF.2.1, gwcI (by decide) (gw1 hF.2.2)⟩)
theorem wg_blen (hd : decode M.2.1 pc = .ok (.arraylength, 1)) (hpc : pc + 1 = pc') (k : gWp M d mc ms Q L σ pc' ls (gI 135 :: st)) : gWp M d mc ms Q L σ pc ls (gX 4 :: st) := by
  subst hpc
  intro p l e R s m args below meth c D adr0 b n0 Qf C hret adr H locs cells slots lsM hI hF
  have hZ := C.2.2.2.2.2.2.2.2.2.2.1
  exact va_tlen C.1 C.2.1 (hZ.2.2.2.2.2.2.1.1 0 (by decide)).2.2.2 hI.2.2.2.1 (v := Int32.ofInt 135) (by decide +kernel) hd (k p l e R s m args below meth c D adr0 b n0 Qf C hret adr H locs cells slots lsM hI ⟨hF.1, hF.2.1, gwcI (by decide) (gw1 hF.2.2)⟩)
theorem wg_bld {i : Int} (h0 : 0 ≤ i) (h1 : i < 135) (hd : decode M.2.1 pc = .ok (.baload, 1)) (hpc : pc + 1 = pc') (k : gWp M d mc ms Q L σ pc' ls (gI (gCh i) :: st)) : gWp M d mc ms Q L σ pc ls (gI i :: gX 4 :: st) := by
  subst hpc
  intro p l e R s m args below meth c D adr0 b n0 Qf C hret adr H locs cells slots lsM hI hF
  have hZ := C.2.2.2.2.2.2.2.2.2.2.1
  have hi : gi32 i := gw0 hF.2.2
  have hl : [gWordB.length].getD 0 0 = 135 := by decide +kernel
  refine va_tb C.1 C.2.1 (hZ.2.2.2.2.2.2.1.1 0 (by decide)).2.2.2 hI.2.2.2.1 (v := gC adr b (gI (gCh i))) (gvpin hi h0 (by rw [hl]; exact h1)) ?_ hd (k p l e R s m args below meth c D adr0 b n0 Qf C hret adr H locs cells slots lsM hI ⟨hF.1, hF.2.1, gwcI (gBwords i.toNat (by omega)).2.1 (gw1 (gw1 hF.2.2))⟩)
  rw [gnat32 hi h0]
  show Value.int _ = Value.int (Int32.ofInt (gWordB.getD i.toNat 0).toInt)
  rw [gback32]
  rfl
theorem wg_i2c {x : Int} (h0 : 0 ≤ x) (h1 : x < 128) (hd : decode M.2.1 pc = .ok (.i2c, 1)) (hpc : pc + 1 = pc') (k : gWp M d mc ms Q L σ pc' ls (gI x :: st)) : gWp M d mc ms Q L σ pc ls (gI x :: st) := by
  subst hpc
  refine gWp.stk (fun h hl => h) (fun hx hb ho ht h hl k => lv_i2c hx hb hd ?_ k) k
  have key : ∀ n : Nat, n < 128 → ((Int32.ofInt (n : Int)).toUInt32 % 65536).toInt32 = Int32.ofInt (n : Int) := by decide +kernel
  have := key x.toNat (by omega)
  rw [Int.toNat_of_nonneg h0] at this
  exact this
theorem wg_callX3 {M' : gM} {idx n d' mc' ms' : Nat} {av st0 : List gV} {Q' : gV → List gK → gH → Prop} (hm : gMi M' n) (hcls : M'.1.cls = "java/lang/String") (hlink : Cond.methodLink M.1.cls idx M'.1 ∈ gG) (hn : av.length = n) (hst : st0 = av.reverse ++ gX 3 :: st) (hcat : gCat st ≤ 8) (hdd : d' + 1 ≤ d) (hd : decode M.2.1 pc = .ok (.invokevirtual idx, 3)) (hpc : pc + 3 = pc')
    (hM : gMt M' d' mc' ms' (gX 3 :: av) L σ Q') (k : ∀ v L' σ', Q' v L' σ' → gWp M d mc ms Q L' σ' pc' ls (gPush v st)) : gWp M d (mc' + mc) (ms' + ms) Q L σ pc ls st0 := by
  subst hpc; subst hst
  intro p l e R s m args below meth c D adr0 b n0 Qf C hret adr H locs cells slots lsM hI hF
  have hws : ∀ v ∈ st, gW L.length v := fun v hv => hF.2.2 v (List.mem_append_right _ (List.mem_cons_of_mem _ hv))
  have hwa : ∀ v ∈ gX 3 :: av, gW L.length v := fun v hv => hF.2.2 v (by
    rcases List.mem_cons.mp hv with rfl | hv
    · exact List.mem_append_right _ List.mem_cons_self
    · exact List.mem_append_left _ (List.mem_reverse.mpr hv))
  have hc0 : p.tables.exec = Jvm.exec ∧ c.code = M.2.1 ∧ c.maxLocals = M.2.2.1 ∧ s.vm.findClass M.1.cls = some m.cls ∧ ∀ w ∈ gG, w.before args s = true := ⟨C.1, C.2.1, C.2.2.1, C.2.2.2.1, C.2.2.2.2.1⟩
  have hZ := C.2.2.2.2.2.2.2.2.2.2.1
  refine gcall_end k C hret hI hF.1 hF.2.1 hws (a := (gC adr b (gX 3) :: av.map (gC adr b)).toArray) ?_
  refine va_runV (b := b 3) (As := av.map (gC adr b)) (n := n) hc0 (hM l C.2.2.2.2.2.2.2.2.1 D adr b H.size) (cwV n C.2.2.2.2.1 (gGood_in fun w hw => ?_) rfl rfl rfl ⟨rfl, hm.1.2.2.1⟩ ⟨?_, ?_⟩) ⟨gPc_blind, ?_, fun U hU hW => gPc_in hI C.2.2.2.2.2.1 hZ hwa U hU hW⟩ rfl (by rw [List.length_map]; exact hn) hF.1.1 (by simp [List.map_reverse]; rfl) ?_ hd ⟨?_, ?_⟩
  · rcases List.mem_append.mp hw with hw | hw
    · simp only [List.mem_cons, List.not_mem_nil, or_false] at hw
      rcases hw with rfl | rfl | rfl | rfl
      · exact hlink
      · exact hm.2.1
      · exact hm.2.2
      · exact hm.1.1
    · exact gWords_in hm.1 w hw
  · have := C.2.2.2.2.2.2.1
    show d' + 1 ≤ R.frames
    omega
  · have := C.2.2.2.2.2.2.2.1
    have := hm.1.2.2.2
    show 8 + (M'.2.2.1 + 11) + 64 * d' ≤ R.locals
    omega
  · obtain ⟨cell, h1, h2, h3, -⟩ := ((hZ.2.2.2.2.2.2.1.1 0 (by decide)).1).kept hI.2.2.2.1.2.1
    exact ⟨cell, h1, h2, by rw [hcls]; exact h3⟩
  · rw [gCat_of]
    show 2 * 0 + gCat st ≤ 8
    omega
  · have := hI.2.2.2.2.2.2.2.1
    omega
  · have := hI.2.2.2.2.2.2.2.2
    omega
theorem wg_ldcS (hcls : M.1.cls = "GiftRegister$Tokens") (hd : decode M.2.1 pc = .ok (.ldc 69, 2)) (hpc : pc + 2 = pc') (k : gWp M d mc ms Q L σ pc' ls (gX 3 :: st)) : gWp M d mc ms Q L σ pc ls st := by
  subst hpc
  intro p l e R s m args below meth c D adr0 b n0 Qf C hret adr H locs cells slots lsM hI hF
  have hZ := C.2.2.2.2.2.2.2.2.2.2.1
  exact va_ldcS C.1 C.2.1 (by rw [← hcls]; exact C.2.2.2.1) hZ.2.2.2.2.2.1 hd (k p l e R s m args below meth c D adr0 b n0 Qf C hret adr H locs cells slots lsM hI ⟨hF.1, hF.2.1, gwcX hF.2.2⟩)
end GX
theorem k_coder (L : List gK) (σ : gH) : gMt mJ0_coder_7d493 0 0 0 [gX 3] L σ (gEq (gI 0) L σ) := by
  refine gMt.of pn_J0 rfl gEq_no (Nat.le_of_ble_eq_true rfl) ?_
  show gWp _ _ _ _ _ _ _ _ [gX 3] []
  refine wg_getCS (pc' := 3) rfl fl_J0_38 dJ0_coder_7d493_0 rfl ?_
  refine wg_if_eq (pc' := 6) (t := 13) dJ0_coder_7d493_3 rfl rfl (fun c => absurd c (by decide)) (fun _ => ?_)
  refine wg_aloadX_n (n := 3) (pc' := 7) (i := 0) (by rfl) (by decide) (by rfl) dJ0_coder_7d493_6 rfl ?_
  refine wg_getSC (pc' := 10) rfl fl_J0_15 dJ0_coder_7d493_7 rfl ?_
  refine wg_goto (pc' := 14) dJ0_coder_7d493_10 rfl ?_
  exact wg_nreturn (ty := .byte) rfl (by decide +kernel) dJ0_coder_7d493_14 ⟨rfl, rfl, rfl⟩
theorem k_isLatin1 (L : List gK) (σ : gH) : gMt mJ0_isLatin1_aae02 0 0 0 [gX 3] L σ (gEq (gI 1) L σ) := by
  refine gMt.of pn_J0 rfl gEq_no (Nat.le_of_ble_eq_true rfl) ?_
  show gWp _ _ _ _ _ _ _ _ [gX 3] []
  refine wg_getCS (pc' := 3) rfl fl_J0_38 dJ0_isLatin1_aae02_0 rfl ?_
  refine wg_if_eq (pc' := 6) (t := 17) dJ0_isLatin1_aae02_3 rfl rfl (fun c => absurd c (by decide)) (fun _ => ?_)
  refine wg_aloadX_n (n := 3) (pc' := 7) (i := 0) (by rfl) (by decide) (by rfl) dJ0_isLatin1_aae02_6 rfl ?_
  refine wg_getSC (pc' := 10) rfl fl_J0_15 dJ0_isLatin1_aae02_7 rfl ?_
  refine wg_if_ne (pc' := 13) (t := 17) dJ0_isLatin1_aae02_10 rfl rfl (fun c => absurd rfl c) (fun _ => ?_)
  refine wg_iconst (pc' := 14) (by decide) dJ0_isLatin1_aae02_13 rfl ?_
  refine wg_goto (pc' := 18) dJ0_isLatin1_aae02_14 rfl ?_
  exact wg_zreturn rfl (Or.inr rfl) dJ0_isLatin1_aae02_18 ⟨rfl, rfl, rfl⟩
theorem k_length (L : List gK) (σ : gH) : gMt mJ0_length_8abf5 1 0 0 [gX 3] L σ (gEq (gI 135) L σ) := by
  refine gMt.of pn_J0 rfl gEq_no (Nat.le_of_ble_eq_true rfl) ?_
  show gWp _ _ _ _ _ _ _ _ [gX 3] []
  refine wg_aloadX_n (n := 3) (pc' := 1) (i := 0) (by rfl) (by decide) (by rfl) dJ0_length_8abf5_0 rfl ?_
  refine wg_getSV (pc' := 4) rfl fl_J0_9 dJ0_length_8abf5_1 rfl ?_
  refine wg_blen (pc' := 5) dJ0_length_8abf5_4 rfl ?_
  refine wg_aloadX_n (n := 3) (pc' := 6) (i := 0) (by rfl) (by decide) (by rfl) dJ0_length_8abf5_5 rfl ?_
  refine wg_callX3 (mc := 0) (ms := 0) (av := []) mi_mJ0_coder_7d493 rfl lk_J0_335 rfl rfl (Nat.le_of_ble_eq_true rfl) (Nat.le_of_ble_eq_true rfl) dJ0_length_8abf5_6 (pc' := 9) rfl (k_coder _ _) fun v L' σ' h => ?_
  obtain ⟨rfl, rfl, rfl⟩ := h
  refine wg_ishr (pc' := 10) dJ0_length_8abf5_9 rfl ?_
  exact wg_ireturn rfl dJ0_length_8abf5_10 ⟨by decide +kernel, rfl, rfl⟩
theorem k_preCheck (L : List gK) (σ : gH) {i n : Int} (h0 : 0 ≤ i) (h1 : i < n) (j : Nat) : gMt mJ3_checkIndex_8e157 0 0 0 [gI i, gI n, gX j] L σ (gEq (gI i) L σ) := by
  refine gMt.of pn_J3 rfl gEq_no (Nat.le_of_ble_eq_true rfl) ?_
  show gWp _ _ _ _ _ _ _ _ [gI i, gI n, gX j] []
  refine wg_iload_n (pc' := 1) (i := 0) (by rfl) (by rfl) dJ3_checkIndex_8e157_0 rfl ?_
  refine wg_if_lt (pc' := 4) (t := 9) dJ3_checkIndex_8e157_1 rfl rfl (fun c => absurd c (by omega)) (fun _ => ?_)
  refine wg_iload_n (pc' := 5) (i := 0) (by rfl) (by rfl) dJ3_checkIndex_8e157_4 rfl ?_
  refine wg_iload_n (pc' := 6) (i := 1) (by rfl) (by rfl) dJ3_checkIndex_8e157_5 rfl ?_
  refine wg_icmp_lt (pc' := 9) (t := 16) dJ3_checkIndex_8e157_6 rfl rfl (fun _ => ?_) (fun c => absurd h1 c)
  refine wg_iload_n (pc' := 17) (i := 0) (by rfl) (by rfl) dJ3_checkIndex_8e157_16 rfl ?_
  exact wg_ireturn rfl dJ3_checkIndex_8e157_17 ⟨rfl, rfl, rfl⟩
theorem k_strCheck (L : List gK) (σ : gH) {i n : Int} (h0 : 0 ≤ i) (h1 : i < n) : gMt mJ0_checkIndex_df160 1 0 0 [gI i, gI n] L σ (gEq (gX 1) L σ) := by
  refine gMt.of pn_J0 rfl gEq_noX (Nat.le_of_ble_eq_true rfl) ?_
  show gWp _ _ _ _ _ _ _ _ [gI i, gI n] []
  refine wg_iload_n (pc' := 1) (i := 0) (by rfl) (by rfl) dJ0_checkIndex_df160_0 rfl ?_
  refine wg_iload_n (pc' := 2) (i := 1) (by rfl) (by rfl) dJ0_checkIndex_df160_1 rfl ?_
  refine wg_getSF (pc' := 5) rfl fl_J0_1053 dJ0_checkIndex_df160_2 rfl fun j hj => ?_
  refine wg_callS (mc := 0) (ms := 0) (d' := 0) (av := [gI i, gI n, gX j]) ms_mJ3_checkIndex_8e157 st_mJ3_checkIndex_8e157 lk_J0_1059 rfl rfl (Nat.le_of_ble_eq_true rfl) (Nat.le_of_ble_eq_true rfl) dJ0_checkIndex_df160_5 (pc' := 8) rfl (k_preCheck _ _ h0 h1 j) fun v L' σ' h => ?_
  obtain ⟨rfl, rfl, rfl⟩ := h
  refine wg_pop (pc' := 9) dJ0_checkIndex_df160_8 rfl ?_
  exact wg_return rfl dJ0_checkIndex_df160_9 ⟨rfl, rfl, rfl⟩
theorem k_latCharAt (L : List gK) (σ : gH) {i : Int} (h0 : 0 ≤ i) (h1 : i < 135) : gMt mJ1_charAt_3b067 2 0 0 [gX 4, gI i] L σ (gEq (gI (gCh i)) L σ) := by
  refine gMt.of pn_J1 rfl gEq_no (Nat.le_of_ble_eq_true rfl) ?_
  show gWp _ _ _ _ _ _ _ _ [gX 4, gI i] []
  refine wg_iload_n (pc' := 1) (i := 1) (by rfl) (by rfl) dJ1_charAt_3b067_0 rfl ?_
  refine wg_aloadX_n (n := 4) (pc' := 2) (i := 0) (by rfl) (by decide) (by rfl) dJ1_charAt_3b067_1 rfl ?_
  refine wg_blen (pc' := 3) dJ1_charAt_3b067_2 rfl ?_
  refine wg_callS (mc := 0) (ms := 0) (d' := 1) (av := [gI i, gI 135]) ms_mJ0_checkIndex_df160 st_mJ0_checkIndex_df160 lk_J1_9 rfl rfl (Nat.le_of_ble_eq_true rfl) (Nat.le_of_ble_eq_true rfl) dJ1_charAt_3b067_3 (pc' := 6) rfl (k_strCheck _ _ h0 h1) fun v L' σ' h => ?_
  obtain ⟨rfl, rfl, rfl⟩ := h
  refine wg_aloadX_n (n := 4) (pc' := 7) (i := 0) (by rfl) (by decide) (by rfl) dJ1_charAt_3b067_6 rfl ?_
  refine wg_iload_n (pc' := 8) (i := 1) (by rfl) (by rfl) dJ1_charAt_3b067_7 rfl ?_
  refine wg_bld (pc' := 9) h0 h1 dJ1_charAt_3b067_8 rfl ?_
  refine wg_sipush (pc' := 12) (by decide) (by decide) dJ1_charAt_3b067_9 rfl ?_
  refine wg_iand (pc' := 13) dJ1_charAt_3b067_12 rfl ?_
  have hh := gBwords i.toNat (by omega)
  have e : gB32 (fun a b => a &&& b) (gCh i) 255 = gCh i := hh.2.2.1
  rw [e]
  refine wg_i2c (pc' := 14) hh.2.2.2.1 hh.2.2.2.2 dJ1_charAt_3b067_13 rfl ?_
  refine wg_nreturn (ty := .char) rfl ?_ dJ1_charAt_3b067_14 ⟨rfl, rfl, rfl⟩
  have key : ∀ n : Nat, n < 128 → narrow .char (.int (Int32.ofInt (n : Int))) = .int (Int32.ofInt (n : Int)) := by decide +kernel
  have h2 := gCh_in h0 h1
  have := key (gCh i).toNat (by omega)
  rw [Int.toNat_of_nonneg h2.1] at this
  exact this
theorem k_charAt (L : List gK) (σ : gH) {i : Int} (h0 : 0 ≤ i) (h1 : i < 135) : gMt mJ0_charAt_5068e 3 0 0 [gX 3, gI i] L σ (gEq (gI (gCh i)) L σ) := by
  refine gMt.of pn_J0 rfl gEq_no (Nat.le_of_ble_eq_true rfl) ?_
  show gWp _ _ _ _ _ _ _ _ [gX 3, gI i] []
  refine wg_aloadX_n (n := 3) (pc' := 1) (i := 0) (by rfl) (by decide) (by rfl) dJ0_charAt_5068e_0 rfl ?_
  refine wg_callX3 (mc := 0) (ms := 0) (d' := 0) (av := []) mi_mJ0_isLatin1_aae02 rfl lk_J0_492 rfl rfl (Nat.le_of_ble_eq_true rfl) (Nat.le_of_ble_eq_true rfl) dJ0_charAt_5068e_1 (pc' := 4) rfl (k_isLatin1 _ _) fun v L' σ' h => ?_
  obtain ⟨rfl, rfl, rfl⟩ := h
  refine wg_if_eq (pc' := 7) (t := 16) dJ0_charAt_5068e_4 rfl rfl (fun c => absurd c (by decide)) (fun _ => ?_)
  refine wg_aloadX_n (n := 3) (pc' := 8) (i := 0) (by rfl) (by decide) (by rfl) dJ0_charAt_5068e_7 rfl ?_
  refine wg_getSV (pc' := 11) rfl fl_J0_9 dJ0_charAt_5068e_8 rfl ?_
  refine wg_iload_n (pc' := 12) (i := 1) (by rfl) (by rfl) dJ0_charAt_5068e_11 rfl ?_
  refine wg_callS (mc := 0) (ms := 0) (d' := 2) (av := [gX 4, gI i]) ms_mJ1_charAt_3b067 st_mJ1_charAt_3b067 lk_J0_495 rfl rfl (Nat.le_of_ble_eq_true rfl) (Nat.le_of_ble_eq_true rfl) dJ0_charAt_5068e_12 (pc' := 15) rfl (k_latCharAt _ _ h0 h1) fun v L' σ' h => ?_
  obtain ⟨rfl, rfl, rfl⟩ := h
  refine wg_nreturn (ty := .char) rfl ?_ dJ0_charAt_5068e_15 ⟨rfl, rfl, rfl⟩
  have key : ∀ n : Nat, n < 128 → narrow .char (.int (Int32.ofInt (n : Int))) = .int (Int32.ofInt (n : Int)) := by decide +kernel
  have h2 := gCh_in h0 h1
  have := key (gCh i).toNat (by omega)
  rw [Int.toNat_of_nonneg h2.1] at this
  exact this
