/-! the words of the class's throws are among the tables' (gen/mod_site.py) -/
theorem gT_6 (i : Nat) {w : Cond} (h : tables_1_6[i]? = some w) : w ∈ tables_1 := by
  have h2 := List.mem_of_getElem? h
  exact (List.mem_append_right _ (List.mem_append_right _ (List.mem_append_right _ (List.mem_append_right _ (List.mem_append_right _ (List.mem_append_left _ h2))))))
def tx_P (w : Cond) : Prop := vx_no w = true → (w ∈ gG ∨ (gNk w = true ∧ w ∈ tables_1))
theorem tx_n : ∀ w ∈ ([] : List Cond), tx_P w := fun _ h => nomatch h
theorem tx_c {a : Cond} {l : List Cond} (h : tx_P a) (t : ∀ w ∈ l, tx_P w) : ∀ w ∈ a :: l, tx_P w := fun w hw => (List.mem_cons.mp hw).elim (fun e => by rw [e]; exact h) (t w)
theorem tx_a {k l : List Cond} (h : ∀ w ∈ k, tx_P w) (t : ∀ w ∈ l, tx_P w) : ∀ w ∈ k ++ l, tx_P w := fun w hw => (List.mem_append.mp hw).elim (h w) (t w)
theorem tx_g {a : Cond} (h : a ∈ gG) : tx_P a := fun _ => Or.inl h
theorem tx_k {a : Cond} (h : a ∈ tables_1) (e : gNk a = true) : tx_P a := fun _ => Or.inr ⟨e, h⟩
theorem tx_o {a : Cond} (e : vx_no a = false) : tx_P a := fun h => absurd (e.symm.trans h) (by decide)
set_option maxRecDepth 20000 in
theorem tx_l1 : ∀ w ∈ Bundle.throwableAtoms, tx_P w := (tx_c (tx_g (gG_1 20 rfl rfl)) (tx_c (tx_g (gG_6 239 rfl rfl)) (tx_c (tx_g (gG_7 8 rfl rfl)) (tx_c (tx_g (gG_7 10 rfl rfl)) (tx_c (tx_g (gG_7 13 rfl rfl)) (tx_c (tx_g (gG_7 15 rfl rfl)) (tx_c (tx_g (gG_7 0 rfl rfl)) (tx_c (tx_g (gG_7 1 rfl rfl)) (tx_c (tx_g (gG_1 31 rfl rfl)) (tx_c (tx_g (gG_1 32 rfl rfl)) (tx_c (tx_g (gG_7 2 rfl rfl)) (tx_c (tx_g (gG_7 7 rfl rfl)) (tx_c (tx_g (gG_7 11 rfl rfl)) (tx_c (tx_g (gG_7 31 rfl rfl)) (tx_c (tx_g (gG_6 229 rfl rfl)) (tx_c (tx_g (gG_7 32 rfl rfl)) (tx_c (tx_g (gG_6 231 rfl rfl)) (tx_c (tx_g (gG_7 33 rfl rfl)) (tx_c (tx_g (gG_6 233 rfl rfl)) (tx_c (tx_g (gG_7 3 rfl rfl)) (tx_c (tx_o (by decide +kernel)) (tx_c (tx_g (gG_7 5 rfl rfl)) (tx_c (tx_o (by decide +kernel)) (tx_c (tx_g (gG_6 235 rfl rfl)) tx_n))))))))))))))))))))))))
set_option maxRecDepth 20000 in
theorem tx_l2 : ∀ w ∈ Bundle.throwableSAtoms, tx_P w := (tx_c (tx_g (gG_7 27 rfl rfl)) (tx_c (tx_g (gG_7 28 rfl rfl)) (tx_c (tx_g (gG_7 30 rfl rfl)) (tx_c (tx_g (gG_6 235 rfl rfl)) tx_n))))
set_option maxRecDepth 20000 in
theorem tx_l3 : ∀ w ∈ Bundle.passSAtoms gEx "java/lang/RuntimeException" 13 prog_29_method_4_code, tx_P w := (tx_c (tx_g (gG_7 18 rfl rfl)) (tx_c (tx_g (gG_7 19 rfl rfl)) (tx_c (tx_g (gG_7 20 rfl rfl)) (tx_c (tx_g (gG_7 21 rfl rfl)) (tx_c (tx_k (gT_6 221 rfl) rfl) tx_n)))))
set_option maxRecDepth 20000 in
theorem tx_l4 : ∀ w ∈ Bundle.passSAtoms "java/lang/RuntimeException" "java/lang/Exception" 7 Bundle.six, tx_P w := (tx_c (tx_g (gG_7 21 rfl rfl)) (tx_c (tx_g (gG_7 22 rfl rfl)) (tx_c (tx_g (gG_7 23 rfl rfl)) (tx_c (tx_g (gG_7 24 rfl rfl)) (tx_c (tx_k (gT_6 223 rfl) rfl) tx_n)))))
set_option maxRecDepth 20000 in
theorem tx_l5 : ∀ w ∈ Bundle.passSAtoms "java/lang/Exception" Bundle.tN 7 Bundle.six, tx_P w := (tx_c (tx_g (gG_7 24 rfl rfl)) (tx_c (tx_g (gG_7 25 rfl rfl)) (tx_c (tx_g (gG_7 26 rfl rfl)) (tx_c (tx_g (gG_7 27 rfl rfl)) (tx_c (tx_k (gT_6 225 rfl) rfl) tx_n)))))
set_option maxRecDepth 20000 in
theorem tx_l6 : ∀ w ∈ ([Cond.methodLink RX11 189 (Bundle.initS gEx), .instantiable gEx 6, .castable gEx gEx, .selects gEx Bundle.tFill0 Bundle.tFill0, .selects gEx Bundle.tFill Bundle.tFill, .lays gEx Bundle.tN "cause" "Ljava/lang/Throwable;", .lays gEx Bundle.tN "stackTrace" Bundle.steD, .lays gEx Bundle.tN "suppressedExceptions" Bundle.listD, .lays gEx Bundle.tN "detailMessage" "Ljava/lang/String;", .isRef (.static Bundle.tN "UNASSIGNED_STACK" Bundle.steD), .isRef (.static Bundle.tN "SUPPRESSED_SENTINEL" Bundle.listD), .fieldLink Bundle.tN 198 Bundle.tN "backtrace" "Ljava/lang/Object;", .lays Bundle.tN Bundle.tN "backtrace" "Ljava/lang/Object;", .lays gEx Bundle.tN "backtrace" "Ljava/lang/Object;"] : List Cond), tx_P w := (tx_c (tx_g (gG_7 17 rfl rfl)) (tx_c (tx_g (gG_6 218 rfl rfl)) (tx_c (tx_k (gT_6 219 rfl) rfl) (tx_c (tx_g (gG_6 226 rfl rfl)) (tx_c (tx_g (gG_6 227 rfl rfl)) (tx_c (tx_g (gG_6 228 rfl rfl)) (tx_c (tx_g (gG_6 230 rfl rfl)) (tx_c (tx_g (gG_6 232 rfl rfl)) (tx_c (tx_g (gG_6 234 rfl rfl)) (tx_c (tx_o (by decide +kernel)) (tx_c (tx_o (by decide +kernel)) (tx_c (tx_g (gG_6 238 rfl rfl)) (tx_c (tx_g (gG_6 237 rfl rfl)) (tx_c (tx_g (gG_6 236 rfl rfl)) tx_n))))))))))))))
theorem ex_atm : tx_Atm RX11 189 := by
  intro w hw
  have h := List.mem_filter.mp hw
  exact (tx_a tx_l1 (tx_a tx_l2 (tx_a tx_l3 (tx_a (tx_a tx_l4 tx_l5) tx_l6)))) w h.1 h.2
theorem ex_ini : Cond.initialized gEx ∈ gG := gG_1 23 rfl rfl
theorem ex_cn : Cond.classLink RX11 185 gEx ∈ gG := gG_6 217 rfl rfl
set_option maxRecDepth 100000 in
theorem ex_ot : ∀ w ∈ Cond.classLink RX11 185 gEx :: Cond.initialized gEx :: tx_ws RX11 189, vx_ot w = true := by decide +kernel
