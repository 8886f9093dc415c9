/-! all calls agree; the start; the claim (the tail began as the kit's skeleton) -/
theorem agree : Agree Inv :=
  ⟨fun a0 _ a1 _ a2 _ a3 _ a4 _ => ci_feed a0 a1 a2 a3 a4,
   fun a0 _ => ci_end a0,
   fun a0 _ => ci_next a0,
   fun a0 _ => ci_party a0,
   fun a0 _ a1 _ a2 _ a3 _ a4 _ => ci_owns a0 a1 a2 a3 a4,
   fun a0 _ a1 _ a2 _ a3 _ => ci_kin a0 a1 a2 a3,
   fun a0 _ a1 _ a2 _ a3 _ => ci_post a0 a1 a2 a3,
   fun a0 _ a1 _ a2 _ a3 _ a4 _ h a5 _ a6 _ => ci_gift2 a0 a1 a2 a3 a4 a5 a6 h,
   fun a0 _ a1 _ a2 _ => ci_worth a0 a1 a2,
   fun a0 _ a1 _ => ci_back a0 a1,
   fun a0 _ => ci_tell a0,
   fun a0 _ => ci_law a0,
   ci_fault,
   fun a0 _ a1 _ a2 _ a3 _ => ci_part a0 a1 a2 a3,
   fun a0 _ a1 _ a2 _ a3 _ => ci_chain a0 a1 a2 a3,
   fun a0 _ => cx_octet a0,
   fun a0 _ a1 _ a2 _ => ci_head a0 a1 a2,
   fun a0 _ a1 _ a2 _ a3 _ => ci_degree a0 a1 a2 a3,
   fun a0 _ a1 _ a2 _ => cx_judged a0 a1 a2,
   fun a0 _ => ci_member a0,
   fun a0 _ a1 _ => ci_matter a0 a1,
   fun a0 _ a1 _ a2 _ => ci_sits a0 a1 a2,
   fun a0 _ a1 _ => ci_quorum a0 a1,
   fun a0 _ a1 _ a2 _ => ci_entry a0 a1 a2,
   fun a0 _ => ci_joined a0,
   fun a0 _ a1 _ a2 _ => cx_entered a0 a1 a2,
   fun a0 _ a1 _ a2 _ h => ci_vote a0 a1 a2 h,
   fun a0 _ a1 _ => ci_links a0 a1,
   fun a0 _ a1 _ => cx_chance a0 a1,
   fun a0 _ a1 _ a2 _ => ci_asked a0 a1 a2,
   fun a0 _ => ci_count a0⟩
set_option maxRecDepth 200000 in
theorem init_61 : ∀ r, gInit 61 r = 0 ∧ gInit 62 r = 0 := fun r => ⟨rfl, rfl⟩
theorem inv_init : Inv gInit := by
  have h133_2 : gInit 133 2 = 0 := by decide +kernel
  have h0_1 : gInit 0 1 = 0 := by decide +kernel
  have h133_3 : gInit 133 3 = 0 := by decide +kernel
  have h0_4 : gInit 0 4 = 0 := by decide +kernel
  have h133_51 : gInit 133 51 = 0 := by decide +kernel
  have h0_3 : gInit 0 3 = 0 := by decide +kernel
  have h133_6 : gInit 133 6 = 0 := by decide +kernel
  have h3_2 : gInit 3 2 = 0 := by decide +kernel
  have h133_14 : gInit 133 14 = 0 := by decide +kernel
  have h15_6 : gInit 15 6 = 0 := by decide +kernel
  have h133_25 : gInit 133 25 = 0 := by decide +kernel
  have h6_6 : gInit 6 6 = 0 := by decide +kernel
  have h133_26 : gInit 133 26 = 0 := by decide +kernel
  have h34_6 : gInit 34 6 = 0 := by decide +kernel
  have h133_42 : gInit 133 42 = 0 := by decide +kernel
  have h41_11 : gInit 41 11 = 0 := by decide +kernel
  have h133_43 : gInit 133 43 = 0 := by decide +kernel
  have h41_16 : gInit 41 16 = 0 := by decide +kernel
  have h133_92 : gInit 133 92 = 0 := by decide +kernel
  have h125_2 : gInit 125 2 = 0 := by decide +kernel
  have h133_93 : gInit 133 93 = 0 := by decide +kernel
  have h125_5 : gInit 125 5 = 0 := by decide +kernel
  have h133_110 : gInit 133 110 = 0 := by decide +kernel
  have h125_10 : gInit 125 10 = 0 := by decide +kernel
  have h133_99 : gInit 133 99 = 0 := by decide +kernel
  have h112_8 : gInit 112 8 = 0 := by decide +kernel
  have h133_77 : gInit 133 77 = 0 := by decide +kernel
  have h57_2 : gInit 57 2 = 0 := by decide +kernel
  have h133_60 : gInit 133 60 = 0 := by decide +kernel
  have h57_3 : gInit 57 3 = 0 := by decide +kernel
  have h133_49 : gInit 133 49 = 0 := by decide +kernel
  have h3_8 : gInit 3 8 = 0 := by decide +kernel
  have h3_5 : ¬ 0 ≤ gInit 3 5 := by decide +kernel
  have h14_7 : gInit 14 7 < 0 := by decide +kernel
  have h133_7 : gInit 133 7 = 1 := by decide +kernel
  have h61 : ∀ r, gInit 61 r = 0 := fun r => (init_61 r).1
  have h62 : ∀ r, gInit 62 r = 0 := fun r => (init_61 r).2
  have he : gInit 59 0 = 0 ∧ gInit 59 1 = 0 ∧ gInit 59 3 = 0 ∧ gInit 59 4 = 1 ∧ gInit 59 5 = 365 ∧ gInit 59 6 = 365 ∧ gInit 59 7 = 90 ∧ gInit 59 8 = 0 ∧ gInit 59 15 = 0 := by decide +kernel
  have he2 : gInit 183 0 = 1 ∧ gInit 183 1 = 365 ∧ gInit 183 2 = 365 ∧ gInit 183 3 = 90 ∧ gInit 183 4 = 0 ∧ gInit 184 0 = 0 ∧ gInit 184 1 = 1 ∧ gInit 184 2 = 0 ∧ gInit 184 3 = 1 ∧ gInit 184 4 = 0 ∧ gInit 185 0 = 4 ∧ gInit 185 1 = 999 ∧ gInit 185 2 = 3650 ∧ gInit 185 3 = 999 ∧ gInit 185 4 = 12 := by decide +kernel
  generalize gInit = σ at *
  have vac : ∀ {P : Int → Prop} {n : Int}, n = 0 → ∀ i, 0 ≤ i → i < n → P i := fun e i a b => by omega
  refine ⟨⟨⟨⟨by omega, by omega, by omega⟩, ⟨by omega, by omega, by omega, vac h0_1⟩, ⟨by omega, by omega, by omega, vac h0_3⟩, ⟨by omega, by omega, by omega, vac h3_2⟩, ⟨by omega, by omega, by omega, vac h15_6⟩, ⟨by omega, by omega, by omega, vac h6_6⟩, ⟨by omega, by omega, by omega, vac h34_6⟩, ⟨by omega, by omega, by omega, vac h41_11⟩, ⟨by omega, by omega, by omega, vac h41_16⟩, ⟨by omega, by omega, by omega, vac h125_2⟩, ⟨by omega, by omega, by omega, vac h125_5⟩, ⟨by omega, by omega, by omega, vac h125_10⟩, ⟨by omega, by omega, by omega, vac h112_8⟩⟩, ?_, ?_⟩, ⟨⟨by omega, fun x => absurd x h3_5⟩, ⟨by omega, fun x => by omega⟩⟩, ⟨by omega, by omega, fun x => by omega⟩⟩
  · refine ⟨by omega, by omega, by omega, by omega, ⟨fun x => by omega, fun x => by omega, fun x => by omega, fun x => by omega, fun x => by omega, fun x => by omega⟩, ?_⟩
    obtain ⟨a0, a1, a2, a3, a4, a5, a6, a7, a8⟩ := he
    exact ⟨a0, a1, a2, a3, a4, a5, a6, a7, a8, fun r => ⟨h61 r, h62 r⟩, he2⟩
  · refine ⟨fun i a b => by omega, fun g => ?_, fun i a b => by omega, fun f d => ?_⟩
    · rw [h15_6]; rfl
    · rw [h15_6]; show (0 : Int) ≤ 10000; omega
theorem whole_start {p : Program} {e : Env} {s : State} {m : MethodId} {below : List Frame} {meth : Method} {c : Code} (l : Launch) (hflags : l.flags = flags0) {b L : Nat} {xs : Nat → Int32} (hL : L ≤ 4096) (C0 : lw_At p s m meth c b L xs) : W p l e room_1 s m #[Value.ref b] below meth c s.heap [] 0 0 (lw_Z below #[Value.ref b] s) (entryFrame m ([Value.ref b] : List Value).toArray 8) := whole_open Inv agree inv_init l hflags hL C0
set_option maxHeartbeats 4000000 in
theorem lw_walk (l : Launch) (hflags : l.flags = flags0) (b : Addr) (xs : List Int32) : MetFree l x (headSpec (Jvm.Cond.code x code maxLocals ret :: tables_1) room_1) (lw_P b xs) (fun _ _ _ _ _ => True) lw_Q := by
  refine MetFree.of_bodyS (code := code) (maxLocals := maxLocals) (ret := ret) (by decide) ?_ ?_
  · intro args s m h hn
    obtain ⟨meth, c, h1, h2, h3, h4, h5, h6, -, -⟩ := Cond.code_spec hn (atoms_spec (ws := Jvm.Cond.code x code maxLocals ret :: tables_1) h _ List.mem_cons_self)
    exact ⟨meth, c, h1, h2, h3, h4, h5, h6⟩
  · intro p e s m args below meth c s₁ B hml0 hP _
    obtain ⟨rfl, hx, hbd, hgv⟩ := hP
    obtain ⟨scr, harrAt, hlist, hof, hsmall⟩ := hx
    obtain ⟨hcb, hkn, -, -⟩ := State.arrayAt?_spec harrAt
    have hown : s.vm.findClass R_law = some m.cls := findClass_of_methodNamed B.named
    have hts0 : ∀ c ∈ (Jvm.Cond.code x code maxLocals ret :: tables_1), c.before #[Value.ref b] s = true := atoms_spec (ws := Jvm.Cond.code x code maxLocals ret :: tables_1) B.pre
    have hts : ∀ w ∈ lw_tbl, w.before #[Value.ref b] s = true := k2_hts_sels lw_privs (fun w hw => hts0 w (List.mem_cons_of_mem _ hw)) lw_privs_ok
    have hml : c.maxLocals = 8 := B.maxLocals_eq (hts0 _ List.mem_cons_self)
    have X₀ : Stand p l e room_1 s m #[Value.ref b] below meth c s₁ [] 0 0 := Stand.of_body B
    have hh0 : s₁.heap = s.heap := by rw [B.state]; rfl
    have hsz : scr.slots.size = xs.length := by rw [← Array.length_toList, hlist, List.length_map]
    have hval : ∀ j : Nat, j < xs.length → scr.slots[j]? = some (.int (xs.getD j 0)) := fun j hj => by
      rw [← Array.getElem?_toList, hlist]
      simp [hj]
    have hbl : b < s.heap.size := (Array.getElem?_eq_some_iff.mp hcb).1
    have hX : va_X b xs.length (fun j => xs.getD j 0) s s.heap := ⟨scr, hcb, hof, hkn, hsz, hval⟩
    have K : W p l e room_1 s m #[Value.ref b] below meth c s₁.heap [] 0 0 (lw_Z below #[Value.ref b] s) (entryFrame m ([Value.ref b] : List Value).toArray 8) := by
      rw [hh0]
      exact whole_start l hflags hbd ⟨B.exec, B.bytes, B.returns, hml, hown, hts, hX, hbl, B.notSynchronized, hgv⟩
    obtain ⟨t, a1, o, b1, b2, b3⟩ := K s₁ rfl X₀
    exact ⟨t, o, a1, b1, b2, b3⟩
theorem lw_pre_spec {args : Array Value} {s : State} (h : (Jvm.Cond.and given_1 narrow_1).before args s = true) (hr : rest_1_c.before args s = true) : ∃ (b : Addr) (xs : List Int32), lw_P b xs args s := by
  have hs := flat_of_before _ h
  have hq := flat_of_before _ hr
  have hc : (Cond.count 1).before args s = true := hs _ (by decide +kernel)
  have harr : (Cond.arrayOf (.arg 0) .int).before args s = true := hs _ (by decide +kernel)
  have hle : (Cond.le (.length (.arg 0)) (.int 4096)).before args s = true := hs _ (by decide +kernel)
  have hlen : (Cond.isInt (.length (.arg 0))).before args s = true := hq _ (by decide +kernel)
  have hall : (Cond.all (.arg 0) (.isInt (.elem (.arg 0) (.index 0)))).before args s = true := hq _ (by decide +kernel)
  obtain ⟨b, xs, hb, hx⟩ := State.ints_of_pre rfl harr hlen hall
  have hsm : xs.length < 2 ^ 31 := hx.choose_spec.2.2.2
  have hev : (Term.length (.arg 0)).eval args s none [] s = some (.int xs.length.toInt32) := hx.length_eval hb
  have hv := Cond.le_ints hev (show (Term.int 4096).eval args s none [] s = some (.int 4096) from rfl)
  have hd : xs.length.toInt32 ≤ 4096 := by
    simpa [Cond.before, Cond.holds, hv] using hle
  have hN : xs.length ≤ 4096 := (Int32.ofNat_le_ofNat hsm (by decide)).mp (show Int32.ofNat xs.length ≤ Int32.ofNat 4096 from hd)
  exact ⟨b, xs, Cond.one_arg hc (show args[0]? = some (.ref b) from hb), hx, hN, h⟩
theorem lw_comes (l : Launch) (hflags : l.flags = flags0) : Comes l x (Jvm.Cond.code x code maxLocals ret :: tables_1) room_1 (fun tb e args s => Calls_1 tb e args s ∧ rest_1 tb e args s ∧ Pre_1 tb e args s)
    (fun _ _ args s o t => lw_Q args s o t) := by
  intro p e ha hc hk s m args below hf hfit hheap happ hpre
  obtain ⟨b, xs, hP⟩ := lw_pre_spec hpre.2.2 hpre.2.1
  obtain ⟨k, o, h1, h2, h3, hQ⟩ := lw_walk l hflags b xs p e ha hc hk s m args below hf ((Spec.applies_iff_loose hf).mp happ).1 hP trivial
  exact ⟨k, o, h1, h2, h3, hQ⟩
theorem lw_frame {s t : State} {o : Outcome} {args : Array Value} (h : Framed s o t [] 601024 7293034) :
    Framed s o t (fieldLocs frame_1_writes args s ++ arrayLocs frame_1_arrays args s ++ staticLocs frame_1_statics s) 601024 7293034 := h
theorem lw_limb (L : Cond) (hL : ∀ (args : Array Value) (s t : State), L.after args s (.returned (some (.int 1))) t = true) :
    ArmFor flags0 classFile x code maxLocals ret World_1 tables_1 room_1 Calls_1 rest_1 Pre_1
      (fun tb e a s o t => postC L tb e a s o t ∧ Framed s o t (fieldLocs frame_1_writes a s ++ arrayLocs frame_1_arrays a s ++ staticLocs frame_1_statics s) 601024 7293034) := by
  intro l hflags _ _ p e ha hc hk s m args below hf hfit hheap happ hpre
  obtain ⟨k, o, h1, h2, h3, rfl, hF⟩ := lw_comes l hflags p e ha hc hk s m args below hf hfit hheap happ hpre
  exact ⟨k, _, h1, h2, h3, hL args s _, lw_frame hF⟩
theorem i_vc : Claimed_1_1 ∧ Claimed_1_2 := ⟨lw_limb limb_1_1 (fun args s t => by simp [limb_1_1, Cond.after, Cond.holds, Cond.value]), lw_limb limb_1_2 (fun args s t => Cond.after_iff.mpr (by
  first | (rw [show limb_1_2 = Cond.eq .result (.int 1) from rfl, Cond.eq_ints (x := 1) (y := 1) rfl rfl]; simp; done) | (simp [limb_1_2, Cond.value, Term.eval]; done)))⟩
