/-! the law's start: the world beside the world, the two constructors, the loop -/
theorem gZ_start {b : Addr} {s : State} {A : Nat → Prop} (hts : ∀ w ∈ lw_tbl, w.before #[Value.ref b] s = true) (hgv : (Jvm.Cond.and given_1 narrow_1).before #[Value.ref b] s = true) (hA : ∀ a : Nat, a < s.heap.size → ¬ A a) :
    ∃ bb : Nat → Nat, bb 2 = b ∧ gZ bb A s := by
  have hs := flat_of_before _ hgv
  have tb : ∀ w ∈ tables_1, w.before #[Value.ref b] s = true := fun w h => hts w (List.mem_append_right _ h)
  have tg : ∀ w ∈ gG, w.before #[Value.ref b] s = true := fun w h => hts w (List.mem_filter.mp h).1
  have hrU : vx_Zq Bundle.tN "UNASSIGNED_STACK" Bundle.steD A s s.heap := vx_Zqof (tb _ (by decide +kernel)) (tb _ (by decide +kernel)) (hs _ (by decide +kernel)) hA
  have hrN : vx_Zq Bundle.tN "SUPPRESSED_SENTINEL" Bundle.listD A s s.heap := vx_Zqof (tb _ (by decide +kernel)) (tb _ (by decide +kernel)) (hs _ (by decide +kernel)) hA
  have hCS : va_Z "java/lang/String" "COMPACT_STRINGS" "Z" (.int 1) A s s.heap := va_Zof (tb _ (by decide +kernel)) (tb _ (by decide +kernel)) (va_eqt (hs _ (by decide +kernel))) hA
  have hSF : va_Zq "jdk/internal/util/Preconditions" "SIOOBE_FORMATTER" "Ljava/util/function/BiFunction;" A s s.heap := va_Zqof (tb _ (by decide +kernel)) (tb _ (by decide +kernel)) (hs _ (by decide +kernel)) hA
  obtain ⟨adK, adV, hvS, hev⟩ := vk_Sof (s := s) (args := #[Value.ref b]) (A := A) (N := 1) (tm := fun _ => Term.string "GiftRegister$Tokens" 69) (len := [gWordB.length]) (byt := [gWordB])
    (by decide +kernel) (fun i _ => hs _ (by decide +kernel)) (fun i _ => hs _ (by decide +kernel)) (fun i _ => hs _ (by decide +kernel)) (fun i hi => by
      have : i = 0 := by omega
      subst this
      exact hs _ (by decide +kernel)) (fun i hi j hj => by
      have : i = 0 := by omega
      subst this
      have hall : ∀ j, j < [gWordB.length].getD 0 0 → (Cond.eq (.elem (.field (Term.string "GiftRegister$Tokens" 69) "java/lang/String" "value" "[B") (.int (Int32.ofNat j))) (.int (([gWordB].getD 0 []).getD j 0))) ∈ flatC (Jvm.Cond.and given_1 narrow_1) := by decide +kernel
      exact hs _ (hall j hj)) (fun i j hi hj h => absurd (show i = j by omega) h) hA
  have hstr : ∀ q ∈ gStr, (Cond.stringRef q.1 q.2.1 q.2.2).before #[Value.ref b] s = true := fun q hq => tb _ ((show ∀ q ∈ gStr, Cond.stringRef q.1 q.2.1 q.2.2 ∈ tables_1 by decide +kernel) q hq)
  refine ⟨fun k => if k = 2 then b else if k = 3 then adK 0 else if k = 4 then adV 0 else if k = 5 then (sorry) else 0, rfl, ?_⟩
  sorry
