/-! the law's start: the world beside the world, the two constructors, the loop -/
def gBB (b k3 k4 k5 : Nat) : Nat → Nat := fun k => if k = 2 then b else if k = 3 then k3 else if k = 4 then k4 else k5
theorem gZ_start {b : Addr} {s : State} {A : Nat → Prop} (hts : ∀ w ∈ lw_tbl, w.before #[Value.ref b] s = true) (hgv : (Jvm.Cond.and given_1 narrow_1).before #[Value.ref b] s = true) (hA : ∀ a : Nat, a < s.heap.size → ¬ A a) :
    ∃ bb : Nat → Nat, bb 2 = b ∧ gZ bb A s := by
  have hs := flat_of_before _ hgv
  have tb : ∀ w ∈ tables_1, w.before #[Value.ref b] s = true := fun w h => hts w (List.mem_append_right _ h)
  have tg : ∀ w ∈ gG, w.before #[Value.ref b] s = true := fun w h => hts w (List.mem_filter.mp h).1
  have hrU : vx_Zq Bundle.tN "UNASSIGNED_STACK" Bundle.steD A s s.heap := vx_Zqof (tb _ (by decide +kernel)) (tb _ (by decide +kernel)) (hs _ (by decide +kernel)) hA
  have hrN : vx_Zq Bundle.tN "SUPPRESSED_SENTINEL" Bundle.listD A s s.heap := vx_Zqof (tb _ (by decide +kernel)) (tb _ (by decide +kernel)) (hs _ (by decide +kernel)) hA
  have hCS : va_Z "java/lang/String" "COMPACT_STRINGS" "Z" (.int 1) A s s.heap := va_Zof (tb _ (by decide +kernel)) (tb _ (by decide +kernel)) (va_eqt (hs _ (by decide +kernel))) hA
  have hSF : va_Zq "jdk/internal/util/Preconditions" "SIOOBE_FORMATTER" "Ljava/util/function/BiFunction;" A s s.heap := va_Zqof (tb _ (by decide +kernel)) (tb _ (by decide +kernel)) (hs _ (by decide +kernel)) hA
  obtain ⟨adK, adV, hvS, hev⟩ := vk_Sof (s := s) (args := #[Value.ref b]) (A := A) (N := 1) (tm := fun _ => Term.string "GiftRegister$Tokens" 69) (len := [gWordB.length]) (byt := [gWordB])
    (by decide +kernel) (fun i _ => hs _ (by decide +kernel)) (fun i _ => hs _ (by decide +kernel)) (fun i _ => hs _ (by decide +kernel)) (fun i hi => by
      have : i = 0 := by omega
      subst this
      exact hs _ (by decide +kernel)) (fun i hi j hj => by
      have : i = 0 := by omega
      subst this
      have hall : ∀ j, j < [gWordB.length].getD 0 0 → (Cond.eq (.elem (.field (Term.string "GiftRegister$Tokens" 69) "java/lang/String" "value" "[B") (.int (Int32.ofNat j))) (.int (([gWordB].getD 0 []).getD j 0))) ∈ flatC (Jvm.Cond.and given_1 narrow_1) := by decide +kernel
      exact hs _ (hall j hj)) (fun i j hi hj h => absurd (show i = j by omega) h) hA
  have hstr : ∀ q ∈ gStr, ∃ sa, vk_R q.1 q.2.1 q.2.2 sa s := by
    intro q hq
    have h1 := tb _ ((show ∀ q ∈ gStr, Cond.stringRef q.1 q.2.1 q.2.2 ∈ tables_1 by decide +kernel) q hq)
    have h2 := hs _ ((show ∀ q ∈ gStr, Cond.exactly (Term.string q.1 q.2.1) "java/lang/String" ∈ flatC (Jvm.Cond.and given_1 narrow_1) by decide +kernel) q hq)
    obtain ⟨a, c, cA, kA, q1, -⟩ := Cond.exactly_spec (args := #[Value.ref b]) (first := s) (o := none) (s := s) (idx := []) (t := Term.string q.1 q.2.1) (cls := "java/lang/String") h2
    exact ⟨a, vk_R.of h1 q1⟩
  have hw69 : vk_R "GiftRegister$Tokens" 69 gWord (adK 0) s := vk_R.of (tb _ (by decide +kernel)) (hev 0 (by decide))
  have hAO : va_AO "GiftRegister$Law" s := va_AO.of (tb _ (by decide +kernel))
  have hNk : ∀ w ∈ tables_1, gNk w = true → va_Nw w s := by
    intro w hw hk
    refine va_Nw.of ?_ (tb w hw)
    cases w <;> first | (exact absurd (show false = true from hk) (by decide)) | rfl
  have hS2 : ∀ bb : Nat → Nat, bb 3 = adK 0 → bb 4 = adV 0 → vk_S 1 [gWordB.length] [gWordB] (fun _ => bb 3) (fun _ => bb 4) A s s.heap := by
    intro bb h3 h4
    refine ⟨fun i hi => ?_, fun i j hi hj _ => by omega⟩
    have : i = 0 := by omega
    subst this
    rw [h3, h4]
    exact hvS.1 0 hi
  rcases hSF with h | ⟨t, h⟩
  · exact ⟨gBB b (adK 0) (adV 0) 0, rfl, hNk, hAO, hrU, hrN, hstr, hw69, hS2 (gBB b (adK 0) (adV 0) 0) rfl rfl, hCS, Or.inl h⟩
  · exact ⟨gBB b (adK 0) (adV 0) t, rfl, hNk, hAO, hrU, hrN, hstr, hw69, hS2 (gBB b (adK 0) (adV 0) t) rfl rfl, hCS, Or.inr h⟩
