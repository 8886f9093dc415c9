/-! the walker's helps: stores in one form, queries one behind another, the reference's rows as the class has them (gen/mod_sup.py) -/
theorem Wp.heq {M : gM} {d : Nat} {Q : gV → gH → Prop} {σ σ' : gH} {pc : Nat} {ls st : List gV} (e : σ = σ') (k : Wp M d Q σ' pc ls st) : Wp M d Q σ pc ls st := by rw [e]; exact k
def loseP : List gV → List gV → Prop
  | [], [] => True
  | a :: as, b :: bs => (a = gX 1 ∨ a = b) ∧ loseP as bs
  | _, _ => False
theorem loseP_len : ∀ {l' l : List gV}, loseP l' l → l'.length = l.length
  | [], [], _ => rfl
  | _ :: as, _ :: bs, h => congrArg Nat.succ (loseP_len (l' := as) (l := bs) h.2)
theorem loseP_at : ∀ {l' l : List gV}, loseP l' l → ∀ (i : Nat) (v : gV), l'[i]? = some v → v = gX 1 ∨ l[i]? = some v
  | [], [], _, i, v, hv => by simp at hv
  | a :: as, b :: bs, h, 0, v, hv => by
    have e : a = v := by simpa using hv
    subst e
    rcases h.1 with h1 | h1
    · exact Or.inl h1
    · exact Or.inr (by rw [h1]; rfl)
  | a :: as, b :: bs, h, i + 1, v, hv => loseP_at (l' := as) (l := bs) h.2 i v (by simpa using hv)
theorem Wp.lose {M : gM} {d : Nat} {Q : gV → gH → Prop} {σ : gH} {pc : Nat} {ls ls' st : List gV} (h : loseP ls' ls) (k : Wp M d Q σ pc ls' st) : Wp M d Q σ pc ls st := fun hg => gWp.lose (loseP_len h) (loseP_at h) (k hg)
theorem Wp.stI {M : gM} {d : Nat} {Q : gV → gH → Prop} {σ : gH} {pc : Nat} {ls st : List gV} {x y : Int} (e : x = y) (k : Wp M d Q σ pc ls (gI y :: st)) : Wp M d Q σ pc ls (gI x :: st) := by rw [e]; exact k
theorem gUp_same {σ : gH} {k : Nat} {i v w : Int} : gUp (gUp σ k i v) k i w = gUp σ k i w := by
  funext q j
  unfold gUp gUr
  by_cases e : q = k
  · subst e
    simp only [if_true]
    split <;> rfl
  · simp only [if_neg e]
theorem gUp_row {σ : gH} {k : Nat} {f : Int → Int} {i v : Int} : gUp (gUr σ k f) k i v = gUr σ k (updI f i v) := by
  funext q j
  unfold gUp gUr updI
  by_cases e : q = k
  · subst e
    simp only [if_true]
  · simp only [if_neg e]
theorem gUr_same {σ : gH} {k : Nat} {f g : Int → Int} : gUr (gUr σ k f) k g = gUr σ k g := by
  funext q j
  unfold gUr
  by_cases e : q = k
  · simp only [if_pos e]
  · simp only [if_neg e]
theorem gUr_id {σ : gH} {k : Nat} : gUr σ k (σ k) = σ := by
  funext q j
  unfold gUr
  by_cases e : q = k
  · rw [if_pos e, e]
  · rw [if_neg e]
theorem rows1 {σ : gH} {a b : Nat} {f : Int → Int} (h : b ≠ a) : gUr (gUr σ a f) b (σ b) = gUr σ a f := by
  have e : (gUr σ a f) b = σ b := if_neg h
  rw [← e]; exact gUr_id
theorem rows2 {σ : gH} {a b c : Nat} {f : Int → Int} (h : b ≠ a) (h1 : c ≠ a) : gUr (gUr (gUr σ a f) b (σ b)) c (σ c) = gUr σ a f := by
  rw [rows1 h, rows1 h1]
theorem gUr_cr {σ : gH} {k l : Nat} {f g : Int → Int} (h : l ≠ k) : gUr (gUr σ l g) k f = gUr (gUr σ k f) l g := by
  funext q j
  unfold gUr
  by_cases e : q = k
  · subst e
    simp only [if_true, if_neg (Ne.symm h)]
  · simp only [if_neg e]
theorem gUp_cr {σ : gH} {k l : Nat} {g : Int → Int} {i v : Int} (h : l ≠ k) : gUp (gUr σ l g) k i v = gUr (gUp σ k i v) l g := by
  unfold gUp
  rw [gUr_cr h]
  have e : gUr σ l g k = σ k := if_neg (Ne.symm h)
  rw [e]
theorem gUr_cu {σ : gH} {k l : Nat} {f : Int → Int} {i v : Int} (h : l ≠ k) : gUr (gUp σ l i v) k f = gUp (gUr σ k f) l i v := (gUp_cr (Ne.symm h)).symm
theorem gUp_cu {σ : gH} {k l : Nat} {i v i' v' : Int} (h : l ≠ k) : gUp (gUp σ l i' v') k i v = gUp (gUp σ k i v) l i' v' := by
  show gUp (gUr σ l _) k i v = gUr (gUp σ k i v) l _
  rw [gUp_cr h]
  have e : gUp σ k i v l = σ l := if_neg h
  rw [e]
theorem gUp_ci {σ : gH} {k : Nat} {i v i' v' : Int} (h : i' ≠ i) : gUp (gUp σ k i' v') k i v = gUp (gUp σ k i v) k i' v' := by
  funext q j
  unfold gUp gUr
  by_cases e : q = k
  · subst e
    simp only [if_true]
    by_cases e2 : j = i
    · subst e2
      rw [if_pos rfl, if_neg (Ne.symm h), if_pos rfl]
    · rw [if_neg e2, if_neg e2]
  · simp only [if_neg e]
theorem QC.up {σ0 σ : gH} {k : Nat} {i v : Int} (q : QC σ0 σ) (hk : ¬ (133 ≤ k ∨ isF k i = true)) (hc : CC σ → CC (gUp σ k i v)) : QC σ0 (gUp σ k i v) := ⟨(hm_up hk).trans q.1, hc q.2⟩
theorem QC.ur {σ0 σ : gH} {k : Nat} {f : Int → Int} (q : QC σ0 σ) (hk : ∀ i, ¬ (133 ≤ k ∨ isF k i = true)) (hc : CC σ → CC (gUr σ k f)) : QC σ0 (gUr σ k f) := ⟨(hm_ur hk).trans q.1, hc q.2⟩
theorem QM.up {σ0 σ : gH} {k : Nat} {i v : Int} (q : QM σ0 σ) (hk : ¬ (k < 133 ∨ isF k i = true)) (hc : C_mod σ → C_mod (gUp σ k i v)) : QM σ0 (gUp σ k i v) := ⟨(lm_up hk).trans q.1, hc q.2⟩
theorem QM.ur {σ0 σ : gH} {k : Nat} {f : Int → Int} (q : QM σ0 σ) (hk : ∀ i, ¬ (k < 133 ∨ isF k i = true)) (hc : C_mod σ → C_mod (gUr σ k f)) : QM σ0 (gUr σ k f) := ⟨(lm_ur hk).trans q.1, hc q.2⟩
theorem hmP {M : gM} {d : Nat} {av : List gV} {σ0 σ : gH} {F : gH → gV} (q : hm σ = hm σ0) (hF : ∀ z, F (hm z) = F z) (h : Mt M d av σ (rE (F σ) σ)) : Mt M d av σ (rE (F σ0) σ) := by
  have e : F σ = F σ0 := by rw [← hF σ, q, hF σ0]
  rw [← e]; exact h
theorem lmP {M : gM} {d : Nat} {av : List gV} {σ0 σ : gH} {F : gH → gV} (q : lm σ = lm σ0) (hF : ∀ z, F (lm z) = F z) (h : Mt M d av σ (rE (F σ) σ)) : Mt M d av σ (rE (F σ0) σ) := by
  have e : F σ = F σ0 := by rw [← hF σ, q, hF σ0]
  rw [← e]; exact h
theorem QC.pure {M : gM} {d : Nat} {av : List gV} {σ0 σ : gH} {F : gH → gV} (q : QC σ0 σ) (hF : ∀ z, F (hm z) = F z) (h : Mt M d av σ (rE (F σ) σ)) : Mt M d av σ (rE (F σ0) σ) := by
  have e : F σ = F σ0 := by rw [← hF σ, q.1, hF σ0]
  rw [← e]; exact h
theorem QM.pure {M : gM} {d : Nat} {av : List gV} {σ0 σ : gH} {F : gH → gV} (q : QM σ0 σ) (hF : ∀ z, F (lm z) = F z) (h : Mt M d av σ (rE (F σ) σ)) : Mt M d av σ (rE (F σ0) σ) := by
  have e : F σ = F σ0 := by rw [← hF σ, q.1, hF σ0]
  rw [← e]; exact h
/-- cells from n on are as they were -/
def Kp (n : Nat) (σ σ' : gH) : Prop := ∀ k, n ≤ k → σ' k = σ k
theorem Kp.rd {n : Nat} {σ σ' : gH} (h : Kp n σ σ') {k : Nat} {i : Int} (hk : n ≤ k) : σ' k i = σ k i := congrFun (h k hk) i
theorem Kp.refl {n : Nat} {σ : gH} : Kp n σ σ := fun _ _ => rfl
theorem Kp.trans {n : Nat} {σ σ1 σ2 : gH} (a : Kp n σ σ1) (b : Kp n σ1 σ2) : Kp n σ σ2 := fun k h => (b k h).trans (a k h)
theorem Kp.mono {n m : Nat} {σ σ' : gH} (a : Kp n σ σ') (h : n ≤ m) : Kp m σ σ' := fun k hk => a k (Nat.le_trans h hk)
theorem Kp.up {n k : Nat} {σ σ1 : gH} {i v : Int} (a : Kp n σ σ1) (h : k < n) : Kp n σ (gUp σ1 k i v) := fun q hq => by
  have e : gUp σ1 k i v q = σ1 q := if_neg (by omega)
  rw [e]; exact a q hq
theorem Kp.ur {n k : Nat} {σ σ1 : gH} {f : Int → Int} (a : Kp n σ σ1) (h : k < n) : Kp n σ (gUr σ1 k f) := fun q hq => by
  have e : gUr σ1 k f q = σ1 q := if_neg (by omega)
  rw [e]; exact a q hq
def fillF (f : Int → Int) (n v : Int) : Int → Int := fun j => if 0 ≤ j ∧ j < n then v else f j
theorem fillF_in {f : Int → Int} {n v j : Int} (h0 : 0 ≤ j) (h1 : j < n) : fillF f n v j = v := if_pos ⟨h0, h1⟩
theorem ev_on {u d : Int} (h : u = -1 ∨ isDy u) : (ev u = 2147483647 ∨ d < ev u) ↔ (u = -1 ∨ d < u) := by
  unfold ev
  unfold isDy at h
  split <;> omega
theorem Inv.e135 {σ : gH} (h : Inv σ) {i : Int} (h0 : 0 ≤ i) (h1 : i < σ 3 2) : σ 135 i = σ 4 i := (h.f.party.2.2.2 i h0 h1).1
theorem Inv.e137 {σ : gH} (h : Inv σ) {i : Int} (h0 : 0 ≤ i) (h1 : i < σ 15 6) : σ 137 i = σ 16 i := (h.f.own.2.2.2 i h0 h1).1
theorem Inv.e138 {σ : gH} (h : Inv σ) {i : Int} (h0 : 0 ≤ i) (h1 : i < σ 15 6) : σ 138 i = σ 17 i := (h.f.own.2.2.2 i h0 h1).2.1
theorem Inv.e139 {σ : gH} (h : Inv σ) {i : Int} (h0 : 0 ≤ i) (h1 : i < σ 15 6) : σ 139 i = σ 18 i := (h.f.own.2.2.2 i h0 h1).2.2.1
theorem Inv.e140 {σ : gH} (h : Inv σ) {i : Int} (h0 : 0 ≤ i) (h1 : i < σ 15 6) : σ 140 i = σ 19 i := (h.f.own.2.2.2 i h0 h1).2.2.2.1
theorem Inv.e141 {σ : gH} (h : Inv σ) {i : Int} (h0 : 0 ≤ i) (h1 : i < σ 15 6) : σ 141 i = ev (σ 20 i) := (h.f.own.2.2.2 i h0 h1).2.2.2.2.1
theorem Inv.e142 {σ : gH} (h : Inv σ) {i : Int} (h0 : 0 ≤ i) (h1 : i < σ 15 6) : σ 142 i = σ 21 i := (h.f.own.2.2.2 i h0 h1).2.2.2.2.2.1
theorem Inv.e143 {σ : gH} (h : Inv σ) {i : Int} (h0 : 0 ≤ i) (h1 : i < σ 6 6) : σ 143 i = σ 7 i := (h.f.kin.2.2.2 i h0 h1).1
theorem Inv.e144 {σ : gH} (h : Inv σ) {i : Int} (h0 : 0 ≤ i) (h1 : i < σ 6 6) : σ 144 i = σ 8 i := (h.f.kin.2.2.2 i h0 h1).2.1
theorem Inv.e145 {σ : gH} (h : Inv σ) {i : Int} (h0 : 0 ≤ i) (h1 : i < σ 6 6) : σ 145 i = σ 10 i := (h.f.kin.2.2.2 i h0 h1).2.2.1
theorem Inv.e146 {σ : gH} (h : Inv σ) {i : Int} (h0 : 0 ≤ i) (h1 : i < σ 6 6) : σ 146 i = ev (σ 11 i) := (h.f.kin.2.2.2 i h0 h1).2.2.2.1
theorem Inv.e147 {σ : gH} (h : Inv σ) {i : Int} (h0 : 0 ≤ i) (h1 : i < σ 6 6) : σ 147 i = σ 12 i := (h.f.kin.2.2.2 i h0 h1).2.2.2.2.1
theorem Inv.e148 {σ : gH} (h : Inv σ) {i : Int} (h0 : 0 ≤ i) (h1 : i < σ 34 6) : σ 148 i = σ 35 i := (h.f.post.2.2.2 i h0 h1).1
theorem Inv.e149 {σ : gH} (h : Inv σ) {i : Int} (h0 : 0 ≤ i) (h1 : i < σ 34 6) : σ 149 i = σ 36 i := (h.f.post.2.2.2 i h0 h1).2.1
theorem Inv.e150 {σ : gH} (h : Inv σ) {i : Int} (h0 : 0 ≤ i) (h1 : i < σ 34 6) : σ 150 i = σ 38 i := (h.f.post.2.2.2 i h0 h1).2.2.1
theorem Inv.e151 {σ : gH} (h : Inv σ) {i : Int} (h0 : 0 ≤ i) (h1 : i < σ 34 6) : σ 151 i = ev (σ 39 i) := (h.f.post.2.2.2 i h0 h1).2.2.2.1
theorem Inv.e152 {σ : gH} (h : Inv σ) {i : Int} (h0 : 0 ≤ i) (h1 : i < σ 34 6) : σ 152 i = σ 40 i := (h.f.post.2.2.2 i h0 h1).2.2.2.2.1
theorem Inv.e164 {σ : gH} (h : Inv σ) {i : Int} (h0 : 0 ≤ i) (h1 : i < σ 41 16) : σ 164 i = σ 53 i := (h.f.worth.2.2.2 i h0 h1).1
theorem Inv.e165 {σ : gH} (h : Inv σ) {i : Int} (h0 : 0 ≤ i) (h1 : i < σ 41 16) : σ 165 i = σ 54 i := (h.f.worth.2.2.2 i h0 h1).2.1
theorem Inv.e166 {σ : gH} (h : Inv σ) {i : Int} (h0 : 0 ≤ i) (h1 : i < σ 41 16) : σ 166 i = σ 55 i := (h.f.worth.2.2.2 i h0 h1).2.2.1
theorem Inv.e167 {σ : gH} (h : Inv σ) {i : Int} (h0 : 0 ≤ i) (h1 : i < σ 41 16) : σ 167 i = σ 56 i := (h.f.worth.2.2.2 i h0 h1).2.2.2.1
theorem Inv.e189 {σ : gH} (h : Inv σ) {i : Int} (h0 : 0 ≤ i) (h1 : i < σ 125 2) : σ 189 i = σ 126 i := (h.f.mem.2.2.2 i h0 h1).1
theorem Inv.e190 {σ : gH} (h : Inv σ) {i : Int} (h0 : 0 ≤ i) (h1 : i < σ 125 5) : σ 190 i = σ 127 i := (h.f.mat.2.2.2 i h0 h1).1
theorem Inv.e191 {σ : gH} (h : Inv σ) {i : Int} (h0 : 0 ≤ i) (h1 : i < σ 125 5) : σ 191 i = σ 128 i := (h.f.mat.2.2.2 i h0 h1).2.1
theorem Inv.e203 {σ : gH} (h : Inv σ) {i : Int} (h0 : 0 ≤ i) (h1 : i < σ 125 10) : σ 203 i = σ 129 i := (h.f.vote.2.2.2 i h0 h1).1
theorem Inv.e204 {σ : gH} (h : Inv σ) {i : Int} (h0 : 0 ≤ i) (h1 : i < σ 125 10) : σ 204 i = σ 130 i := (h.f.vote.2.2.2 i h0 h1).2.1
theorem Inv.e206 {σ : gH} (h : Inv σ) {i : Int} (h0 : 0 ≤ i) (h1 : i < σ 125 10) : σ 206 i = σ 131 i := (h.f.vote.2.2.2 i h0 h1).2.2.1
theorem Inv.e205 {σ : gH} (h : Inv σ) {i : Int} (h0 : 0 ≤ i) (h1 : i < σ 125 10) : σ 205 i = σ 132 i := (h.f.vote.2.2.2 i h0 h1).2.2.2.1
theorem Inv.e192 {σ : gH} (h : Inv σ) {i : Int} (h0 : 0 ≤ i) (h1 : i < σ 112 8) : σ 192 i = σ 113 i := (h.f.ent.2.2.2 i h0 h1).1
theorem Inv.e193 {σ : gH} (h : Inv σ) {i : Int} (h0 : 0 ≤ i) (h1 : i < σ 112 8) : σ 193 i = σ 115 i := (h.f.ent.2.2.2 i h0 h1).2.2.1
theorem Inv.e194 {σ : gH} (h : Inv σ) {i : Int} (h0 : 0 ≤ i) (h1 : i < σ 112 8) : σ 194 i = σ 116 i := (h.f.ent.2.2.2 i h0 h1).2.2.2.1
theorem Inv.e195 {σ : gH} (h : Inv σ) {i : Int} (h0 : 0 ≤ i) (h1 : i < σ 112 8) : σ 195 i = σ 117 i := (h.f.ent.2.2.2 i h0 h1).2.2.2.2.1
theorem Inv.e153 {σ : gH} (h : Inv σ) {i : Int} (h0 : 0 ≤ i) (h1 : i < σ 41 11) : σ 153 i = σ 42 i := (h.f.gift.2.2.2 i h0 h1).1.1
theorem Inv.e154 {σ : gH} (h : Inv σ) {i : Int} (h0 : 0 ≤ i) (h1 : i < σ 41 11) : σ 154 i = σ 43 i := (h.f.gift.2.2.2 i h0 h1).1.2.1
theorem Inv.e155 {σ : gH} (h : Inv σ) {i : Int} (h0 : 0 ≤ i) (h1 : i < σ 41 11) : σ 155 i = σ 44 i := (h.f.gift.2.2.2 i h0 h1).1.2.2.1
theorem Inv.e156 {σ : gH} (h : Inv σ) {i : Int} (h0 : 0 ≤ i) (h1 : i < σ 41 11) : σ 156 i = σ 45 i := (h.f.gift.2.2.2 i h0 h1).1.2.2.2.1
theorem Inv.e163 {σ : gH} (h : Inv σ) {i : Int} (h0 : 0 ≤ i) (h1 : i < σ 41 11) : σ 163 i = σ 46 i := (h.f.gift.2.2.2 i h0 h1).1.2.2.2.2.1
theorem Inv.e157 {σ : gH} (h : Inv σ) {i : Int} (h0 : 0 ≤ i) (h1 : i < σ 41 11) : σ 157 i = σ 47 i := (h.f.gift.2.2.2 i h0 h1).1.2.2.2.2.2.1
theorem Inv.e158 {σ : gH} (h : Inv σ) {i : Int} (h0 : 0 ≤ i) (h1 : i < σ 41 11) : σ 158 i = σ 48 i := (h.f.gift.2.2.2 i h0 h1).1.2.2.2.2.2.2.1
theorem Inv.e159 {σ : gH} (h : Inv σ) {i : Int} (h0 : 0 ≤ i) (h1 : i < σ 41 11) : σ 159 i = σ 49 i := (h.f.gift.2.2.2 i h0 h1).1.2.2.2.2.2.2.2.1
theorem Inv.e160 {σ : gH} (h : Inv σ) {i : Int} (h0 : 0 ≤ i) (h1 : i < σ 41 11) : σ 160 i = σ 50 i := (h.f.gift.2.2.2 i h0 h1).1.2.2.2.2.2.2.2.2.1
theorem Inv.e162 {σ : gH} (h : Inv σ) {i : Int} (h0 : 0 ≤ i) (h1 : i < σ 41 11) : σ 162 i = σ 52 i := (h.f.gift.2.2.2 i h0 h1).1.2.2.2.2.2.2.2.2.2.2
theorem Inv.e161 {σ : gH} (h : Inv σ) {i : Int} (h0 : 0 ≤ i) (h1 : i < σ 41 11) (h2 : σ 50 i ≠ -1) : σ 161 i = σ 51 i := (h.f.gift.2.2.2 i h0 h1).1.2.2.2.2.2.2.2.2.2.1 h2
theorem Inv.f2 {σ : gH} (h : Inv σ) : σ 133 2 = σ 0 1 := h.f.tape.1
theorem Inv.f3 {σ : gH} (h : Inv σ) : σ 133 3 = σ 0 4 := h.f.day.1
theorem Inv.f6 {σ : gH} (h : Inv σ) : σ 133 6 = σ 3 2 := h.f.party.1
theorem Inv.f14 {σ : gH} (h : Inv σ) : σ 133 14 = σ 15 6 := h.f.own.1
theorem Inv.f25 {σ : gH} (h : Inv σ) : σ 133 25 = σ 6 6 := h.f.kin.1
theorem Inv.f26 {σ : gH} (h : Inv σ) : σ 133 26 = σ 34 6 := h.f.post.1
theorem Inv.f42 {σ : gH} (h : Inv σ) : σ 133 42 = σ 41 11 := h.f.gift.1
theorem Inv.f43 {σ : gH} (h : Inv σ) : σ 133 43 = σ 41 16 := h.f.worth.1
theorem Inv.f51 {σ : gH} (h : Inv σ) : σ 133 51 = σ 0 3 := h.f.outs.1
theorem Inv.f92 {σ : gH} (h : Inv σ) : σ 133 92 = σ 125 2 := h.f.mem.1
theorem Inv.f93 {σ : gH} (h : Inv σ) : σ 133 93 = σ 125 5 := h.f.mat.1
theorem Inv.f99 {σ : gH} (h : Inv σ) : σ 133 99 = σ 112 8 := h.f.ent.1
theorem Inv.f110 {σ : gH} (h : Inv σ) : σ 133 110 = σ 125 10 := h.f.vote.1
theorem Inv.f77 {σ : gH} (h : Inv σ) : σ 133 77 = σ 57 2 := h.law.1
theorem Inv.f60 {σ : gH} (h : Inv σ) : σ 133 60 = σ 57 3 := h.law.2.2.2.1
