/-! what the two systems' stores say: the facts, row by row, and that the reference has the same (cells: see NOTES.md and jv.py) -/
theorem CI_of {Inv : gH → Prop} {MC MM : gM} {as : List gV} (h : ∀ σ, gGr σ → Inv σ → ∃ (r : Int) (J : gH → Prop), Mt MC 30 (gR 0 :: as) σ (fun v σ1 => v = gI r ∧ J σ1) ∧ ∀ σ1, gGr σ1 → J σ1 → Mt MM 30 (gR 133 :: as) σ1 (fun v σ2 => v = gI r ∧ Inv σ2)) : CI Inv MC MM as := by
  intro σ hg hI
  obtain ⟨r, J, h1, h2⟩ := h σ hg hI
  exact ⟨r, fun σ1 => gGr σ1 ∧ J σ1, gMt.mono (h1 hg) (fun v L' σ' q => ⟨q.1, q.2.2.1, q.2.1, q.2.2.2⟩), fun σ1 hJ => gMt.mono (h2 σ1 hJ.1 hJ.2 hJ.1) (fun v L' σ' q => ⟨q.1, q.2.2.1, q.2.1, q.2.2.2⟩)⟩
theorem CJ_of {Inv : gH → Prop} {MC MM : gM} {as : List gV} (h : ∀ σ, gGr σ → Inv σ → ∃ (r : Int) (J : gH → Prop), Mt MC 30 (gR 0 :: as) σ (fun v σ1 => v = gJ r ∧ J σ1) ∧ ∀ σ1, gGr σ1 → J σ1 → Mt MM 30 (gR 133 :: as) σ1 (fun v σ2 => v = gJ r ∧ Inv σ2)) : CJ Inv MC MM as := by
  intro σ hg hI
  obtain ⟨r, J, h1, h2⟩ := h σ hg hI
  exact ⟨r, fun σ1 => gGr σ1 ∧ J σ1, gMt.mono (h1 hg) (fun v L' σ' q => ⟨q.1, q.2.2.1, q.2.1, q.2.2.2⟩), fun σ1 hJ => gMt.mono (h2 σ1 hJ.1 hJ.2 hJ.1) (fun v L' σ' q => ⟨q.1, q.2.2.1, q.2.1, q.2.2.2⟩)⟩
def S_day (σ : gH) : Prop := σ 133 3 = σ 0 4 ∧ 0 ≤ σ 0 4 ∧ σ 0 4 ≤ 9999
def S_tape (σ : gH) : Prop := σ 133 2 = σ 0 1 ∧ 0 ≤ σ 0 1 ∧ σ 0 1 ≤ 540 ∧ ∀ i, 0 ≤ i → i < σ 0 1 → σ 134 i = σ 1 i ∧ 0 ≤ σ 1 i ∧ σ 1 i ≤ 255
def S_out (σ : gH) : Prop := σ 133 51 = σ 0 3 ∧ 0 ≤ σ 0 3 ∧ σ 0 3 ≤ 5 ∧ ∀ i, 0 ≤ i → i < σ 0 3 → σ 171 i = σ 2 i
/-- a name's letters, 1 to 26, as digits -/
def enc (b : Int) (w : List Int) : Int := w.foldl (fun v c => b * v + c) 0
def isNm (w : List Int) : Prop := w ≠ [] ∧ w.length ≤ 12 ∧ ∀ l ∈ w, 1 ≤ l ∧ l ≤ 26
def nmR (c m : Int) : Prop := ∃ w : List Int, isNm w ∧ c = enc 32 w ∧ m = enc 27 w
def S_party (σ : gH) : Prop := σ 133 6 = σ 3 2 ∧ 0 ≤ σ 3 2 ∧ σ 3 2 ≤ 60 ∧ ∀ i, 0 ≤ i → i < σ 3 2 → σ 135 i = σ 4 i ∧ 0 ≤ σ 4 i ∧ σ 4 i ≤ 2 ∧ nmR (σ 5 i) (σ 136 i)
/-- a last day as the reference keeps it -/
def ev (u : Int) : Int := if u = -1 then 2147483647 else u
def isP (σ : gH) (x : Int) : Prop := 0 ≤ x ∧ x < σ 3 2
def isPe (σ : gH) (x : Int) : Prop := isP σ x ∧ σ 4 x = 0
def isHo (σ : gH) (x : Int) : Prop := isP σ x ∧ σ 4 x ≠ 0
def isDy (d : Int) : Prop := 0 ≤ d ∧ d ≤ 9999
def okSpan (f u a : Int) : Prop := isDy f ∧ (u = -1 ∨ (isDy u ∧ f + a ≤ u))
def S_own (σ : gH) : Prop := σ 133 14 = σ 15 6 ∧ 0 ≤ σ 15 6 ∧ σ 15 6 ≤ 200 ∧ ∀ i, 0 ≤ i → i < σ 15 6 → σ 137 i = σ 16 i ∧ σ 138 i = σ 17 i ∧ σ 139 i = σ 18 i ∧ σ 140 i = σ 19 i ∧ σ 141 i = ev (σ 20 i) ∧ σ 142 i = σ 21 i ∧
  isP σ (σ 16 i) ∧ isHo σ (σ 17 i) ∧ σ 16 i ≠ σ 17 i ∧ 1 ≤ σ 18 i ∧ σ 18 i ≤ 10000 ∧ okSpan (σ 19 i) (σ 20 i) 1 ∧ isDy (σ 21 i)
def S_kin (σ : gH) : Prop := σ 133 25 = σ 6 6 ∧ 0 ≤ σ 6 6 ∧ σ 6 6 ≤ 100 ∧ ∀ i, 0 ≤ i → i < σ 6 6 → σ 143 i = σ 7 i ∧ σ 144 i = σ 8 i ∧ σ 145 i = σ 10 i ∧ σ 146 i = ev (σ 11 i) ∧ σ 147 i = σ 12 i ∧
  isPe σ (σ 7 i) ∧ isPe σ (σ 8 i) ∧ σ 7 i ≠ σ 8 i ∧ okSpan (σ 10 i) (σ 11 i) 1 ∧ isDy (σ 12 i)
def S_post (σ : gH) : Prop := σ 133 26 = σ 34 6 ∧ 0 ≤ σ 34 6 ∧ σ 34 6 ≤ 60 ∧ ∀ i, 0 ≤ i → i < σ 34 6 → σ 148 i = σ 35 i ∧ σ 149 i = σ 36 i ∧ σ 150 i = σ 38 i ∧ σ 151 i = ev (σ 39 i) ∧ σ 152 i = σ 40 i ∧
  isPe σ (σ 35 i) ∧ isHo σ (σ 36 i) ∧ okSpan (σ 38 i) (σ 39 i) 0 ∧ isDy (σ 40 i)
def isWo (a b : Int) : Prop := 0 ≤ a ∧ a ≤ b ∧ b ≤ 1000000
def S_gift (σ : gH) : Prop := σ 133 42 = σ 41 11 ∧ 0 ≤ σ 41 11 ∧ σ 41 11 ≤ 120 ∧ ∀ i, 0 ≤ i → i < σ 41 11 → (σ 153 i = σ 42 i ∧ σ 154 i = σ 43 i ∧ σ 155 i = σ 44 i ∧ σ 156 i = σ 45 i ∧ σ 163 i = σ 46 i ∧ σ 157 i = σ 47 i ∧ σ 158 i = σ 48 i ∧ σ 159 i = σ 49 i ∧ σ 160 i = σ 50 i ∧ (σ 50 i ≠ -1 → σ 161 i = σ 51 i) ∧ σ 162 i = σ 52 i) ∧
  isP σ (σ 42 i) ∧ isPe σ (σ 43 i) ∧ σ 42 i ≠ σ 43 i ∧ 0 ≤ σ 44 i ∧ σ 44 i ≤ 3 ∧ isDy (σ 45 i) ∧ (σ 46 i = 0 ∨ σ 46 i = 1) ∧ isWo (σ 47 i) (σ 48 i) ∧ isDy (σ 49 i) ∧ (σ 50 i = -1 ∨ (isDy (σ 50 i) ∧ isDy (σ 51 i))) ∧ (σ 52 i = -1 ∨ isDy (σ 52 i))
def S_worth (σ : gH) : Prop := σ 133 43 = σ 41 16 ∧ 0 ≤ σ 41 16 ∧ σ 41 16 ≤ 200 ∧ ∀ i, 0 ≤ i → i < σ 41 16 → σ 164 i = σ 53 i ∧ σ 165 i = σ 54 i ∧ σ 166 i = σ 55 i ∧ σ 167 i = σ 56 i ∧ 0 ≤ σ 53 i ∧ σ 53 i < σ 41 11 ∧ isWo (σ 54 i) (σ 55 i) ∧ isDy (σ 56 i)
def S_mem (σ : gH) : Prop := σ 133 92 = σ 125 2 ∧ 0 ≤ σ 125 2 ∧ σ 125 2 ≤ 12 ∧ ∀ i, 0 ≤ i → i < σ 125 2 → σ 189 i = σ 126 i ∧ isPe σ (σ 126 i)
def S_mat (σ : gH) : Prop := σ 133 93 = σ 125 5 ∧ 0 ≤ σ 125 5 ∧ σ 125 5 ≤ 60 ∧ ∀ i, 0 ≤ i → i < σ 125 5 → σ 190 i = σ 127 i ∧ σ 191 i = σ 128 i ∧ isP σ (σ 127 i) ∧ isDy (σ 128 i)
def S_vote (σ : gH) : Prop := σ 133 110 = σ 125 10 ∧ 0 ≤ σ 125 10 ∧ σ 125 10 ≤ 200 ∧ ∀ i, 0 ≤ i → i < σ 125 10 → σ 203 i = σ 129 i ∧ σ 204 i = σ 130 i ∧ σ 206 i = σ 131 i ∧ σ 205 i = σ 132 i ∧ 0 ≤ σ 129 i ∧ σ 129 i < σ 125 5 ∧ isPe σ (σ 130 i) ∧ (σ 131 i = 0 ∨ σ 131 i = 1) ∧ isDy (σ 132 i)
def S_ent (σ : gH) : Prop := σ 133 99 = σ 112 8 ∧ 0 ≤ σ 112 8 ∧ σ 112 8 ≤ 100 ∧ ∀ i, 0 ≤ i → i < σ 112 8 → σ 192 i = σ 113 i ∧ nmR (σ 114 i) (σ 196 i) ∧ σ 193 i = σ 115 i ∧ σ 194 i = σ 116 i ∧ σ 195 i = σ 117 i ∧ isP σ (σ 113 i) ∧ isDy (σ 115 i) ∧ 0 ≤ σ 116 i ∧ σ 116 i ≤ 1000000 ∧ isDy (σ 117 i)
