/-! the law, case by case (written by wip/whole/gen/mod_law.py) -/
theorem iL : Cond.initialized "GiftRegisterLaw" ∈ gG := gG_1 0 (by decide +kernel) (by decide +kernel)
theorem cw_mL_octet : Cond.codeWith mL_octet.1 mL_octet.2.1 mL_octet.2.2.1 mL_octet.2.2.2.1 [(0, 9, 12, 13)] ∈ gG := gG_6 211 rfl rfl
theorem cw_mL_judged : Cond.codeWith mL_judged.1 mL_judged.2.1 mL_judged.2.2.1 mL_judged.2.2.2.1 [(0, 12, 15, 13)] ∈ gG := gG_7 44 rfl rfl
theorem cw_mL_entered : Cond.codeWith mL_entered.1 mL_entered.2.1 mL_entered.2.2.1 mL_entered.2.2.2.1 [(0, 12, 15, 13)] ∈ gG := gG_7 61 rfl rfl
theorem cw_mL_chance : Cond.codeWith mL_chance.1 mL_chance.2.1 mL_chance.2.2.1 mL_chance.2.2.2.1 [(0, 9, 12, 13)] ∈ gG := gG_7 81 rfl rfl
theorem st_mL_octet : Cond.static yL_octet ∈ gG := gG_6 210 (by decide +kernel) (by decide +kernel)
theorem st_mL_judged : Cond.static yL_judged ∈ gG := gG_7 43 (by decide +kernel) (by decide +kernel)
theorem st_mL_entered : Cond.static yL_entered ∈ gG := gG_7 60 (by decide +kernel) (by decide +kernel)
theorem st_mL_chance : Cond.static yL_chance ∈ gG := gG_7 80 (by decide +kernel) (by decide +kernel)
set_option maxRecDepth 100000 in
theorem law_0 (Inv : gH → Prop) {xs : List Int} {mc ms : Nat} {i : Int} {σ : gH} {Q : gV → List gK → gH → Prop} (hxs : ∀ j, gi32 (xs.getD j 0)) (h0 : 0 ≤ i) (h8 : i + 8 ≤ xs.length) (hL : xs.length ≤ 4096) (hg : gGr σ) (hI : Inv σ) (hq0 : ∀ a0 : Int, gi32 a0 → ∀ a1 : Int, gi32 a1 → ∀ a2 : Int, gi32 a2 → ∀ a3 : Int, gi32 a3 → ∀ a4 : Int, gi32 a4 → CI Inv mX11_feed mX12_feed [gI a0, gI a1, gI a2, gI a3, gI a4])
    (hend : ∀ σ2, gGr σ2 → Inv σ2 → ∀ u1 u2 u3, gWp (mLaw xs) 100 mc ms Q gL σ2 1703 [gX 2, gR 0, gR 133, gR 208, gI i, u1, u2, u3] []) : gWp (mLaw xs) 100 (1 + mc) (6 + ms) Q gL σ 180 [gX 2, gR 0, gR 133, gR 208, gI i, gX 1, gX 1, gX 1] [] := by
  refine gWp.budget (mc := 0 + (0 + mc)) (ms := 0 + (0 + ms)) (by omega) (by omega) ?_
  refine wg_aload_n (pc' := 181) (i := 1) (by rfl) (by rfl) dL_law_180 rfl ?_
  refine wg_aloadX_n (n := 2) (pc' := 182) (i := 0) (by rfl) (by decide) (by rfl) dL_law_181 rfl ?_
  refine wg_iload (pc' := 184) (by rfl) dL_law_182 rfl ?_
  refine wg_iconst (pc' := 185) (by decide) dL_law_184 rfl ?_
  refine wg_iadd (pc' := 186) dL_law_185 rfl ?_
  rw [w32_id (show gi32 (i + 1) from ⟨by omega, by omega⟩)]
  refine wg_sld (pc' := 187) (xs := xs) rfl (by omega) (by omega) dL_law_186 rfl (fun g_186 => ?_)
  refine wg_aloadX_n (n := 2) (pc' := 188) (i := 0) (by rfl) (by decide) (by rfl) dL_law_187 rfl ?_
  refine wg_iload (pc' := 190) (by rfl) dL_law_188 rfl ?_
  refine wg_iconst (pc' := 191) (by decide) dL_law_190 rfl ?_
  refine wg_iadd (pc' := 192) dL_law_191 rfl ?_
  rw [w32_id (show gi32 (i + 2) from ⟨by omega, by omega⟩)]
  refine wg_sld (pc' := 193) (xs := xs) rfl (by omega) (by omega) dL_law_192 rfl (fun g_192 => ?_)
  refine wg_aloadX_n (n := 2) (pc' := 194) (i := 0) (by rfl) (by decide) (by rfl) dL_law_193 rfl ?_
  refine wg_iload (pc' := 196) (by rfl) dL_law_194 rfl ?_
  refine wg_iconst (pc' := 197) (by decide) dL_law_196 rfl ?_
  refine wg_iadd (pc' := 198) dL_law_197 rfl ?_
  rw [w32_id (show gi32 (i + 3) from ⟨by omega, by omega⟩)]
  refine wg_sld (pc' := 199) (xs := xs) rfl (by omega) (by omega) dL_law_198 rfl (fun g_198 => ?_)
  refine wg_aloadX_n (n := 2) (pc' := 200) (i := 0) (by rfl) (by decide) (by rfl) dL_law_199 rfl ?_
  refine wg_iload (pc' := 202) (by rfl) dL_law_200 rfl ?_
  refine wg_iconst (pc' := 203) (by decide) dL_law_202 rfl ?_
  refine wg_iadd (pc' := 204) dL_law_203 rfl ?_
  rw [w32_id (show gi32 (i + 4) from ⟨by omega, by omega⟩)]
  refine wg_sld (pc' := 205) (xs := xs) rfl (by omega) (by omega) dL_law_204 rfl (fun g_204 => ?_)
  refine wg_aloadX_n (n := 2) (pc' := 206) (i := 0) (by rfl) (by decide) (by rfl) dL_law_205 rfl ?_
  refine wg_iload (pc' := 208) (by rfl) dL_law_206 rfl ?_
  refine wg_iconst (pc' := 209) (by decide) dL_law_208 rfl ?_
  refine wg_iadd (pc' := 210) dL_law_209 rfl ?_
  rw [w32_id (show gi32 (i + 5) from ⟨by omega, by omega⟩)]
  refine wg_sld (pc' := 211) (xs := xs) rfl (by omega) (by omega) dL_law_210 rfl (fun g_210 => ?_)
  obtain ⟨r, J, hC, hM⟩ := hq0 (xs.getD (i + 1).toNat 0) (hxs _) (xs.getD (i + 2).toNat 0) (hxs _) (xs.getD (i + 3).toNat 0) (hxs _) (xs.getD (i + 4).toNat 0) (hxs _) (xs.getD (i + 5).toNat 0) (hxs _) σ hg hI
  refine wg_callV (mc' := 0) (ms' := 0) (pc' := 214) (av := [gI (xs.getD (i + 1).toNat 0), gI (xs.getD (i + 2).toNat 0), gI (xs.getD (i + 3).toNat 0), gI (xs.getD (i + 4).toNat 0), gI (xs.getD (i + 5).toNat 0)]) mi_mX11_feed lk_L_30 rfl ci_X11 kd_0 rfl (Nat.le_of_ble_eq_true rfl) (by decide) dL_law_211 rfl hC (fun v L9 σ1 q9 => ?_)
  obtain ⟨rfl, rfl, hJ⟩ := q9
  show gWp _ _ _ _ _ _ _ _ [gX 2, gR 0, gR 133, gR 208, gI i, gX 1, gX 1, gX 1] [gI r]
  refine wg_aload_n (pc' := 215) (i := 2) (by rfl) (by rfl) dL_law_214 rfl ?_
  refine wg_aloadX_n (n := 2) (pc' := 216) (i := 0) (by rfl) (by decide) (by rfl) dL_law_215 rfl ?_
  refine wg_iload (pc' := 218) (by rfl) dL_law_216 rfl ?_
  refine wg_iconst (pc' := 219) (by decide) dL_law_218 rfl ?_
  refine wg_iadd (pc' := 220) dL_law_219 rfl ?_
  rw [w32_id (show gi32 (i + 1) from ⟨by omega, by omega⟩)]
  refine wg_sld (pc' := 221) (xs := xs) rfl (by omega) (by omega) dL_law_220 rfl (fun g_220 => ?_)
  refine wg_aloadX_n (n := 2) (pc' := 222) (i := 0) (by rfl) (by decide) (by rfl) dL_law_221 rfl ?_
  refine wg_iload (pc' := 224) (by rfl) dL_law_222 rfl ?_
  refine wg_iconst (pc' := 225) (by decide) dL_law_224 rfl ?_
  refine wg_iadd (pc' := 226) dL_law_225 rfl ?_
  rw [w32_id (show gi32 (i + 2) from ⟨by omega, by omega⟩)]
  refine wg_sld (pc' := 227) (xs := xs) rfl (by omega) (by omega) dL_law_226 rfl (fun g_226 => ?_)
  refine wg_aloadX_n (n := 2) (pc' := 228) (i := 0) (by rfl) (by decide) (by rfl) dL_law_227 rfl ?_
  refine wg_iload (pc' := 230) (by rfl) dL_law_228 rfl ?_
  refine wg_iconst (pc' := 231) (by decide) dL_law_230 rfl ?_
  refine wg_iadd (pc' := 232) dL_law_231 rfl ?_
  rw [w32_id (show gi32 (i + 3) from ⟨by omega, by omega⟩)]
  refine wg_sld (pc' := 233) (xs := xs) rfl (by omega) (by omega) dL_law_232 rfl (fun g_232 => ?_)
  refine wg_aloadX_n (n := 2) (pc' := 234) (i := 0) (by rfl) (by decide) (by rfl) dL_law_233 rfl ?_
  refine wg_iload (pc' := 236) (by rfl) dL_law_234 rfl ?_
  refine wg_iconst (pc' := 237) (by decide) dL_law_236 rfl ?_
  refine wg_iadd (pc' := 238) dL_law_237 rfl ?_
  rw [w32_id (show gi32 (i + 4) from ⟨by omega, by omega⟩)]
  refine wg_sld (pc' := 239) (xs := xs) rfl (by omega) (by omega) dL_law_238 rfl (fun g_238 => ?_)
  refine wg_aloadX_n (n := 2) (pc' := 240) (i := 0) (by rfl) (by decide) (by rfl) dL_law_239 rfl ?_
  refine wg_iload (pc' := 242) (by rfl) dL_law_240 rfl ?_
  refine wg_iconst (pc' := 243) (by decide) dL_law_242 rfl ?_
  refine wg_iadd (pc' := 244) dL_law_243 rfl ?_
  rw [w32_id (show gi32 (i + 5) from ⟨by omega, by omega⟩)]
  refine wg_sld (pc' := 245) (xs := xs) rfl (by omega) (by omega) dL_law_244 rfl (fun g_244 => ?_)
  refine wg_callV (mc' := 0) (ms' := 0) (pc' := 248) (av := [gI (xs.getD (i + 1).toNat 0), gI (xs.getD (i + 2).toNat 0), gI (xs.getD (i + 3).toNat 0), gI (xs.getD (i + 4).toNat 0), gI (xs.getD (i + 5).toNat 0)]) mi_mX12_feed lk_L_34 rfl ci_X12 kd_133 rfl (Nat.le_of_ble_eq_true rfl) (by decide) dL_law_245 rfl (hM σ1 hJ) (fun v L9 σ2 q9 => ?_)
  obtain ⟨rfl, rfl, hg2, hI2⟩ := q9
  show gWp _ _ _ _ _ _ _ _ [gX 2, gR 0, gR 133, gR 208, gI i, gX 1, gX 1, gX 1] [gI r, gI r]
  refine wg_icmp_eq (pc' := 251) (t := 1703) dL_law_248 rfl rfl (fun _ => ?_) (fun c => absurd rfl c)
  exact hend σ2 hg2 hI2 _ _ _
set_option maxRecDepth 100000 in
theorem law_1 (Inv : gH → Prop) {xs : List Int} {mc ms : Nat} {i : Int} {σ : gH} {Q : gV → List gK → gH → Prop} (hxs : ∀ j, gi32 (xs.getD j 0)) (h0 : 0 ≤ i) (h8 : i + 8 ≤ xs.length) (hL : xs.length ≤ 4096) (hg : gGr σ) (hI : Inv σ) (hq1 : ∀ a0 : Int, gi32 a0 → CI Inv mX11_end mX12_end [gI a0])
    (hend : ∀ σ2, gGr σ2 → Inv σ2 → ∀ u1 u2 u3, gWp (mLaw xs) 100 mc ms Q gL σ2 1703 [gX 2, gR 0, gR 133, gR 208, gI i, u1, u2, u3] []) : gWp (mLaw xs) 100 (1 + mc) (6 + ms) Q gL σ 253 [gX 2, gR 0, gR 133, gR 208, gI i, gX 1, gX 1, gX 1] [] := by
  refine gWp.budget (mc := 0 + (0 + mc)) (ms := 0 + (0 + ms)) (by omega) (by omega) ?_
  refine wg_aload_n (pc' := 254) (i := 1) (by rfl) (by rfl) dL_law_253 rfl ?_
  refine wg_aloadX_n (n := 2) (pc' := 255) (i := 0) (by rfl) (by decide) (by rfl) dL_law_254 rfl ?_
  refine wg_iload (pc' := 257) (by rfl) dL_law_255 rfl ?_
  refine wg_iconst (pc' := 258) (by decide) dL_law_257 rfl ?_
  refine wg_iadd (pc' := 259) dL_law_258 rfl ?_
  rw [w32_id (show gi32 (i + 1) from ⟨by omega, by omega⟩)]
  refine wg_sld (pc' := 260) (xs := xs) rfl (by omega) (by omega) dL_law_259 rfl (fun g_259 => ?_)
  obtain ⟨r, J, hC, hM⟩ := hq1 (xs.getD (i + 1).toNat 0) (hxs _) σ hg hI
  refine wg_callV (mc' := 0) (ms' := 0) (pc' := 263) (av := [gI (xs.getD (i + 1).toNat 0)]) mi_mX11_end lk_L_35 rfl ci_X11 kd_0 rfl (Nat.le_of_ble_eq_true rfl) (by decide) dL_law_260 rfl hC (fun v L9 σ1 q9 => ?_)
  obtain ⟨rfl, rfl, hJ⟩ := q9
  show gWp _ _ _ _ _ _ _ _ [gX 2, gR 0, gR 133, gR 208, gI i, gX 1, gX 1, gX 1] [gI r]
  refine wg_aload_n (pc' := 264) (i := 2) (by rfl) (by rfl) dL_law_263 rfl ?_
  refine wg_aloadX_n (n := 2) (pc' := 265) (i := 0) (by rfl) (by decide) (by rfl) dL_law_264 rfl ?_
  refine wg_iload (pc' := 267) (by rfl) dL_law_265 rfl ?_
  refine wg_iconst (pc' := 268) (by decide) dL_law_267 rfl ?_
  refine wg_iadd (pc' := 269) dL_law_268 rfl ?_
  rw [w32_id (show gi32 (i + 1) from ⟨by omega, by omega⟩)]
  refine wg_sld (pc' := 270) (xs := xs) rfl (by omega) (by omega) dL_law_269 rfl (fun g_269 => ?_)
  refine wg_callV (mc' := 0) (ms' := 0) (pc' := 273) (av := [gI (xs.getD (i + 1).toNat 0)]) mi_mX12_end lk_L_39 rfl ci_X12 kd_133 rfl (Nat.le_of_ble_eq_true rfl) (by decide) dL_law_270 rfl (hM σ1 hJ) (fun v L9 σ2 q9 => ?_)
  obtain ⟨rfl, rfl, hg2, hI2⟩ := q9
  show gWp _ _ _ _ _ _ _ _ [gX 2, gR 0, gR 133, gR 208, gI i, gX 1, gX 1, gX 1] [gI r, gI r]
  refine wg_icmp_eq (pc' := 276) (t := 1703) dL_law_273 rfl rfl (fun _ => ?_) (fun c => absurd rfl c)
  exact hend σ2 hg2 hI2 _ _ _
set_option maxRecDepth 100000 in
theorem law_2 (Inv : gH → Prop) {xs : List Int} {mc ms : Nat} {i : Int} {σ : gH} {Q : gV → List gK → gH → Prop} (hxs : ∀ j, gi32 (xs.getD j 0)) (h0 : 0 ≤ i) (h8 : i + 8 ≤ xs.length) (hL : xs.length ≤ 4096) (hg : gGr σ) (hI : Inv σ) (hq2 : ∀ a0 : Int, gi32 a0 → CI Inv mX11_next mX12_next [gI a0])
    (hend : ∀ σ2, gGr σ2 → Inv σ2 → ∀ u1 u2 u3, gWp (mLaw xs) 100 mc ms Q gL σ2 1703 [gX 2, gR 0, gR 133, gR 208, gI i, u1, u2, u3] []) : gWp (mLaw xs) 100 (1 + mc) (6 + ms) Q gL σ 278 [gX 2, gR 0, gR 133, gR 208, gI i, gX 1, gX 1, gX 1] [] := by
  refine gWp.budget (mc := 0 + (0 + mc)) (ms := 0 + (0 + ms)) (by omega) (by omega) ?_
  refine wg_aload_n (pc' := 279) (i := 1) (by rfl) (by rfl) dL_law_278 rfl ?_
  refine wg_aloadX_n (n := 2) (pc' := 280) (i := 0) (by rfl) (by decide) (by rfl) dL_law_279 rfl ?_
  refine wg_iload (pc' := 282) (by rfl) dL_law_280 rfl ?_
  refine wg_iconst (pc' := 283) (by decide) dL_law_282 rfl ?_
  refine wg_iadd (pc' := 284) dL_law_283 rfl ?_
  rw [w32_id (show gi32 (i + 1) from ⟨by omega, by omega⟩)]
  refine wg_sld (pc' := 285) (xs := xs) rfl (by omega) (by omega) dL_law_284 rfl (fun g_284 => ?_)
  obtain ⟨r, J, hC, hM⟩ := hq2 (xs.getD (i + 1).toNat 0) (hxs _) σ hg hI
  refine wg_callV (mc' := 0) (ms' := 0) (pc' := 288) (av := [gI (xs.getD (i + 1).toNat 0)]) mi_mX11_next lk_L_40 rfl ci_X11 kd_0 rfl (Nat.le_of_ble_eq_true rfl) (by decide) dL_law_285 rfl hC (fun v L9 σ1 q9 => ?_)
  obtain ⟨rfl, rfl, hJ⟩ := q9
  show gWp _ _ _ _ _ _ _ _ [gX 2, gR 0, gR 133, gR 208, gI i, gX 1, gX 1, gX 1] [gI r]
  refine wg_aload_n (pc' := 289) (i := 2) (by rfl) (by rfl) dL_law_288 rfl ?_
  refine wg_aloadX_n (n := 2) (pc' := 290) (i := 0) (by rfl) (by decide) (by rfl) dL_law_289 rfl ?_
  refine wg_iload (pc' := 292) (by rfl) dL_law_290 rfl ?_
  refine wg_iconst (pc' := 293) (by decide) dL_law_292 rfl ?_
  refine wg_iadd (pc' := 294) dL_law_293 rfl ?_
  rw [w32_id (show gi32 (i + 1) from ⟨by omega, by omega⟩)]
  refine wg_sld (pc' := 295) (xs := xs) rfl (by omega) (by omega) dL_law_294 rfl (fun g_294 => ?_)
  refine wg_callV (mc' := 0) (ms' := 0) (pc' := 298) (av := [gI (xs.getD (i + 1).toNat 0)]) mi_mX12_next lk_L_43 rfl ci_X12 kd_133 rfl (Nat.le_of_ble_eq_true rfl) (by decide) dL_law_295 rfl (hM σ1 hJ) (fun v L9 σ2 q9 => ?_)
  obtain ⟨rfl, rfl, hg2, hI2⟩ := q9
  show gWp _ _ _ _ _ _ _ _ [gX 2, gR 0, gR 133, gR 208, gI i, gX 1, gX 1, gX 1] [gI r, gI r]
  refine wg_icmp_eq (pc' := 301) (t := 1703) dL_law_298 rfl rfl (fun _ => ?_) (fun c => absurd rfl c)
  exact hend σ2 hg2 hI2 _ _ _
set_option maxRecDepth 100000 in
theorem law_3 (Inv : gH → Prop) {xs : List Int} {mc ms : Nat} {i : Int} {σ : gH} {Q : gV → List gK → gH → Prop} (hxs : ∀ j, gi32 (xs.getD j 0)) (h0 : 0 ≤ i) (h8 : i + 8 ≤ xs.length) (hL : xs.length ≤ 4096) (hg : gGr σ) (hI : Inv σ) (hq3 : ∀ a0 : Int, gi32 a0 → CI Inv mX11_party mX12_party [gI a0])
    (hend : ∀ σ2, gGr σ2 → Inv σ2 → ∀ u1 u2 u3, gWp (mLaw xs) 100 mc ms Q gL σ2 1703 [gX 2, gR 0, gR 133, gR 208, gI i, u1, u2, u3] []) : gWp (mLaw xs) 100 (1 + mc) (6 + ms) Q gL σ 303 [gX 2, gR 0, gR 133, gR 208, gI i, gX 1, gX 1, gX 1] [] := by
  refine gWp.budget (mc := 0 + (0 + mc)) (ms := 0 + (0 + ms)) (by omega) (by omega) ?_
  refine wg_aload_n (pc' := 304) (i := 1) (by rfl) (by rfl) dL_law_303 rfl ?_
  refine wg_aloadX_n (n := 2) (pc' := 305) (i := 0) (by rfl) (by decide) (by rfl) dL_law_304 rfl ?_
  refine wg_iload (pc' := 307) (by rfl) dL_law_305 rfl ?_
  refine wg_iconst (pc' := 308) (by decide) dL_law_307 rfl ?_
  refine wg_iadd (pc' := 309) dL_law_308 rfl ?_
  rw [w32_id (show gi32 (i + 1) from ⟨by omega, by omega⟩)]
  refine wg_sld (pc' := 310) (xs := xs) rfl (by omega) (by omega) dL_law_309 rfl (fun g_309 => ?_)
  obtain ⟨r, J, hC, hM⟩ := hq3 (xs.getD (i + 1).toNat 0) (hxs _) σ hg hI
  refine wg_callV (mc' := 0) (ms' := 0) (pc' := 313) (av := [gI (xs.getD (i + 1).toNat 0)]) mi_mX11_party lk_L_44 rfl ci_X11 kd_0 rfl (Nat.le_of_ble_eq_true rfl) (by decide) dL_law_310 rfl hC (fun v L9 σ1 q9 => ?_)
  obtain ⟨rfl, rfl, hJ⟩ := q9
  show gWp _ _ _ _ _ _ _ _ [gX 2, gR 0, gR 133, gR 208, gI i, gX 1, gX 1, gX 1] [gI r]
  refine wg_aload_n (pc' := 314) (i := 2) (by rfl) (by rfl) dL_law_313 rfl ?_
  refine wg_aloadX_n (n := 2) (pc' := 315) (i := 0) (by rfl) (by decide) (by rfl) dL_law_314 rfl ?_
  refine wg_iload (pc' := 317) (by rfl) dL_law_315 rfl ?_
  refine wg_iconst (pc' := 318) (by decide) dL_law_317 rfl ?_
  refine wg_iadd (pc' := 319) dL_law_318 rfl ?_
  rw [w32_id (show gi32 (i + 1) from ⟨by omega, by omega⟩)]
  refine wg_sld (pc' := 320) (xs := xs) rfl (by omega) (by omega) dL_law_319 rfl (fun g_319 => ?_)
  refine wg_callV (mc' := 0) (ms' := 0) (pc' := 323) (av := [gI (xs.getD (i + 1).toNat 0)]) mi_mX12_party lk_L_47 rfl ci_X12 kd_133 rfl (Nat.le_of_ble_eq_true rfl) (by decide) dL_law_320 rfl (hM σ1 hJ) (fun v L9 σ2 q9 => ?_)
  obtain ⟨rfl, rfl, hg2, hI2⟩ := q9
  show gWp _ _ _ _ _ _ _ _ [gX 2, gR 0, gR 133, gR 208, gI i, gX 1, gX 1, gX 1] [gI r, gI r]
  refine wg_icmp_eq (pc' := 326) (t := 1703) dL_law_323 rfl rfl (fun _ => ?_) (fun c => absurd rfl c)
  exact hend σ2 hg2 hI2 _ _ _
set_option maxRecDepth 100000 in
theorem law_4 (Inv : gH → Prop) {xs : List Int} {mc ms : Nat} {i : Int} {σ : gH} {Q : gV → List gK → gH → Prop} (hxs : ∀ j, gi32 (xs.getD j 0)) (h0 : 0 ≤ i) (h8 : i + 8 ≤ xs.length) (hL : xs.length ≤ 4096) (hg : gGr σ) (hI : Inv σ) (hq4 : ∀ a0 : Int, gi32 a0 → ∀ a1 : Int, gi32 a1 → ∀ a2 : Int, gi32 a2 → ∀ a3 : Int, gi32 a3 → ∀ a4 : Int, gi32 a4 → CI Inv mX11_owns mX12_owns [gI a0, gI a1, gI a2, gI a3, gI a4])
    (hend : ∀ σ2, gGr σ2 → Inv σ2 → ∀ u1 u2 u3, gWp (mLaw xs) 100 mc ms Q gL σ2 1703 [gX 2, gR 0, gR 133, gR 208, gI i, u1, u2, u3] []) : gWp (mLaw xs) 100 (1 + mc) (6 + ms) Q gL σ 328 [gX 2, gR 0, gR 133, gR 208, gI i, gX 1, gX 1, gX 1] [] := by
  refine gWp.budget (mc := 0 + (0 + mc)) (ms := 0 + (0 + ms)) (by omega) (by omega) ?_
  refine wg_aload_n (pc' := 329) (i := 1) (by rfl) (by rfl) dL_law_328 rfl ?_
  refine wg_aloadX_n (n := 2) (pc' := 330) (i := 0) (by rfl) (by decide) (by rfl) dL_law_329 rfl ?_
  refine wg_iload (pc' := 332) (by rfl) dL_law_330 rfl ?_
  refine wg_iconst (pc' := 333) (by decide) dL_law_332 rfl ?_
  refine wg_iadd (pc' := 334) dL_law_333 rfl ?_
  rw [w32_id (show gi32 (i + 1) from ⟨by omega, by omega⟩)]
  refine wg_sld (pc' := 335) (xs := xs) rfl (by omega) (by omega) dL_law_334 rfl (fun g_334 => ?_)
  refine wg_aloadX_n (n := 2) (pc' := 336) (i := 0) (by rfl) (by decide) (by rfl) dL_law_335 rfl ?_
  refine wg_iload (pc' := 338) (by rfl) dL_law_336 rfl ?_
  refine wg_iconst (pc' := 339) (by decide) dL_law_338 rfl ?_
  refine wg_iadd (pc' := 340) dL_law_339 rfl ?_
  rw [w32_id (show gi32 (i + 2) from ⟨by omega, by omega⟩)]
  refine wg_sld (pc' := 341) (xs := xs) rfl (by omega) (by omega) dL_law_340 rfl (fun g_340 => ?_)
  refine wg_aloadX_n (n := 2) (pc' := 342) (i := 0) (by rfl) (by decide) (by rfl) dL_law_341 rfl ?_
  refine wg_iload (pc' := 344) (by rfl) dL_law_342 rfl ?_
  refine wg_iconst (pc' := 345) (by decide) dL_law_344 rfl ?_
  refine wg_iadd (pc' := 346) dL_law_345 rfl ?_
  rw [w32_id (show gi32 (i + 3) from ⟨by omega, by omega⟩)]
  refine wg_sld (pc' := 347) (xs := xs) rfl (by omega) (by omega) dL_law_346 rfl (fun g_346 => ?_)
  refine wg_aloadX_n (n := 2) (pc' := 348) (i := 0) (by rfl) (by decide) (by rfl) dL_law_347 rfl ?_
  refine wg_iload (pc' := 350) (by rfl) dL_law_348 rfl ?_
  refine wg_iconst (pc' := 351) (by decide) dL_law_350 rfl ?_
  refine wg_iadd (pc' := 352) dL_law_351 rfl ?_
  rw [w32_id (show gi32 (i + 4) from ⟨by omega, by omega⟩)]
  refine wg_sld (pc' := 353) (xs := xs) rfl (by omega) (by omega) dL_law_352 rfl (fun g_352 => ?_)
  refine wg_aloadX_n (n := 2) (pc' := 354) (i := 0) (by rfl) (by decide) (by rfl) dL_law_353 rfl ?_
  refine wg_iload (pc' := 356) (by rfl) dL_law_354 rfl ?_
  refine wg_iconst (pc' := 357) (by decide) dL_law_356 rfl ?_
  refine wg_iadd (pc' := 358) dL_law_357 rfl ?_
  rw [w32_id (show gi32 (i + 5) from ⟨by omega, by omega⟩)]
  refine wg_sld (pc' := 359) (xs := xs) rfl (by omega) (by omega) dL_law_358 rfl (fun g_358 => ?_)
  obtain ⟨r, J, hC, hM⟩ := hq4 (xs.getD (i + 1).toNat 0) (hxs _) (xs.getD (i + 2).toNat 0) (hxs _) (xs.getD (i + 3).toNat 0) (hxs _) (xs.getD (i + 4).toNat 0) (hxs _) (xs.getD (i + 5).toNat 0) (hxs _) σ hg hI
  refine wg_callV (mc' := 0) (ms' := 0) (pc' := 362) (av := [gI (xs.getD (i + 1).toNat 0), gI (xs.getD (i + 2).toNat 0), gI (xs.getD (i + 3).toNat 0), gI (xs.getD (i + 4).toNat 0), gI (xs.getD (i + 5).toNat 0)]) mi_mX11_owns lk_L_48 rfl ci_X11 kd_0 rfl (Nat.le_of_ble_eq_true rfl) (by decide) dL_law_359 rfl hC (fun v L9 σ1 q9 => ?_)
  obtain ⟨rfl, rfl, hJ⟩ := q9
  show gWp _ _ _ _ _ _ _ _ [gX 2, gR 0, gR 133, gR 208, gI i, gX 1, gX 1, gX 1] [gI r]
  refine wg_aload_n (pc' := 363) (i := 2) (by rfl) (by rfl) dL_law_362 rfl ?_
  refine wg_aloadX_n (n := 2) (pc' := 364) (i := 0) (by rfl) (by decide) (by rfl) dL_law_363 rfl ?_
  refine wg_iload (pc' := 366) (by rfl) dL_law_364 rfl ?_
  refine wg_iconst (pc' := 367) (by decide) dL_law_366 rfl ?_
  refine wg_iadd (pc' := 368) dL_law_367 rfl ?_
  rw [w32_id (show gi32 (i + 1) from ⟨by omega, by omega⟩)]
  refine wg_sld (pc' := 369) (xs := xs) rfl (by omega) (by omega) dL_law_368 rfl (fun g_368 => ?_)
  refine wg_aloadX_n (n := 2) (pc' := 370) (i := 0) (by rfl) (by decide) (by rfl) dL_law_369 rfl ?_
  refine wg_iload (pc' := 372) (by rfl) dL_law_370 rfl ?_
  refine wg_iconst (pc' := 373) (by decide) dL_law_372 rfl ?_
  refine wg_iadd (pc' := 374) dL_law_373 rfl ?_
  rw [w32_id (show gi32 (i + 2) from ⟨by omega, by omega⟩)]
  refine wg_sld (pc' := 375) (xs := xs) rfl (by omega) (by omega) dL_law_374 rfl (fun g_374 => ?_)
  refine wg_aloadX_n (n := 2) (pc' := 376) (i := 0) (by rfl) (by decide) (by rfl) dL_law_375 rfl ?_
  refine wg_iload (pc' := 378) (by rfl) dL_law_376 rfl ?_
  refine wg_iconst (pc' := 379) (by decide) dL_law_378 rfl ?_
  refine wg_iadd (pc' := 380) dL_law_379 rfl ?_
  rw [w32_id (show gi32 (i + 3) from ⟨by omega, by omega⟩)]
  refine wg_sld (pc' := 381) (xs := xs) rfl (by omega) (by omega) dL_law_380 rfl (fun g_380 => ?_)
  refine wg_aloadX_n (n := 2) (pc' := 382) (i := 0) (by rfl) (by decide) (by rfl) dL_law_381 rfl ?_
  refine wg_iload (pc' := 384) (by rfl) dL_law_382 rfl ?_
  refine wg_iconst (pc' := 385) (by decide) dL_law_384 rfl ?_
  refine wg_iadd (pc' := 386) dL_law_385 rfl ?_
  rw [w32_id (show gi32 (i + 4) from ⟨by omega, by omega⟩)]
  refine wg_sld (pc' := 387) (xs := xs) rfl (by omega) (by omega) dL_law_386 rfl (fun g_386 => ?_)
  refine wg_aloadX_n (n := 2) (pc' := 388) (i := 0) (by rfl) (by decide) (by rfl) dL_law_387 rfl ?_
  refine wg_iload (pc' := 390) (by rfl) dL_law_388 rfl ?_
  refine wg_iconst (pc' := 391) (by decide) dL_law_390 rfl ?_
  refine wg_iadd (pc' := 392) dL_law_391 rfl ?_
  rw [w32_id (show gi32 (i + 5) from ⟨by omega, by omega⟩)]
  refine wg_sld (pc' := 393) (xs := xs) rfl (by omega) (by omega) dL_law_392 rfl (fun g_392 => ?_)
  refine wg_callV (mc' := 0) (ms' := 0) (pc' := 396) (av := [gI (xs.getD (i + 1).toNat 0), gI (xs.getD (i + 2).toNat 0), gI (xs.getD (i + 3).toNat 0), gI (xs.getD (i + 4).toNat 0), gI (xs.getD (i + 5).toNat 0)]) mi_mX12_owns lk_L_51 rfl ci_X12 kd_133 rfl (Nat.le_of_ble_eq_true rfl) (by decide) dL_law_393 rfl (hM σ1 hJ) (fun v L9 σ2 q9 => ?_)
  obtain ⟨rfl, rfl, hg2, hI2⟩ := q9
  show gWp _ _ _ _ _ _ _ _ [gX 2, gR 0, gR 133, gR 208, gI i, gX 1, gX 1, gX 1] [gI r, gI r]
  refine wg_icmp_eq (pc' := 399) (t := 1703) dL_law_396 rfl rfl (fun _ => ?_) (fun c => absurd rfl c)
  exact hend σ2 hg2 hI2 _ _ _
set_option maxRecDepth 100000 in
theorem law_5 (Inv : gH → Prop) {xs : List Int} {mc ms : Nat} {i : Int} {σ : gH} {Q : gV → List gK → gH → Prop} (hxs : ∀ j, gi32 (xs.getD j 0)) (h0 : 0 ≤ i) (h8 : i + 8 ≤ xs.length) (hL : xs.length ≤ 4096) (hg : gGr σ) (hI : Inv σ) (hq5 : ∀ a0 : Int, gi32 a0 → ∀ a1 : Int, gi32 a1 → ∀ a2 : Int, gi32 a2 → ∀ a3 : Int, gi32 a3 → CI Inv mX11_kin mX12_kin [gI a0, gI a1, gI a2, gI a3])
    (hend : ∀ σ2, gGr σ2 → Inv σ2 → ∀ u1 u2 u3, gWp (mLaw xs) 100 mc ms Q gL σ2 1703 [gX 2, gR 0, gR 133, gR 208, gI i, u1, u2, u3] []) : gWp (mLaw xs) 100 (1 + mc) (6 + ms) Q gL σ 401 [gX 2, gR 0, gR 133, gR 208, gI i, gX 1, gX 1, gX 1] [] := by
  refine gWp.budget (mc := 0 + (0 + mc)) (ms := 0 + (0 + ms)) (by omega) (by omega) ?_
  refine wg_aload_n (pc' := 402) (i := 1) (by rfl) (by rfl) dL_law_401 rfl ?_
  refine wg_aloadX_n (n := 2) (pc' := 403) (i := 0) (by rfl) (by decide) (by rfl) dL_law_402 rfl ?_
  refine wg_iload (pc' := 405) (by rfl) dL_law_403 rfl ?_
  refine wg_iconst (pc' := 406) (by decide) dL_law_405 rfl ?_
  refine wg_iadd (pc' := 407) dL_law_406 rfl ?_
  rw [w32_id (show gi32 (i + 1) from ⟨by omega, by omega⟩)]
  refine wg_sld (pc' := 408) (xs := xs) rfl (by omega) (by omega) dL_law_407 rfl (fun g_407 => ?_)
  refine wg_aloadX_n (n := 2) (pc' := 409) (i := 0) (by rfl) (by decide) (by rfl) dL_law_408 rfl ?_
  refine wg_iload (pc' := 411) (by rfl) dL_law_409 rfl ?_
  refine wg_iconst (pc' := 412) (by decide) dL_law_411 rfl ?_
  refine wg_iadd (pc' := 413) dL_law_412 rfl ?_
  rw [w32_id (show gi32 (i + 2) from ⟨by omega, by omega⟩)]
  refine wg_sld (pc' := 414) (xs := xs) rfl (by omega) (by omega) dL_law_413 rfl (fun g_413 => ?_)
  refine wg_aloadX_n (n := 2) (pc' := 415) (i := 0) (by rfl) (by decide) (by rfl) dL_law_414 rfl ?_
  refine wg_iload (pc' := 417) (by rfl) dL_law_415 rfl ?_
  refine wg_iconst (pc' := 418) (by decide) dL_law_417 rfl ?_
  refine wg_iadd (pc' := 419) dL_law_418 rfl ?_
  rw [w32_id (show gi32 (i + 3) from ⟨by omega, by omega⟩)]
  refine wg_sld (pc' := 420) (xs := xs) rfl (by omega) (by omega) dL_law_419 rfl (fun g_419 => ?_)
  refine wg_aloadX_n (n := 2) (pc' := 421) (i := 0) (by rfl) (by decide) (by rfl) dL_law_420 rfl ?_
  refine wg_iload (pc' := 423) (by rfl) dL_law_421 rfl ?_
  refine wg_iconst (pc' := 424) (by decide) dL_law_423 rfl ?_
  refine wg_iadd (pc' := 425) dL_law_424 rfl ?_
  rw [w32_id (show gi32 (i + 4) from ⟨by omega, by omega⟩)]
  refine wg_sld (pc' := 426) (xs := xs) rfl (by omega) (by omega) dL_law_425 rfl (fun g_425 => ?_)
  obtain ⟨r, J, hC, hM⟩ := hq5 (xs.getD (i + 1).toNat 0) (hxs _) (xs.getD (i + 2).toNat 0) (hxs _) (xs.getD (i + 3).toNat 0) (hxs _) (xs.getD (i + 4).toNat 0) (hxs _) σ hg hI
  refine wg_callV (mc' := 0) (ms' := 0) (pc' := 429) (av := [gI (xs.getD (i + 1).toNat 0), gI (xs.getD (i + 2).toNat 0), gI (xs.getD (i + 3).toNat 0), gI (xs.getD (i + 4).toNat 0)]) mi_mX11_kin lk_L_52 rfl ci_X11 kd_0 rfl (Nat.le_of_ble_eq_true rfl) (by decide) dL_law_426 rfl hC (fun v L9 σ1 q9 => ?_)
  obtain ⟨rfl, rfl, hJ⟩ := q9
  show gWp _ _ _ _ _ _ _ _ [gX 2, gR 0, gR 133, gR 208, gI i, gX 1, gX 1, gX 1] [gI r]
  refine wg_aload_n (pc' := 430) (i := 2) (by rfl) (by rfl) dL_law_429 rfl ?_
  refine wg_aloadX_n (n := 2) (pc' := 431) (i := 0) (by rfl) (by decide) (by rfl) dL_law_430 rfl ?_
  refine wg_iload (pc' := 433) (by rfl) dL_law_431 rfl ?_
  refine wg_iconst (pc' := 434) (by decide) dL_law_433 rfl ?_
  refine wg_iadd (pc' := 435) dL_law_434 rfl ?_
  rw [w32_id (show gi32 (i + 1) from ⟨by omega, by omega⟩)]
  refine wg_sld (pc' := 436) (xs := xs) rfl (by omega) (by omega) dL_law_435 rfl (fun g_435 => ?_)
  refine wg_aloadX_n (n := 2) (pc' := 437) (i := 0) (by rfl) (by decide) (by rfl) dL_law_436 rfl ?_
  refine wg_iload (pc' := 439) (by rfl) dL_law_437 rfl ?_
  refine wg_iconst (pc' := 440) (by decide) dL_law_439 rfl ?_
  refine wg_iadd (pc' := 441) dL_law_440 rfl ?_
  rw [w32_id (show gi32 (i + 2) from ⟨by omega, by omega⟩)]
  refine wg_sld (pc' := 442) (xs := xs) rfl (by omega) (by omega) dL_law_441 rfl (fun g_441 => ?_)
  refine wg_aloadX_n (n := 2) (pc' := 443) (i := 0) (by rfl) (by decide) (by rfl) dL_law_442 rfl ?_
  refine wg_iload (pc' := 445) (by rfl) dL_law_443 rfl ?_
  refine wg_iconst (pc' := 446) (by decide) dL_law_445 rfl ?_
  refine wg_iadd (pc' := 447) dL_law_446 rfl ?_
  rw [w32_id (show gi32 (i + 3) from ⟨by omega, by omega⟩)]
  refine wg_sld (pc' := 448) (xs := xs) rfl (by omega) (by omega) dL_law_447 rfl (fun g_447 => ?_)
  refine wg_aloadX_n (n := 2) (pc' := 449) (i := 0) (by rfl) (by decide) (by rfl) dL_law_448 rfl ?_
  refine wg_iload (pc' := 451) (by rfl) dL_law_449 rfl ?_
  refine wg_iconst (pc' := 452) (by decide) dL_law_451 rfl ?_
  refine wg_iadd (pc' := 453) dL_law_452 rfl ?_
  rw [w32_id (show gi32 (i + 4) from ⟨by omega, by omega⟩)]
  refine wg_sld (pc' := 454) (xs := xs) rfl (by omega) (by omega) dL_law_453 rfl (fun g_453 => ?_)
  refine wg_callV (mc' := 0) (ms' := 0) (pc' := 457) (av := [gI (xs.getD (i + 1).toNat 0), gI (xs.getD (i + 2).toNat 0), gI (xs.getD (i + 3).toNat 0), gI (xs.getD (i + 4).toNat 0)]) mi_mX12_kin lk_L_56 rfl ci_X12 kd_133 rfl (Nat.le_of_ble_eq_true rfl) (by decide) dL_law_454 rfl (hM σ1 hJ) (fun v L9 σ2 q9 => ?_)
  obtain ⟨rfl, rfl, hg2, hI2⟩ := q9
  show gWp _ _ _ _ _ _ _ _ [gX 2, gR 0, gR 133, gR 208, gI i, gX 1, gX 1, gX 1] [gI r, gI r]
  refine wg_icmp_eq (pc' := 460) (t := 1703) dL_law_457 rfl rfl (fun _ => ?_) (fun c => absurd rfl c)
  exact hend σ2 hg2 hI2 _ _ _
set_option maxRecDepth 100000 in
theorem law_6 (Inv : gH → Prop) {xs : List Int} {mc ms : Nat} {i : Int} {σ : gH} {Q : gV → List gK → gH → Prop} (hxs : ∀ j, gi32 (xs.getD j 0)) (h0 : 0 ≤ i) (h8 : i + 8 ≤ xs.length) (hL : xs.length ≤ 4096) (hg : gGr σ) (hI : Inv σ) (hq6 : ∀ a0 : Int, gi32 a0 → ∀ a1 : Int, gi32 a1 → ∀ a2 : Int, gi32 a2 → ∀ a3 : Int, gi32 a3 → CI Inv mX11_post mX12_post [gI a0, gI a1, gI a2, gI a3])
    (hend : ∀ σ2, gGr σ2 → Inv σ2 → ∀ u1 u2 u3, gWp (mLaw xs) 100 mc ms Q gL σ2 1703 [gX 2, gR 0, gR 133, gR 208, gI i, u1, u2, u3] []) : gWp (mLaw xs) 100 (1 + mc) (6 + ms) Q gL σ 462 [gX 2, gR 0, gR 133, gR 208, gI i, gX 1, gX 1, gX 1] [] := by
  refine gWp.budget (mc := 0 + (0 + mc)) (ms := 0 + (0 + ms)) (by omega) (by omega) ?_
  refine wg_aload_n (pc' := 463) (i := 1) (by rfl) (by rfl) dL_law_462 rfl ?_
  refine wg_aloadX_n (n := 2) (pc' := 464) (i := 0) (by rfl) (by decide) (by rfl) dL_law_463 rfl ?_
  refine wg_iload (pc' := 466) (by rfl) dL_law_464 rfl ?_
  refine wg_iconst (pc' := 467) (by decide) dL_law_466 rfl ?_
  refine wg_iadd (pc' := 468) dL_law_467 rfl ?_
  rw [w32_id (show gi32 (i + 1) from ⟨by omega, by omega⟩)]
  refine wg_sld (pc' := 469) (xs := xs) rfl (by omega) (by omega) dL_law_468 rfl (fun g_468 => ?_)
  refine wg_aloadX_n (n := 2) (pc' := 470) (i := 0) (by rfl) (by decide) (by rfl) dL_law_469 rfl ?_
  refine wg_iload (pc' := 472) (by rfl) dL_law_470 rfl ?_
  refine wg_iconst (pc' := 473) (by decide) dL_law_472 rfl ?_
  refine wg_iadd (pc' := 474) dL_law_473 rfl ?_
  rw [w32_id (show gi32 (i + 2) from ⟨by omega, by omega⟩)]
  refine wg_sld (pc' := 475) (xs := xs) rfl (by omega) (by omega) dL_law_474 rfl (fun g_474 => ?_)
  refine wg_aloadX_n (n := 2) (pc' := 476) (i := 0) (by rfl) (by decide) (by rfl) dL_law_475 rfl ?_
  refine wg_iload (pc' := 478) (by rfl) dL_law_476 rfl ?_
  refine wg_iconst (pc' := 479) (by decide) dL_law_478 rfl ?_
  refine wg_iadd (pc' := 480) dL_law_479 rfl ?_
  rw [w32_id (show gi32 (i + 3) from ⟨by omega, by omega⟩)]
  refine wg_sld (pc' := 481) (xs := xs) rfl (by omega) (by omega) dL_law_480 rfl (fun g_480 => ?_)
  refine wg_aloadX_n (n := 2) (pc' := 482) (i := 0) (by rfl) (by decide) (by rfl) dL_law_481 rfl ?_
  refine wg_iload (pc' := 484) (by rfl) dL_law_482 rfl ?_
  refine wg_iconst (pc' := 485) (by decide) dL_law_484 rfl ?_
  refine wg_iadd (pc' := 486) dL_law_485 rfl ?_
  rw [w32_id (show gi32 (i + 4) from ⟨by omega, by omega⟩)]
  refine wg_sld (pc' := 487) (xs := xs) rfl (by omega) (by omega) dL_law_486 rfl (fun g_486 => ?_)
  obtain ⟨r, J, hC, hM⟩ := hq6 (xs.getD (i + 1).toNat 0) (hxs _) (xs.getD (i + 2).toNat 0) (hxs _) (xs.getD (i + 3).toNat 0) (hxs _) (xs.getD (i + 4).toNat 0) (hxs _) σ hg hI
  refine wg_callV (mc' := 0) (ms' := 0) (pc' := 490) (av := [gI (xs.getD (i + 1).toNat 0), gI (xs.getD (i + 2).toNat 0), gI (xs.getD (i + 3).toNat 0), gI (xs.getD (i + 4).toNat 0)]) mi_mX11_post lk_L_57 rfl ci_X11 kd_0 rfl (Nat.le_of_ble_eq_true rfl) (by decide) dL_law_487 rfl hC (fun v L9 σ1 q9 => ?_)
  obtain ⟨rfl, rfl, hJ⟩ := q9
  show gWp _ _ _ _ _ _ _ _ [gX 2, gR 0, gR 133, gR 208, gI i, gX 1, gX 1, gX 1] [gI r]
  refine wg_aload_n (pc' := 491) (i := 2) (by rfl) (by rfl) dL_law_490 rfl ?_
  refine wg_aloadX_n (n := 2) (pc' := 492) (i := 0) (by rfl) (by decide) (by rfl) dL_law_491 rfl ?_
  refine wg_iload (pc' := 494) (by rfl) dL_law_492 rfl ?_
  refine wg_iconst (pc' := 495) (by decide) dL_law_494 rfl ?_
  refine wg_iadd (pc' := 496) dL_law_495 rfl ?_
  rw [w32_id (show gi32 (i + 1) from ⟨by omega, by omega⟩)]
  refine wg_sld (pc' := 497) (xs := xs) rfl (by omega) (by omega) dL_law_496 rfl (fun g_496 => ?_)
  refine wg_aloadX_n (n := 2) (pc' := 498) (i := 0) (by rfl) (by decide) (by rfl) dL_law_497 rfl ?_
  refine wg_iload (pc' := 500) (by rfl) dL_law_498 rfl ?_
  refine wg_iconst (pc' := 501) (by decide) dL_law_500 rfl ?_
  refine wg_iadd (pc' := 502) dL_law_501 rfl ?_
  rw [w32_id (show gi32 (i + 2) from ⟨by omega, by omega⟩)]
  refine wg_sld (pc' := 503) (xs := xs) rfl (by omega) (by omega) dL_law_502 rfl (fun g_502 => ?_)
  refine wg_aloadX_n (n := 2) (pc' := 504) (i := 0) (by rfl) (by decide) (by rfl) dL_law_503 rfl ?_
  refine wg_iload (pc' := 506) (by rfl) dL_law_504 rfl ?_
  refine wg_iconst (pc' := 507) (by decide) dL_law_506 rfl ?_
  refine wg_iadd (pc' := 508) dL_law_507 rfl ?_
  rw [w32_id (show gi32 (i + 3) from ⟨by omega, by omega⟩)]
  refine wg_sld (pc' := 509) (xs := xs) rfl (by omega) (by omega) dL_law_508 rfl (fun g_508 => ?_)
  refine wg_aloadX_n (n := 2) (pc' := 510) (i := 0) (by rfl) (by decide) (by rfl) dL_law_509 rfl ?_
  refine wg_iload (pc' := 512) (by rfl) dL_law_510 rfl ?_
  refine wg_iconst (pc' := 513) (by decide) dL_law_512 rfl ?_
  refine wg_iadd (pc' := 514) dL_law_513 rfl ?_
  rw [w32_id (show gi32 (i + 4) from ⟨by omega, by omega⟩)]
  refine wg_sld (pc' := 515) (xs := xs) rfl (by omega) (by omega) dL_law_514 rfl (fun g_514 => ?_)
  refine wg_callV (mc' := 0) (ms' := 0) (pc' := 518) (av := [gI (xs.getD (i + 1).toNat 0), gI (xs.getD (i + 2).toNat 0), gI (xs.getD (i + 3).toNat 0), gI (xs.getD (i + 4).toNat 0)]) mi_mX12_post lk_L_60 rfl ci_X12 kd_133 rfl (Nat.le_of_ble_eq_true rfl) (by decide) dL_law_515 rfl (hM σ1 hJ) (fun v L9 σ2 q9 => ?_)
  obtain ⟨rfl, rfl, hg2, hI2⟩ := q9
  show gWp _ _ _ _ _ _ _ _ [gX 2, gR 0, gR 133, gR 208, gI i, gX 1, gX 1, gX 1] [gI r, gI r]
  refine wg_icmp_eq (pc' := 521) (t := 1703) dL_law_518 rfl rfl (fun _ => ?_) (fun c => absurd rfl c)
  exact hend σ2 hg2 hI2 _ _ _
set_option maxRecDepth 100000 in
theorem law_7 (Inv : gH → Prop) {xs : List Int} {mc ms : Nat} {i : Int} {σ : gH} {Q : gV → List gK → gH → Prop} (hxs : ∀ j, gi32 (xs.getD j 0)) (h0 : 0 ≤ i) (h8 : i + 8 ≤ xs.length) (hL : xs.length ≤ 4096) (hg : gGr σ) (hI : Inv σ) (hq7 : ∀ a0 : Int, gi32 a0 → ∀ a1 : Int, gi32 a1 → ∀ a2 : Int, gi32 a2 → ∀ a3 : Int, gi32 a3 → ∀ a4 : Int, gi32 a4 → (a4 = 0 ∨ a4 = 1) → ∀ a5 : Int, gi32 a5 → ∀ a6 : Int, gi32 a6 → CI Inv mX11_gift mX12_gift [gI a0, gI a1, gI a2, gI a3, gI a4, gI a5, gI a6])
    (hend : ∀ σ2, gGr σ2 → Inv σ2 → ∀ u1 u2 u3, gWp (mLaw xs) 100 mc ms Q gL σ2 1703 [gX 2, gR 0, gR 133, gR 208, gI i, u1, u2, u3] []) : gWp (mLaw xs) 100 (1 + mc) (6 + ms) Q gL σ 523 [gX 2, gR 0, gR 133, gR 208, gI i, gX 1, gX 1, gX 1] [] := by
  refine gWp.budget (mc := 0 + (0 + mc)) (ms := 0 + (0 + ms)) (by omega) (by omega) ?_
  refine wg_aload_n (pc' := 524) (i := 1) (by rfl) (by rfl) dL_law_523 rfl ?_
  refine wg_aloadX_n (n := 2) (pc' := 525) (i := 0) (by rfl) (by decide) (by rfl) dL_law_524 rfl ?_
  refine wg_iload (pc' := 527) (by rfl) dL_law_525 rfl ?_
  refine wg_iconst (pc' := 528) (by decide) dL_law_527 rfl ?_
  refine wg_iadd (pc' := 529) dL_law_528 rfl ?_
  rw [w32_id (show gi32 (i + 1) from ⟨by omega, by omega⟩)]
  refine wg_sld (pc' := 530) (xs := xs) rfl (by omega) (by omega) dL_law_529 rfl (fun g_529 => ?_)
  refine wg_aloadX_n (n := 2) (pc' := 531) (i := 0) (by rfl) (by decide) (by rfl) dL_law_530 rfl ?_
  refine wg_iload (pc' := 533) (by rfl) dL_law_531 rfl ?_
  refine wg_iconst (pc' := 534) (by decide) dL_law_533 rfl ?_
  refine wg_iadd (pc' := 535) dL_law_534 rfl ?_
  rw [w32_id (show gi32 (i + 2) from ⟨by omega, by omega⟩)]
  refine wg_sld (pc' := 536) (xs := xs) rfl (by omega) (by omega) dL_law_535 rfl (fun g_535 => ?_)
  refine wg_aloadX_n (n := 2) (pc' := 537) (i := 0) (by rfl) (by decide) (by rfl) dL_law_536 rfl ?_
  refine wg_iload (pc' := 539) (by rfl) dL_law_537 rfl ?_
  refine wg_iconst (pc' := 540) (by decide) dL_law_539 rfl ?_
  refine wg_iadd (pc' := 541) dL_law_540 rfl ?_
  rw [w32_id (show gi32 (i + 3) from ⟨by omega, by omega⟩)]
  refine wg_sld (pc' := 542) (xs := xs) rfl (by omega) (by omega) dL_law_541 rfl (fun g_541 => ?_)
  refine wg_aloadX_n (n := 2) (pc' := 543) (i := 0) (by rfl) (by decide) (by rfl) dL_law_542 rfl ?_
  refine wg_iload (pc' := 545) (by rfl) dL_law_543 rfl ?_
  refine wg_iconst (pc' := 546) (by decide) dL_law_545 rfl ?_
  refine wg_iadd (pc' := 547) dL_law_546 rfl ?_
  rw [w32_id (show gi32 (i + 4) from ⟨by omega, by omega⟩)]
  refine wg_sld (pc' := 548) (xs := xs) rfl (by omega) (by omega) dL_law_547 rfl (fun g_547 => ?_)
  refine wg_aloadX_n (n := 2) (pc' := 549) (i := 0) (by rfl) (by decide) (by rfl) dL_law_548 rfl ?_
  refine wg_iload (pc' := 551) (by rfl) dL_law_549 rfl ?_
  refine wg_iconst (pc' := 552) (by decide) dL_law_551 rfl ?_
  refine wg_iadd (pc' := 553) dL_law_552 rfl ?_
  rw [w32_id (show gi32 (i + 5) from ⟨by omega, by omega⟩)]
  refine wg_sld (pc' := 554) (xs := xs) rfl (by omega) (by omega) dL_law_553 rfl (fun g_553 => ?_)
  refine wg_if_eq (pc' := 557) (t := 561) dL_law_554 rfl rfl (fun c_554 => ?_) (fun c_554 => ?_)
  · skip
    refine wg_iconst (pc' := 562) (by decide) dL_law_561 rfl ?_
    refine wg_aloadX_n (n := 2) (pc' := 563) (i := 0) (by rfl) (by decide) (by rfl) dL_law_562 rfl ?_
    refine wg_iload (pc' := 565) (by rfl) dL_law_563 rfl ?_
    refine wg_bipush (pc' := 567) (by decide) (by decide) dL_law_565 rfl ?_
    refine wg_iadd (pc' := 568) dL_law_567 rfl ?_
    rw [w32_id (show gi32 (i + 6) from ⟨by omega, by omega⟩)]
    refine wg_sld (pc' := 569) (xs := xs) rfl (by omega) (by omega) dL_law_568 rfl (fun g_568 => ?_)
    refine wg_aloadX_n (n := 2) (pc' := 570) (i := 0) (by rfl) (by decide) (by rfl) dL_law_569 rfl ?_
    refine wg_iload (pc' := 572) (by rfl) dL_law_570 rfl ?_
    refine wg_bipush (pc' := 574) (by decide) (by decide) dL_law_572 rfl ?_
    refine wg_iadd (pc' := 575) dL_law_574 rfl ?_
    rw [w32_id (show gi32 (i + 7) from ⟨by omega, by omega⟩)]
    refine wg_sld (pc' := 576) (xs := xs) rfl (by omega) (by omega) dL_law_575 rfl (fun g_575 => ?_)
    obtain ⟨r, J, hC, hM⟩ := hq7 (xs.getD (i + 1).toNat 0) (hxs _) (xs.getD (i + 2).toNat 0) (hxs _) (xs.getD (i + 3).toNat 0) (hxs _) (xs.getD (i + 4).toNat 0) (hxs _) 0 (by decide) (Or.inl rfl) (xs.getD (i + 6).toNat 0) (hxs _) (xs.getD (i + 7).toNat 0) (hxs _) σ hg hI
    refine wg_callV (mc' := 0) (ms' := 0) (pc' := 579) (av := [gI (xs.getD (i + 1).toNat 0), gI (xs.getD (i + 2).toNat 0), gI (xs.getD (i + 3).toNat 0), gI (xs.getD (i + 4).toNat 0), gI 0, gI (xs.getD (i + 6).toNat 0), gI (xs.getD (i + 7).toNat 0)]) mi_mX11_gift lk_L_61 rfl ci_X11 kd_0 rfl (Nat.le_of_ble_eq_true rfl) (by decide) dL_law_576 rfl hC (fun v L9 σ1 q9 => ?_)
    obtain ⟨rfl, rfl, hJ⟩ := q9
    show gWp _ _ _ _ _ _ _ _ [gX 2, gR 0, gR 133, gR 208, gI i, gX 1, gX 1, gX 1] [gI r]
    refine wg_aload_n (pc' := 580) (i := 2) (by rfl) (by rfl) dL_law_579 rfl ?_
    refine wg_aloadX_n (n := 2) (pc' := 581) (i := 0) (by rfl) (by decide) (by rfl) dL_law_580 rfl ?_
    refine wg_iload (pc' := 583) (by rfl) dL_law_581 rfl ?_
    refine wg_iconst (pc' := 584) (by decide) dL_law_583 rfl ?_
    refine wg_iadd (pc' := 585) dL_law_584 rfl ?_
    rw [w32_id (show gi32 (i + 1) from ⟨by omega, by omega⟩)]
    refine wg_sld (pc' := 586) (xs := xs) rfl (by omega) (by omega) dL_law_585 rfl (fun g_585 => ?_)
    refine wg_aloadX_n (n := 2) (pc' := 587) (i := 0) (by rfl) (by decide) (by rfl) dL_law_586 rfl ?_
    refine wg_iload (pc' := 589) (by rfl) dL_law_587 rfl ?_
    refine wg_iconst (pc' := 590) (by decide) dL_law_589 rfl ?_
    refine wg_iadd (pc' := 591) dL_law_590 rfl ?_
    rw [w32_id (show gi32 (i + 2) from ⟨by omega, by omega⟩)]
    refine wg_sld (pc' := 592) (xs := xs) rfl (by omega) (by omega) dL_law_591 rfl (fun g_591 => ?_)
    refine wg_aloadX_n (n := 2) (pc' := 593) (i := 0) (by rfl) (by decide) (by rfl) dL_law_592 rfl ?_
    refine wg_iload (pc' := 595) (by rfl) dL_law_593 rfl ?_
    refine wg_iconst (pc' := 596) (by decide) dL_law_595 rfl ?_
    refine wg_iadd (pc' := 597) dL_law_596 rfl ?_
    rw [w32_id (show gi32 (i + 3) from ⟨by omega, by omega⟩)]
    refine wg_sld (pc' := 598) (xs := xs) rfl (by omega) (by omega) dL_law_597 rfl (fun g_597 => ?_)
    refine wg_aloadX_n (n := 2) (pc' := 599) (i := 0) (by rfl) (by decide) (by rfl) dL_law_598 rfl ?_
    refine wg_iload (pc' := 601) (by rfl) dL_law_599 rfl ?_
    refine wg_iconst (pc' := 602) (by decide) dL_law_601 rfl ?_
    refine wg_iadd (pc' := 603) dL_law_602 rfl ?_
    rw [w32_id (show gi32 (i + 4) from ⟨by omega, by omega⟩)]
    refine wg_sld (pc' := 604) (xs := xs) rfl (by omega) (by omega) dL_law_603 rfl (fun g_603 => ?_)
    refine wg_aloadX_n (n := 2) (pc' := 605) (i := 0) (by rfl) (by decide) (by rfl) dL_law_604 rfl ?_
    refine wg_iload (pc' := 607) (by rfl) dL_law_605 rfl ?_
    refine wg_iconst (pc' := 608) (by decide) dL_law_607 rfl ?_
    refine wg_iadd (pc' := 609) dL_law_608 rfl ?_
    rw [w32_id (show gi32 (i + 5) from ⟨by omega, by omega⟩)]
    refine wg_sld (pc' := 610) (xs := xs) rfl (by omega) (by omega) dL_law_609 rfl (fun g_609 => ?_)
    refine wg_if_eq (pc' := 613) (t := 617) dL_law_610 rfl rfl (fun _ => ?_) (fun c => absurd c_554 c)
    refine wg_iconst (pc' := 618) (by decide) dL_law_617 rfl ?_
    refine wg_aloadX_n (n := 2) (pc' := 619) (i := 0) (by rfl) (by decide) (by rfl) dL_law_618 rfl ?_
    refine wg_iload (pc' := 621) (by rfl) dL_law_619 rfl ?_
    refine wg_bipush (pc' := 623) (by decide) (by decide) dL_law_621 rfl ?_
    refine wg_iadd (pc' := 624) dL_law_623 rfl ?_
    rw [w32_id (show gi32 (i + 6) from ⟨by omega, by omega⟩)]
    refine wg_sld (pc' := 625) (xs := xs) rfl (by omega) (by omega) dL_law_624 rfl (fun g_624 => ?_)
    refine wg_aloadX_n (n := 2) (pc' := 626) (i := 0) (by rfl) (by decide) (by rfl) dL_law_625 rfl ?_
    refine wg_iload (pc' := 628) (by rfl) dL_law_626 rfl ?_
    refine wg_bipush (pc' := 630) (by decide) (by decide) dL_law_628 rfl ?_
    refine wg_iadd (pc' := 631) dL_law_630 rfl ?_
    rw [w32_id (show gi32 (i + 7) from ⟨by omega, by omega⟩)]
    refine wg_sld (pc' := 632) (xs := xs) rfl (by omega) (by omega) dL_law_631 rfl (fun g_631 => ?_)
    refine wg_callV (mc' := 0) (ms' := 0) (pc' := 635) (av := [gI (xs.getD (i + 1).toNat 0), gI (xs.getD (i + 2).toNat 0), gI (xs.getD (i + 3).toNat 0), gI (xs.getD (i + 4).toNat 0), gI 0, gI (xs.getD (i + 6).toNat 0), gI (xs.getD (i + 7).toNat 0)]) mi_mX12_gift lk_L_65 rfl ci_X12 kd_133 rfl (Nat.le_of_ble_eq_true rfl) (by decide) dL_law_632 rfl (hM σ1 hJ) (fun v L9 σ2 q9 => ?_)
    obtain ⟨rfl, rfl, hg2, hI2⟩ := q9
    show gWp _ _ _ _ _ _ _ _ [gX 2, gR 0, gR 133, gR 208, gI i, gX 1, gX 1, gX 1] [gI r, gI r]
    refine wg_icmp_eq (pc' := 638) (t := 1703) dL_law_635 rfl rfl (fun _ => ?_) (fun c => absurd rfl c)
    exact hend σ2 hg2 hI2 _ _ _
  · skip
    refine wg_iconst (pc' := 558) (by decide) dL_law_557 rfl ?_
    refine wg_goto (pc' := 562) dL_law_558 rfl ?_
    refine wg_aloadX_n (n := 2) (pc' := 563) (i := 0) (by rfl) (by decide) (by rfl) dL_law_562 rfl ?_
    refine wg_iload (pc' := 565) (by rfl) dL_law_563 rfl ?_
    refine wg_bipush (pc' := 567) (by decide) (by decide) dL_law_565 rfl ?_
    refine wg_iadd (pc' := 568) dL_law_567 rfl ?_
    rw [w32_id (show gi32 (i + 6) from ⟨by omega, by omega⟩)]
    refine wg_sld (pc' := 569) (xs := xs) rfl (by omega) (by omega) dL_law_568 rfl (fun g_568 => ?_)
    refine wg_aloadX_n (n := 2) (pc' := 570) (i := 0) (by rfl) (by decide) (by rfl) dL_law_569 rfl ?_
    refine wg_iload (pc' := 572) (by rfl) dL_law_570 rfl ?_
    refine wg_bipush (pc' := 574) (by decide) (by decide) dL_law_572 rfl ?_
    refine wg_iadd (pc' := 575) dL_law_574 rfl ?_
    rw [w32_id (show gi32 (i + 7) from ⟨by omega, by omega⟩)]
    refine wg_sld (pc' := 576) (xs := xs) rfl (by omega) (by omega) dL_law_575 rfl (fun g_575 => ?_)
    obtain ⟨r, J, hC, hM⟩ := hq7 (xs.getD (i + 1).toNat 0) (hxs _) (xs.getD (i + 2).toNat 0) (hxs _) (xs.getD (i + 3).toNat 0) (hxs _) (xs.getD (i + 4).toNat 0) (hxs _) 1 (by decide) (Or.inr rfl) (xs.getD (i + 6).toNat 0) (hxs _) (xs.getD (i + 7).toNat 0) (hxs _) σ hg hI
    refine wg_callV (mc' := 0) (ms' := 0) (pc' := 579) (av := [gI (xs.getD (i + 1).toNat 0), gI (xs.getD (i + 2).toNat 0), gI (xs.getD (i + 3).toNat 0), gI (xs.getD (i + 4).toNat 0), gI 1, gI (xs.getD (i + 6).toNat 0), gI (xs.getD (i + 7).toNat 0)]) mi_mX11_gift lk_L_61 rfl ci_X11 kd_0 rfl (Nat.le_of_ble_eq_true rfl) (by decide) dL_law_576 rfl hC (fun v L9 σ1 q9 => ?_)
    obtain ⟨rfl, rfl, hJ⟩ := q9
    show gWp _ _ _ _ _ _ _ _ [gX 2, gR 0, gR 133, gR 208, gI i, gX 1, gX 1, gX 1] [gI r]
    refine wg_aload_n (pc' := 580) (i := 2) (by rfl) (by rfl) dL_law_579 rfl ?_
    refine wg_aloadX_n (n := 2) (pc' := 581) (i := 0) (by rfl) (by decide) (by rfl) dL_law_580 rfl ?_
    refine wg_iload (pc' := 583) (by rfl) dL_law_581 rfl ?_
    refine wg_iconst (pc' := 584) (by decide) dL_law_583 rfl ?_
    refine wg_iadd (pc' := 585) dL_law_584 rfl ?_
    rw [w32_id (show gi32 (i + 1) from ⟨by omega, by omega⟩)]
    refine wg_sld (pc' := 586) (xs := xs) rfl (by omega) (by omega) dL_law_585 rfl (fun g_585 => ?_)
    refine wg_aloadX_n (n := 2) (pc' := 587) (i := 0) (by rfl) (by decide) (by rfl) dL_law_586 rfl ?_
    refine wg_iload (pc' := 589) (by rfl) dL_law_587 rfl ?_
    refine wg_iconst (pc' := 590) (by decide) dL_law_589 rfl ?_
    refine wg_iadd (pc' := 591) dL_law_590 rfl ?_
    rw [w32_id (show gi32 (i + 2) from ⟨by omega, by omega⟩)]
    refine wg_sld (pc' := 592) (xs := xs) rfl (by omega) (by omega) dL_law_591 rfl (fun g_591 => ?_)
    refine wg_aloadX_n (n := 2) (pc' := 593) (i := 0) (by rfl) (by decide) (by rfl) dL_law_592 rfl ?_
    refine wg_iload (pc' := 595) (by rfl) dL_law_593 rfl ?_
    refine wg_iconst (pc' := 596) (by decide) dL_law_595 rfl ?_
    refine wg_iadd (pc' := 597) dL_law_596 rfl ?_
    rw [w32_id (show gi32 (i + 3) from ⟨by omega, by omega⟩)]
    refine wg_sld (pc' := 598) (xs := xs) rfl (by omega) (by omega) dL_law_597 rfl (fun g_597 => ?_)
    refine wg_aloadX_n (n := 2) (pc' := 599) (i := 0) (by rfl) (by decide) (by rfl) dL_law_598 rfl ?_
    refine wg_iload (pc' := 601) (by rfl) dL_law_599 rfl ?_
    refine wg_iconst (pc' := 602) (by decide) dL_law_601 rfl ?_
    refine wg_iadd (pc' := 603) dL_law_602 rfl ?_
    rw [w32_id (show gi32 (i + 4) from ⟨by omega, by omega⟩)]
    refine wg_sld (pc' := 604) (xs := xs) rfl (by omega) (by omega) dL_law_603 rfl (fun g_603 => ?_)
    refine wg_aloadX_n (n := 2) (pc' := 605) (i := 0) (by rfl) (by decide) (by rfl) dL_law_604 rfl ?_
    refine wg_iload (pc' := 607) (by rfl) dL_law_605 rfl ?_
    refine wg_iconst (pc' := 608) (by decide) dL_law_607 rfl ?_
    refine wg_iadd (pc' := 609) dL_law_608 rfl ?_
    rw [w32_id (show gi32 (i + 5) from ⟨by omega, by omega⟩)]
    refine wg_sld (pc' := 610) (xs := xs) rfl (by omega) (by omega) dL_law_609 rfl (fun g_609 => ?_)
    refine wg_if_eq (pc' := 613) (t := 617) dL_law_610 rfl rfl (fun c => absurd c c_554) (fun _ => ?_)
    refine wg_iconst (pc' := 614) (by decide) dL_law_613 rfl ?_
    refine wg_goto (pc' := 618) dL_law_614 rfl ?_
    refine wg_aloadX_n (n := 2) (pc' := 619) (i := 0) (by rfl) (by decide) (by rfl) dL_law_618 rfl ?_
    refine wg_iload (pc' := 621) (by rfl) dL_law_619 rfl ?_
    refine wg_bipush (pc' := 623) (by decide) (by decide) dL_law_621 rfl ?_
    refine wg_iadd (pc' := 624) dL_law_623 rfl ?_
    rw [w32_id (show gi32 (i + 6) from ⟨by omega, by omega⟩)]
    refine wg_sld (pc' := 625) (xs := xs) rfl (by omega) (by omega) dL_law_624 rfl (fun g_624 => ?_)
    refine wg_aloadX_n (n := 2) (pc' := 626) (i := 0) (by rfl) (by decide) (by rfl) dL_law_625 rfl ?_
    refine wg_iload (pc' := 628) (by rfl) dL_law_626 rfl ?_
    refine wg_bipush (pc' := 630) (by decide) (by decide) dL_law_628 rfl ?_
    refine wg_iadd (pc' := 631) dL_law_630 rfl ?_
    rw [w32_id (show gi32 (i + 7) from ⟨by omega, by omega⟩)]
    refine wg_sld (pc' := 632) (xs := xs) rfl (by omega) (by omega) dL_law_631 rfl (fun g_631 => ?_)
    refine wg_callV (mc' := 0) (ms' := 0) (pc' := 635) (av := [gI (xs.getD (i + 1).toNat 0), gI (xs.getD (i + 2).toNat 0), gI (xs.getD (i + 3).toNat 0), gI (xs.getD (i + 4).toNat 0), gI 1, gI (xs.getD (i + 6).toNat 0), gI (xs.getD (i + 7).toNat 0)]) mi_mX12_gift lk_L_65 rfl ci_X12 kd_133 rfl (Nat.le_of_ble_eq_true rfl) (by decide) dL_law_632 rfl (hM σ1 hJ) (fun v L9 σ2 q9 => ?_)
    obtain ⟨rfl, rfl, hg2, hI2⟩ := q9
    show gWp _ _ _ _ _ _ _ _ [gX 2, gR 0, gR 133, gR 208, gI i, gX 1, gX 1, gX 1] [gI r, gI r]
    refine wg_icmp_eq (pc' := 638) (t := 1703) dL_law_635 rfl rfl (fun _ => ?_) (fun c => absurd rfl c)
    exact hend σ2 hg2 hI2 _ _ _
set_option maxRecDepth 100000 in
theorem law_8 (Inv : gH → Prop) {xs : List Int} {mc ms : Nat} {i : Int} {σ : gH} {Q : gV → List gK → gH → Prop} (hxs : ∀ j, gi32 (xs.getD j 0)) (h0 : 0 ≤ i) (h8 : i + 8 ≤ xs.length) (hL : xs.length ≤ 4096) (hg : gGr σ) (hI : Inv σ) (hq8 : ∀ a0 : Int, gi32 a0 → ∀ a1 : Int, gi32 a1 → ∀ a2 : Int, gi32 a2 → CI Inv mX11_worth mX12_worth [gI a0, gI a1, gI a2])
    (hend : ∀ σ2, gGr σ2 → Inv σ2 → ∀ u1 u2 u3, gWp (mLaw xs) 100 mc ms Q gL σ2 1703 [gX 2, gR 0, gR 133, gR 208, gI i, u1, u2, u3] []) : gWp (mLaw xs) 100 (1 + mc) (6 + ms) Q gL σ 640 [gX 2, gR 0, gR 133, gR 208, gI i, gX 1, gX 1, gX 1] [] := by
  refine gWp.budget (mc := 0 + (0 + mc)) (ms := 0 + (0 + ms)) (by omega) (by omega) ?_
  refine wg_aload_n (pc' := 641) (i := 1) (by rfl) (by rfl) dL_law_640 rfl ?_
  refine wg_aloadX_n (n := 2) (pc' := 642) (i := 0) (by rfl) (by decide) (by rfl) dL_law_641 rfl ?_
  refine wg_iload (pc' := 644) (by rfl) dL_law_642 rfl ?_
  refine wg_iconst (pc' := 645) (by decide) dL_law_644 rfl ?_
  refine wg_iadd (pc' := 646) dL_law_645 rfl ?_
  rw [w32_id (show gi32 (i + 1) from ⟨by omega, by omega⟩)]
  refine wg_sld (pc' := 647) (xs := xs) rfl (by omega) (by omega) dL_law_646 rfl (fun g_646 => ?_)
  refine wg_aloadX_n (n := 2) (pc' := 648) (i := 0) (by rfl) (by decide) (by rfl) dL_law_647 rfl ?_
  refine wg_iload (pc' := 650) (by rfl) dL_law_648 rfl ?_
  refine wg_iconst (pc' := 651) (by decide) dL_law_650 rfl ?_
  refine wg_iadd (pc' := 652) dL_law_651 rfl ?_
  rw [w32_id (show gi32 (i + 2) from ⟨by omega, by omega⟩)]
  refine wg_sld (pc' := 653) (xs := xs) rfl (by omega) (by omega) dL_law_652 rfl (fun g_652 => ?_)
  refine wg_aloadX_n (n := 2) (pc' := 654) (i := 0) (by rfl) (by decide) (by rfl) dL_law_653 rfl ?_
  refine wg_iload (pc' := 656) (by rfl) dL_law_654 rfl ?_
  refine wg_iconst (pc' := 657) (by decide) dL_law_656 rfl ?_
  refine wg_iadd (pc' := 658) dL_law_657 rfl ?_
  rw [w32_id (show gi32 (i + 3) from ⟨by omega, by omega⟩)]
  refine wg_sld (pc' := 659) (xs := xs) rfl (by omega) (by omega) dL_law_658 rfl (fun g_658 => ?_)
  obtain ⟨r, J, hC, hM⟩ := hq8 (xs.getD (i + 1).toNat 0) (hxs _) (xs.getD (i + 2).toNat 0) (hxs _) (xs.getD (i + 3).toNat 0) (hxs _) σ hg hI
  refine wg_callV (mc' := 0) (ms' := 0) (pc' := 662) (av := [gI (xs.getD (i + 1).toNat 0), gI (xs.getD (i + 2).toNat 0), gI (xs.getD (i + 3).toNat 0)]) mi_mX11_worth lk_L_66 rfl ci_X11 kd_0 rfl (Nat.le_of_ble_eq_true rfl) (by decide) dL_law_659 rfl hC (fun v L9 σ1 q9 => ?_)
  obtain ⟨rfl, rfl, hJ⟩ := q9
  show gWp _ _ _ _ _ _ _ _ [gX 2, gR 0, gR 133, gR 208, gI i, gX 1, gX 1, gX 1] [gI r]
  refine wg_aload_n (pc' := 663) (i := 2) (by rfl) (by rfl) dL_law_662 rfl ?_
  refine wg_aloadX_n (n := 2) (pc' := 664) (i := 0) (by rfl) (by decide) (by rfl) dL_law_663 rfl ?_
  refine wg_iload (pc' := 666) (by rfl) dL_law_664 rfl ?_
  refine wg_iconst (pc' := 667) (by decide) dL_law_666 rfl ?_
  refine wg_iadd (pc' := 668) dL_law_667 rfl ?_
  rw [w32_id (show gi32 (i + 1) from ⟨by omega, by omega⟩)]
  refine wg_sld (pc' := 669) (xs := xs) rfl (by omega) (by omega) dL_law_668 rfl (fun g_668 => ?_)
  refine wg_aloadX_n (n := 2) (pc' := 670) (i := 0) (by rfl) (by decide) (by rfl) dL_law_669 rfl ?_
  refine wg_iload (pc' := 672) (by rfl) dL_law_670 rfl ?_
  refine wg_iconst (pc' := 673) (by decide) dL_law_672 rfl ?_
  refine wg_iadd (pc' := 674) dL_law_673 rfl ?_
  rw [w32_id (show gi32 (i + 2) from ⟨by omega, by omega⟩)]
  refine wg_sld (pc' := 675) (xs := xs) rfl (by omega) (by omega) dL_law_674 rfl (fun g_674 => ?_)
  refine wg_aloadX_n (n := 2) (pc' := 676) (i := 0) (by rfl) (by decide) (by rfl) dL_law_675 rfl ?_
  refine wg_iload (pc' := 678) (by rfl) dL_law_676 rfl ?_
  refine wg_iconst (pc' := 679) (by decide) dL_law_678 rfl ?_
  refine wg_iadd (pc' := 680) dL_law_679 rfl ?_
  rw [w32_id (show gi32 (i + 3) from ⟨by omega, by omega⟩)]
  refine wg_sld (pc' := 681) (xs := xs) rfl (by omega) (by omega) dL_law_680 rfl (fun g_680 => ?_)
  refine wg_callV (mc' := 0) (ms' := 0) (pc' := 684) (av := [gI (xs.getD (i + 1).toNat 0), gI (xs.getD (i + 2).toNat 0), gI (xs.getD (i + 3).toNat 0)]) mi_mX12_worth lk_L_70 rfl ci_X12 kd_133 rfl (Nat.le_of_ble_eq_true rfl) (by decide) dL_law_681 rfl (hM σ1 hJ) (fun v L9 σ2 q9 => ?_)
  obtain ⟨rfl, rfl, hg2, hI2⟩ := q9
  show gWp _ _ _ _ _ _ _ _ [gX 2, gR 0, gR 133, gR 208, gI i, gX 1, gX 1, gX 1] [gI r, gI r]
  refine wg_icmp_eq (pc' := 687) (t := 1703) dL_law_684 rfl rfl (fun _ => ?_) (fun c => absurd rfl c)
  exact hend σ2 hg2 hI2 _ _ _
set_option maxRecDepth 100000 in
theorem law_9 (Inv : gH → Prop) {xs : List Int} {mc ms : Nat} {i : Int} {σ : gH} {Q : gV → List gK → gH → Prop} (hxs : ∀ j, gi32 (xs.getD j 0)) (h0 : 0 ≤ i) (h8 : i + 8 ≤ xs.length) (hL : xs.length ≤ 4096) (hg : gGr σ) (hI : Inv σ) (hq9 : ∀ a0 : Int, gi32 a0 → ∀ a1 : Int, gi32 a1 → CI Inv mX11_back mX12_back [gI a0, gI a1])
    (hend : ∀ σ2, gGr σ2 → Inv σ2 → ∀ u1 u2 u3, gWp (mLaw xs) 100 mc ms Q gL σ2 1703 [gX 2, gR 0, gR 133, gR 208, gI i, u1, u2, u3] []) : gWp (mLaw xs) 100 (1 + mc) (6 + ms) Q gL σ 689 [gX 2, gR 0, gR 133, gR 208, gI i, gX 1, gX 1, gX 1] [] := by
  refine gWp.budget (mc := 0 + (0 + mc)) (ms := 0 + (0 + ms)) (by omega) (by omega) ?_
  refine wg_aload_n (pc' := 690) (i := 1) (by rfl) (by rfl) dL_law_689 rfl ?_
  refine wg_aloadX_n (n := 2) (pc' := 691) (i := 0) (by rfl) (by decide) (by rfl) dL_law_690 rfl ?_
  refine wg_iload (pc' := 693) (by rfl) dL_law_691 rfl ?_
  refine wg_iconst (pc' := 694) (by decide) dL_law_693 rfl ?_
  refine wg_iadd (pc' := 695) dL_law_694 rfl ?_
  rw [w32_id (show gi32 (i + 1) from ⟨by omega, by omega⟩)]
  refine wg_sld (pc' := 696) (xs := xs) rfl (by omega) (by omega) dL_law_695 rfl (fun g_695 => ?_)
  refine wg_aloadX_n (n := 2) (pc' := 697) (i := 0) (by rfl) (by decide) (by rfl) dL_law_696 rfl ?_
  refine wg_iload (pc' := 699) (by rfl) dL_law_697 rfl ?_
  refine wg_iconst (pc' := 700) (by decide) dL_law_699 rfl ?_
  refine wg_iadd (pc' := 701) dL_law_700 rfl ?_
  rw [w32_id (show gi32 (i + 2) from ⟨by omega, by omega⟩)]
  refine wg_sld (pc' := 702) (xs := xs) rfl (by omega) (by omega) dL_law_701 rfl (fun g_701 => ?_)
  obtain ⟨r, J, hC, hM⟩ := hq9 (xs.getD (i + 1).toNat 0) (hxs _) (xs.getD (i + 2).toNat 0) (hxs _) σ hg hI
  refine wg_callV (mc' := 0) (ms' := 0) (pc' := 705) (av := [gI (xs.getD (i + 1).toNat 0), gI (xs.getD (i + 2).toNat 0)]) mi_mX11_back lk_L_71 rfl ci_X11 kd_0 rfl (Nat.le_of_ble_eq_true rfl) (by decide) dL_law_702 rfl hC (fun v L9 σ1 q9 => ?_)
  obtain ⟨rfl, rfl, hJ⟩ := q9
  show gWp _ _ _ _ _ _ _ _ [gX 2, gR 0, gR 133, gR 208, gI i, gX 1, gX 1, gX 1] [gI r]
  refine wg_aload_n (pc' := 706) (i := 2) (by rfl) (by rfl) dL_law_705 rfl ?_
  refine wg_aloadX_n (n := 2) (pc' := 707) (i := 0) (by rfl) (by decide) (by rfl) dL_law_706 rfl ?_
  refine wg_iload (pc' := 709) (by rfl) dL_law_707 rfl ?_
  refine wg_iconst (pc' := 710) (by decide) dL_law_709 rfl ?_
  refine wg_iadd (pc' := 711) dL_law_710 rfl ?_
  rw [w32_id (show gi32 (i + 1) from ⟨by omega, by omega⟩)]
  refine wg_sld (pc' := 712) (xs := xs) rfl (by omega) (by omega) dL_law_711 rfl (fun g_711 => ?_)
  refine wg_aloadX_n (n := 2) (pc' := 713) (i := 0) (by rfl) (by decide) (by rfl) dL_law_712 rfl ?_
  refine wg_iload (pc' := 715) (by rfl) dL_law_713 rfl ?_
  refine wg_iconst (pc' := 716) (by decide) dL_law_715 rfl ?_
  refine wg_iadd (pc' := 717) dL_law_716 rfl ?_
  rw [w32_id (show gi32 (i + 2) from ⟨by omega, by omega⟩)]
  refine wg_sld (pc' := 718) (xs := xs) rfl (by omega) (by omega) dL_law_717 rfl (fun g_717 => ?_)
  refine wg_callV (mc' := 0) (ms' := 0) (pc' := 721) (av := [gI (xs.getD (i + 1).toNat 0), gI (xs.getD (i + 2).toNat 0)]) mi_mX12_back lk_L_75 rfl ci_X12 kd_133 rfl (Nat.le_of_ble_eq_true rfl) (by decide) dL_law_718 rfl (hM σ1 hJ) (fun v L9 σ2 q9 => ?_)
  obtain ⟨rfl, rfl, hg2, hI2⟩ := q9
  show gWp _ _ _ _ _ _ _ _ [gX 2, gR 0, gR 133, gR 208, gI i, gX 1, gX 1, gX 1] [gI r, gI r]
  refine wg_icmp_eq (pc' := 724) (t := 1703) dL_law_721 rfl rfl (fun _ => ?_) (fun c => absurd rfl c)
  exact hend σ2 hg2 hI2 _ _ _
set_option maxRecDepth 100000 in
theorem law_10 (Inv : gH → Prop) {xs : List Int} {mc ms : Nat} {i : Int} {σ : gH} {Q : gV → List gK → gH → Prop} (hxs : ∀ j, gi32 (xs.getD j 0)) (h0 : 0 ≤ i) (h8 : i + 8 ≤ xs.length) (hL : xs.length ≤ 4096) (hg : gGr σ) (hI : Inv σ) (hq10 : ∀ a0 : Int, gi32 a0 → CI Inv mX11_tell mX12_tell [gI a0])
    (hend : ∀ σ2, gGr σ2 → Inv σ2 → ∀ u1 u2 u3, gWp (mLaw xs) 100 mc ms Q gL σ2 1703 [gX 2, gR 0, gR 133, gR 208, gI i, u1, u2, u3] []) : gWp (mLaw xs) 100 (1 + mc) (6 + ms) Q gL σ 726 [gX 2, gR 0, gR 133, gR 208, gI i, gX 1, gX 1, gX 1] [] := by
  refine gWp.budget (mc := 0 + (0 + mc)) (ms := 0 + (0 + ms)) (by omega) (by omega) ?_
  refine wg_aload_n (pc' := 727) (i := 1) (by rfl) (by rfl) dL_law_726 rfl ?_
  refine wg_aloadX_n (n := 2) (pc' := 728) (i := 0) (by rfl) (by decide) (by rfl) dL_law_727 rfl ?_
  refine wg_iload (pc' := 730) (by rfl) dL_law_728 rfl ?_
  refine wg_iconst (pc' := 731) (by decide) dL_law_730 rfl ?_
  refine wg_iadd (pc' := 732) dL_law_731 rfl ?_
  rw [w32_id (show gi32 (i + 1) from ⟨by omega, by omega⟩)]
  refine wg_sld (pc' := 733) (xs := xs) rfl (by omega) (by omega) dL_law_732 rfl (fun g_732 => ?_)
  obtain ⟨r, J, hC, hM⟩ := hq10 (xs.getD (i + 1).toNat 0) (hxs _) σ hg hI
  refine wg_callV (mc' := 0) (ms' := 0) (pc' := 736) (av := [gI (xs.getD (i + 1).toNat 0)]) mi_mX11_tell lk_L_76 rfl ci_X11 kd_0 rfl (Nat.le_of_ble_eq_true rfl) (by decide) dL_law_733 rfl hC (fun v L9 σ1 q9 => ?_)
  obtain ⟨rfl, rfl, hJ⟩ := q9
  show gWp _ _ _ _ _ _ _ _ [gX 2, gR 0, gR 133, gR 208, gI i, gX 1, gX 1, gX 1] [gI r]
  refine wg_aload_n (pc' := 737) (i := 2) (by rfl) (by rfl) dL_law_736 rfl ?_
  refine wg_aloadX_n (n := 2) (pc' := 738) (i := 0) (by rfl) (by decide) (by rfl) dL_law_737 rfl ?_
  refine wg_iload (pc' := 740) (by rfl) dL_law_738 rfl ?_
  refine wg_iconst (pc' := 741) (by decide) dL_law_740 rfl ?_
  refine wg_iadd (pc' := 742) dL_law_741 rfl ?_
  rw [w32_id (show gi32 (i + 1) from ⟨by omega, by omega⟩)]
  refine wg_sld (pc' := 743) (xs := xs) rfl (by omega) (by omega) dL_law_742 rfl (fun g_742 => ?_)
  refine wg_callV (mc' := 0) (ms' := 0) (pc' := 746) (av := [gI (xs.getD (i + 1).toNat 0)]) mi_mX12_tell lk_L_79 rfl ci_X12 kd_133 rfl (Nat.le_of_ble_eq_true rfl) (by decide) dL_law_743 rfl (hM σ1 hJ) (fun v L9 σ2 q9 => ?_)
  obtain ⟨rfl, rfl, hg2, hI2⟩ := q9
  show gWp _ _ _ _ _ _ _ _ [gX 2, gR 0, gR 133, gR 208, gI i, gX 1, gX 1, gX 1] [gI r, gI r]
  refine wg_icmp_eq (pc' := 749) (t := 1703) dL_law_746 rfl rfl (fun _ => ?_) (fun c => absurd rfl c)
  exact hend σ2 hg2 hI2 _ _ _
set_option maxRecDepth 100000 in
theorem law_11 (Inv : gH → Prop) {xs : List Int} {mc ms : Nat} {i : Int} {σ : gH} {Q : gV → List gK → gH → Prop} (hxs : ∀ j, gi32 (xs.getD j 0)) (h0 : 0 ≤ i) (h8 : i + 8 ≤ xs.length) (hL : xs.length ≤ 4096) (hg : gGr σ) (hI : Inv σ) (hq11 : ∀ a0 : Int, gi32 a0 → CI Inv mX11_law mX12_law [gI a0])
    (hend : ∀ σ2, gGr σ2 → Inv σ2 → ∀ u1 u2 u3, gWp (mLaw xs) 100 mc ms Q gL σ2 1703 [gX 2, gR 0, gR 133, gR 208, gI i, u1, u2, u3] []) : gWp (mLaw xs) 100 (1 + mc) (6 + ms) Q gL σ 751 [gX 2, gR 0, gR 133, gR 208, gI i, gX 1, gX 1, gX 1] [] := by
  refine gWp.budget (mc := 0 + (0 + mc)) (ms := 0 + (0 + ms)) (by omega) (by omega) ?_
  refine wg_aload_n (pc' := 752) (i := 1) (by rfl) (by rfl) dL_law_751 rfl ?_
  refine wg_aloadX_n (n := 2) (pc' := 753) (i := 0) (by rfl) (by decide) (by rfl) dL_law_752 rfl ?_
  refine wg_iload (pc' := 755) (by rfl) dL_law_753 rfl ?_
  refine wg_iconst (pc' := 756) (by decide) dL_law_755 rfl ?_
  refine wg_iadd (pc' := 757) dL_law_756 rfl ?_
  rw [w32_id (show gi32 (i + 1) from ⟨by omega, by omega⟩)]
  refine wg_sld (pc' := 758) (xs := xs) rfl (by omega) (by omega) dL_law_757 rfl (fun g_757 => ?_)
  obtain ⟨r, J, hC, hM⟩ := hq11 (xs.getD (i + 1).toNat 0) (hxs _) σ hg hI
  refine wg_callV (mc' := 0) (ms' := 0) (pc' := 761) (av := [gI (xs.getD (i + 1).toNat 0)]) mi_mX11_law lk_L_80 rfl ci_X11 kd_0 rfl (Nat.le_of_ble_eq_true rfl) (by decide) dL_law_758 rfl hC (fun v L9 σ1 q9 => ?_)
  obtain ⟨rfl, rfl, hJ⟩ := q9
  show gWp _ _ _ _ _ _ _ _ [gX 2, gR 0, gR 133, gR 208, gI i, gX 1, gX 1, gX 1] [gI r]
  refine wg_aload_n (pc' := 762) (i := 2) (by rfl) (by rfl) dL_law_761 rfl ?_
  refine wg_aloadX_n (n := 2) (pc' := 763) (i := 0) (by rfl) (by decide) (by rfl) dL_law_762 rfl ?_
  refine wg_iload (pc' := 765) (by rfl) dL_law_763 rfl ?_
  refine wg_iconst (pc' := 766) (by decide) dL_law_765 rfl ?_
  refine wg_iadd (pc' := 767) dL_law_766 rfl ?_
  rw [w32_id (show gi32 (i + 1) from ⟨by omega, by omega⟩)]
  refine wg_sld (pc' := 768) (xs := xs) rfl (by omega) (by omega) dL_law_767 rfl (fun g_767 => ?_)
  refine wg_callV (mc' := 0) (ms' := 0) (pc' := 771) (av := [gI (xs.getD (i + 1).toNat 0)]) mi_mX12_law lk_L_83 rfl ci_X12 kd_133 rfl (Nat.le_of_ble_eq_true rfl) (by decide) dL_law_768 rfl (hM σ1 hJ) (fun v L9 σ2 q9 => ?_)
  obtain ⟨rfl, rfl, hg2, hI2⟩ := q9
  show gWp _ _ _ _ _ _ _ _ [gX 2, gR 0, gR 133, gR 208, gI i, gX 1, gX 1, gX 1] [gI r, gI r]
  refine wg_icmp_eq (pc' := 774) (t := 1703) dL_law_771 rfl rfl (fun _ => ?_) (fun c => absurd rfl c)
  exact hend σ2 hg2 hI2 _ _ _
set_option maxRecDepth 100000 in
theorem law_12 (Inv : gH → Prop) {xs : List Int} {mc ms : Nat} {i : Int} {σ : gH} {Q : gV → List gK → gH → Prop} (hxs : ∀ j, gi32 (xs.getD j 0)) (h0 : 0 ≤ i) (h8 : i + 8 ≤ xs.length) (hL : xs.length ≤ 4096) (hg : gGr σ) (hI : Inv σ) (hq12 : CI Inv mX11_fault mX12_fault [])
    (hend : ∀ σ2, gGr σ2 → Inv σ2 → ∀ u1 u2 u3, gWp (mLaw xs) 100 mc ms Q gL σ2 1703 [gX 2, gR 0, gR 133, gR 208, gI i, u1, u2, u3] []) : gWp (mLaw xs) 100 (1 + mc) (6 + ms) Q gL σ 776 [gX 2, gR 0, gR 133, gR 208, gI i, gX 1, gX 1, gX 1] [] := by
  refine gWp.budget (mc := 0 + (0 + mc)) (ms := 0 + (0 + ms)) (by omega) (by omega) ?_
  refine wg_aload_n (pc' := 777) (i := 1) (by rfl) (by rfl) dL_law_776 rfl ?_
  obtain ⟨r, J, hC, hM⟩ := hq12  σ hg hI
  refine wg_callV (mc' := 0) (ms' := 0) (pc' := 780) (av := []) mi_mX11_fault lk_L_84 rfl ci_X11 kd_0 rfl (Nat.le_of_ble_eq_true rfl) (by decide) dL_law_777 rfl hC (fun v L9 σ1 q9 => ?_)
  obtain ⟨rfl, rfl, hJ⟩ := q9
  show gWp _ _ _ _ _ _ _ _ [gX 2, gR 0, gR 133, gR 208, gI i, gX 1, gX 1, gX 1] [gI r]
  refine wg_aload_n (pc' := 781) (i := 2) (by rfl) (by rfl) dL_law_780 rfl ?_
  refine wg_callV (mc' := 0) (ms' := 0) (pc' := 784) (av := []) mi_mX12_fault lk_L_88 rfl ci_X12 kd_133 rfl (Nat.le_of_ble_eq_true rfl) (by decide) dL_law_781 rfl (hM σ1 hJ) (fun v L9 σ2 q9 => ?_)
  obtain ⟨rfl, rfl, hg2, hI2⟩ := q9
  show gWp _ _ _ _ _ _ _ _ [gX 2, gR 0, gR 133, gR 208, gI i, gX 1, gX 1, gX 1] [gI r, gI r]
  refine wg_icmp_eq (pc' := 787) (t := 1703) dL_law_784 rfl rfl (fun _ => ?_) (fun c => absurd rfl c)
  exact hend σ2 hg2 hI2 _ _ _
set_option maxRecDepth 100000 in
theorem law_13 (Inv : gH → Prop) {xs : List Int} {mc ms : Nat} {i : Int} {σ : gH} {Q : gV → List gK → gH → Prop} (hxs : ∀ j, gi32 (xs.getD j 0)) (h0 : 0 ≤ i) (h8 : i + 8 ≤ xs.length) (hL : xs.length ≤ 4096) (hg : gGr σ) (hI : Inv σ) (hq13 : ∀ a0 : Int, gi32 a0 → ∀ a1 : Int, gi32 a1 → ∀ a2 : Int, gi32 a2 → ∀ a3 : Int, gi32 a3 → CJ Inv mX11_part mX12_part [gI a0, gI a1, gI a2, gI a3])
    (hend : ∀ σ2, gGr σ2 → Inv σ2 → ∀ u1 u2 u3, gWp (mLaw xs) 100 mc ms Q gL σ2 1703 [gX 2, gR 0, gR 133, gR 208, gI i, u1, u2, u3] []) : gWp (mLaw xs) 100 (1 + mc) (6 + ms) Q gL σ 789 [gX 2, gR 0, gR 133, gR 208, gI i, gX 1, gX 1, gX 1] [] := by
  refine gWp.budget (mc := 0 + (0 + mc)) (ms := 0 + (0 + ms)) (by omega) (by omega) ?_
  refine wg_aload_n (pc' := 790) (i := 1) (by rfl) (by rfl) dL_law_789 rfl ?_
  refine wg_aloadX_n (n := 2) (pc' := 791) (i := 0) (by rfl) (by decide) (by rfl) dL_law_790 rfl ?_
  refine wg_iload (pc' := 793) (by rfl) dL_law_791 rfl ?_
  refine wg_iconst (pc' := 794) (by decide) dL_law_793 rfl ?_
  refine wg_iadd (pc' := 795) dL_law_794 rfl ?_
  rw [w32_id (show gi32 (i + 1) from ⟨by omega, by omega⟩)]
  refine wg_sld (pc' := 796) (xs := xs) rfl (by omega) (by omega) dL_law_795 rfl (fun g_795 => ?_)
  refine wg_aloadX_n (n := 2) (pc' := 797) (i := 0) (by rfl) (by decide) (by rfl) dL_law_796 rfl ?_
  refine wg_iload (pc' := 799) (by rfl) dL_law_797 rfl ?_
  refine wg_iconst (pc' := 800) (by decide) dL_law_799 rfl ?_
  refine wg_iadd (pc' := 801) dL_law_800 rfl ?_
  rw [w32_id (show gi32 (i + 2) from ⟨by omega, by omega⟩)]
  refine wg_sld (pc' := 802) (xs := xs) rfl (by omega) (by omega) dL_law_801 rfl (fun g_801 => ?_)
  refine wg_aloadX_n (n := 2) (pc' := 803) (i := 0) (by rfl) (by decide) (by rfl) dL_law_802 rfl ?_
  refine wg_iload (pc' := 805) (by rfl) dL_law_803 rfl ?_
  refine wg_iconst (pc' := 806) (by decide) dL_law_805 rfl ?_
  refine wg_iadd (pc' := 807) dL_law_806 rfl ?_
  rw [w32_id (show gi32 (i + 3) from ⟨by omega, by omega⟩)]
  refine wg_sld (pc' := 808) (xs := xs) rfl (by omega) (by omega) dL_law_807 rfl (fun g_807 => ?_)
  refine wg_aloadX_n (n := 2) (pc' := 809) (i := 0) (by rfl) (by decide) (by rfl) dL_law_808 rfl ?_
  refine wg_iload (pc' := 811) (by rfl) dL_law_809 rfl ?_
  refine wg_iconst (pc' := 812) (by decide) dL_law_811 rfl ?_
  refine wg_iadd (pc' := 813) dL_law_812 rfl ?_
  rw [w32_id (show gi32 (i + 4) from ⟨by omega, by omega⟩)]
  refine wg_sld (pc' := 814) (xs := xs) rfl (by omega) (by omega) dL_law_813 rfl (fun g_813 => ?_)
  obtain ⟨r, J, hC, hM⟩ := hq13 (xs.getD (i + 1).toNat 0) (hxs _) (xs.getD (i + 2).toNat 0) (hxs _) (xs.getD (i + 3).toNat 0) (hxs _) (xs.getD (i + 4).toNat 0) (hxs _) σ hg hI
  refine wg_callV (mc' := 0) (ms' := 0) (pc' := 817) (av := [gI (xs.getD (i + 1).toNat 0), gI (xs.getD (i + 2).toNat 0), gI (xs.getD (i + 3).toNat 0), gI (xs.getD (i + 4).toNat 0)]) mi_mX11_part lk_L_89 rfl ci_X11 kd_0 rfl (Nat.le_of_ble_eq_true rfl) (by decide) dL_law_814 rfl hC (fun v L9 σ1 q9 => ?_)
  obtain ⟨rfl, rfl, hJ⟩ := q9
  show gWp _ _ _ _ _ _ _ _ [gX 2, gR 0, gR 133, gR 208, gI i, gX 1, gX 1, gX 1] [gJ r]
  refine wg_aload_n (pc' := 818) (i := 2) (by rfl) (by rfl) dL_law_817 rfl ?_
  refine wg_aloadX_n (n := 2) (pc' := 819) (i := 0) (by rfl) (by decide) (by rfl) dL_law_818 rfl ?_
  refine wg_iload (pc' := 821) (by rfl) dL_law_819 rfl ?_
  refine wg_iconst (pc' := 822) (by decide) dL_law_821 rfl ?_
  refine wg_iadd (pc' := 823) dL_law_822 rfl ?_
  rw [w32_id (show gi32 (i + 1) from ⟨by omega, by omega⟩)]
  refine wg_sld (pc' := 824) (xs := xs) rfl (by omega) (by omega) dL_law_823 rfl (fun g_823 => ?_)
  refine wg_aloadX_n (n := 2) (pc' := 825) (i := 0) (by rfl) (by decide) (by rfl) dL_law_824 rfl ?_
  refine wg_iload (pc' := 827) (by rfl) dL_law_825 rfl ?_
  refine wg_iconst (pc' := 828) (by decide) dL_law_827 rfl ?_
  refine wg_iadd (pc' := 829) dL_law_828 rfl ?_
  rw [w32_id (show gi32 (i + 2) from ⟨by omega, by omega⟩)]
  refine wg_sld (pc' := 830) (xs := xs) rfl (by omega) (by omega) dL_law_829 rfl (fun g_829 => ?_)
  refine wg_aloadX_n (n := 2) (pc' := 831) (i := 0) (by rfl) (by decide) (by rfl) dL_law_830 rfl ?_
  refine wg_iload (pc' := 833) (by rfl) dL_law_831 rfl ?_
  refine wg_iconst (pc' := 834) (by decide) dL_law_833 rfl ?_
  refine wg_iadd (pc' := 835) dL_law_834 rfl ?_
  rw [w32_id (show gi32 (i + 3) from ⟨by omega, by omega⟩)]
  refine wg_sld (pc' := 836) (xs := xs) rfl (by omega) (by omega) dL_law_835 rfl (fun g_835 => ?_)
  refine wg_aloadX_n (n := 2) (pc' := 837) (i := 0) (by rfl) (by decide) (by rfl) dL_law_836 rfl ?_
  refine wg_iload (pc' := 839) (by rfl) dL_law_837 rfl ?_
  refine wg_iconst (pc' := 840) (by decide) dL_law_839 rfl ?_
  refine wg_iadd (pc' := 841) dL_law_840 rfl ?_
  rw [w32_id (show gi32 (i + 4) from ⟨by omega, by omega⟩)]
  refine wg_sld (pc' := 842) (xs := xs) rfl (by omega) (by omega) dL_law_841 rfl (fun g_841 => ?_)
  refine wg_callV (mc' := 0) (ms' := 0) (pc' := 845) (av := [gI (xs.getD (i + 1).toNat 0), gI (xs.getD (i + 2).toNat 0), gI (xs.getD (i + 3).toNat 0), gI (xs.getD (i + 4).toNat 0)]) mi_mX12_part lk_L_93 rfl ci_X12 kd_133 rfl (Nat.le_of_ble_eq_true rfl) (by decide) dL_law_842 rfl (hM σ1 hJ) (fun v L9 σ2 q9 => ?_)
  obtain ⟨rfl, rfl, hg2, hI2⟩ := q9
  show gWp _ _ _ _ _ _ _ _ [gX 2, gR 0, gR 133, gR 208, gI i, gX 1, gX 1, gX 1] [gJ r, gJ r]
  refine wg_lcmp (pc' := 846) dL_law_845 rfl ?_
  rw [show gCmp r r = 0 from (by unfold gCmp; rw [if_neg (Int.lt_irrefl _), if_pos rfl])]
  refine wg_if_eq (pc' := 849) (t := 1703) dL_law_846 rfl rfl (fun _ => ?_) (fun c => absurd rfl c)
  exact hend σ2 hg2 hI2 _ _ _
set_option maxRecDepth 100000 in
theorem law_14 (Inv : gH → Prop) {xs : List Int} {mc ms : Nat} {i : Int} {σ : gH} {Q : gV → List gK → gH → Prop} (hxs : ∀ j, gi32 (xs.getD j 0)) (h0 : 0 ≤ i) (h8 : i + 8 ≤ xs.length) (hL : xs.length ≤ 4096) (hg : gGr σ) (hI : Inv σ) (hq14 : ∀ a0 : Int, gi32 a0 → ∀ a1 : Int, gi32 a1 → ∀ a2 : Int, gi32 a2 → ∀ a3 : Int, gi32 a3 → CI Inv mX11_chain mX12_chain [gI a0, gI a1, gI a2, gI a3])
    (hend : ∀ σ2, gGr σ2 → Inv σ2 → ∀ u1 u2 u3, gWp (mLaw xs) 100 mc ms Q gL σ2 1703 [gX 2, gR 0, gR 133, gR 208, gI i, u1, u2, u3] []) : gWp (mLaw xs) 100 (1 + mc) (6 + ms) Q gL σ 851 [gX 2, gR 0, gR 133, gR 208, gI i, gX 1, gX 1, gX 1] [] := by
  refine gWp.budget (mc := 0 + (0 + mc)) (ms := 0 + (0 + ms)) (by omega) (by omega) ?_
  refine wg_aload_n (pc' := 852) (i := 1) (by rfl) (by rfl) dL_law_851 rfl ?_
  refine wg_aloadX_n (n := 2) (pc' := 853) (i := 0) (by rfl) (by decide) (by rfl) dL_law_852 rfl ?_
  refine wg_iload (pc' := 855) (by rfl) dL_law_853 rfl ?_
  refine wg_iconst (pc' := 856) (by decide) dL_law_855 rfl ?_
  refine wg_iadd (pc' := 857) dL_law_856 rfl ?_
  rw [w32_id (show gi32 (i + 1) from ⟨by omega, by omega⟩)]
  refine wg_sld (pc' := 858) (xs := xs) rfl (by omega) (by omega) dL_law_857 rfl (fun g_857 => ?_)
  refine wg_aloadX_n (n := 2) (pc' := 859) (i := 0) (by rfl) (by decide) (by rfl) dL_law_858 rfl ?_
  refine wg_iload (pc' := 861) (by rfl) dL_law_859 rfl ?_
  refine wg_iconst (pc' := 862) (by decide) dL_law_861 rfl ?_
  refine wg_iadd (pc' := 863) dL_law_862 rfl ?_
  rw [w32_id (show gi32 (i + 2) from ⟨by omega, by omega⟩)]
  refine wg_sld (pc' := 864) (xs := xs) rfl (by omega) (by omega) dL_law_863 rfl (fun g_863 => ?_)
  refine wg_aloadX_n (n := 2) (pc' := 865) (i := 0) (by rfl) (by decide) (by rfl) dL_law_864 rfl ?_
  refine wg_iload (pc' := 867) (by rfl) dL_law_865 rfl ?_
  refine wg_iconst (pc' := 868) (by decide) dL_law_867 rfl ?_
  refine wg_iadd (pc' := 869) dL_law_868 rfl ?_
  rw [w32_id (show gi32 (i + 3) from ⟨by omega, by omega⟩)]
  refine wg_sld (pc' := 870) (xs := xs) rfl (by omega) (by omega) dL_law_869 rfl (fun g_869 => ?_)
  refine wg_aloadX_n (n := 2) (pc' := 871) (i := 0) (by rfl) (by decide) (by rfl) dL_law_870 rfl ?_
  refine wg_iload (pc' := 873) (by rfl) dL_law_871 rfl ?_
  refine wg_iconst (pc' := 874) (by decide) dL_law_873 rfl ?_
  refine wg_iadd (pc' := 875) dL_law_874 rfl ?_
  rw [w32_id (show gi32 (i + 4) from ⟨by omega, by omega⟩)]
  refine wg_sld (pc' := 876) (xs := xs) rfl (by omega) (by omega) dL_law_875 rfl (fun g_875 => ?_)
  obtain ⟨r, J, hC, hM⟩ := hq14 (xs.getD (i + 1).toNat 0) (hxs _) (xs.getD (i + 2).toNat 0) (hxs _) (xs.getD (i + 3).toNat 0) (hxs _) (xs.getD (i + 4).toNat 0) (hxs _) σ hg hI
  refine wg_callV (mc' := 0) (ms' := 0) (pc' := 879) (av := [gI (xs.getD (i + 1).toNat 0), gI (xs.getD (i + 2).toNat 0), gI (xs.getD (i + 3).toNat 0), gI (xs.getD (i + 4).toNat 0)]) mi_mX11_chain lk_L_94 rfl ci_X11 kd_0 rfl (Nat.le_of_ble_eq_true rfl) (by decide) dL_law_876 rfl hC (fun v L9 σ1 q9 => ?_)
  obtain ⟨rfl, rfl, hJ⟩ := q9
  show gWp _ _ _ _ _ _ _ _ [gX 2, gR 0, gR 133, gR 208, gI i, gX 1, gX 1, gX 1] [gI r]
  refine wg_aload_n (pc' := 880) (i := 2) (by rfl) (by rfl) dL_law_879 rfl ?_
  refine wg_aloadX_n (n := 2) (pc' := 881) (i := 0) (by rfl) (by decide) (by rfl) dL_law_880 rfl ?_
  refine wg_iload (pc' := 883) (by rfl) dL_law_881 rfl ?_
  refine wg_iconst (pc' := 884) (by decide) dL_law_883 rfl ?_
  refine wg_iadd (pc' := 885) dL_law_884 rfl ?_
  rw [w32_id (show gi32 (i + 1) from ⟨by omega, by omega⟩)]
  refine wg_sld (pc' := 886) (xs := xs) rfl (by omega) (by omega) dL_law_885 rfl (fun g_885 => ?_)
  refine wg_aloadX_n (n := 2) (pc' := 887) (i := 0) (by rfl) (by decide) (by rfl) dL_law_886 rfl ?_
  refine wg_iload (pc' := 889) (by rfl) dL_law_887 rfl ?_
  refine wg_iconst (pc' := 890) (by decide) dL_law_889 rfl ?_
  refine wg_iadd (pc' := 891) dL_law_890 rfl ?_
  rw [w32_id (show gi32 (i + 2) from ⟨by omega, by omega⟩)]
  refine wg_sld (pc' := 892) (xs := xs) rfl (by omega) (by omega) dL_law_891 rfl (fun g_891 => ?_)
  refine wg_aloadX_n (n := 2) (pc' := 893) (i := 0) (by rfl) (by decide) (by rfl) dL_law_892 rfl ?_
  refine wg_iload (pc' := 895) (by rfl) dL_law_893 rfl ?_
  refine wg_iconst (pc' := 896) (by decide) dL_law_895 rfl ?_
  refine wg_iadd (pc' := 897) dL_law_896 rfl ?_
  rw [w32_id (show gi32 (i + 3) from ⟨by omega, by omega⟩)]
  refine wg_sld (pc' := 898) (xs := xs) rfl (by omega) (by omega) dL_law_897 rfl (fun g_897 => ?_)
  refine wg_aloadX_n (n := 2) (pc' := 899) (i := 0) (by rfl) (by decide) (by rfl) dL_law_898 rfl ?_
  refine wg_iload (pc' := 901) (by rfl) dL_law_899 rfl ?_
  refine wg_iconst (pc' := 902) (by decide) dL_law_901 rfl ?_
  refine wg_iadd (pc' := 903) dL_law_902 rfl ?_
  rw [w32_id (show gi32 (i + 4) from ⟨by omega, by omega⟩)]
  refine wg_sld (pc' := 904) (xs := xs) rfl (by omega) (by omega) dL_law_903 rfl (fun g_903 => ?_)
  refine wg_callV (mc' := 0) (ms' := 0) (pc' := 907) (av := [gI (xs.getD (i + 1).toNat 0), gI (xs.getD (i + 2).toNat 0), gI (xs.getD (i + 3).toNat 0), gI (xs.getD (i + 4).toNat 0)]) mi_mX12_chain lk_L_97 rfl ci_X12 kd_133 rfl (Nat.le_of_ble_eq_true rfl) (by decide) dL_law_904 rfl (hM σ1 hJ) (fun v L9 σ2 q9 => ?_)
  obtain ⟨rfl, rfl, hg2, hI2⟩ := q9
  show gWp _ _ _ _ _ _ _ _ [gX 2, gR 0, gR 133, gR 208, gI i, gX 1, gX 1, gX 1] [gI r, gI r]
  refine wg_icmp_eq (pc' := 910) (t := 1703) dL_law_907 rfl rfl (fun _ => ?_) (fun c => absurd rfl c)
  exact hend σ2 hg2 hI2 _ _ _
set_option maxRecDepth 100000 in
theorem law_15 (Inv : gH → Prop) {xs : List Int} {mc ms : Nat} {i : Int} {σ : gH} {Q : gV → List gK → gH → Prop} (hxs : ∀ j, gi32 (xs.getD j 0)) (h0 : 0 ≤ i) (h8 : i + 8 ≤ xs.length) (hL : xs.length ≤ 4096) (hg : gGr σ) (hI : Inv σ) (hq15 : ∀ a0 : Int, gi32 a0 → CX Inv (fun y => gI y) mL_octet [(0, 9, 12, 13)] mX12_octet [gI a0])
    (hend : ∀ σ2, gGr σ2 → Inv σ2 → ∀ u1 u2 u3, gWp (mLaw xs) 100 mc ms Q gL σ2 1703 [gX 2, gR 0, gR 133, gR 208, gI i, u1, u2, u3] []) : gWp (mLaw xs) 100 (1 + mc) (6 + ms) Q gL σ 912 [gX 2, gR 0, gR 133, gR 208, gI i, gX 1, gX 1, gX 1] [] := by
  refine gWp.budget (mc := 1 + (0 + (0 + mc))) (ms := 6 + (0 + (0 + ms))) (by omega) (by omega) ?_
  refine wg_aload_n (pc' := 913) (i := 1) (by rfl) (by rfl) dL_law_912 rfl ?_
  refine wg_aloadX_n (n := 2) (pc' := 914) (i := 0) (by rfl) (by decide) (by rfl) dL_law_913 rfl ?_
  refine wg_iload (pc' := 916) (by rfl) dL_law_914 rfl ?_
  refine wg_iconst (pc' := 917) (by decide) dL_law_916 rfl ?_
  refine wg_iadd (pc' := 918) dL_law_917 rfl ?_
  rw [w32_id (show gi32 (i + 1) from ⟨by omega, by omega⟩)]
  refine wg_sld (pc' := 919) (xs := xs) rfl (by omega) (by omega) dL_law_918 rfl (fun g_918 => ?_)
  refine wg_aload_n (pc' := 920) (i := 3) (by rfl) (by rfl) dL_law_919 rfl ?_
  obtain ⟨k, r, J, hk01, hC, hM⟩ := hq15 (xs.getD (i + 1).toNat 0) (hxs _) σ hg hI
  refine wg_callSW (n := 3) (av := [gR 0, gI (xs.getD (i + 1).toNat 0), gR 208]) iL cw_mL_octet (by decide +kernel) (by decide) st_mL_octet lk_L_98 rfl rfl (Nat.le_of_ble_eq_true rfl) (by decide) dL_law_920 hC (fun v L9 σ1 q9 => ?_)
  obtain ⟨rfl, rfl, hr1, hJ⟩ := q9
  show gWp _ _ _ _ _ _ _ 923 [gX 2, gR 0, gR 133, gR 208, gI i, gX 1, gX 1, gX 1] [gI k]
  refine wg_istore (pc' := 925) (ls' := [gX 2, gR 0, gR 133, gR 208, gI i, gI k, gX 1, gX 1]) (Nat.le_of_ble_eq_true rfl) (by rfl) dL_law_923 rfl ?_
  refine wg_aload_n (pc' := 926) (i := 2) (by rfl) (by rfl) dL_law_925 rfl ?_
  refine wg_aloadX_n (n := 2) (pc' := 927) (i := 0) (by rfl) (by decide) (by rfl) dL_law_926 rfl ?_
  refine wg_iload (pc' := 929) (by rfl) dL_law_927 rfl ?_
  refine wg_iconst (pc' := 930) (by decide) dL_law_929 rfl ?_
  refine wg_iadd (pc' := 931) dL_law_930 rfl ?_
  rw [w32_id (show gi32 (i + 1) from ⟨by omega, by omega⟩)]
  refine wg_sld (pc' := 932) (xs := xs) rfl (by omega) (by omega) dL_law_931 rfl (fun g_931 => ?_)
  refine wg_callV (mc' := 0) (ms' := 0) (pc' := 935) (av := [gI (xs.getD (i + 1).toNat 0)]) mi_mX12_octet lk_L_103 rfl ci_X12 kd_133 rfl (Nat.le_of_ble_eq_true rfl) (by decide) dL_law_932 rfl (hM σ1 hJ) (fun v L9 σ2 q9 => ?_)
  obtain ⟨rfl, ⟨y, rfl, hy⟩, hg2, hI2, hk, ho⟩ := q9
  show gWp _ _ _ _ _ _ _ _ [gX 2, gR 0, gR 133, gR 208, gI i, gI k, gX 1, gX 1] [gI y]
  refine wg_istore (pc' := 937) (ls' := [gX 2, gR 0, gR 133, gR 208, gI i, gI k, gI y, gX 1]) (Nat.le_of_ble_eq_true rfl) (by rfl) dL_law_935 rfl ?_
  refine wg_aload_n (pc' := 938) (i := 2) (by rfl) (by rfl) dL_law_937 rfl ?_
  refine wg_callV (pc' := 941) (av := []) mi_mX12_thrown lk_L_104 rfl ci_X12 kd_133 rfl (Nat.le_of_ble_eq_true rfl) (by decide) dL_law_938 rfl (s_thrown _) (fun v L9 s9 q9 => ?_)
  obtain ⟨rfl, rfl, h10⟩ := q9
  rw [h10]
  show gWp _ _ _ _ _ _ _ _ [gX 2, gR 0, gR 133, gR 208, gI i, gI k, gI y, gX 1] [gI (σ2 133 0)]
  refine wg_iload (pc' := 943) (by rfl) dL_law_941 rfl ?_
  refine wg_icmp_eq (pc' := 946) (t := 948) dL_law_943 rfl rfl (fun _ => ?_) (fun c => absurd hk c)
  refine wg_iload (pc' := 950) (by rfl) dL_law_948 rfl ?_
  refine wg_if_ne (pc' := 953) (t := 965) dL_law_950 rfl rfl (fun c_950 => ?_) (fun c_950 => ?_)
  · skip
    refine wg_goto (pc' := 1703) dL_law_965 rfl ?_
    exact hend σ2 hg2 hI2 _ _ _
  · skip
    have hk0 : k = 0 := by omega
    refine wg_aload_n (pc' := 954) (i := 3) (by rfl) (by rfl) dL_law_953 rfl ?_
    refine wg_iconst (pc' := 955) (by decide) dL_law_954 rfl ?_
    refine wg_lald (pc' := 956) kd_208 (by omega) (by decide) dL_law_955 rfl ?_
    refine wg_iload (pc' := 958) (by rfl) dL_law_956 rfl ?_
    refine wg_i2l (pc' := 959) dL_law_958 rfl ?_
    refine wg_lcmp (pc' := 960) dL_law_959 rfl ?_
    rw [show gCmp (σ2 208 0) y = 0 from (by rw [ho, hr1 hk0, hy hk0]; unfold gCmp; rw [if_neg (Int.lt_irrefl _), if_pos rfl])]
    refine wg_if_eq (pc' := 963) (t := 965) dL_law_960 rfl rfl (fun _ => ?_) (fun c => absurd rfl c)
    refine wg_goto (pc' := 1703) dL_law_965 rfl ?_
    exact hend σ2 hg2 hI2 _ _ _
set_option maxRecDepth 100000 in
theorem law_16 (Inv : gH → Prop) {xs : List Int} {mc ms : Nat} {i : Int} {σ : gH} {Q : gV → List gK → gH → Prop} (hxs : ∀ j, gi32 (xs.getD j 0)) (h0 : 0 ≤ i) (h8 : i + 8 ≤ xs.length) (hL : xs.length ≤ 4096) (hg : gGr σ) (hI : Inv σ) (hq16 : ∀ a0 : Int, gi32 a0 → ∀ a1 : Int, gi32 a1 → ∀ a2 : Int, gi32 a2 → CI Inv mX11_head mX12_head [gI a0, gI a1, gI a2])
    (hend : ∀ σ2, gGr σ2 → Inv σ2 → ∀ u1 u2 u3, gWp (mLaw xs) 100 mc ms Q gL σ2 1703 [gX 2, gR 0, gR 133, gR 208, gI i, u1, u2, u3] []) : gWp (mLaw xs) 100 (1 + mc) (6 + ms) Q gL σ 968 [gX 2, gR 0, gR 133, gR 208, gI i, gX 1, gX 1, gX 1] [] := by
  refine gWp.budget (mc := 0 + (0 + mc)) (ms := 0 + (0 + ms)) (by omega) (by omega) ?_
  refine wg_aload_n (pc' := 969) (i := 1) (by rfl) (by rfl) dL_law_968 rfl ?_
  refine wg_aloadX_n (n := 2) (pc' := 970) (i := 0) (by rfl) (by decide) (by rfl) dL_law_969 rfl ?_
  refine wg_iload (pc' := 972) (by rfl) dL_law_970 rfl ?_
  refine wg_iconst (pc' := 973) (by decide) dL_law_972 rfl ?_
  refine wg_iadd (pc' := 974) dL_law_973 rfl ?_
  rw [w32_id (show gi32 (i + 1) from ⟨by omega, by omega⟩)]
  refine wg_sld (pc' := 975) (xs := xs) rfl (by omega) (by omega) dL_law_974 rfl (fun g_974 => ?_)
  refine wg_aloadX_n (n := 2) (pc' := 976) (i := 0) (by rfl) (by decide) (by rfl) dL_law_975 rfl ?_
  refine wg_iload (pc' := 978) (by rfl) dL_law_976 rfl ?_
  refine wg_iconst (pc' := 979) (by decide) dL_law_978 rfl ?_
  refine wg_iadd (pc' := 980) dL_law_979 rfl ?_
  rw [w32_id (show gi32 (i + 2) from ⟨by omega, by omega⟩)]
  refine wg_sld (pc' := 981) (xs := xs) rfl (by omega) (by omega) dL_law_980 rfl (fun g_980 => ?_)
  refine wg_aloadX_n (n := 2) (pc' := 982) (i := 0) (by rfl) (by decide) (by rfl) dL_law_981 rfl ?_
  refine wg_iload (pc' := 984) (by rfl) dL_law_982 rfl ?_
  refine wg_iconst (pc' := 985) (by decide) dL_law_984 rfl ?_
  refine wg_iadd (pc' := 986) dL_law_985 rfl ?_
  rw [w32_id (show gi32 (i + 3) from ⟨by omega, by omega⟩)]
  refine wg_sld (pc' := 987) (xs := xs) rfl (by omega) (by omega) dL_law_986 rfl (fun g_986 => ?_)
  obtain ⟨r, J, hC, hM⟩ := hq16 (xs.getD (i + 1).toNat 0) (hxs _) (xs.getD (i + 2).toNat 0) (hxs _) (xs.getD (i + 3).toNat 0) (hxs _) σ hg hI
  refine wg_callV (mc' := 0) (ms' := 0) (pc' := 990) (av := [gI (xs.getD (i + 1).toNat 0), gI (xs.getD (i + 2).toNat 0), gI (xs.getD (i + 3).toNat 0)]) mi_mX11_head lk_L_107 rfl ci_X11 kd_0 rfl (Nat.le_of_ble_eq_true rfl) (by decide) dL_law_987 rfl hC (fun v L9 σ1 q9 => ?_)
  obtain ⟨rfl, rfl, hJ⟩ := q9
  show gWp _ _ _ _ _ _ _ _ [gX 2, gR 0, gR 133, gR 208, gI i, gX 1, gX 1, gX 1] [gI r]
  refine wg_aload_n (pc' := 991) (i := 2) (by rfl) (by rfl) dL_law_990 rfl ?_
  refine wg_aloadX_n (n := 2) (pc' := 992) (i := 0) (by rfl) (by decide) (by rfl) dL_law_991 rfl ?_
  refine wg_iload (pc' := 994) (by rfl) dL_law_992 rfl ?_
  refine wg_iconst (pc' := 995) (by decide) dL_law_994 rfl ?_
  refine wg_iadd (pc' := 996) dL_law_995 rfl ?_
  rw [w32_id (show gi32 (i + 1) from ⟨by omega, by omega⟩)]
  refine wg_sld (pc' := 997) (xs := xs) rfl (by omega) (by omega) dL_law_996 rfl (fun g_996 => ?_)
  refine wg_aloadX_n (n := 2) (pc' := 998) (i := 0) (by rfl) (by decide) (by rfl) dL_law_997 rfl ?_
  refine wg_iload (pc' := 1000) (by rfl) dL_law_998 rfl ?_
  refine wg_iconst (pc' := 1001) (by decide) dL_law_1000 rfl ?_
  refine wg_iadd (pc' := 1002) dL_law_1001 rfl ?_
  rw [w32_id (show gi32 (i + 2) from ⟨by omega, by omega⟩)]
  refine wg_sld (pc' := 1003) (xs := xs) rfl (by omega) (by omega) dL_law_1002 rfl (fun g_1002 => ?_)
  refine wg_aloadX_n (n := 2) (pc' := 1004) (i := 0) (by rfl) (by decide) (by rfl) dL_law_1003 rfl ?_
  refine wg_iload (pc' := 1006) (by rfl) dL_law_1004 rfl ?_
  refine wg_iconst (pc' := 1007) (by decide) dL_law_1006 rfl ?_
  refine wg_iadd (pc' := 1008) dL_law_1007 rfl ?_
  rw [w32_id (show gi32 (i + 3) from ⟨by omega, by omega⟩)]
  refine wg_sld (pc' := 1009) (xs := xs) rfl (by omega) (by omega) dL_law_1008 rfl (fun g_1008 => ?_)
  refine wg_callV (mc' := 0) (ms' := 0) (pc' := 1012) (av := [gI (xs.getD (i + 1).toNat 0), gI (xs.getD (i + 2).toNat 0), gI (xs.getD (i + 3).toNat 0)]) mi_mX12_head lk_L_110 rfl ci_X12 kd_133 rfl (Nat.le_of_ble_eq_true rfl) (by decide) dL_law_1009 rfl (hM σ1 hJ) (fun v L9 σ2 q9 => ?_)
  obtain ⟨rfl, rfl, hg2, hI2⟩ := q9
  show gWp _ _ _ _ _ _ _ _ [gX 2, gR 0, gR 133, gR 208, gI i, gX 1, gX 1, gX 1] [gI r, gI r]
  refine wg_icmp_eq (pc' := 1015) (t := 1703) dL_law_1012 rfl rfl (fun _ => ?_) (fun c => absurd rfl c)
  exact hend σ2 hg2 hI2 _ _ _
set_option maxRecDepth 100000 in
theorem law_17 (Inv : gH → Prop) {xs : List Int} {mc ms : Nat} {i : Int} {σ : gH} {Q : gV → List gK → gH → Prop} (hxs : ∀ j, gi32 (xs.getD j 0)) (h0 : 0 ≤ i) (h8 : i + 8 ≤ xs.length) (hL : xs.length ≤ 4096) (hg : gGr σ) (hI : Inv σ) (hq17 : ∀ a0 : Int, gi32 a0 → ∀ a1 : Int, gi32 a1 → ∀ a2 : Int, gi32 a2 → ∀ a3 : Int, gi32 a3 → CI Inv mX11_degree mX12_degree [gI a0, gI a1, gI a2, gI a3])
    (hend : ∀ σ2, gGr σ2 → Inv σ2 → ∀ u1 u2 u3, gWp (mLaw xs) 100 mc ms Q gL σ2 1703 [gX 2, gR 0, gR 133, gR 208, gI i, u1, u2, u3] []) : gWp (mLaw xs) 100 (1 + mc) (6 + ms) Q gL σ 1017 [gX 2, gR 0, gR 133, gR 208, gI i, gX 1, gX 1, gX 1] [] := by
  refine gWp.budget (mc := 0 + (0 + mc)) (ms := 0 + (0 + ms)) (by omega) (by omega) ?_
  refine wg_aload_n (pc' := 1018) (i := 1) (by rfl) (by rfl) dL_law_1017 rfl ?_
  refine wg_aloadX_n (n := 2) (pc' := 1019) (i := 0) (by rfl) (by decide) (by rfl) dL_law_1018 rfl ?_
  refine wg_iload (pc' := 1021) (by rfl) dL_law_1019 rfl ?_
  refine wg_iconst (pc' := 1022) (by decide) dL_law_1021 rfl ?_
  refine wg_iadd (pc' := 1023) dL_law_1022 rfl ?_
  rw [w32_id (show gi32 (i + 1) from ⟨by omega, by omega⟩)]
  refine wg_sld (pc' := 1024) (xs := xs) rfl (by omega) (by omega) dL_law_1023 rfl (fun g_1023 => ?_)
  refine wg_aloadX_n (n := 2) (pc' := 1025) (i := 0) (by rfl) (by decide) (by rfl) dL_law_1024 rfl ?_
  refine wg_iload (pc' := 1027) (by rfl) dL_law_1025 rfl ?_
  refine wg_iconst (pc' := 1028) (by decide) dL_law_1027 rfl ?_
  refine wg_iadd (pc' := 1029) dL_law_1028 rfl ?_
  rw [w32_id (show gi32 (i + 2) from ⟨by omega, by omega⟩)]
  refine wg_sld (pc' := 1030) (xs := xs) rfl (by omega) (by omega) dL_law_1029 rfl (fun g_1029 => ?_)
  refine wg_aloadX_n (n := 2) (pc' := 1031) (i := 0) (by rfl) (by decide) (by rfl) dL_law_1030 rfl ?_
  refine wg_iload (pc' := 1033) (by rfl) dL_law_1031 rfl ?_
  refine wg_iconst (pc' := 1034) (by decide) dL_law_1033 rfl ?_
  refine wg_iadd (pc' := 1035) dL_law_1034 rfl ?_
  rw [w32_id (show gi32 (i + 3) from ⟨by omega, by omega⟩)]
  refine wg_sld (pc' := 1036) (xs := xs) rfl (by omega) (by omega) dL_law_1035 rfl (fun g_1035 => ?_)
  refine wg_aloadX_n (n := 2) (pc' := 1037) (i := 0) (by rfl) (by decide) (by rfl) dL_law_1036 rfl ?_
  refine wg_iload (pc' := 1039) (by rfl) dL_law_1037 rfl ?_
  refine wg_iconst (pc' := 1040) (by decide) dL_law_1039 rfl ?_
  refine wg_iadd (pc' := 1041) dL_law_1040 rfl ?_
  rw [w32_id (show gi32 (i + 4) from ⟨by omega, by omega⟩)]
  refine wg_sld (pc' := 1042) (xs := xs) rfl (by omega) (by omega) dL_law_1041 rfl (fun g_1041 => ?_)
  obtain ⟨r, J, hC, hM⟩ := hq17 (xs.getD (i + 1).toNat 0) (hxs _) (xs.getD (i + 2).toNat 0) (hxs _) (xs.getD (i + 3).toNat 0) (hxs _) (xs.getD (i + 4).toNat 0) (hxs _) σ hg hI
  refine wg_callV (mc' := 0) (ms' := 0) (pc' := 1045) (av := [gI (xs.getD (i + 1).toNat 0), gI (xs.getD (i + 2).toNat 0), gI (xs.getD (i + 3).toNat 0), gI (xs.getD (i + 4).toNat 0)]) mi_mX11_degree lk_L_111 rfl ci_X11 kd_0 rfl (Nat.le_of_ble_eq_true rfl) (by decide) dL_law_1042 rfl hC (fun v L9 σ1 q9 => ?_)
  obtain ⟨rfl, rfl, hJ⟩ := q9
  show gWp _ _ _ _ _ _ _ _ [gX 2, gR 0, gR 133, gR 208, gI i, gX 1, gX 1, gX 1] [gI r]
  refine wg_aload_n (pc' := 1046) (i := 2) (by rfl) (by rfl) dL_law_1045 rfl ?_
  refine wg_aloadX_n (n := 2) (pc' := 1047) (i := 0) (by rfl) (by decide) (by rfl) dL_law_1046 rfl ?_
  refine wg_iload (pc' := 1049) (by rfl) dL_law_1047 rfl ?_
  refine wg_iconst (pc' := 1050) (by decide) dL_law_1049 rfl ?_
  refine wg_iadd (pc' := 1051) dL_law_1050 rfl ?_
  rw [w32_id (show gi32 (i + 1) from ⟨by omega, by omega⟩)]
  refine wg_sld (pc' := 1052) (xs := xs) rfl (by omega) (by omega) dL_law_1051 rfl (fun g_1051 => ?_)
  refine wg_aloadX_n (n := 2) (pc' := 1053) (i := 0) (by rfl) (by decide) (by rfl) dL_law_1052 rfl ?_
  refine wg_iload (pc' := 1055) (by rfl) dL_law_1053 rfl ?_
  refine wg_iconst (pc' := 1056) (by decide) dL_law_1055 rfl ?_
  refine wg_iadd (pc' := 1057) dL_law_1056 rfl ?_
  rw [w32_id (show gi32 (i + 2) from ⟨by omega, by omega⟩)]
  refine wg_sld (pc' := 1058) (xs := xs) rfl (by omega) (by omega) dL_law_1057 rfl (fun g_1057 => ?_)
  refine wg_aloadX_n (n := 2) (pc' := 1059) (i := 0) (by rfl) (by decide) (by rfl) dL_law_1058 rfl ?_
  refine wg_iload (pc' := 1061) (by rfl) dL_law_1059 rfl ?_
  refine wg_iconst (pc' := 1062) (by decide) dL_law_1061 rfl ?_
  refine wg_iadd (pc' := 1063) dL_law_1062 rfl ?_
  rw [w32_id (show gi32 (i + 3) from ⟨by omega, by omega⟩)]
  refine wg_sld (pc' := 1064) (xs := xs) rfl (by omega) (by omega) dL_law_1063 rfl (fun g_1063 => ?_)
  refine wg_aloadX_n (n := 2) (pc' := 1065) (i := 0) (by rfl) (by decide) (by rfl) dL_law_1064 rfl ?_
  refine wg_iload (pc' := 1067) (by rfl) dL_law_1065 rfl ?_
  refine wg_iconst (pc' := 1068) (by decide) dL_law_1067 rfl ?_
  refine wg_iadd (pc' := 1069) dL_law_1068 rfl ?_
  rw [w32_id (show gi32 (i + 4) from ⟨by omega, by omega⟩)]
  refine wg_sld (pc' := 1070) (xs := xs) rfl (by omega) (by omega) dL_law_1069 rfl (fun g_1069 => ?_)
  refine wg_callV (mc' := 0) (ms' := 0) (pc' := 1073) (av := [gI (xs.getD (i + 1).toNat 0), gI (xs.getD (i + 2).toNat 0), gI (xs.getD (i + 3).toNat 0), gI (xs.getD (i + 4).toNat 0)]) mi_mX12_degree lk_L_114 rfl ci_X12 kd_133 rfl (Nat.le_of_ble_eq_true rfl) (by decide) dL_law_1070 rfl (hM σ1 hJ) (fun v L9 σ2 q9 => ?_)
  obtain ⟨rfl, rfl, hg2, hI2⟩ := q9
  show gWp _ _ _ _ _ _ _ _ [gX 2, gR 0, gR 133, gR 208, gI i, gX 1, gX 1, gX 1] [gI r, gI r]
  refine wg_icmp_eq (pc' := 1076) (t := 1703) dL_law_1073 rfl rfl (fun _ => ?_) (fun c => absurd rfl c)
  exact hend σ2 hg2 hI2 _ _ _
set_option maxRecDepth 100000 in
theorem law_18 (Inv : gH → Prop) {xs : List Int} {mc ms : Nat} {i : Int} {σ : gH} {Q : gV → List gK → gH → Prop} (hxs : ∀ j, gi32 (xs.getD j 0)) (h0 : 0 ≤ i) (h8 : i + 8 ≤ xs.length) (hL : xs.length ≤ 4096) (hg : gGr σ) (hI : Inv σ) (hq18 : ∀ a0 : Int, gi32 a0 → ∀ a1 : Int, gi32 a1 → ∀ a2 : Int, gi32 a2 → CX Inv (fun y => gI y) mL_judged [(0, 12, 15, 13)] mX12_judged [gI a0, gI a1, gI a2])
    (hend : ∀ σ2, gGr σ2 → Inv σ2 → ∀ u1 u2 u3, gWp (mLaw xs) 100 mc ms Q gL σ2 1703 [gX 2, gR 0, gR 133, gR 208, gI i, u1, u2, u3] []) : gWp (mLaw xs) 100 (1 + mc) (6 + ms) Q gL σ 1078 [gX 2, gR 0, gR 133, gR 208, gI i, gX 1, gX 1, gX 1] [] := by
  refine gWp.budget (mc := 1 + (0 + (0 + mc))) (ms := 6 + (0 + (0 + ms))) (by omega) (by omega) ?_
  refine wg_aload_n (pc' := 1079) (i := 1) (by rfl) (by rfl) dL_law_1078 rfl ?_
  refine wg_aloadX_n (n := 2) (pc' := 1080) (i := 0) (by rfl) (by decide) (by rfl) dL_law_1079 rfl ?_
  refine wg_iload (pc' := 1082) (by rfl) dL_law_1080 rfl ?_
  refine wg_iconst (pc' := 1083) (by decide) dL_law_1082 rfl ?_
  refine wg_iadd (pc' := 1084) dL_law_1083 rfl ?_
  rw [w32_id (show gi32 (i + 1) from ⟨by omega, by omega⟩)]
  refine wg_sld (pc' := 1085) (xs := xs) rfl (by omega) (by omega) dL_law_1084 rfl (fun g_1084 => ?_)
  refine wg_aloadX_n (n := 2) (pc' := 1086) (i := 0) (by rfl) (by decide) (by rfl) dL_law_1085 rfl ?_
  refine wg_iload (pc' := 1088) (by rfl) dL_law_1086 rfl ?_
  refine wg_iconst (pc' := 1089) (by decide) dL_law_1088 rfl ?_
  refine wg_iadd (pc' := 1090) dL_law_1089 rfl ?_
  rw [w32_id (show gi32 (i + 2) from ⟨by omega, by omega⟩)]
  refine wg_sld (pc' := 1091) (xs := xs) rfl (by omega) (by omega) dL_law_1090 rfl (fun g_1090 => ?_)
  refine wg_aloadX_n (n := 2) (pc' := 1092) (i := 0) (by rfl) (by decide) (by rfl) dL_law_1091 rfl ?_
  refine wg_iload (pc' := 1094) (by rfl) dL_law_1092 rfl ?_
  refine wg_iconst (pc' := 1095) (by decide) dL_law_1094 rfl ?_
  refine wg_iadd (pc' := 1096) dL_law_1095 rfl ?_
  rw [w32_id (show gi32 (i + 3) from ⟨by omega, by omega⟩)]
  refine wg_sld (pc' := 1097) (xs := xs) rfl (by omega) (by omega) dL_law_1096 rfl (fun g_1096 => ?_)
  refine wg_aload_n (pc' := 1098) (i := 3) (by rfl) (by rfl) dL_law_1097 rfl ?_
  obtain ⟨k, r, J, hk01, hC, hM⟩ := hq18 (xs.getD (i + 1).toNat 0) (hxs _) (xs.getD (i + 2).toNat 0) (hxs _) (xs.getD (i + 3).toNat 0) (hxs _) σ hg hI
  refine wg_callSW (n := 5) (av := [gR 0, gI (xs.getD (i + 1).toNat 0), gI (xs.getD (i + 2).toNat 0), gI (xs.getD (i + 3).toNat 0), gR 208]) iL cw_mL_judged (by decide +kernel) (by decide) st_mL_judged lk_L_115 rfl rfl (Nat.le_of_ble_eq_true rfl) (by decide) dL_law_1098 hC (fun v L9 σ1 q9 => ?_)
  obtain ⟨rfl, rfl, hr1, hJ⟩ := q9
  show gWp _ _ _ _ _ _ _ 1101 [gX 2, gR 0, gR 133, gR 208, gI i, gX 1, gX 1, gX 1] [gI k]
  refine wg_istore (pc' := 1103) (ls' := [gX 2, gR 0, gR 133, gR 208, gI i, gI k, gX 1, gX 1]) (Nat.le_of_ble_eq_true rfl) (by rfl) dL_law_1101 rfl ?_
  refine wg_aload_n (pc' := 1104) (i := 2) (by rfl) (by rfl) dL_law_1103 rfl ?_
  refine wg_aloadX_n (n := 2) (pc' := 1105) (i := 0) (by rfl) (by decide) (by rfl) dL_law_1104 rfl ?_
  refine wg_iload (pc' := 1107) (by rfl) dL_law_1105 rfl ?_
  refine wg_iconst (pc' := 1108) (by decide) dL_law_1107 rfl ?_
  refine wg_iadd (pc' := 1109) dL_law_1108 rfl ?_
  rw [w32_id (show gi32 (i + 1) from ⟨by omega, by omega⟩)]
  refine wg_sld (pc' := 1110) (xs := xs) rfl (by omega) (by omega) dL_law_1109 rfl (fun g_1109 => ?_)
  refine wg_aloadX_n (n := 2) (pc' := 1111) (i := 0) (by rfl) (by decide) (by rfl) dL_law_1110 rfl ?_
  refine wg_iload (pc' := 1113) (by rfl) dL_law_1111 rfl ?_
  refine wg_iconst (pc' := 1114) (by decide) dL_law_1113 rfl ?_
  refine wg_iadd (pc' := 1115) dL_law_1114 rfl ?_
  rw [w32_id (show gi32 (i + 2) from ⟨by omega, by omega⟩)]
  refine wg_sld (pc' := 1116) (xs := xs) rfl (by omega) (by omega) dL_law_1115 rfl (fun g_1115 => ?_)
  refine wg_aloadX_n (n := 2) (pc' := 1117) (i := 0) (by rfl) (by decide) (by rfl) dL_law_1116 rfl ?_
  refine wg_iload (pc' := 1119) (by rfl) dL_law_1117 rfl ?_
  refine wg_iconst (pc' := 1120) (by decide) dL_law_1119 rfl ?_
  refine wg_iadd (pc' := 1121) dL_law_1120 rfl ?_
  rw [w32_id (show gi32 (i + 3) from ⟨by omega, by omega⟩)]
  refine wg_sld (pc' := 1122) (xs := xs) rfl (by omega) (by omega) dL_law_1121 rfl (fun g_1121 => ?_)
  refine wg_callV (mc' := 0) (ms' := 0) (pc' := 1125) (av := [gI (xs.getD (i + 1).toNat 0), gI (xs.getD (i + 2).toNat 0), gI (xs.getD (i + 3).toNat 0)]) mi_mX12_judged lk_L_118 rfl ci_X12 kd_133 rfl (Nat.le_of_ble_eq_true rfl) (by decide) dL_law_1122 rfl (hM σ1 hJ) (fun v L9 σ2 q9 => ?_)
  obtain ⟨rfl, ⟨y, rfl, hy⟩, hg2, hI2, hk, ho⟩ := q9
  show gWp _ _ _ _ _ _ _ _ [gX 2, gR 0, gR 133, gR 208, gI i, gI k, gX 1, gX 1] [gI y]
  refine wg_istore (pc' := 1127) (ls' := [gX 2, gR 0, gR 133, gR 208, gI i, gI k, gI y, gX 1]) (Nat.le_of_ble_eq_true rfl) (by rfl) dL_law_1125 rfl ?_
  refine wg_aload_n (pc' := 1128) (i := 2) (by rfl) (by rfl) dL_law_1127 rfl ?_
  refine wg_callV (pc' := 1131) (av := []) mi_mX12_thrown lk_L_104 rfl ci_X12 kd_133 rfl (Nat.le_of_ble_eq_true rfl) (by decide) dL_law_1128 rfl (s_thrown _) (fun v L9 s9 q9 => ?_)
  obtain ⟨rfl, rfl, h10⟩ := q9
  rw [h10]
  show gWp _ _ _ _ _ _ _ _ [gX 2, gR 0, gR 133, gR 208, gI i, gI k, gI y, gX 1] [gI (σ2 133 0)]
  refine wg_iload (pc' := 1133) (by rfl) dL_law_1131 rfl ?_
  refine wg_icmp_eq (pc' := 1136) (t := 1138) dL_law_1133 rfl rfl (fun _ => ?_) (fun c => absurd hk c)
  refine wg_iload (pc' := 1140) (by rfl) dL_law_1138 rfl ?_
  refine wg_if_ne (pc' := 1143) (t := 1155) dL_law_1140 rfl rfl (fun c_1140 => ?_) (fun c_1140 => ?_)
  · skip
    refine wg_goto (pc' := 1703) dL_law_1155 rfl ?_
    exact hend σ2 hg2 hI2 _ _ _
  · skip
    have hk0 : k = 0 := by omega
    refine wg_aload_n (pc' := 1144) (i := 3) (by rfl) (by rfl) dL_law_1143 rfl ?_
    refine wg_iconst (pc' := 1145) (by decide) dL_law_1144 rfl ?_
    refine wg_lald (pc' := 1146) kd_208 (by omega) (by decide) dL_law_1145 rfl ?_
    refine wg_iload (pc' := 1148) (by rfl) dL_law_1146 rfl ?_
    refine wg_i2l (pc' := 1149) dL_law_1148 rfl ?_
    refine wg_lcmp (pc' := 1150) dL_law_1149 rfl ?_
    rw [show gCmp (σ2 208 0) y = 0 from (by rw [ho, hr1 hk0, hy hk0]; unfold gCmp; rw [if_neg (Int.lt_irrefl _), if_pos rfl])]
    refine wg_if_eq (pc' := 1153) (t := 1155) dL_law_1150 rfl rfl (fun _ => ?_) (fun c => absurd rfl c)
    refine wg_goto (pc' := 1703) dL_law_1155 rfl ?_
    exact hend σ2 hg2 hI2 _ _ _
set_option maxRecDepth 100000 in
theorem law_19 (Inv : gH → Prop) {xs : List Int} {mc ms : Nat} {i : Int} {σ : gH} {Q : gV → List gK → gH → Prop} (hxs : ∀ j, gi32 (xs.getD j 0)) (h0 : 0 ≤ i) (h8 : i + 8 ≤ xs.length) (hL : xs.length ≤ 4096) (hg : gGr σ) (hI : Inv σ) (hq19 : ∀ a0 : Int, gi32 a0 → CI Inv mX11_member mX12_member [gI a0])
    (hend : ∀ σ2, gGr σ2 → Inv σ2 → ∀ u1 u2 u3, gWp (mLaw xs) 100 mc ms Q gL σ2 1703 [gX 2, gR 0, gR 133, gR 208, gI i, u1, u2, u3] []) : gWp (mLaw xs) 100 (1 + mc) (6 + ms) Q gL σ 1158 [gX 2, gR 0, gR 133, gR 208, gI i, gX 1, gX 1, gX 1] [] := by
  refine gWp.budget (mc := 0 + (0 + mc)) (ms := 0 + (0 + ms)) (by omega) (by omega) ?_
  refine wg_aload_n (pc' := 1159) (i := 1) (by rfl) (by rfl) dL_law_1158 rfl ?_
  refine wg_aloadX_n (n := 2) (pc' := 1160) (i := 0) (by rfl) (by decide) (by rfl) dL_law_1159 rfl ?_
  refine wg_iload (pc' := 1162) (by rfl) dL_law_1160 rfl ?_
  refine wg_iconst (pc' := 1163) (by decide) dL_law_1162 rfl ?_
  refine wg_iadd (pc' := 1164) dL_law_1163 rfl ?_
  rw [w32_id (show gi32 (i + 1) from ⟨by omega, by omega⟩)]
  refine wg_sld (pc' := 1165) (xs := xs) rfl (by omega) (by omega) dL_law_1164 rfl (fun g_1164 => ?_)
  obtain ⟨r, J, hC, hM⟩ := hq19 (xs.getD (i + 1).toNat 0) (hxs _) σ hg hI
  refine wg_callV (mc' := 0) (ms' := 0) (pc' := 1168) (av := [gI (xs.getD (i + 1).toNat 0)]) mi_mX11_member lk_L_119 rfl ci_X11 kd_0 rfl (Nat.le_of_ble_eq_true rfl) (by decide) dL_law_1165 rfl hC (fun v L9 σ1 q9 => ?_)
  obtain ⟨rfl, rfl, hJ⟩ := q9
  show gWp _ _ _ _ _ _ _ _ [gX 2, gR 0, gR 133, gR 208, gI i, gX 1, gX 1, gX 1] [gI r]
  refine wg_aload_n (pc' := 1169) (i := 2) (by rfl) (by rfl) dL_law_1168 rfl ?_
  refine wg_aloadX_n (n := 2) (pc' := 1170) (i := 0) (by rfl) (by decide) (by rfl) dL_law_1169 rfl ?_
  refine wg_iload (pc' := 1172) (by rfl) dL_law_1170 rfl ?_
  refine wg_iconst (pc' := 1173) (by decide) dL_law_1172 rfl ?_
  refine wg_iadd (pc' := 1174) dL_law_1173 rfl ?_
  rw [w32_id (show gi32 (i + 1) from ⟨by omega, by omega⟩)]
  refine wg_sld (pc' := 1175) (xs := xs) rfl (by omega) (by omega) dL_law_1174 rfl (fun g_1174 => ?_)
  refine wg_callV (mc' := 0) (ms' := 0) (pc' := 1178) (av := [gI (xs.getD (i + 1).toNat 0)]) mi_mX12_member lk_L_122 rfl ci_X12 kd_133 rfl (Nat.le_of_ble_eq_true rfl) (by decide) dL_law_1175 rfl (hM σ1 hJ) (fun v L9 σ2 q9 => ?_)
  obtain ⟨rfl, rfl, hg2, hI2⟩ := q9
  show gWp _ _ _ _ _ _ _ _ [gX 2, gR 0, gR 133, gR 208, gI i, gX 1, gX 1, gX 1] [gI r, gI r]
  refine wg_icmp_eq (pc' := 1181) (t := 1703) dL_law_1178 rfl rfl (fun _ => ?_) (fun c => absurd rfl c)
  exact hend σ2 hg2 hI2 _ _ _
set_option maxRecDepth 100000 in
theorem law_20 (Inv : gH → Prop) {xs : List Int} {mc ms : Nat} {i : Int} {σ : gH} {Q : gV → List gK → gH → Prop} (hxs : ∀ j, gi32 (xs.getD j 0)) (h0 : 0 ≤ i) (h8 : i + 8 ≤ xs.length) (hL : xs.length ≤ 4096) (hg : gGr σ) (hI : Inv σ) (hq20 : ∀ a0 : Int, gi32 a0 → ∀ a1 : Int, gi32 a1 → CI Inv mX11_matter mX12_matter [gI a0, gI a1])
    (hend : ∀ σ2, gGr σ2 → Inv σ2 → ∀ u1 u2 u3, gWp (mLaw xs) 100 mc ms Q gL σ2 1703 [gX 2, gR 0, gR 133, gR 208, gI i, u1, u2, u3] []) : gWp (mLaw xs) 100 (1 + mc) (6 + ms) Q gL σ 1183 [gX 2, gR 0, gR 133, gR 208, gI i, gX 1, gX 1, gX 1] [] := by
  refine gWp.budget (mc := 0 + (0 + mc)) (ms := 0 + (0 + ms)) (by omega) (by omega) ?_
  refine wg_aload_n (pc' := 1184) (i := 1) (by rfl) (by rfl) dL_law_1183 rfl ?_
  refine wg_aloadX_n (n := 2) (pc' := 1185) (i := 0) (by rfl) (by decide) (by rfl) dL_law_1184 rfl ?_
  refine wg_iload (pc' := 1187) (by rfl) dL_law_1185 rfl ?_
  refine wg_iconst (pc' := 1188) (by decide) dL_law_1187 rfl ?_
  refine wg_iadd (pc' := 1189) dL_law_1188 rfl ?_
  rw [w32_id (show gi32 (i + 1) from ⟨by omega, by omega⟩)]
  refine wg_sld (pc' := 1190) (xs := xs) rfl (by omega) (by omega) dL_law_1189 rfl (fun g_1189 => ?_)
  refine wg_aloadX_n (n := 2) (pc' := 1191) (i := 0) (by rfl) (by decide) (by rfl) dL_law_1190 rfl ?_
  refine wg_iload (pc' := 1193) (by rfl) dL_law_1191 rfl ?_
  refine wg_iconst (pc' := 1194) (by decide) dL_law_1193 rfl ?_
  refine wg_iadd (pc' := 1195) dL_law_1194 rfl ?_
  rw [w32_id (show gi32 (i + 2) from ⟨by omega, by omega⟩)]
  refine wg_sld (pc' := 1196) (xs := xs) rfl (by omega) (by omega) dL_law_1195 rfl (fun g_1195 => ?_)
  obtain ⟨r, J, hC, hM⟩ := hq20 (xs.getD (i + 1).toNat 0) (hxs _) (xs.getD (i + 2).toNat 0) (hxs _) σ hg hI
  refine wg_callV (mc' := 0) (ms' := 0) (pc' := 1199) (av := [gI (xs.getD (i + 1).toNat 0), gI (xs.getD (i + 2).toNat 0)]) mi_mX11_matter lk_L_123 rfl ci_X11 kd_0 rfl (Nat.le_of_ble_eq_true rfl) (by decide) dL_law_1196 rfl hC (fun v L9 σ1 q9 => ?_)
  obtain ⟨rfl, rfl, hJ⟩ := q9
  show gWp _ _ _ _ _ _ _ _ [gX 2, gR 0, gR 133, gR 208, gI i, gX 1, gX 1, gX 1] [gI r]
  refine wg_aload_n (pc' := 1200) (i := 2) (by rfl) (by rfl) dL_law_1199 rfl ?_
  refine wg_aloadX_n (n := 2) (pc' := 1201) (i := 0) (by rfl) (by decide) (by rfl) dL_law_1200 rfl ?_
  refine wg_iload (pc' := 1203) (by rfl) dL_law_1201 rfl ?_
  refine wg_iconst (pc' := 1204) (by decide) dL_law_1203 rfl ?_
  refine wg_iadd (pc' := 1205) dL_law_1204 rfl ?_
  rw [w32_id (show gi32 (i + 1) from ⟨by omega, by omega⟩)]
  refine wg_sld (pc' := 1206) (xs := xs) rfl (by omega) (by omega) dL_law_1205 rfl (fun g_1205 => ?_)
  refine wg_aloadX_n (n := 2) (pc' := 1207) (i := 0) (by rfl) (by decide) (by rfl) dL_law_1206 rfl ?_
  refine wg_iload (pc' := 1209) (by rfl) dL_law_1207 rfl ?_
  refine wg_iconst (pc' := 1210) (by decide) dL_law_1209 rfl ?_
  refine wg_iadd (pc' := 1211) dL_law_1210 rfl ?_
  rw [w32_id (show gi32 (i + 2) from ⟨by omega, by omega⟩)]
  refine wg_sld (pc' := 1212) (xs := xs) rfl (by omega) (by omega) dL_law_1211 rfl (fun g_1211 => ?_)
  refine wg_callV (mc' := 0) (ms' := 0) (pc' := 1215) (av := [gI (xs.getD (i + 1).toNat 0), gI (xs.getD (i + 2).toNat 0)]) mi_mX12_matter lk_L_127 rfl ci_X12 kd_133 rfl (Nat.le_of_ble_eq_true rfl) (by decide) dL_law_1212 rfl (hM σ1 hJ) (fun v L9 σ2 q9 => ?_)
  obtain ⟨rfl, rfl, hg2, hI2⟩ := q9
  show gWp _ _ _ _ _ _ _ _ [gX 2, gR 0, gR 133, gR 208, gI i, gX 1, gX 1, gX 1] [gI r, gI r]
  refine wg_icmp_eq (pc' := 1218) (t := 1703) dL_law_1215 rfl rfl (fun _ => ?_) (fun c => absurd rfl c)
  exact hend σ2 hg2 hI2 _ _ _
set_option maxRecDepth 100000 in
theorem law_21 (Inv : gH → Prop) {xs : List Int} {mc ms : Nat} {i : Int} {σ : gH} {Q : gV → List gK → gH → Prop} (hxs : ∀ j, gi32 (xs.getD j 0)) (h0 : 0 ≤ i) (h8 : i + 8 ≤ xs.length) (hL : xs.length ≤ 4096) (hg : gGr σ) (hI : Inv σ) (hq21 : ∀ a0 : Int, gi32 a0 → ∀ a1 : Int, gi32 a1 → ∀ a2 : Int, gi32 a2 → CI Inv mX11_sits mX12_sits [gI a0, gI a1, gI a2])
    (hend : ∀ σ2, gGr σ2 → Inv σ2 → ∀ u1 u2 u3, gWp (mLaw xs) 100 mc ms Q gL σ2 1703 [gX 2, gR 0, gR 133, gR 208, gI i, u1, u2, u3] []) : gWp (mLaw xs) 100 (1 + mc) (6 + ms) Q gL σ 1220 [gX 2, gR 0, gR 133, gR 208, gI i, gX 1, gX 1, gX 1] [] := by
  refine gWp.budget (mc := 0 + (0 + mc)) (ms := 0 + (0 + ms)) (by omega) (by omega) ?_
  refine wg_aload_n (pc' := 1221) (i := 1) (by rfl) (by rfl) dL_law_1220 rfl ?_
  refine wg_aloadX_n (n := 2) (pc' := 1222) (i := 0) (by rfl) (by decide) (by rfl) dL_law_1221 rfl ?_
  refine wg_iload (pc' := 1224) (by rfl) dL_law_1222 rfl ?_
  refine wg_iconst (pc' := 1225) (by decide) dL_law_1224 rfl ?_
  refine wg_iadd (pc' := 1226) dL_law_1225 rfl ?_
  rw [w32_id (show gi32 (i + 1) from ⟨by omega, by omega⟩)]
  refine wg_sld (pc' := 1227) (xs := xs) rfl (by omega) (by omega) dL_law_1226 rfl (fun g_1226 => ?_)
  refine wg_aloadX_n (n := 2) (pc' := 1228) (i := 0) (by rfl) (by decide) (by rfl) dL_law_1227 rfl ?_
  refine wg_iload (pc' := 1230) (by rfl) dL_law_1228 rfl ?_
  refine wg_iconst (pc' := 1231) (by decide) dL_law_1230 rfl ?_
  refine wg_iadd (pc' := 1232) dL_law_1231 rfl ?_
  rw [w32_id (show gi32 (i + 2) from ⟨by omega, by omega⟩)]
  refine wg_sld (pc' := 1233) (xs := xs) rfl (by omega) (by omega) dL_law_1232 rfl (fun g_1232 => ?_)
  refine wg_aloadX_n (n := 2) (pc' := 1234) (i := 0) (by rfl) (by decide) (by rfl) dL_law_1233 rfl ?_
  refine wg_iload (pc' := 1236) (by rfl) dL_law_1234 rfl ?_
  refine wg_iconst (pc' := 1237) (by decide) dL_law_1236 rfl ?_
  refine wg_iadd (pc' := 1238) dL_law_1237 rfl ?_
  rw [w32_id (show gi32 (i + 3) from ⟨by omega, by omega⟩)]
  refine wg_sld (pc' := 1239) (xs := xs) rfl (by omega) (by omega) dL_law_1238 rfl (fun g_1238 => ?_)
  obtain ⟨r, J, hC, hM⟩ := hq21 (xs.getD (i + 1).toNat 0) (hxs _) (xs.getD (i + 2).toNat 0) (hxs _) (xs.getD (i + 3).toNat 0) (hxs _) σ hg hI
  refine wg_callV (mc' := 0) (ms' := 0) (pc' := 1242) (av := [gI (xs.getD (i + 1).toNat 0), gI (xs.getD (i + 2).toNat 0), gI (xs.getD (i + 3).toNat 0)]) mi_mX11_sits lk_L_128 rfl ci_X11 kd_0 rfl (Nat.le_of_ble_eq_true rfl) (by decide) dL_law_1239 rfl hC (fun v L9 σ1 q9 => ?_)
  obtain ⟨rfl, rfl, hJ⟩ := q9
  show gWp _ _ _ _ _ _ _ _ [gX 2, gR 0, gR 133, gR 208, gI i, gX 1, gX 1, gX 1] [gI r]
  refine wg_aload_n (pc' := 1243) (i := 2) (by rfl) (by rfl) dL_law_1242 rfl ?_
  refine wg_aloadX_n (n := 2) (pc' := 1244) (i := 0) (by rfl) (by decide) (by rfl) dL_law_1243 rfl ?_
  refine wg_iload (pc' := 1246) (by rfl) dL_law_1244 rfl ?_
  refine wg_iconst (pc' := 1247) (by decide) dL_law_1246 rfl ?_
  refine wg_iadd (pc' := 1248) dL_law_1247 rfl ?_
  rw [w32_id (show gi32 (i + 1) from ⟨by omega, by omega⟩)]
  refine wg_sld (pc' := 1249) (xs := xs) rfl (by omega) (by omega) dL_law_1248 rfl (fun g_1248 => ?_)
  refine wg_aloadX_n (n := 2) (pc' := 1250) (i := 0) (by rfl) (by decide) (by rfl) dL_law_1249 rfl ?_
  refine wg_iload (pc' := 1252) (by rfl) dL_law_1250 rfl ?_
  refine wg_iconst (pc' := 1253) (by decide) dL_law_1252 rfl ?_
  refine wg_iadd (pc' := 1254) dL_law_1253 rfl ?_
  rw [w32_id (show gi32 (i + 2) from ⟨by omega, by omega⟩)]
  refine wg_sld (pc' := 1255) (xs := xs) rfl (by omega) (by omega) dL_law_1254 rfl (fun g_1254 => ?_)
  refine wg_aloadX_n (n := 2) (pc' := 1256) (i := 0) (by rfl) (by decide) (by rfl) dL_law_1255 rfl ?_
  refine wg_iload (pc' := 1258) (by rfl) dL_law_1256 rfl ?_
  refine wg_iconst (pc' := 1259) (by decide) dL_law_1258 rfl ?_
  refine wg_iadd (pc' := 1260) dL_law_1259 rfl ?_
  rw [w32_id (show gi32 (i + 3) from ⟨by omega, by omega⟩)]
  refine wg_sld (pc' := 1261) (xs := xs) rfl (by omega) (by omega) dL_law_1260 rfl (fun g_1260 => ?_)
  refine wg_callV (mc' := 0) (ms' := 0) (pc' := 1264) (av := [gI (xs.getD (i + 1).toNat 0), gI (xs.getD (i + 2).toNat 0), gI (xs.getD (i + 3).toNat 0)]) mi_mX12_sits lk_L_131 rfl ci_X12 kd_133 rfl (Nat.le_of_ble_eq_true rfl) (by decide) dL_law_1261 rfl (hM σ1 hJ) (fun v L9 σ2 q9 => ?_)
  obtain ⟨rfl, rfl, hg2, hI2⟩ := q9
  show gWp _ _ _ _ _ _ _ _ [gX 2, gR 0, gR 133, gR 208, gI i, gX 1, gX 1, gX 1] [gI r, gI r]
  refine wg_icmp_eq (pc' := 1267) (t := 1703) dL_law_1264 rfl rfl (fun _ => ?_) (fun c => absurd rfl c)
  exact hend σ2 hg2 hI2 _ _ _
set_option maxRecDepth 100000 in
theorem law_22 (Inv : gH → Prop) {xs : List Int} {mc ms : Nat} {i : Int} {σ : gH} {Q : gV → List gK → gH → Prop} (hxs : ∀ j, gi32 (xs.getD j 0)) (h0 : 0 ≤ i) (h8 : i + 8 ≤ xs.length) (hL : xs.length ≤ 4096) (hg : gGr σ) (hI : Inv σ) (hq22 : ∀ a0 : Int, gi32 a0 → ∀ a1 : Int, gi32 a1 → CI Inv mX11_quorum mX12_quorum [gI a0, gI a1])
    (hend : ∀ σ2, gGr σ2 → Inv σ2 → ∀ u1 u2 u3, gWp (mLaw xs) 100 mc ms Q gL σ2 1703 [gX 2, gR 0, gR 133, gR 208, gI i, u1, u2, u3] []) : gWp (mLaw xs) 100 (1 + mc) (6 + ms) Q gL σ 1269 [gX 2, gR 0, gR 133, gR 208, gI i, gX 1, gX 1, gX 1] [] := by
  refine gWp.budget (mc := 0 + (0 + mc)) (ms := 0 + (0 + ms)) (by omega) (by omega) ?_
  refine wg_aload_n (pc' := 1270) (i := 1) (by rfl) (by rfl) dL_law_1269 rfl ?_
  refine wg_aloadX_n (n := 2) (pc' := 1271) (i := 0) (by rfl) (by decide) (by rfl) dL_law_1270 rfl ?_
  refine wg_iload (pc' := 1273) (by rfl) dL_law_1271 rfl ?_
  refine wg_iconst (pc' := 1274) (by decide) dL_law_1273 rfl ?_
  refine wg_iadd (pc' := 1275) dL_law_1274 rfl ?_
  rw [w32_id (show gi32 (i + 1) from ⟨by omega, by omega⟩)]
  refine wg_sld (pc' := 1276) (xs := xs) rfl (by omega) (by omega) dL_law_1275 rfl (fun g_1275 => ?_)
  refine wg_aloadX_n (n := 2) (pc' := 1277) (i := 0) (by rfl) (by decide) (by rfl) dL_law_1276 rfl ?_
  refine wg_iload (pc' := 1279) (by rfl) dL_law_1277 rfl ?_
  refine wg_iconst (pc' := 1280) (by decide) dL_law_1279 rfl ?_
  refine wg_iadd (pc' := 1281) dL_law_1280 rfl ?_
  rw [w32_id (show gi32 (i + 2) from ⟨by omega, by omega⟩)]
  refine wg_sld (pc' := 1282) (xs := xs) rfl (by omega) (by omega) dL_law_1281 rfl (fun g_1281 => ?_)
  obtain ⟨r, J, hC, hM⟩ := hq22 (xs.getD (i + 1).toNat 0) (hxs _) (xs.getD (i + 2).toNat 0) (hxs _) σ hg hI
  refine wg_callV (mc' := 0) (ms' := 0) (pc' := 1285) (av := [gI (xs.getD (i + 1).toNat 0), gI (xs.getD (i + 2).toNat 0)]) mi_mX11_quorum lk_L_132 rfl ci_X11 kd_0 rfl (Nat.le_of_ble_eq_true rfl) (by decide) dL_law_1282 rfl hC (fun v L9 σ1 q9 => ?_)
  obtain ⟨rfl, rfl, hJ⟩ := q9
  show gWp _ _ _ _ _ _ _ _ [gX 2, gR 0, gR 133, gR 208, gI i, gX 1, gX 1, gX 1] [gI r]
  refine wg_aload_n (pc' := 1286) (i := 2) (by rfl) (by rfl) dL_law_1285 rfl ?_
  refine wg_aloadX_n (n := 2) (pc' := 1287) (i := 0) (by rfl) (by decide) (by rfl) dL_law_1286 rfl ?_
  refine wg_iload (pc' := 1289) (by rfl) dL_law_1287 rfl ?_
  refine wg_iconst (pc' := 1290) (by decide) dL_law_1289 rfl ?_
  refine wg_iadd (pc' := 1291) dL_law_1290 rfl ?_
  rw [w32_id (show gi32 (i + 1) from ⟨by omega, by omega⟩)]
  refine wg_sld (pc' := 1292) (xs := xs) rfl (by omega) (by omega) dL_law_1291 rfl (fun g_1291 => ?_)
  refine wg_aloadX_n (n := 2) (pc' := 1293) (i := 0) (by rfl) (by decide) (by rfl) dL_law_1292 rfl ?_
  refine wg_iload (pc' := 1295) (by rfl) dL_law_1293 rfl ?_
  refine wg_iconst (pc' := 1296) (by decide) dL_law_1295 rfl ?_
  refine wg_iadd (pc' := 1297) dL_law_1296 rfl ?_
  rw [w32_id (show gi32 (i + 2) from ⟨by omega, by omega⟩)]
  refine wg_sld (pc' := 1298) (xs := xs) rfl (by omega) (by omega) dL_law_1297 rfl (fun g_1297 => ?_)
  refine wg_callV (mc' := 0) (ms' := 0) (pc' := 1301) (av := [gI (xs.getD (i + 1).toNat 0), gI (xs.getD (i + 2).toNat 0)]) mi_mX12_quorum lk_L_135 rfl ci_X12 kd_133 rfl (Nat.le_of_ble_eq_true rfl) (by decide) dL_law_1298 rfl (hM σ1 hJ) (fun v L9 σ2 q9 => ?_)
  obtain ⟨rfl, rfl, hg2, hI2⟩ := q9
  show gWp _ _ _ _ _ _ _ _ [gX 2, gR 0, gR 133, gR 208, gI i, gX 1, gX 1, gX 1] [gI r, gI r]
  refine wg_icmp_eq (pc' := 1304) (t := 1703) dL_law_1301 rfl rfl (fun _ => ?_) (fun c => absurd rfl c)
  exact hend σ2 hg2 hI2 _ _ _
set_option maxRecDepth 100000 in
theorem law_23 (Inv : gH → Prop) {xs : List Int} {mc ms : Nat} {i : Int} {σ : gH} {Q : gV → List gK → gH → Prop} (hxs : ∀ j, gi32 (xs.getD j 0)) (h0 : 0 ≤ i) (h8 : i + 8 ≤ xs.length) (hL : xs.length ≤ 4096) (hg : gGr σ) (hI : Inv σ) (hq23 : ∀ a0 : Int, gi32 a0 → ∀ a1 : Int, gi32 a1 → ∀ a2 : Int, gi32 a2 → CI Inv mX11_entry mX12_entry [gI a0, gI a1, gI a2])
    (hend : ∀ σ2, gGr σ2 → Inv σ2 → ∀ u1 u2 u3, gWp (mLaw xs) 100 mc ms Q gL σ2 1703 [gX 2, gR 0, gR 133, gR 208, gI i, u1, u2, u3] []) : gWp (mLaw xs) 100 (1 + mc) (6 + ms) Q gL σ 1306 [gX 2, gR 0, gR 133, gR 208, gI i, gX 1, gX 1, gX 1] [] := by
  refine gWp.budget (mc := 0 + (0 + mc)) (ms := 0 + (0 + ms)) (by omega) (by omega) ?_
  refine wg_aload_n (pc' := 1307) (i := 1) (by rfl) (by rfl) dL_law_1306 rfl ?_
  refine wg_aloadX_n (n := 2) (pc' := 1308) (i := 0) (by rfl) (by decide) (by rfl) dL_law_1307 rfl ?_
  refine wg_iload (pc' := 1310) (by rfl) dL_law_1308 rfl ?_
  refine wg_iconst (pc' := 1311) (by decide) dL_law_1310 rfl ?_
  refine wg_iadd (pc' := 1312) dL_law_1311 rfl ?_
  rw [w32_id (show gi32 (i + 1) from ⟨by omega, by omega⟩)]
  refine wg_sld (pc' := 1313) (xs := xs) rfl (by omega) (by omega) dL_law_1312 rfl (fun g_1312 => ?_)
  refine wg_aloadX_n (n := 2) (pc' := 1314) (i := 0) (by rfl) (by decide) (by rfl) dL_law_1313 rfl ?_
  refine wg_iload (pc' := 1316) (by rfl) dL_law_1314 rfl ?_
  refine wg_iconst (pc' := 1317) (by decide) dL_law_1316 rfl ?_
  refine wg_iadd (pc' := 1318) dL_law_1317 rfl ?_
  rw [w32_id (show gi32 (i + 2) from ⟨by omega, by omega⟩)]
  refine wg_sld (pc' := 1319) (xs := xs) rfl (by omega) (by omega) dL_law_1318 rfl (fun g_1318 => ?_)
  refine wg_aloadX_n (n := 2) (pc' := 1320) (i := 0) (by rfl) (by decide) (by rfl) dL_law_1319 rfl ?_
  refine wg_iload (pc' := 1322) (by rfl) dL_law_1320 rfl ?_
  refine wg_iconst (pc' := 1323) (by decide) dL_law_1322 rfl ?_
  refine wg_iadd (pc' := 1324) dL_law_1323 rfl ?_
  rw [w32_id (show gi32 (i + 3) from ⟨by omega, by omega⟩)]
  refine wg_sld (pc' := 1325) (xs := xs) rfl (by omega) (by omega) dL_law_1324 rfl (fun g_1324 => ?_)
  obtain ⟨r, J, hC, hM⟩ := hq23 (xs.getD (i + 1).toNat 0) (hxs _) (xs.getD (i + 2).toNat 0) (hxs _) (xs.getD (i + 3).toNat 0) (hxs _) σ hg hI
  refine wg_callV (mc' := 0) (ms' := 0) (pc' := 1328) (av := [gI (xs.getD (i + 1).toNat 0), gI (xs.getD (i + 2).toNat 0), gI (xs.getD (i + 3).toNat 0)]) mi_mX11_entry lk_L_136 rfl ci_X11 kd_0 rfl (Nat.le_of_ble_eq_true rfl) (by decide) dL_law_1325 rfl hC (fun v L9 σ1 q9 => ?_)
  obtain ⟨rfl, rfl, hJ⟩ := q9
  show gWp _ _ _ _ _ _ _ _ [gX 2, gR 0, gR 133, gR 208, gI i, gX 1, gX 1, gX 1] [gI r]
  refine wg_aload_n (pc' := 1329) (i := 2) (by rfl) (by rfl) dL_law_1328 rfl ?_
  refine wg_aloadX_n (n := 2) (pc' := 1330) (i := 0) (by rfl) (by decide) (by rfl) dL_law_1329 rfl ?_
  refine wg_iload (pc' := 1332) (by rfl) dL_law_1330 rfl ?_
  refine wg_iconst (pc' := 1333) (by decide) dL_law_1332 rfl ?_
  refine wg_iadd (pc' := 1334) dL_law_1333 rfl ?_
  rw [w32_id (show gi32 (i + 1) from ⟨by omega, by omega⟩)]
  refine wg_sld (pc' := 1335) (xs := xs) rfl (by omega) (by omega) dL_law_1334 rfl (fun g_1334 => ?_)
  refine wg_aloadX_n (n := 2) (pc' := 1336) (i := 0) (by rfl) (by decide) (by rfl) dL_law_1335 rfl ?_
  refine wg_iload (pc' := 1338) (by rfl) dL_law_1336 rfl ?_
  refine wg_iconst (pc' := 1339) (by decide) dL_law_1338 rfl ?_
  refine wg_iadd (pc' := 1340) dL_law_1339 rfl ?_
  rw [w32_id (show gi32 (i + 2) from ⟨by omega, by omega⟩)]
  refine wg_sld (pc' := 1341) (xs := xs) rfl (by omega) (by omega) dL_law_1340 rfl (fun g_1340 => ?_)
  refine wg_aloadX_n (n := 2) (pc' := 1342) (i := 0) (by rfl) (by decide) (by rfl) dL_law_1341 rfl ?_
  refine wg_iload (pc' := 1344) (by rfl) dL_law_1342 rfl ?_
  refine wg_iconst (pc' := 1345) (by decide) dL_law_1344 rfl ?_
  refine wg_iadd (pc' := 1346) dL_law_1345 rfl ?_
  rw [w32_id (show gi32 (i + 3) from ⟨by omega, by omega⟩)]
  refine wg_sld (pc' := 1347) (xs := xs) rfl (by omega) (by omega) dL_law_1346 rfl (fun g_1346 => ?_)
  refine wg_callV (mc' := 0) (ms' := 0) (pc' := 1350) (av := [gI (xs.getD (i + 1).toNat 0), gI (xs.getD (i + 2).toNat 0), gI (xs.getD (i + 3).toNat 0)]) mi_mX12_entry lk_L_139 rfl ci_X12 kd_133 rfl (Nat.le_of_ble_eq_true rfl) (by decide) dL_law_1347 rfl (hM σ1 hJ) (fun v L9 σ2 q9 => ?_)
  obtain ⟨rfl, rfl, hg2, hI2⟩ := q9
  show gWp _ _ _ _ _ _ _ _ [gX 2, gR 0, gR 133, gR 208, gI i, gX 1, gX 1, gX 1] [gI r, gI r]
  refine wg_icmp_eq (pc' := 1353) (t := 1703) dL_law_1350 rfl rfl (fun _ => ?_) (fun c => absurd rfl c)
  exact hend σ2 hg2 hI2 _ _ _
set_option maxRecDepth 100000 in
theorem law_24 (Inv : gH → Prop) {xs : List Int} {mc ms : Nat} {i : Int} {σ : gH} {Q : gV → List gK → gH → Prop} (hxs : ∀ j, gi32 (xs.getD j 0)) (h0 : 0 ≤ i) (h8 : i + 8 ≤ xs.length) (hL : xs.length ≤ 4096) (hg : gGr σ) (hI : Inv σ) (hq24 : ∀ a0 : Int, gi32 a0 → CI Inv mX11_joined mX12_joined [gI a0])
    (hend : ∀ σ2, gGr σ2 → Inv σ2 → ∀ u1 u2 u3, gWp (mLaw xs) 100 mc ms Q gL σ2 1703 [gX 2, gR 0, gR 133, gR 208, gI i, u1, u2, u3] []) : gWp (mLaw xs) 100 (1 + mc) (6 + ms) Q gL σ 1355 [gX 2, gR 0, gR 133, gR 208, gI i, gX 1, gX 1, gX 1] [] := by
  refine gWp.budget (mc := 0 + (0 + mc)) (ms := 0 + (0 + ms)) (by omega) (by omega) ?_
  refine wg_aload_n (pc' := 1356) (i := 1) (by rfl) (by rfl) dL_law_1355 rfl ?_
  refine wg_aloadX_n (n := 2) (pc' := 1357) (i := 0) (by rfl) (by decide) (by rfl) dL_law_1356 rfl ?_
  refine wg_iload (pc' := 1359) (by rfl) dL_law_1357 rfl ?_
  refine wg_iconst (pc' := 1360) (by decide) dL_law_1359 rfl ?_
  refine wg_iadd (pc' := 1361) dL_law_1360 rfl ?_
  rw [w32_id (show gi32 (i + 1) from ⟨by omega, by omega⟩)]
  refine wg_sld (pc' := 1362) (xs := xs) rfl (by omega) (by omega) dL_law_1361 rfl (fun g_1361 => ?_)
  obtain ⟨r, J, hC, hM⟩ := hq24 (xs.getD (i + 1).toNat 0) (hxs _) σ hg hI
  refine wg_callV (mc' := 0) (ms' := 0) (pc' := 1365) (av := [gI (xs.getD (i + 1).toNat 0)]) mi_mX11_joined lk_L_140 rfl ci_X11 kd_0 rfl (Nat.le_of_ble_eq_true rfl) (by decide) dL_law_1362 rfl hC (fun v L9 σ1 q9 => ?_)
  obtain ⟨rfl, rfl, hJ⟩ := q9
  show gWp _ _ _ _ _ _ _ _ [gX 2, gR 0, gR 133, gR 208, gI i, gX 1, gX 1, gX 1] [gI r]
  refine wg_aload_n (pc' := 1366) (i := 2) (by rfl) (by rfl) dL_law_1365 rfl ?_
  refine wg_aloadX_n (n := 2) (pc' := 1367) (i := 0) (by rfl) (by decide) (by rfl) dL_law_1366 rfl ?_
  refine wg_iload (pc' := 1369) (by rfl) dL_law_1367 rfl ?_
  refine wg_iconst (pc' := 1370) (by decide) dL_law_1369 rfl ?_
  refine wg_iadd (pc' := 1371) dL_law_1370 rfl ?_
  rw [w32_id (show gi32 (i + 1) from ⟨by omega, by omega⟩)]
  refine wg_sld (pc' := 1372) (xs := xs) rfl (by omega) (by omega) dL_law_1371 rfl (fun g_1371 => ?_)
  refine wg_callV (mc' := 0) (ms' := 0) (pc' := 1375) (av := [gI (xs.getD (i + 1).toNat 0)]) mi_mX12_joined lk_L_143 rfl ci_X12 kd_133 rfl (Nat.le_of_ble_eq_true rfl) (by decide) dL_law_1372 rfl (hM σ1 hJ) (fun v L9 σ2 q9 => ?_)
  obtain ⟨rfl, rfl, hg2, hI2⟩ := q9
  show gWp _ _ _ _ _ _ _ _ [gX 2, gR 0, gR 133, gR 208, gI i, gX 1, gX 1, gX 1] [gI r, gI r]
  refine wg_icmp_eq (pc' := 1378) (t := 1703) dL_law_1375 rfl rfl (fun _ => ?_) (fun c => absurd rfl c)
  exact hend σ2 hg2 hI2 _ _ _
set_option maxRecDepth 100000 in
theorem law_25 (Inv : gH → Prop) {xs : List Int} {mc ms : Nat} {i : Int} {σ : gH} {Q : gV → List gK → gH → Prop} (hxs : ∀ j, gi32 (xs.getD j 0)) (h0 : 0 ≤ i) (h8 : i + 8 ≤ xs.length) (hL : xs.length ≤ 4096) (hg : gGr σ) (hI : Inv σ) (hq25 : ∀ a0 : Int, gi32 a0 → ∀ a1 : Int, gi32 a1 → ∀ a2 : Int, gi32 a2 → CX Inv (fun y => gI y) mL_entered [(0, 12, 15, 13)] mX12_entered [gI a0, gI a1, gI a2])
    (hend : ∀ σ2, gGr σ2 → Inv σ2 → ∀ u1 u2 u3, gWp (mLaw xs) 100 mc ms Q gL σ2 1703 [gX 2, gR 0, gR 133, gR 208, gI i, u1, u2, u3] []) : gWp (mLaw xs) 100 (1 + mc) (6 + ms) Q gL σ 1380 [gX 2, gR 0, gR 133, gR 208, gI i, gX 1, gX 1, gX 1] [] := by
  refine gWp.budget (mc := 1 + (0 + (0 + mc))) (ms := 6 + (0 + (0 + ms))) (by omega) (by omega) ?_
  refine wg_aload_n (pc' := 1381) (i := 1) (by rfl) (by rfl) dL_law_1380 rfl ?_
  refine wg_aloadX_n (n := 2) (pc' := 1382) (i := 0) (by rfl) (by decide) (by rfl) dL_law_1381 rfl ?_
  refine wg_iload (pc' := 1384) (by rfl) dL_law_1382 rfl ?_
  refine wg_iconst (pc' := 1385) (by decide) dL_law_1384 rfl ?_
  refine wg_iadd (pc' := 1386) dL_law_1385 rfl ?_
  rw [w32_id (show gi32 (i + 1) from ⟨by omega, by omega⟩)]
  refine wg_sld (pc' := 1387) (xs := xs) rfl (by omega) (by omega) dL_law_1386 rfl (fun g_1386 => ?_)
  refine wg_aloadX_n (n := 2) (pc' := 1388) (i := 0) (by rfl) (by decide) (by rfl) dL_law_1387 rfl ?_
  refine wg_iload (pc' := 1390) (by rfl) dL_law_1388 rfl ?_
  refine wg_iconst (pc' := 1391) (by decide) dL_law_1390 rfl ?_
  refine wg_iadd (pc' := 1392) dL_law_1391 rfl ?_
  rw [w32_id (show gi32 (i + 2) from ⟨by omega, by omega⟩)]
  refine wg_sld (pc' := 1393) (xs := xs) rfl (by omega) (by omega) dL_law_1392 rfl (fun g_1392 => ?_)
  refine wg_aloadX_n (n := 2) (pc' := 1394) (i := 0) (by rfl) (by decide) (by rfl) dL_law_1393 rfl ?_
  refine wg_iload (pc' := 1396) (by rfl) dL_law_1394 rfl ?_
  refine wg_iconst (pc' := 1397) (by decide) dL_law_1396 rfl ?_
  refine wg_iadd (pc' := 1398) dL_law_1397 rfl ?_
  rw [w32_id (show gi32 (i + 3) from ⟨by omega, by omega⟩)]
  refine wg_sld (pc' := 1399) (xs := xs) rfl (by omega) (by omega) dL_law_1398 rfl (fun g_1398 => ?_)
  refine wg_aload_n (pc' := 1400) (i := 3) (by rfl) (by rfl) dL_law_1399 rfl ?_
  obtain ⟨k, r, J, hk01, hC, hM⟩ := hq25 (xs.getD (i + 1).toNat 0) (hxs _) (xs.getD (i + 2).toNat 0) (hxs _) (xs.getD (i + 3).toNat 0) (hxs _) σ hg hI
  refine wg_callSW (n := 5) (av := [gR 0, gI (xs.getD (i + 1).toNat 0), gI (xs.getD (i + 2).toNat 0), gI (xs.getD (i + 3).toNat 0), gR 208]) iL cw_mL_entered (by decide +kernel) (by decide) st_mL_entered lk_L_144 rfl rfl (Nat.le_of_ble_eq_true rfl) (by decide) dL_law_1400 hC (fun v L9 σ1 q9 => ?_)
  obtain ⟨rfl, rfl, hr1, hJ⟩ := q9
  show gWp _ _ _ _ _ _ _ 1403 [gX 2, gR 0, gR 133, gR 208, gI i, gX 1, gX 1, gX 1] [gI k]
  refine wg_istore (pc' := 1405) (ls' := [gX 2, gR 0, gR 133, gR 208, gI i, gI k, gX 1, gX 1]) (Nat.le_of_ble_eq_true rfl) (by rfl) dL_law_1403 rfl ?_
  refine wg_aload_n (pc' := 1406) (i := 2) (by rfl) (by rfl) dL_law_1405 rfl ?_
  refine wg_aloadX_n (n := 2) (pc' := 1407) (i := 0) (by rfl) (by decide) (by rfl) dL_law_1406 rfl ?_
  refine wg_iload (pc' := 1409) (by rfl) dL_law_1407 rfl ?_
  refine wg_iconst (pc' := 1410) (by decide) dL_law_1409 rfl ?_
  refine wg_iadd (pc' := 1411) dL_law_1410 rfl ?_
  rw [w32_id (show gi32 (i + 1) from ⟨by omega, by omega⟩)]
  refine wg_sld (pc' := 1412) (xs := xs) rfl (by omega) (by omega) dL_law_1411 rfl (fun g_1411 => ?_)
  refine wg_aloadX_n (n := 2) (pc' := 1413) (i := 0) (by rfl) (by decide) (by rfl) dL_law_1412 rfl ?_
  refine wg_iload (pc' := 1415) (by rfl) dL_law_1413 rfl ?_
  refine wg_iconst (pc' := 1416) (by decide) dL_law_1415 rfl ?_
  refine wg_iadd (pc' := 1417) dL_law_1416 rfl ?_
  rw [w32_id (show gi32 (i + 2) from ⟨by omega, by omega⟩)]
  refine wg_sld (pc' := 1418) (xs := xs) rfl (by omega) (by omega) dL_law_1417 rfl (fun g_1417 => ?_)
  refine wg_aloadX_n (n := 2) (pc' := 1419) (i := 0) (by rfl) (by decide) (by rfl) dL_law_1418 rfl ?_
  refine wg_iload (pc' := 1421) (by rfl) dL_law_1419 rfl ?_
  refine wg_iconst (pc' := 1422) (by decide) dL_law_1421 rfl ?_
  refine wg_iadd (pc' := 1423) dL_law_1422 rfl ?_
  rw [w32_id (show gi32 (i + 3) from ⟨by omega, by omega⟩)]
  refine wg_sld (pc' := 1424) (xs := xs) rfl (by omega) (by omega) dL_law_1423 rfl (fun g_1423 => ?_)
  refine wg_callV (mc' := 0) (ms' := 0) (pc' := 1427) (av := [gI (xs.getD (i + 1).toNat 0), gI (xs.getD (i + 2).toNat 0), gI (xs.getD (i + 3).toNat 0)]) mi_mX12_entered lk_L_146 rfl ci_X12 kd_133 rfl (Nat.le_of_ble_eq_true rfl) (by decide) dL_law_1424 rfl (hM σ1 hJ) (fun v L9 σ2 q9 => ?_)
  obtain ⟨rfl, ⟨y, rfl, hy⟩, hg2, hI2, hk, ho⟩ := q9
  show gWp _ _ _ _ _ _ _ _ [gX 2, gR 0, gR 133, gR 208, gI i, gI k, gX 1, gX 1] [gI y]
  refine wg_istore (pc' := 1429) (ls' := [gX 2, gR 0, gR 133, gR 208, gI i, gI k, gI y, gX 1]) (Nat.le_of_ble_eq_true rfl) (by rfl) dL_law_1427 rfl ?_
  refine wg_aload_n (pc' := 1430) (i := 2) (by rfl) (by rfl) dL_law_1429 rfl ?_
  refine wg_callV (pc' := 1433) (av := []) mi_mX12_thrown lk_L_104 rfl ci_X12 kd_133 rfl (Nat.le_of_ble_eq_true rfl) (by decide) dL_law_1430 rfl (s_thrown _) (fun v L9 s9 q9 => ?_)
  obtain ⟨rfl, rfl, h10⟩ := q9
  rw [h10]
  show gWp _ _ _ _ _ _ _ _ [gX 2, gR 0, gR 133, gR 208, gI i, gI k, gI y, gX 1] [gI (σ2 133 0)]
  refine wg_iload (pc' := 1435) (by rfl) dL_law_1433 rfl ?_
  refine wg_icmp_eq (pc' := 1438) (t := 1440) dL_law_1435 rfl rfl (fun _ => ?_) (fun c => absurd hk c)
  refine wg_iload (pc' := 1442) (by rfl) dL_law_1440 rfl ?_
  refine wg_if_ne (pc' := 1445) (t := 1457) dL_law_1442 rfl rfl (fun c_1442 => ?_) (fun c_1442 => ?_)
  · skip
    refine wg_goto (pc' := 1703) dL_law_1457 rfl ?_
    exact hend σ2 hg2 hI2 _ _ _
  · skip
    have hk0 : k = 0 := by omega
    refine wg_aload_n (pc' := 1446) (i := 3) (by rfl) (by rfl) dL_law_1445 rfl ?_
    refine wg_iconst (pc' := 1447) (by decide) dL_law_1446 rfl ?_
    refine wg_lald (pc' := 1448) kd_208 (by omega) (by decide) dL_law_1447 rfl ?_
    refine wg_iload (pc' := 1450) (by rfl) dL_law_1448 rfl ?_
    refine wg_i2l (pc' := 1451) dL_law_1450 rfl ?_
    refine wg_lcmp (pc' := 1452) dL_law_1451 rfl ?_
    rw [show gCmp (σ2 208 0) y = 0 from (by rw [ho, hr1 hk0, hy hk0]; unfold gCmp; rw [if_neg (Int.lt_irrefl _), if_pos rfl])]
    refine wg_if_eq (pc' := 1455) (t := 1457) dL_law_1452 rfl rfl (fun _ => ?_) (fun c => absurd rfl c)
    refine wg_goto (pc' := 1703) dL_law_1457 rfl ?_
    exact hend σ2 hg2 hI2 _ _ _
set_option maxRecDepth 100000 in
theorem law_26 (Inv : gH → Prop) {xs : List Int} {mc ms : Nat} {i : Int} {σ : gH} {Q : gV → List gK → gH → Prop} (hxs : ∀ j, gi32 (xs.getD j 0)) (h0 : 0 ≤ i) (h8 : i + 8 ≤ xs.length) (hL : xs.length ≤ 4096) (hg : gGr σ) (hI : Inv σ) (hq26 : ∀ a0 : Int, gi32 a0 → ∀ a1 : Int, gi32 a1 → ∀ a2 : Int, gi32 a2 → (a2 = 0 ∨ a2 = 1) → CI Inv mX11_vote mX12_vote [gI a0, gI a1, gI a2])
    (hend : ∀ σ2, gGr σ2 → Inv σ2 → ∀ u1 u2 u3, gWp (mLaw xs) 100 mc ms Q gL σ2 1703 [gX 2, gR 0, gR 133, gR 208, gI i, u1, u2, u3] []) : gWp (mLaw xs) 100 (1 + mc) (6 + ms) Q gL σ 1460 [gX 2, gR 0, gR 133, gR 208, gI i, gX 1, gX 1, gX 1] [] := by
  refine gWp.budget (mc := 0 + (0 + mc)) (ms := 0 + (0 + ms)) (by omega) (by omega) ?_
  refine wg_aload_n (pc' := 1461) (i := 1) (by rfl) (by rfl) dL_law_1460 rfl ?_
  refine wg_aloadX_n (n := 2) (pc' := 1462) (i := 0) (by rfl) (by decide) (by rfl) dL_law_1461 rfl ?_
  refine wg_iload (pc' := 1464) (by rfl) dL_law_1462 rfl ?_
  refine wg_iconst (pc' := 1465) (by decide) dL_law_1464 rfl ?_
  refine wg_iadd (pc' := 1466) dL_law_1465 rfl ?_
  rw [w32_id (show gi32 (i + 1) from ⟨by omega, by omega⟩)]
  refine wg_sld (pc' := 1467) (xs := xs) rfl (by omega) (by omega) dL_law_1466 rfl (fun g_1466 => ?_)
  refine wg_aloadX_n (n := 2) (pc' := 1468) (i := 0) (by rfl) (by decide) (by rfl) dL_law_1467 rfl ?_
  refine wg_iload (pc' := 1470) (by rfl) dL_law_1468 rfl ?_
  refine wg_iconst (pc' := 1471) (by decide) dL_law_1470 rfl ?_
  refine wg_iadd (pc' := 1472) dL_law_1471 rfl ?_
  rw [w32_id (show gi32 (i + 2) from ⟨by omega, by omega⟩)]
  refine wg_sld (pc' := 1473) (xs := xs) rfl (by omega) (by omega) dL_law_1472 rfl (fun g_1472 => ?_)
  refine wg_aloadX_n (n := 2) (pc' := 1474) (i := 0) (by rfl) (by decide) (by rfl) dL_law_1473 rfl ?_
  refine wg_iload (pc' := 1476) (by rfl) dL_law_1474 rfl ?_
  refine wg_iconst (pc' := 1477) (by decide) dL_law_1476 rfl ?_
  refine wg_iadd (pc' := 1478) dL_law_1477 rfl ?_
  rw [w32_id (show gi32 (i + 3) from ⟨by omega, by omega⟩)]
  refine wg_sld (pc' := 1479) (xs := xs) rfl (by omega) (by omega) dL_law_1478 rfl (fun g_1478 => ?_)
  refine wg_if_eq (pc' := 1482) (t := 1486) dL_law_1479 rfl rfl (fun c_1479 => ?_) (fun c_1479 => ?_)
  · skip
    refine wg_iconst (pc' := 1487) (by decide) dL_law_1486 rfl ?_
    obtain ⟨r, J, hC, hM⟩ := hq26 (xs.getD (i + 1).toNat 0) (hxs _) (xs.getD (i + 2).toNat 0) (hxs _) 0 (by decide) (Or.inl rfl) σ hg hI
    refine wg_callV (mc' := 0) (ms' := 0) (pc' := 1490) (av := [gI (xs.getD (i + 1).toNat 0), gI (xs.getD (i + 2).toNat 0), gI 0]) mi_mX11_vote lk_L_147 rfl ci_X11 kd_0 rfl (Nat.le_of_ble_eq_true rfl) (by decide) dL_law_1487 rfl hC (fun v L9 σ1 q9 => ?_)
    obtain ⟨rfl, rfl, hJ⟩ := q9
    show gWp _ _ _ _ _ _ _ _ [gX 2, gR 0, gR 133, gR 208, gI i, gX 1, gX 1, gX 1] [gI r]
    refine wg_aload_n (pc' := 1491) (i := 2) (by rfl) (by rfl) dL_law_1490 rfl ?_
    refine wg_aloadX_n (n := 2) (pc' := 1492) (i := 0) (by rfl) (by decide) (by rfl) dL_law_1491 rfl ?_
    refine wg_iload (pc' := 1494) (by rfl) dL_law_1492 rfl ?_
    refine wg_iconst (pc' := 1495) (by decide) dL_law_1494 rfl ?_
    refine wg_iadd (pc' := 1496) dL_law_1495 rfl ?_
    rw [w32_id (show gi32 (i + 1) from ⟨by omega, by omega⟩)]
    refine wg_sld (pc' := 1497) (xs := xs) rfl (by omega) (by omega) dL_law_1496 rfl (fun g_1496 => ?_)
    refine wg_aloadX_n (n := 2) (pc' := 1498) (i := 0) (by rfl) (by decide) (by rfl) dL_law_1497 rfl ?_
    refine wg_iload (pc' := 1500) (by rfl) dL_law_1498 rfl ?_
    refine wg_iconst (pc' := 1501) (by decide) dL_law_1500 rfl ?_
    refine wg_iadd (pc' := 1502) dL_law_1501 rfl ?_
    rw [w32_id (show gi32 (i + 2) from ⟨by omega, by omega⟩)]
    refine wg_sld (pc' := 1503) (xs := xs) rfl (by omega) (by omega) dL_law_1502 rfl (fun g_1502 => ?_)
    refine wg_aloadX_n (n := 2) (pc' := 1504) (i := 0) (by rfl) (by decide) (by rfl) dL_law_1503 rfl ?_
    refine wg_iload (pc' := 1506) (by rfl) dL_law_1504 rfl ?_
    refine wg_iconst (pc' := 1507) (by decide) dL_law_1506 rfl ?_
    refine wg_iadd (pc' := 1508) dL_law_1507 rfl ?_
    rw [w32_id (show gi32 (i + 3) from ⟨by omega, by omega⟩)]
    refine wg_sld (pc' := 1509) (xs := xs) rfl (by omega) (by omega) dL_law_1508 rfl (fun g_1508 => ?_)
    refine wg_if_eq (pc' := 1512) (t := 1516) dL_law_1509 rfl rfl (fun _ => ?_) (fun c => absurd c_1479 c)
    refine wg_iconst (pc' := 1517) (by decide) dL_law_1516 rfl ?_
    refine wg_callV (mc' := 0) (ms' := 0) (pc' := 1520) (av := [gI (xs.getD (i + 1).toNat 0), gI (xs.getD (i + 2).toNat 0), gI 0]) mi_mX12_vote lk_L_151 rfl ci_X12 kd_133 rfl (Nat.le_of_ble_eq_true rfl) (by decide) dL_law_1517 rfl (hM σ1 hJ) (fun v L9 σ2 q9 => ?_)
    obtain ⟨rfl, rfl, hg2, hI2⟩ := q9
    show gWp _ _ _ _ _ _ _ _ [gX 2, gR 0, gR 133, gR 208, gI i, gX 1, gX 1, gX 1] [gI r, gI r]
    refine wg_icmp_eq (pc' := 1523) (t := 1703) dL_law_1520 rfl rfl (fun _ => ?_) (fun c => absurd rfl c)
    exact hend σ2 hg2 hI2 _ _ _
  · skip
    refine wg_iconst (pc' := 1483) (by decide) dL_law_1482 rfl ?_
    refine wg_goto (pc' := 1487) dL_law_1483 rfl ?_
    obtain ⟨r, J, hC, hM⟩ := hq26 (xs.getD (i + 1).toNat 0) (hxs _) (xs.getD (i + 2).toNat 0) (hxs _) 1 (by decide) (Or.inr rfl) σ hg hI
    refine wg_callV (mc' := 0) (ms' := 0) (pc' := 1490) (av := [gI (xs.getD (i + 1).toNat 0), gI (xs.getD (i + 2).toNat 0), gI 1]) mi_mX11_vote lk_L_147 rfl ci_X11 kd_0 rfl (Nat.le_of_ble_eq_true rfl) (by decide) dL_law_1487 rfl hC (fun v L9 σ1 q9 => ?_)
    obtain ⟨rfl, rfl, hJ⟩ := q9
    show gWp _ _ _ _ _ _ _ _ [gX 2, gR 0, gR 133, gR 208, gI i, gX 1, gX 1, gX 1] [gI r]
    refine wg_aload_n (pc' := 1491) (i := 2) (by rfl) (by rfl) dL_law_1490 rfl ?_
    refine wg_aloadX_n (n := 2) (pc' := 1492) (i := 0) (by rfl) (by decide) (by rfl) dL_law_1491 rfl ?_
    refine wg_iload (pc' := 1494) (by rfl) dL_law_1492 rfl ?_
    refine wg_iconst (pc' := 1495) (by decide) dL_law_1494 rfl ?_
    refine wg_iadd (pc' := 1496) dL_law_1495 rfl ?_
    rw [w32_id (show gi32 (i + 1) from ⟨by omega, by omega⟩)]
    refine wg_sld (pc' := 1497) (xs := xs) rfl (by omega) (by omega) dL_law_1496 rfl (fun g_1496 => ?_)
    refine wg_aloadX_n (n := 2) (pc' := 1498) (i := 0) (by rfl) (by decide) (by rfl) dL_law_1497 rfl ?_
    refine wg_iload (pc' := 1500) (by rfl) dL_law_1498 rfl ?_
    refine wg_iconst (pc' := 1501) (by decide) dL_law_1500 rfl ?_
    refine wg_iadd (pc' := 1502) dL_law_1501 rfl ?_
    rw [w32_id (show gi32 (i + 2) from ⟨by omega, by omega⟩)]
    refine wg_sld (pc' := 1503) (xs := xs) rfl (by omega) (by omega) dL_law_1502 rfl (fun g_1502 => ?_)
    refine wg_aloadX_n (n := 2) (pc' := 1504) (i := 0) (by rfl) (by decide) (by rfl) dL_law_1503 rfl ?_
    refine wg_iload (pc' := 1506) (by rfl) dL_law_1504 rfl ?_
    refine wg_iconst (pc' := 1507) (by decide) dL_law_1506 rfl ?_
    refine wg_iadd (pc' := 1508) dL_law_1507 rfl ?_
    rw [w32_id (show gi32 (i + 3) from ⟨by omega, by omega⟩)]
    refine wg_sld (pc' := 1509) (xs := xs) rfl (by omega) (by omega) dL_law_1508 rfl (fun g_1508 => ?_)
    refine wg_if_eq (pc' := 1512) (t := 1516) dL_law_1509 rfl rfl (fun c => absurd c c_1479) (fun _ => ?_)
    refine wg_iconst (pc' := 1513) (by decide) dL_law_1512 rfl ?_
    refine wg_goto (pc' := 1517) dL_law_1513 rfl ?_
    refine wg_callV (mc' := 0) (ms' := 0) (pc' := 1520) (av := [gI (xs.getD (i + 1).toNat 0), gI (xs.getD (i + 2).toNat 0), gI 1]) mi_mX12_vote lk_L_151 rfl ci_X12 kd_133 rfl (Nat.le_of_ble_eq_true rfl) (by decide) dL_law_1517 rfl (hM σ1 hJ) (fun v L9 σ2 q9 => ?_)
    obtain ⟨rfl, rfl, hg2, hI2⟩ := q9
    show gWp _ _ _ _ _ _ _ _ [gX 2, gR 0, gR 133, gR 208, gI i, gX 1, gX 1, gX 1] [gI r, gI r]
    refine wg_icmp_eq (pc' := 1523) (t := 1703) dL_law_1520 rfl rfl (fun _ => ?_) (fun c => absurd rfl c)
    exact hend σ2 hg2 hI2 _ _ _
set_option maxRecDepth 100000 in
theorem law_27 (Inv : gH → Prop) {xs : List Int} {mc ms : Nat} {i : Int} {σ : gH} {Q : gV → List gK → gH → Prop} (hxs : ∀ j, gi32 (xs.getD j 0)) (h0 : 0 ≤ i) (h8 : i + 8 ≤ xs.length) (hL : xs.length ≤ 4096) (hg : gGr σ) (hI : Inv σ) (hq27 : ∀ a0 : Int, gi32 a0 → ∀ a1 : Int, gi32 a1 → CI Inv mX11_links mX12_links [gI a0, gI a1])
    (hend : ∀ σ2, gGr σ2 → Inv σ2 → ∀ u1 u2 u3, gWp (mLaw xs) 100 mc ms Q gL σ2 1703 [gX 2, gR 0, gR 133, gR 208, gI i, u1, u2, u3] []) : gWp (mLaw xs) 100 (1 + mc) (6 + ms) Q gL σ 1525 [gX 2, gR 0, gR 133, gR 208, gI i, gX 1, gX 1, gX 1] [] := by
  refine gWp.budget (mc := 0 + (0 + mc)) (ms := 0 + (0 + ms)) (by omega) (by omega) ?_
  refine wg_aload_n (pc' := 1526) (i := 1) (by rfl) (by rfl) dL_law_1525 rfl ?_
  refine wg_aloadX_n (n := 2) (pc' := 1527) (i := 0) (by rfl) (by decide) (by rfl) dL_law_1526 rfl ?_
  refine wg_iload (pc' := 1529) (by rfl) dL_law_1527 rfl ?_
  refine wg_iconst (pc' := 1530) (by decide) dL_law_1529 rfl ?_
  refine wg_iadd (pc' := 1531) dL_law_1530 rfl ?_
  rw [w32_id (show gi32 (i + 1) from ⟨by omega, by omega⟩)]
  refine wg_sld (pc' := 1532) (xs := xs) rfl (by omega) (by omega) dL_law_1531 rfl (fun g_1531 => ?_)
  refine wg_aloadX_n (n := 2) (pc' := 1533) (i := 0) (by rfl) (by decide) (by rfl) dL_law_1532 rfl ?_
  refine wg_iload (pc' := 1535) (by rfl) dL_law_1533 rfl ?_
  refine wg_iconst (pc' := 1536) (by decide) dL_law_1535 rfl ?_
  refine wg_iadd (pc' := 1537) dL_law_1536 rfl ?_
  rw [w32_id (show gi32 (i + 2) from ⟨by omega, by omega⟩)]
  refine wg_sld (pc' := 1538) (xs := xs) rfl (by omega) (by omega) dL_law_1537 rfl (fun g_1537 => ?_)
  obtain ⟨r, J, hC, hM⟩ := hq27 (xs.getD (i + 1).toNat 0) (hxs _) (xs.getD (i + 2).toNat 0) (hxs _) σ hg hI
  refine wg_callV (mc' := 0) (ms' := 0) (pc' := 1541) (av := [gI (xs.getD (i + 1).toNat 0), gI (xs.getD (i + 2).toNat 0)]) mi_mX11_links lk_L_152 rfl ci_X11 kd_0 rfl (Nat.le_of_ble_eq_true rfl) (by decide) dL_law_1538 rfl hC (fun v L9 σ1 q9 => ?_)
  obtain ⟨rfl, rfl, hJ⟩ := q9
  show gWp _ _ _ _ _ _ _ _ [gX 2, gR 0, gR 133, gR 208, gI i, gX 1, gX 1, gX 1] [gI r]
  refine wg_aload_n (pc' := 1542) (i := 2) (by rfl) (by rfl) dL_law_1541 rfl ?_
  refine wg_aloadX_n (n := 2) (pc' := 1543) (i := 0) (by rfl) (by decide) (by rfl) dL_law_1542 rfl ?_
  refine wg_iload (pc' := 1545) (by rfl) dL_law_1543 rfl ?_
  refine wg_iconst (pc' := 1546) (by decide) dL_law_1545 rfl ?_
  refine wg_iadd (pc' := 1547) dL_law_1546 rfl ?_
  rw [w32_id (show gi32 (i + 1) from ⟨by omega, by omega⟩)]
  refine wg_sld (pc' := 1548) (xs := xs) rfl (by omega) (by omega) dL_law_1547 rfl (fun g_1547 => ?_)
  refine wg_aloadX_n (n := 2) (pc' := 1549) (i := 0) (by rfl) (by decide) (by rfl) dL_law_1548 rfl ?_
  refine wg_iload (pc' := 1551) (by rfl) dL_law_1549 rfl ?_
  refine wg_iconst (pc' := 1552) (by decide) dL_law_1551 rfl ?_
  refine wg_iadd (pc' := 1553) dL_law_1552 rfl ?_
  rw [w32_id (show gi32 (i + 2) from ⟨by omega, by omega⟩)]
  refine wg_sld (pc' := 1554) (xs := xs) rfl (by omega) (by omega) dL_law_1553 rfl (fun g_1553 => ?_)
  refine wg_callV (mc' := 0) (ms' := 0) (pc' := 1557) (av := [gI (xs.getD (i + 1).toNat 0), gI (xs.getD (i + 2).toNat 0)]) mi_mX12_links lk_L_155 rfl ci_X12 kd_133 rfl (Nat.le_of_ble_eq_true rfl) (by decide) dL_law_1554 rfl (hM σ1 hJ) (fun v L9 σ2 q9 => ?_)
  obtain ⟨rfl, rfl, hg2, hI2⟩ := q9
  show gWp _ _ _ _ _ _ _ _ [gX 2, gR 0, gR 133, gR 208, gI i, gX 1, gX 1, gX 1] [gI r, gI r]
  refine wg_icmp_eq (pc' := 1560) (t := 1703) dL_law_1557 rfl rfl (fun _ => ?_) (fun c => absurd rfl c)
  exact hend σ2 hg2 hI2 _ _ _
set_option maxRecDepth 100000 in
theorem law_28 (Inv : gH → Prop) {xs : List Int} {mc ms : Nat} {i : Int} {σ : gH} {Q : gV → List gK → gH → Prop} (hxs : ∀ j, gi32 (xs.getD j 0)) (h0 : 0 ≤ i) (h8 : i + 8 ≤ xs.length) (hL : xs.length ≤ 4096) (hg : gGr σ) (hI : Inv σ) (hq28 : ∀ a0 : Int, gi32 a0 → ∀ a1 : Int, gi32 a1 → CX Inv (fun y => gJ y) mL_chance [(0, 9, 12, 13)] mX12_chance [gI a0, gI a1])
    (hend : ∀ σ2, gGr σ2 → Inv σ2 → ∀ u1 u2 u3, gWp (mLaw xs) 100 mc ms Q gL σ2 1703 [gX 2, gR 0, gR 133, gR 208, gI i, u1, u2, u3] []) : gWp (mLaw xs) 100 (1 + mc) (6 + ms) Q gL σ 1562 [gX 2, gR 0, gR 133, gR 208, gI i, gX 1, gX 1, gX 1] [] := by
  refine gWp.budget (mc := 1 + (0 + (0 + mc))) (ms := 6 + (0 + (0 + ms))) (by omega) (by omega) ?_
  refine wg_aload_n (pc' := 1563) (i := 1) (by rfl) (by rfl) dL_law_1562 rfl ?_
  refine wg_aloadX_n (n := 2) (pc' := 1564) (i := 0) (by rfl) (by decide) (by rfl) dL_law_1563 rfl ?_
  refine wg_iload (pc' := 1566) (by rfl) dL_law_1564 rfl ?_
  refine wg_iconst (pc' := 1567) (by decide) dL_law_1566 rfl ?_
  refine wg_iadd (pc' := 1568) dL_law_1567 rfl ?_
  rw [w32_id (show gi32 (i + 1) from ⟨by omega, by omega⟩)]
  refine wg_sld (pc' := 1569) (xs := xs) rfl (by omega) (by omega) dL_law_1568 rfl (fun g_1568 => ?_)
  refine wg_aloadX_n (n := 2) (pc' := 1570) (i := 0) (by rfl) (by decide) (by rfl) dL_law_1569 rfl ?_
  refine wg_iload (pc' := 1572) (by rfl) dL_law_1570 rfl ?_
  refine wg_iconst (pc' := 1573) (by decide) dL_law_1572 rfl ?_
  refine wg_iadd (pc' := 1574) dL_law_1573 rfl ?_
  rw [w32_id (show gi32 (i + 2) from ⟨by omega, by omega⟩)]
  refine wg_sld (pc' := 1575) (xs := xs) rfl (by omega) (by omega) dL_law_1574 rfl (fun g_1574 => ?_)
  refine wg_aload_n (pc' := 1576) (i := 3) (by rfl) (by rfl) dL_law_1575 rfl ?_
  obtain ⟨k, r, J, hk01, hC, hM⟩ := hq28 (xs.getD (i + 1).toNat 0) (hxs _) (xs.getD (i + 2).toNat 0) (hxs _) σ hg hI
  refine wg_callSW (n := 4) (av := [gR 0, gI (xs.getD (i + 1).toNat 0), gI (xs.getD (i + 2).toNat 0), gR 208]) iL cw_mL_chance (by decide +kernel) (by decide) st_mL_chance lk_L_156 rfl rfl (Nat.le_of_ble_eq_true rfl) (by decide) dL_law_1576 hC (fun v L9 σ1 q9 => ?_)
  obtain ⟨rfl, rfl, hr1, hJ⟩ := q9
  show gWp _ _ _ _ _ _ _ 1579 [gX 2, gR 0, gR 133, gR 208, gI i, gX 1, gX 1, gX 1] [gI k]
  refine wg_istore (pc' := 1581) (ls' := [gX 2, gR 0, gR 133, gR 208, gI i, gI k, gX 1, gX 1]) (Nat.le_of_ble_eq_true rfl) (by rfl) dL_law_1579 rfl ?_
  refine wg_aload_n (pc' := 1582) (i := 2) (by rfl) (by rfl) dL_law_1581 rfl ?_
  refine wg_aloadX_n (n := 2) (pc' := 1583) (i := 0) (by rfl) (by decide) (by rfl) dL_law_1582 rfl ?_
  refine wg_iload (pc' := 1585) (by rfl) dL_law_1583 rfl ?_
  refine wg_iconst (pc' := 1586) (by decide) dL_law_1585 rfl ?_
  refine wg_iadd (pc' := 1587) dL_law_1586 rfl ?_
  rw [w32_id (show gi32 (i + 1) from ⟨by omega, by omega⟩)]
  refine wg_sld (pc' := 1588) (xs := xs) rfl (by omega) (by omega) dL_law_1587 rfl (fun g_1587 => ?_)
  refine wg_aloadX_n (n := 2) (pc' := 1589) (i := 0) (by rfl) (by decide) (by rfl) dL_law_1588 rfl ?_
  refine wg_iload (pc' := 1591) (by rfl) dL_law_1589 rfl ?_
  refine wg_iconst (pc' := 1592) (by decide) dL_law_1591 rfl ?_
  refine wg_iadd (pc' := 1593) dL_law_1592 rfl ?_
  rw [w32_id (show gi32 (i + 2) from ⟨by omega, by omega⟩)]
  refine wg_sld (pc' := 1594) (xs := xs) rfl (by omega) (by omega) dL_law_1593 rfl (fun g_1593 => ?_)
  refine wg_callV (mc' := 0) (ms' := 0) (pc' := 1597) (av := [gI (xs.getD (i + 1).toNat 0), gI (xs.getD (i + 2).toNat 0)]) mi_mX12_chance lk_L_159 rfl ci_X12 kd_133 rfl (Nat.le_of_ble_eq_true rfl) (by decide) dL_law_1594 rfl (hM σ1 hJ) (fun v L9 σ2 q9 => ?_)
  obtain ⟨rfl, ⟨y, rfl, hy⟩, hg2, hI2, hk, ho⟩ := q9
  show gWp _ _ _ _ _ _ _ _ [gX 2, gR 0, gR 133, gR 208, gI i, gI k, gX 1, gX 1] [gJ y]
  refine wg_lstore (pc' := 1599) (ls' := [gX 2, gR 0, gR 133, gR 208, gI i, gI k, gJ y, gX 1]) (Nat.le_of_ble_eq_true rfl) (by rfl) dL_law_1597 rfl ?_
  refine wg_aload_n (pc' := 1600) (i := 2) (by rfl) (by rfl) dL_law_1599 rfl ?_
  refine wg_callV (pc' := 1603) (av := []) mi_mX12_thrown lk_L_104 rfl ci_X12 kd_133 rfl (Nat.le_of_ble_eq_true rfl) (by decide) dL_law_1600 rfl (s_thrown _) (fun v L9 s9 q9 => ?_)
  obtain ⟨rfl, rfl, h10⟩ := q9
  rw [h10]
  show gWp _ _ _ _ _ _ _ _ [gX 2, gR 0, gR 133, gR 208, gI i, gI k, gJ y, gX 1] [gI (σ2 133 0)]
  refine wg_iload (pc' := 1605) (by rfl) dL_law_1603 rfl ?_
  refine wg_icmp_eq (pc' := 1608) (t := 1610) dL_law_1605 rfl rfl (fun _ => ?_) (fun c => absurd hk c)
  refine wg_iload (pc' := 1612) (by rfl) dL_law_1610 rfl ?_
  refine wg_if_ne (pc' := 1615) (t := 1626) dL_law_1612 rfl rfl (fun c_1612 => ?_) (fun c_1612 => ?_)
  · skip
    refine wg_goto (pc' := 1703) dL_law_1626 rfl ?_
    exact hend σ2 hg2 hI2 _ _ _
  · skip
    have hk0 : k = 0 := by omega
    refine wg_aload_n (pc' := 1616) (i := 3) (by rfl) (by rfl) dL_law_1615 rfl ?_
    refine wg_iconst (pc' := 1617) (by decide) dL_law_1616 rfl ?_
    refine wg_lald (pc' := 1618) kd_208 (by omega) (by decide) dL_law_1617 rfl ?_
    refine wg_lload (pc' := 1620) (by rfl) dL_law_1618 rfl ?_
    refine wg_lcmp (pc' := 1621) dL_law_1620 rfl ?_
    rw [show gCmp (σ2 208 0) y = 0 from (by rw [ho, hr1 hk0, hy hk0]; unfold gCmp; rw [if_neg (Int.lt_irrefl _), if_pos rfl])]
    refine wg_if_eq (pc' := 1624) (t := 1626) dL_law_1621 rfl rfl (fun _ => ?_) (fun c => absurd rfl c)
    refine wg_goto (pc' := 1703) dL_law_1626 rfl ?_
    exact hend σ2 hg2 hI2 _ _ _
set_option maxRecDepth 100000 in
theorem law_29 (Inv : gH → Prop) {xs : List Int} {mc ms : Nat} {i : Int} {σ : gH} {Q : gV → List gK → gH → Prop} (hxs : ∀ j, gi32 (xs.getD j 0)) (h0 : 0 ≤ i) (h8 : i + 8 ≤ xs.length) (hL : xs.length ≤ 4096) (hg : gGr σ) (hI : Inv σ) (hq29 : ∀ a0 : Int, gi32 a0 → ∀ a1 : Int, gi32 a1 → ∀ a2 : Int, gi32 a2 → CI Inv mX11_asked mX12_asked [gI a0, gI a1, gI a2])
    (hend : ∀ σ2, gGr σ2 → Inv σ2 → ∀ u1 u2 u3, gWp (mLaw xs) 100 mc ms Q gL σ2 1703 [gX 2, gR 0, gR 133, gR 208, gI i, u1, u2, u3] []) : gWp (mLaw xs) 100 (1 + mc) (6 + ms) Q gL σ 1629 [gX 2, gR 0, gR 133, gR 208, gI i, gX 1, gX 1, gX 1] [] := by
  refine gWp.budget (mc := 0 + (0 + mc)) (ms := 0 + (0 + ms)) (by omega) (by omega) ?_
  refine wg_aload_n (pc' := 1630) (i := 1) (by rfl) (by rfl) dL_law_1629 rfl ?_
  refine wg_aloadX_n (n := 2) (pc' := 1631) (i := 0) (by rfl) (by decide) (by rfl) dL_law_1630 rfl ?_
  refine wg_iload (pc' := 1633) (by rfl) dL_law_1631 rfl ?_
  refine wg_iconst (pc' := 1634) (by decide) dL_law_1633 rfl ?_
  refine wg_iadd (pc' := 1635) dL_law_1634 rfl ?_
  rw [w32_id (show gi32 (i + 1) from ⟨by omega, by omega⟩)]
  refine wg_sld (pc' := 1636) (xs := xs) rfl (by omega) (by omega) dL_law_1635 rfl (fun g_1635 => ?_)
  refine wg_aloadX_n (n := 2) (pc' := 1637) (i := 0) (by rfl) (by decide) (by rfl) dL_law_1636 rfl ?_
  refine wg_iload (pc' := 1639) (by rfl) dL_law_1637 rfl ?_
  refine wg_iconst (pc' := 1640) (by decide) dL_law_1639 rfl ?_
  refine wg_iadd (pc' := 1641) dL_law_1640 rfl ?_
  rw [w32_id (show gi32 (i + 2) from ⟨by omega, by omega⟩)]
  refine wg_sld (pc' := 1642) (xs := xs) rfl (by omega) (by omega) dL_law_1641 rfl (fun g_1641 => ?_)
  refine wg_aloadX_n (n := 2) (pc' := 1643) (i := 0) (by rfl) (by decide) (by rfl) dL_law_1642 rfl ?_
  refine wg_iload (pc' := 1645) (by rfl) dL_law_1643 rfl ?_
  refine wg_iconst (pc' := 1646) (by decide) dL_law_1645 rfl ?_
  refine wg_iadd (pc' := 1647) dL_law_1646 rfl ?_
  rw [w32_id (show gi32 (i + 3) from ⟨by omega, by omega⟩)]
  refine wg_sld (pc' := 1648) (xs := xs) rfl (by omega) (by omega) dL_law_1647 rfl (fun g_1647 => ?_)
  obtain ⟨r, J, hC, hM⟩ := hq29 (xs.getD (i + 1).toNat 0) (hxs _) (xs.getD (i + 2).toNat 0) (hxs _) (xs.getD (i + 3).toNat 0) (hxs _) σ hg hI
  refine wg_callV (mc' := 0) (ms' := 0) (pc' := 1651) (av := [gI (xs.getD (i + 1).toNat 0), gI (xs.getD (i + 2).toNat 0), gI (xs.getD (i + 3).toNat 0)]) mi_mX11_asked lk_L_160 rfl ci_X11 kd_0 rfl (Nat.le_of_ble_eq_true rfl) (by decide) dL_law_1648 rfl hC (fun v L9 σ1 q9 => ?_)
  obtain ⟨rfl, rfl, hJ⟩ := q9
  show gWp _ _ _ _ _ _ _ _ [gX 2, gR 0, gR 133, gR 208, gI i, gX 1, gX 1, gX 1] [gI r]
  refine wg_aload_n (pc' := 1652) (i := 2) (by rfl) (by rfl) dL_law_1651 rfl ?_
  refine wg_aloadX_n (n := 2) (pc' := 1653) (i := 0) (by rfl) (by decide) (by rfl) dL_law_1652 rfl ?_
  refine wg_iload (pc' := 1655) (by rfl) dL_law_1653 rfl ?_
  refine wg_iconst (pc' := 1656) (by decide) dL_law_1655 rfl ?_
  refine wg_iadd (pc' := 1657) dL_law_1656 rfl ?_
  rw [w32_id (show gi32 (i + 1) from ⟨by omega, by omega⟩)]
  refine wg_sld (pc' := 1658) (xs := xs) rfl (by omega) (by omega) dL_law_1657 rfl (fun g_1657 => ?_)
  refine wg_aloadX_n (n := 2) (pc' := 1659) (i := 0) (by rfl) (by decide) (by rfl) dL_law_1658 rfl ?_
  refine wg_iload (pc' := 1661) (by rfl) dL_law_1659 rfl ?_
  refine wg_iconst (pc' := 1662) (by decide) dL_law_1661 rfl ?_
  refine wg_iadd (pc' := 1663) dL_law_1662 rfl ?_
  rw [w32_id (show gi32 (i + 2) from ⟨by omega, by omega⟩)]
  refine wg_sld (pc' := 1664) (xs := xs) rfl (by omega) (by omega) dL_law_1663 rfl (fun g_1663 => ?_)
  refine wg_aloadX_n (n := 2) (pc' := 1665) (i := 0) (by rfl) (by decide) (by rfl) dL_law_1664 rfl ?_
  refine wg_iload (pc' := 1667) (by rfl) dL_law_1665 rfl ?_
  refine wg_iconst (pc' := 1668) (by decide) dL_law_1667 rfl ?_
  refine wg_iadd (pc' := 1669) dL_law_1668 rfl ?_
  rw [w32_id (show gi32 (i + 3) from ⟨by omega, by omega⟩)]
  refine wg_sld (pc' := 1670) (xs := xs) rfl (by omega) (by omega) dL_law_1669 rfl (fun g_1669 => ?_)
  refine wg_callV (mc' := 0) (ms' := 0) (pc' := 1673) (av := [gI (xs.getD (i + 1).toNat 0), gI (xs.getD (i + 2).toNat 0), gI (xs.getD (i + 3).toNat 0)]) mi_mX12_asked lk_L_163 rfl ci_X12 kd_133 rfl (Nat.le_of_ble_eq_true rfl) (by decide) dL_law_1670 rfl (hM σ1 hJ) (fun v L9 σ2 q9 => ?_)
  obtain ⟨rfl, rfl, hg2, hI2⟩ := q9
  show gWp _ _ _ _ _ _ _ _ [gX 2, gR 0, gR 133, gR 208, gI i, gX 1, gX 1, gX 1] [gI r, gI r]
  refine wg_icmp_eq (pc' := 1676) (t := 1703) dL_law_1673 rfl rfl (fun _ => ?_) (fun c => absurd rfl c)
  exact hend σ2 hg2 hI2 _ _ _
set_option maxRecDepth 100000 in
theorem law_30 (Inv : gH → Prop) {xs : List Int} {mc ms : Nat} {i : Int} {σ : gH} {Q : gV → List gK → gH → Prop} (hxs : ∀ j, gi32 (xs.getD j 0)) (h0 : 0 ≤ i) (h8 : i + 8 ≤ xs.length) (hL : xs.length ≤ 4096) (hg : gGr σ) (hI : Inv σ) (hq30 : ∀ a0 : Int, gi32 a0 → CI Inv mX11_count mX12_count [gI a0])
    (hend : ∀ σ2, gGr σ2 → Inv σ2 → ∀ u1 u2 u3, gWp (mLaw xs) 100 mc ms Q gL σ2 1703 [gX 2, gR 0, gR 133, gR 208, gI i, u1, u2, u3] []) : gWp (mLaw xs) 100 (1 + mc) (6 + ms) Q gL σ 1678 [gX 2, gR 0, gR 133, gR 208, gI i, gX 1, gX 1, gX 1] [] := by
  refine gWp.budget (mc := 0 + (0 + mc)) (ms := 0 + (0 + ms)) (by omega) (by omega) ?_
  refine wg_aload_n (pc' := 1679) (i := 1) (by rfl) (by rfl) dL_law_1678 rfl ?_
  refine wg_aloadX_n (n := 2) (pc' := 1680) (i := 0) (by rfl) (by decide) (by rfl) dL_law_1679 rfl ?_
  refine wg_iload (pc' := 1682) (by rfl) dL_law_1680 rfl ?_
  refine wg_iconst (pc' := 1683) (by decide) dL_law_1682 rfl ?_
  refine wg_iadd (pc' := 1684) dL_law_1683 rfl ?_
  rw [w32_id (show gi32 (i + 1) from ⟨by omega, by omega⟩)]
  refine wg_sld (pc' := 1685) (xs := xs) rfl (by omega) (by omega) dL_law_1684 rfl (fun g_1684 => ?_)
  obtain ⟨r, J, hC, hM⟩ := hq30 (xs.getD (i + 1).toNat 0) (hxs _) σ hg hI
  refine wg_callV (mc' := 0) (ms' := 0) (pc' := 1688) (av := [gI (xs.getD (i + 1).toNat 0)]) mi_mX11_count lk_L_164 rfl ci_X11 kd_0 rfl (Nat.le_of_ble_eq_true rfl) (by decide) dL_law_1685 rfl hC (fun v L9 σ1 q9 => ?_)
  obtain ⟨rfl, rfl, hJ⟩ := q9
  show gWp _ _ _ _ _ _ _ _ [gX 2, gR 0, gR 133, gR 208, gI i, gX 1, gX 1, gX 1] [gI r]
  refine wg_aload_n (pc' := 1689) (i := 2) (by rfl) (by rfl) dL_law_1688 rfl ?_
  refine wg_aloadX_n (n := 2) (pc' := 1690) (i := 0) (by rfl) (by decide) (by rfl) dL_law_1689 rfl ?_
  refine wg_iload (pc' := 1692) (by rfl) dL_law_1690 rfl ?_
  refine wg_iconst (pc' := 1693) (by decide) dL_law_1692 rfl ?_
  refine wg_iadd (pc' := 1694) dL_law_1693 rfl ?_
  rw [w32_id (show gi32 (i + 1) from ⟨by omega, by omega⟩)]
  refine wg_sld (pc' := 1695) (xs := xs) rfl (by omega) (by omega) dL_law_1694 rfl (fun g_1694 => ?_)
  refine wg_callV (mc' := 0) (ms' := 0) (pc' := 1698) (av := [gI (xs.getD (i + 1).toNat 0)]) mi_mX12_count lk_L_167 rfl ci_X12 kd_133 rfl (Nat.le_of_ble_eq_true rfl) (by decide) dL_law_1695 rfl (hM σ1 hJ) (fun v L9 σ2 q9 => ?_)
  obtain ⟨rfl, rfl, hg2, hI2⟩ := q9
  show gWp _ _ _ _ _ _ _ _ [gX 2, gR 0, gR 133, gR 208, gI i, gX 1, gX 1, gX 1] [gI r, gI r]
  refine wg_icmp_eq (pc' := 1701) (t := 1703) dL_law_1698 rfl rfl (fun _ => ?_) (fun c => absurd rfl c)
  exact hend σ2 hg2 hI2 _ _ _
