/-! the law's loop -/
theorem INV.o {M : List zE} (h : INV M) : ∃ fs, M[0]? = some (.inr (6, fs)) := by
  obtain ⟨sv, s, G, hF, hC⟩ := h
  exact ⟨_, hC.1⟩
theorem lg_self (a : Int64) : lg_cmp a a = 0 := by unfold lg_cmp; simp
def lwL (i : Nat) : List (Option Value) := [some (.ref 1000000), some (.ref 0), some (.ref 123), some (.int (nI i))]
set_option maxHeartbeats 4000000 in
theorem law_c0 {Γ : zCtx} {M : List zE} {L i : Nat} {nm : String} {xs : Nat → Int32} (hs : (zScr Γ).2 = (L, xs)) (hL : L ≤ 2048) (hi : i + 4 ≤ L) (h : INV M) (hM : M.length = 167) (hk : ∀ M2, INV M2 → M2.length = 167 → Z Γ room_1 (mLaw nm) lwP 167 8548 1302 (lwL i) [] M2) : Z Γ room_1 (mLaw nm) lwP 167 8548 204 (lwL i) [] M := by
  obtain ⟨fs, h0⟩ := h.o
  refine Z_aload_n d_law_204 rfl ?_
  refine Z_aload_n d_law_205 rfl ?_
  refine Z_iload_n d_law_206 rfl ?_
  refine Zn_iconst (nI 1) d_law_207 (by decide) ?_
  refine Zn_iadd d_law_208 ?_
  refine Zs_ld (j := i + 1) d_law_209 hs (by omega) hL ?_
  refine Z_aload_n d_law_210 rfl ?_
  refine Z_iload_n d_law_211 rfl ?_
  refine Zn_iconst (nI 2) d_law_212 (by decide) ?_
  refine Zn_iadd d_law_213 ?_
  refine Zs_ld (j := i + 2) d_law_214 hs (by omega) hL ?_
  refine Z_callV (As := [.int (xs (i + 1)), .int (xs (i + 2))]) d_law_215 lm_law_13 h0 rfl (k_addProvision 0 h (xs (i + 1)) (xs (i + 2))) (Nat.le_of_ble_eq_true rfl) (Nat.le_of_ble_eq_true rfl) (Nat.le_of_ble_eq_true rfl) (Nat.le_of_ble_eq_true rfl) (Nat.le_of_ble_eq_true rfl) (fun M1 v hq hl1 => ?_)
  obtain ⟨a, rfl, ⟨s1, h1⟩, hz⟩ := hq
  have hl1 : M1.length = M.length := hl1
  refine Z_aload_n d_law_218 rfl ?_
  refine Z_aload_n d_law_219 rfl ?_
  refine Z_iload_n d_law_220 rfl ?_
  refine Zn_iconst (nI 1) d_law_221 (by decide) ?_
  refine Zn_iadd d_law_222 ?_
  refine Zs_ld (j := i + 1) d_law_223 hs (by omega) hL ?_
  refine Z_aload_n d_law_224 rfl ?_
  refine Z_iload_n d_law_225 rfl ?_
  refine Zn_iconst (nI 2) d_law_226 (by decide) ?_
  refine Zn_iadd d_law_227 ?_
  refine Zs_ld (j := i + 2) d_law_228 hs (by omega) hL ?_
  refine Z_callV (As := [.int (xs (i + 1)), .int (xs (i + 2))]) d_law_229 lm_law_17 h1 rfl hz (Nat.le_of_ble_eq_true rfl) (Nat.le_of_ble_eq_true rfl) (Nat.le_of_ble_eq_true rfl) (Nat.le_of_ble_eq_true rfl) (Nat.le_of_ble_eq_true rfl) (fun M2 v2 hq hl2 => ?_)
  obtain ⟨rfl, hI⟩ := hq
  have hl2 : M2.length = M1.length := hl2
  refine Z_icmp_eq (tgt := 1302) d_law_232 (by decide) (fun _ => ?_) (fun h => absurd rfl h)
  exact hk M2 hI (by omega)
set_option maxHeartbeats 4000000 in
theorem law_c1 {Γ : zCtx} {M : List zE} {L i : Nat} {nm : String} {xs : Nat → Int32} (hs : (zScr Γ).2 = (L, xs)) (hL : L ≤ 2048) (hi : i + 4 ≤ L) (h : INV M) (hM : M.length = 167) (hk : ∀ M2, INV M2 → M2.length = 167 → Z Γ room_1 (mLaw nm) lwP 167 8548 1302 (lwL i) [] M2) : Z Γ room_1 (mLaw nm) lwP 167 8548 237 (lwL i) [] M := by
  obtain ⟨fs, h0⟩ := h.o
  refine Z_aload_n d_law_237 rfl ?_
  refine Z_aload_n d_law_238 rfl ?_
  refine Z_iload_n d_law_239 rfl ?_
  refine Zn_iconst (nI 1) d_law_240 (by decide) ?_
  refine Zn_iadd d_law_241 ?_
  refine Zs_ld (j := i + 1) d_law_242 hs (by omega) hL ?_
  refine Z_aload_n d_law_243 rfl ?_
  refine Z_iload_n d_law_244 rfl ?_
  refine Zn_iconst (nI 2) d_law_245 (by decide) ?_
  refine Zn_iadd d_law_246 ?_
  refine Zs_ld (j := i + 2) d_law_247 hs (by omega) hL ?_
  refine Z_callV (As := [.int (xs (i + 1)), .int (xs (i + 2))]) d_law_248 lm_law_18 h0 rfl (k_insertProvision 0 h (xs (i + 1)) (xs (i + 2))) (Nat.le_of_ble_eq_true rfl) (Nat.le_of_ble_eq_true rfl) (Nat.le_of_ble_eq_true rfl) (Nat.le_of_ble_eq_true rfl) (Nat.le_of_ble_eq_true rfl) (fun M1 v hq hl1 => ?_)
  obtain ⟨a, rfl, ⟨s1, h1⟩, hz⟩ := hq
  have hl1 : M1.length = M.length := hl1
  refine Z_aload_n d_law_251 rfl ?_
  refine Z_aload_n d_law_252 rfl ?_
  refine Z_iload_n d_law_253 rfl ?_
  refine Zn_iconst (nI 1) d_law_254 (by decide) ?_
  refine Zn_iadd d_law_255 ?_
  refine Zs_ld (j := i + 1) d_law_256 hs (by omega) hL ?_
  refine Z_aload_n d_law_257 rfl ?_
  refine Z_iload_n d_law_258 rfl ?_
  refine Zn_iconst (nI 2) d_law_259 (by decide) ?_
  refine Zn_iadd d_law_260 ?_
  refine Zs_ld (j := i + 2) d_law_261 hs (by omega) hL ?_
  refine Z_callV (As := [.int (xs (i + 1)), .int (xs (i + 2))]) d_law_262 lm_law_21 h1 rfl hz (Nat.le_of_ble_eq_true rfl) (Nat.le_of_ble_eq_true rfl) (Nat.le_of_ble_eq_true rfl) (Nat.le_of_ble_eq_true rfl) (Nat.le_of_ble_eq_true rfl) (fun M2 v2 hq hl2 => ?_)
  obtain ⟨rfl, hI⟩ := hq
  have hl2 : M2.length = M1.length := hl2
  refine Z_icmp_eq (tgt := 1302) d_law_265 (by decide) (fun _ => ?_) (fun h => absurd rfl h)
  exact hk M2 hI (by omega)
set_option maxHeartbeats 4000000 in
theorem law_c2 {Γ : zCtx} {M : List zE} {L i : Nat} {nm : String} {xs : Nat → Int32} (hs : (zScr Γ).2 = (L, xs)) (hL : L ≤ 2048) (hi : i + 4 ≤ L) (h : INV M) (hM : M.length = 167) (hk : ∀ M2, INV M2 → M2.length = 167 → Z Γ room_1 (mLaw nm) lwP 167 8548 1302 (lwL i) [] M2) : Z Γ room_1 (mLaw nm) lwP 167 8548 270 (lwL i) [] M := by
  obtain ⟨fs, h0⟩ := h.o
  refine Z_aload_n d_law_270 rfl ?_
  refine Z_aload_n d_law_271 rfl ?_
  refine Z_iload_n d_law_272 rfl ?_
  refine Zn_iconst (nI 1) d_law_273 (by decide) ?_
  refine Zn_iadd d_law_274 ?_
  refine Zs_ld (j := i + 1) d_law_275 hs (by omega) hL ?_
  refine Z_aload_n d_law_276 rfl ?_
  refine Z_iload_n d_law_277 rfl ?_
  refine Zn_iconst (nI 2) d_law_278 (by decide) ?_
  refine Zn_iadd d_law_279 ?_
  refine Zs_ld (j := i + 2) d_law_280 hs (by omega) hL ?_
  refine Z_callV (As := [.int (xs (i + 1)), .int (xs (i + 2))]) d_law_281 lm_law_22 h0 rfl (k_setText 0 h (xs (i + 1)) (xs (i + 2))) (Nat.le_of_ble_eq_true rfl) (Nat.le_of_ble_eq_true rfl) (Nat.le_of_ble_eq_true rfl) (Nat.le_of_ble_eq_true rfl) (Nat.le_of_ble_eq_true rfl) (fun M1 v hq hl1 => ?_)
  obtain ⟨a, rfl, ⟨s1, h1⟩, hz⟩ := hq
  have hl1 : M1.length = M.length := hl1
  refine Z_aload_n d_law_284 rfl ?_
  refine Z_aload_n d_law_285 rfl ?_
  refine Z_iload_n d_law_286 rfl ?_
  refine Zn_iconst (nI 1) d_law_287 (by decide) ?_
  refine Zn_iadd d_law_288 ?_
  refine Zs_ld (j := i + 1) d_law_289 hs (by omega) hL ?_
  refine Z_aload_n d_law_290 rfl ?_
  refine Z_iload_n d_law_291 rfl ?_
  refine Zn_iconst (nI 2) d_law_292 (by decide) ?_
  refine Zn_iadd d_law_293 ?_
  refine Zs_ld (j := i + 2) d_law_294 hs (by omega) hL ?_
  refine Z_callV (As := [.int (xs (i + 1)), .int (xs (i + 2))]) d_law_295 lm_law_25 h1 rfl hz (Nat.le_of_ble_eq_true rfl) (Nat.le_of_ble_eq_true rfl) (Nat.le_of_ble_eq_true rfl) (Nat.le_of_ble_eq_true rfl) (Nat.le_of_ble_eq_true rfl) (fun M2 v2 hq hl2 => ?_)
  obtain ⟨rfl, hI⟩ := hq
  have hl2 : M2.length = M1.length := hl2
  refine Z_icmp_eq (tgt := 1302) d_law_298 (by decide) (fun _ => ?_) (fun h => absurd rfl h)
  exact hk M2 hI (by omega)
set_option maxHeartbeats 4000000 in
theorem law_c3 {Γ : zCtx} {M : List zE} {L i : Nat} {nm : String} {xs : Nat → Int32} (hs : (zScr Γ).2 = (L, xs)) (hL : L ≤ 2048) (hi : i + 4 ≤ L) (h : INV M) (hM : M.length = 167) (hk : ∀ M2, INV M2 → M2.length = 167 → Z Γ room_1 (mLaw nm) lwP 167 8548 1302 (lwL i) [] M2) : Z Γ room_1 (mLaw nm) lwP 167 8548 303 (lwL i) [] M := by
  obtain ⟨fs, h0⟩ := h.o
  refine Z_aload_n d_law_303 rfl ?_
  refine Z_aload_n d_law_304 rfl ?_
  refine Z_iload_n d_law_305 rfl ?_
  refine Zn_iconst (nI 1) d_law_306 (by decide) ?_
  refine Zn_iadd d_law_307 ?_
  refine Zs_ld (j := i + 1) d_law_308 hs (by omega) hL ?_
  refine Z_aload_n d_law_309 rfl ?_
  refine Z_iload_n d_law_310 rfl ?_
  refine Zn_iconst (nI 2) d_law_311 (by decide) ?_
  refine Zn_iadd d_law_312 ?_
  refine Zs_ld (j := i + 2) d_law_313 hs (by omega) hL ?_
  refine Z_callV (As := [.int (xs (i + 1)), .int (xs (i + 2))]) d_law_314 lm_law_26 h0 rfl (k_addReference 0 h (xs (i + 1)) (xs (i + 2))) (Nat.le_of_ble_eq_true rfl) (Nat.le_of_ble_eq_true rfl) (Nat.le_of_ble_eq_true rfl) (Nat.le_of_ble_eq_true rfl) (Nat.le_of_ble_eq_true rfl) (fun M1 v hq hl1 => ?_)
  obtain ⟨a, rfl, ⟨s1, h1⟩, hz⟩ := hq
  have hl1 : M1.length = M.length := hl1
  refine Z_aload_n d_law_317 rfl ?_
  refine Z_aload_n d_law_318 rfl ?_
  refine Z_iload_n d_law_319 rfl ?_
  refine Zn_iconst (nI 1) d_law_320 (by decide) ?_
  refine Zn_iadd d_law_321 ?_
  refine Zs_ld (j := i + 1) d_law_322 hs (by omega) hL ?_
  refine Z_aload_n d_law_323 rfl ?_
  refine Z_iload_n d_law_324 rfl ?_
  refine Zn_iconst (nI 2) d_law_325 (by decide) ?_
  refine Zn_iadd d_law_326 ?_
  refine Zs_ld (j := i + 2) d_law_327 hs (by omega) hL ?_
  refine Z_callV (As := [.int (xs (i + 1)), .int (xs (i + 2))]) d_law_328 lm_law_29 h1 rfl hz (Nat.le_of_ble_eq_true rfl) (Nat.le_of_ble_eq_true rfl) (Nat.le_of_ble_eq_true rfl) (Nat.le_of_ble_eq_true rfl) (Nat.le_of_ble_eq_true rfl) (fun M2 v2 hq hl2 => ?_)
  obtain ⟨rfl, hI⟩ := hq
  have hl2 : M2.length = M1.length := hl2
  refine Z_icmp_eq (tgt := 1302) d_law_331 (by decide) (fun _ => ?_) (fun h => absurd rfl h)
  exact hk M2 hI (by omega)
set_option maxHeartbeats 4000000 in
theorem law_c4 {Γ : zCtx} {M : List zE} {L i : Nat} {nm : String} {xs : Nat → Int32} (hs : (zScr Γ).2 = (L, xs)) (hL : L ≤ 2048) (hi : i + 4 ≤ L) (h : INV M) (hM : M.length = 167) (hk : ∀ M2, INV M2 → M2.length = 167 → Z Γ room_1 (mLaw nm) lwP 167 8548 1302 (lwL i) [] M2) : Z Γ room_1 (mLaw nm) lwP 167 8548 336 (lwL i) [] M := by
  obtain ⟨fs, h0⟩ := h.o
  refine Z_aload_n d_law_336 rfl ?_
  refine Z_callV (As := []) d_law_337 lm_law_30 h0 rfl (k_clear 0 h ) (Nat.le_of_ble_eq_true rfl) (Nat.le_of_ble_eq_true rfl) (Nat.le_of_ble_eq_true rfl) (Nat.le_of_ble_eq_true rfl) (Nat.le_of_ble_eq_true rfl) (fun M1 v hq hl1 => ?_)
  obtain ⟨a, rfl, ⟨s1, h1⟩, hz⟩ := hq
  have hl1 : M1.length = M.length := hl1
  refine Z_aload_n d_law_340 rfl ?_
  refine Z_callV (As := []) d_law_341 lm_law_34 h1 rfl hz (Nat.le_of_ble_eq_true rfl) (Nat.le_of_ble_eq_true rfl) (Nat.le_of_ble_eq_true rfl) (Nat.le_of_ble_eq_true rfl) (Nat.le_of_ble_eq_true rfl) (fun M2 v2 hq hl2 => ?_)
  obtain ⟨rfl, hI⟩ := hq
  have hl2 : M2.length = M1.length := hl2
  refine Z_icmp_eq (tgt := 1302) d_law_344 (by decide) (fun _ => ?_) (fun h => absurd rfl h)
  exact hk M2 hI (by omega)
set_option maxHeartbeats 4000000 in
theorem law_c5 {Γ : zCtx} {M : List zE} {L i : Nat} {nm : String} {xs : Nat → Int32} (hs : (zScr Γ).2 = (L, xs)) (hL : L ≤ 2048) (hi : i + 4 ≤ L) (h : INV M) (hM : M.length = 167) (hk : ∀ M2, INV M2 → M2.length = 167 → Z Γ room_1 (mLaw nm) lwP 167 8548 1302 (lwL i) [] M2) : Z Γ room_1 (mLaw nm) lwP 167 8548 349 (lwL i) [] M := by
  obtain ⟨fs, h0⟩ := h.o
  refine Z_aload_n d_law_349 rfl ?_
  refine Z_callV (As := []) d_law_350 lm_law_35 h0 rfl (k_originalCount 0 h ) (Nat.le_of_ble_eq_true rfl) (Nat.le_of_ble_eq_true rfl) (Nat.le_of_ble_eq_true rfl) (Nat.le_of_ble_eq_true rfl) (Nat.le_of_ble_eq_true rfl) (fun M1 v hq hl1 => ?_)
  obtain ⟨a, rfl, ⟨s1, h1⟩, hz⟩ := hq
  have hl1 : M1.length = M.length := hl1
  refine Z_aload_n d_law_353 rfl ?_
  refine Z_callV (As := []) d_law_354 lm_law_38 h1 rfl hz (Nat.le_of_ble_eq_true rfl) (Nat.le_of_ble_eq_true rfl) (Nat.le_of_ble_eq_true rfl) (Nat.le_of_ble_eq_true rfl) (Nat.le_of_ble_eq_true rfl) (fun M2 v2 hq hl2 => ?_)
  obtain ⟨rfl, hI⟩ := hq
  have hl2 : M2.length = M1.length := hl2
  refine Z_icmp_eq (tgt := 1302) d_law_357 (by decide) (fun _ => ?_) (fun h => absurd rfl h)
  exact hk M2 hI (by omega)
set_option maxHeartbeats 4000000 in
theorem law_c6 {Γ : zCtx} {M : List zE} {L i : Nat} {nm : String} {xs : Nat → Int32} (hs : (zScr Γ).2 = (L, xs)) (hL : L ≤ 2048) (hi : i + 4 ≤ L) (h : INV M) (hM : M.length = 167) (hk : ∀ M2, INV M2 → M2.length = 167 → Z Γ room_1 (mLaw nm) lwP 167 8548 1302 (lwL i) [] M2) : Z Γ room_1 (mLaw nm) lwP 167 8548 362 (lwL i) [] M := by
  obtain ⟨fs, h0⟩ := h.o
  refine Z_aload_n d_law_362 rfl ?_
  refine Z_aload_n d_law_363 rfl ?_
  refine Z_iload_n d_law_364 rfl ?_
  refine Zn_iconst (nI 1) d_law_365 (by decide) ?_
  refine Zn_iadd d_law_366 ?_
  refine Zs_ld (j := i + 1) d_law_367 hs (by omega) hL ?_
  refine Z_callV (As := [.int (xs (i + 1))]) d_law_368 lm_law_39 h0 rfl (k_appendCharacter 0 h (xs (i + 1))) (Nat.le_of_ble_eq_true rfl) (Nat.le_of_ble_eq_true rfl) (Nat.le_of_ble_eq_true rfl) (Nat.le_of_ble_eq_true rfl) (Nat.le_of_ble_eq_true rfl) (fun M1 v hq hl1 => ?_)
  obtain ⟨a, rfl, ⟨s1, h1⟩, hz⟩ := hq
  have hl1 : M1.length = M.length := hl1
  refine Z_aload_n d_law_371 rfl ?_
  refine Z_aload_n d_law_372 rfl ?_
  refine Z_iload_n d_law_373 rfl ?_
  refine Zn_iconst (nI 1) d_law_374 (by decide) ?_
  refine Zn_iadd d_law_375 ?_
  refine Zs_ld (j := i + 1) d_law_376 hs (by omega) hL ?_
  refine Z_callV (As := [.int (xs (i + 1))]) d_law_377 lm_law_43 h1 rfl hz (Nat.le_of_ble_eq_true rfl) (Nat.le_of_ble_eq_true rfl) (Nat.le_of_ble_eq_true rfl) (Nat.le_of_ble_eq_true rfl) (Nat.le_of_ble_eq_true rfl) (fun M2 v2 hq hl2 => ?_)
  obtain ⟨rfl, hI⟩ := hq
  have hl2 : M2.length = M1.length := hl2
  refine Z_icmp_eq (tgt := 1302) d_law_380 (by decide) (fun _ => ?_) (fun h => absurd rfl h)
  exact hk M2 hI (by omega)
set_option maxHeartbeats 4000000 in
theorem law_c7 {Γ : zCtx} {M : List zE} {L i : Nat} {nm : String} {xs : Nat → Int32} (hs : (zScr Γ).2 = (L, xs)) (hL : L ≤ 2048) (hi : i + 4 ≤ L) (h : INV M) (hM : M.length = 167) (hk : ∀ M2, INV M2 → M2.length = 167 → Z Γ room_1 (mLaw nm) lwP 167 8548 1302 (lwL i) [] M2) : Z Γ room_1 (mLaw nm) lwP 167 8548 385 (lwL i) [] M := by
  obtain ⟨fs, h0⟩ := h.o
  refine Z_aload_n d_law_385 rfl ?_
  refine Z_callV (As := []) d_law_386 lm_law_44 h0 rfl (k_clearInput 0 h ) (Nat.le_of_ble_eq_true rfl) (Nat.le_of_ble_eq_true rfl) (Nat.le_of_ble_eq_true rfl) (Nat.le_of_ble_eq_true rfl) (Nat.le_of_ble_eq_true rfl) (fun M1 v hq hl1 => ?_)
  obtain ⟨a, rfl, ⟨s1, h1⟩, hz⟩ := hq
  have hl1 : M1.length = M.length := hl1
  refine Z_aload_n d_law_389 rfl ?_
  refine Z_callV (As := []) d_law_390 lm_law_47 h1 rfl hz (Nat.le_of_ble_eq_true rfl) (Nat.le_of_ble_eq_true rfl) (Nat.le_of_ble_eq_true rfl) (Nat.le_of_ble_eq_true rfl) (Nat.le_of_ble_eq_true rfl) (fun M2 v2 hq hl2 => ?_)
  obtain ⟨rfl, hI⟩ := hq
  have hl2 : M2.length = M1.length := hl2
  refine Z_icmp_eq (tgt := 1302) d_law_393 (by decide) (fun _ => ?_) (fun h => absurd rfl h)
  exact hk M2 hI (by omega)
set_option maxHeartbeats 4000000 in
theorem law_c8 {Γ : zCtx} {M : List zE} {L i : Nat} {nm : String} {xs : Nat → Int32} (hs : (zScr Γ).2 = (L, xs)) (hL : L ≤ 2048) (hi : i + 4 ≤ L) (h : INV M) (hM : M.length = 167) (hk : ∀ M2, INV M2 → M2.length = 167 → Z Γ room_1 (mLaw nm) lwP 167 8548 1302 (lwL i) [] M2) : Z Γ room_1 (mLaw nm) lwP 167 8548 398 (lwL i) [] M := by
  obtain ⟨fs, h0⟩ := h.o
  refine Z_aload_n d_law_398 rfl ?_
  refine Z_aload_n d_law_399 rfl ?_
  refine Z_iload_n d_law_400 rfl ?_
  refine Zn_iconst (nI 1) d_law_401 (by decide) ?_
  refine Zn_iadd d_law_402 ?_
  refine Zs_ld (j := i + 1) d_law_403 hs (by omega) hL ?_
  refine Z_callV (As := [.int (xs (i + 1))]) d_law_404 lm_law_48 h0 rfl (k_addAmendment 0 h (xs (i + 1))) (Nat.le_of_ble_eq_true rfl) (Nat.le_of_ble_eq_true rfl) (Nat.le_of_ble_eq_true rfl) (Nat.le_of_ble_eq_true rfl) (Nat.le_of_ble_eq_true rfl) (fun M1 v hq hl1 => ?_)
  obtain ⟨a, rfl, ⟨s1, h1⟩, hz⟩ := hq
  have hl1 : M1.length = M.length := hl1
  refine Z_aload_n d_law_407 rfl ?_
  refine Z_aload_n d_law_408 rfl ?_
  refine Z_iload_n d_law_409 rfl ?_
  refine Zn_iconst (nI 1) d_law_410 (by decide) ?_
  refine Zn_iadd d_law_411 ?_
  refine Zs_ld (j := i + 1) d_law_412 hs (by omega) hL ?_
  refine Z_callV (As := [.int (xs (i + 1))]) d_law_413 lm_law_51 h1 rfl hz (Nat.le_of_ble_eq_true rfl) (Nat.le_of_ble_eq_true rfl) (Nat.le_of_ble_eq_true rfl) (Nat.le_of_ble_eq_true rfl) (Nat.le_of_ble_eq_true rfl) (fun M2 v2 hq hl2 => ?_)
  obtain ⟨rfl, hI⟩ := hq
  have hl2 : M2.length = M1.length := hl2
  refine Z_icmp_eq (tgt := 1302) d_law_416 (by decide) (fun _ => ?_) (fun h => absurd rfl h)
  exact hk M2 hI (by omega)
set_option maxHeartbeats 4000000 in
theorem law_c9 {Γ : zCtx} {M : List zE} {L i : Nat} {nm : String} {xs : Nat → Int32} (hs : (zScr Γ).2 = (L, xs)) (hL : L ≤ 2048) (hi : i + 4 ≤ L) (h : INV M) (hM : M.length = 167) (hk : ∀ M2, INV M2 → M2.length = 167 → Z Γ room_1 (mLaw nm) lwP 167 8548 1302 (lwL i) [] M2) : Z Γ room_1 (mLaw nm) lwP 167 8548 421 (lwL i) [] M := by
  obtain ⟨fs, h0⟩ := h.o
  refine Z_aload_n d_law_421 rfl ?_
  refine Z_callV (As := []) d_law_422 lm_law_52 h0 rfl (k_amendmentCount 0 h ) (Nat.le_of_ble_eq_true rfl) (Nat.le_of_ble_eq_true rfl) (Nat.le_of_ble_eq_true rfl) (Nat.le_of_ble_eq_true rfl) (Nat.le_of_ble_eq_true rfl) (fun M1 v hq hl1 => ?_)
  obtain ⟨a, rfl, ⟨s1, h1⟩, hz⟩ := hq
  have hl1 : M1.length = M.length := hl1
  refine Z_aload_n d_law_425 rfl ?_
  refine Z_callV (As := []) d_law_426 lm_law_55 h1 rfl hz (Nat.le_of_ble_eq_true rfl) (Nat.le_of_ble_eq_true rfl) (Nat.le_of_ble_eq_true rfl) (Nat.le_of_ble_eq_true rfl) (Nat.le_of_ble_eq_true rfl) (fun M2 v2 hq hl2 => ?_)
  obtain ⟨rfl, hI⟩ := hq
  have hl2 : M2.length = M1.length := hl2
  refine Z_icmp_eq (tgt := 1302) d_law_429 (by decide) (fun _ => ?_) (fun h => absurd rfl h)
  exact hk M2 hI (by omega)
set_option maxHeartbeats 4000000 in
theorem law_c10 {Γ : zCtx} {M : List zE} {L i : Nat} {nm : String} {xs : Nat → Int32} (hs : (zScr Γ).2 = (L, xs)) (hL : L ≤ 2048) (hi : i + 4 ≤ L) (h : INV M) (hM : M.length = 167) (hk : ∀ M2, INV M2 → M2.length = 167 → Z Γ room_1 (mLaw nm) lwP 167 8548 1302 (lwL i) [] M2) : Z Γ room_1 (mLaw nm) lwP 167 8548 434 (lwL i) [] M := by
  obtain ⟨fs, h0⟩ := h.o
  refine Z_aload_n d_law_434 rfl ?_
  refine Z_aload_n d_law_435 rfl ?_
  refine Z_iload_n d_law_436 rfl ?_
  refine Zn_iconst (nI 1) d_law_437 (by decide) ?_
  refine Zn_iadd d_law_438 ?_
  refine Zs_ld (j := i + 1) d_law_439 hs (by omega) hL ?_
  refine Z_callV (As := [.int (xs (i + 1))]) d_law_440 lm_law_56 h0 rfl (k_instructionCount 0 h (xs (i + 1))) (Nat.le_of_ble_eq_true rfl) (Nat.le_of_ble_eq_true rfl) (Nat.le_of_ble_eq_true rfl) (Nat.le_of_ble_eq_true rfl) (Nat.le_of_ble_eq_true rfl) (fun M1 v hq hl1 => ?_)
  obtain ⟨a, rfl, ⟨s1, h1⟩, hz⟩ := hq
  have hl1 : M1.length = M.length := hl1
  refine Z_aload_n d_law_443 rfl ?_
  refine Z_aload_n d_law_444 rfl ?_
  refine Z_iload_n d_law_445 rfl ?_
  refine Zn_iconst (nI 1) d_law_446 (by decide) ?_
  refine Zn_iadd d_law_447 ?_
  refine Zs_ld (j := i + 1) d_law_448 hs (by omega) hL ?_
  refine Z_callV (As := [.int (xs (i + 1))]) d_law_449 lm_law_59 h1 rfl hz (Nat.le_of_ble_eq_true rfl) (Nat.le_of_ble_eq_true rfl) (Nat.le_of_ble_eq_true rfl) (Nat.le_of_ble_eq_true rfl) (Nat.le_of_ble_eq_true rfl) (fun M2 v2 hq hl2 => ?_)
  obtain ⟨rfl, hI⟩ := hq
  have hl2 : M2.length = M1.length := hl2
  refine Z_icmp_eq (tgt := 1302) d_law_452 (by decide) (fun _ => ?_) (fun h => absurd rfl h)
  exact hk M2 hI (by omega)
set_option maxHeartbeats 4000000 in
theorem law_c11 {Γ : zCtx} {M : List zE} {L i : Nat} {nm : String} {xs : Nat → Int32} (hs : (zScr Γ).2 = (L, xs)) (hL : L ≤ 2048) (hi : i + 4 ≤ L) (h : INV M) (hM : M.length = 167) (hk : ∀ M2, INV M2 → M2.length = 167 → Z Γ room_1 (mLaw nm) lwP 167 8548 1302 (lwL i) [] M2) : Z Γ room_1 (mLaw nm) lwP 167 8548 457 (lwL i) [] M := by
  obtain ⟨fs, h0⟩ := h.o
  refine Z_aload_n d_law_457 rfl ?_
  refine Z_aload_n d_law_458 rfl ?_
  refine Z_iload_n d_law_459 rfl ?_
  refine Zn_iconst (nI 1) d_law_460 (by decide) ?_
  refine Zn_iadd d_law_461 ?_
  refine Zs_ld (j := i + 1) d_law_462 hs (by omega) hL ?_
  refine Z_aload_n d_law_463 rfl ?_
  refine Z_iload_n d_law_464 rfl ?_
  refine Zn_iconst (nI 2) d_law_465 (by decide) ?_
  refine Zn_iadd d_law_466 ?_
  refine Zs_ld (j := i + 2) d_law_467 hs (by omega) hL ?_
  refine Z_callV (As := [.int (xs (i + 1)), .int (xs (i + 2))]) d_law_468 lm_law_60 h0 rfl (k_setCommencement 0 h (xs (i + 1)) (xs (i + 2))) (Nat.le_of_ble_eq_true rfl) (Nat.le_of_ble_eq_true rfl) (Nat.le_of_ble_eq_true rfl) (Nat.le_of_ble_eq_true rfl) (Nat.le_of_ble_eq_true rfl) (fun M1 v hq hl1 => ?_)
  obtain ⟨a, rfl, ⟨s1, h1⟩, hz⟩ := hq
  have hl1 : M1.length = M.length := hl1
  refine Z_aload_n d_law_471 rfl ?_
  refine Z_aload_n d_law_472 rfl ?_
  refine Z_iload_n d_law_473 rfl ?_
  refine Zn_iconst (nI 1) d_law_474 (by decide) ?_
  refine Zn_iadd d_law_475 ?_
  refine Zs_ld (j := i + 1) d_law_476 hs (by omega) hL ?_
  refine Z_aload_n d_law_477 rfl ?_
  refine Z_iload_n d_law_478 rfl ?_
  refine Zn_iconst (nI 2) d_law_479 (by decide) ?_
  refine Zn_iadd d_law_480 ?_
  refine Zs_ld (j := i + 2) d_law_481 hs (by omega) hL ?_
  refine Z_callV (As := [.int (xs (i + 1)), .int (xs (i + 2))]) d_law_482 lm_law_63 h1 rfl hz (Nat.le_of_ble_eq_true rfl) (Nat.le_of_ble_eq_true rfl) (Nat.le_of_ble_eq_true rfl) (Nat.le_of_ble_eq_true rfl) (Nat.le_of_ble_eq_true rfl) (fun M2 v2 hq hl2 => ?_)
  obtain ⟨rfl, hI⟩ := hq
  have hl2 : M2.length = M1.length := hl2
  refine Z_icmp_eq (tgt := 1302) d_law_485 (by decide) (fun _ => ?_) (fun h => absurd rfl h)
  exact hk M2 hI (by omega)
set_option maxHeartbeats 4000000 in
theorem law_c12 {Γ : zCtx} {M : List zE} {L i : Nat} {nm : String} {xs : Nat → Int32} (hs : (zScr Γ).2 = (L, xs)) (hL : L ≤ 2048) (hi : i + 4 ≤ L) (h : INV M) (hM : M.length = 167) (hk : ∀ M2, INV M2 → M2.length = 167 → Z Γ room_1 (mLaw nm) lwP 167 8548 1302 (lwL i) [] M2) : Z Γ room_1 (mLaw nm) lwP 167 8548 490 (lwL i) [] M := by
  obtain ⟨fs, h0⟩ := h.o
  refine Z_aload_n d_law_490 rfl ?_
  refine Z_callV (As := []) d_law_491 lm_law_64 h0 rfl (k_removeLastAmendment 0 h ) (Nat.le_of_ble_eq_true rfl) (Nat.le_of_ble_eq_true rfl) (Nat.le_of_ble_eq_true rfl) (Nat.le_of_ble_eq_true rfl) (Nat.le_of_ble_eq_true rfl) (fun M1 v hq hl1 => ?_)
  obtain ⟨a, rfl, ⟨s1, h1⟩, hz⟩ := hq
  have hl1 : M1.length = M.length := hl1
  refine Z_aload_n d_law_494 rfl ?_
  refine Z_callV (As := []) d_law_495 lm_law_67 h1 rfl hz (Nat.le_of_ble_eq_true rfl) (Nat.le_of_ble_eq_true rfl) (Nat.le_of_ble_eq_true rfl) (Nat.le_of_ble_eq_true rfl) (Nat.le_of_ble_eq_true rfl) (fun M2 v2 hq hl2 => ?_)
  obtain ⟨rfl, hI⟩ := hq
  have hl2 : M2.length = M1.length := hl2
  refine Z_icmp_eq (tgt := 1302) d_law_498 (by decide) (fun _ => ?_) (fun h => absurd rfl h)
  exact hk M2 hI (by omega)
set_option maxHeartbeats 4000000 in
theorem law_c13 {Γ : zCtx} {M : List zE} {L i : Nat} {nm : String} {xs : Nat → Int32} (hs : (zScr Γ).2 = (L, xs)) (hL : L ≤ 2048) (hi : i + 4 ≤ L) (h : INV M) (hM : M.length = 167) (hk : ∀ M2, INV M2 → M2.length = 167 → Z Γ room_1 (mLaw nm) lwP 167 8548 1302 (lwL i) [] M2) : Z Γ room_1 (mLaw nm) lwP 167 8548 503 (lwL i) [] M := by
  obtain ⟨fs, h0⟩ := h.o
  refine Z_aload_n d_law_503 rfl ?_
  refine Z_aload_n d_law_504 rfl ?_
  refine Z_iload_n d_law_505 rfl ?_
  refine Zn_iconst (nI 1) d_law_506 (by decide) ?_
  refine Zn_iadd d_law_507 ?_
  refine Zs_ld (j := i + 1) d_law_508 hs (by omega) hL ?_
  refine Z_callV (As := [.int (xs (i + 1))]) d_law_509 lm_law_68 h0 rfl (k_provisionCount 0 h (xs (i + 1))) (Nat.le_of_ble_eq_true rfl) (Nat.le_of_ble_eq_true rfl) (Nat.le_of_ble_eq_true rfl) (Nat.le_of_ble_eq_true rfl) (Nat.le_of_ble_eq_true rfl) (fun M1 v hq hl1 => ?_)
  obtain ⟨a, rfl, ⟨s1, h1⟩, hz⟩ := hq
  have hl1 : M1.length = M.length := hl1
  refine Z_aload_n d_law_512 rfl ?_
  refine Z_aload_n d_law_513 rfl ?_
  refine Z_iload_n d_law_514 rfl ?_
  refine Zn_iconst (nI 1) d_law_515 (by decide) ?_
  refine Zn_iadd d_law_516 ?_
  refine Zs_ld (j := i + 1) d_law_517 hs (by omega) hL ?_
  refine Z_callV (As := [.int (xs (i + 1))]) d_law_518 lm_law_71 h1 rfl hz (Nat.le_of_ble_eq_true rfl) (Nat.le_of_ble_eq_true rfl) (Nat.le_of_ble_eq_true rfl) (Nat.le_of_ble_eq_true rfl) (Nat.le_of_ble_eq_true rfl) (fun M2 v2 hq hl2 => ?_)
  obtain ⟨rfl, hI⟩ := hq
  have hl2 : M2.length = M1.length := hl2
  refine Z_icmp_eq (tgt := 1302) d_law_521 (by decide) (fun _ => ?_) (fun h => absurd rfl h)
  exact hk M2 hI (by omega)
set_option maxHeartbeats 4000000 in
theorem law_c14 {Γ : zCtx} {M : List zE} {L i : Nat} {nm : String} {xs : Nat → Int32} (hs : (zScr Γ).2 = (L, xs)) (hL : L ≤ 2048) (hi : i + 4 ≤ L) (h : INV M) (hM : M.length = 167) (hk : ∀ M2, INV M2 → M2.length = 167 → Z Γ room_1 (mLaw nm) lwP 167 8548 1302 (lwL i) [] M2) : Z Γ room_1 (mLaw nm) lwP 167 8548 526 (lwL i) [] M := by
  obtain ⟨fs, h0⟩ := h.o
  refine Z_aload_n d_law_526 rfl ?_
  refine Z_aload_n d_law_527 rfl ?_
  refine Z_iload_n d_law_528 rfl ?_
  refine Zn_iconst (nI 1) d_law_529 (by decide) ?_
  refine Zn_iadd d_law_530 ?_
  refine Zs_ld (j := i + 1) d_law_531 hs (by omega) hL ?_
  refine Z_aload_n d_law_532 rfl ?_
  refine Z_iload_n d_law_533 rfl ?_
  refine Zn_iconst (nI 2) d_law_534 (by decide) ?_
  refine Zn_iadd d_law_535 ?_
  refine Zs_ld (j := i + 2) d_law_536 hs (by omega) hL ?_
  refine Z_callV (As := [.int (xs (i + 1)), .int (xs (i + 2))]) d_law_537 lm_law_72 h0 rfl (k_levelAt 0 h (xs (i + 1)) (xs (i + 2))) (Nat.le_of_ble_eq_true rfl) (Nat.le_of_ble_eq_true rfl) (Nat.le_of_ble_eq_true rfl) (Nat.le_of_ble_eq_true rfl) (Nat.le_of_ble_eq_true rfl) (fun M1 v hq hl1 => ?_)
  obtain ⟨a, rfl, ⟨s1, h1⟩, hz⟩ := hq
  have hl1 : M1.length = M.length := hl1
  refine Z_aload_n d_law_540 rfl ?_
  refine Z_aload_n d_law_541 rfl ?_
  refine Z_iload_n d_law_542 rfl ?_
  refine Zn_iconst (nI 1) d_law_543 (by decide) ?_
  refine Zn_iadd d_law_544 ?_
  refine Zs_ld (j := i + 1) d_law_545 hs (by omega) hL ?_
  refine Z_aload_n d_law_546 rfl ?_
  refine Z_iload_n d_law_547 rfl ?_
  refine Zn_iconst (nI 2) d_law_548 (by decide) ?_
  refine Zn_iadd d_law_549 ?_
  refine Zs_ld (j := i + 2) d_law_550 hs (by omega) hL ?_
  refine Z_callV (As := [.int (xs (i + 1)), .int (xs (i + 2))]) d_law_551 lm_law_75 h1 rfl hz (Nat.le_of_ble_eq_true rfl) (Nat.le_of_ble_eq_true rfl) (Nat.le_of_ble_eq_true rfl) (Nat.le_of_ble_eq_true rfl) (Nat.le_of_ble_eq_true rfl) (fun M2 v2 hq hl2 => ?_)
  obtain ⟨rfl, hI⟩ := hq
  have hl2 : M2.length = M1.length := hl2
  refine Z_icmp_eq (tgt := 1302) d_law_554 (by decide) (fun _ => ?_) (fun h => absurd rfl h)
  exact hk M2 hI (by omega)
set_option maxHeartbeats 4000000 in
theorem law_c15 {Γ : zCtx} {M : List zE} {L i : Nat} {nm : String} {xs : Nat → Int32} (hs : (zScr Γ).2 = (L, xs)) (hL : L ≤ 2048) (hi : i + 4 ≤ L) (h : INV M) (hM : M.length = 167) (hk : ∀ M2, INV M2 → M2.length = 167 → Z Γ room_1 (mLaw nm) lwP 167 8548 1302 (lwL i) [] M2) : Z Γ room_1 (mLaw nm) lwP 167 8548 559 (lwL i) [] M := by
  obtain ⟨fs, h0⟩ := h.o
  refine Z_aload_n d_law_559 rfl ?_
  refine Z_aload_n d_law_560 rfl ?_
  refine Z_iload_n d_law_561 rfl ?_
  refine Zn_iconst (nI 1) d_law_562 (by decide) ?_
  refine Zn_iadd d_law_563 ?_
  refine Zs_ld (j := i + 1) d_law_564 hs (by omega) hL ?_
  refine Z_aload_n d_law_565 rfl ?_
  refine Z_iload_n d_law_566 rfl ?_
  refine Zn_iconst (nI 2) d_law_567 (by decide) ?_
  refine Zn_iadd d_law_568 ?_
  refine Zs_ld (j := i + 2) d_law_569 hs (by omega) hL ?_
  refine Z_callV (As := [.int (xs (i + 1)), .int (xs (i + 2))]) d_law_570 lm_law_76 h0 rfl (k_textAt 0 h (xs (i + 1)) (xs (i + 2))) (Nat.le_of_ble_eq_true rfl) (Nat.le_of_ble_eq_true rfl) (Nat.le_of_ble_eq_true rfl) (Nat.le_of_ble_eq_true rfl) (Nat.le_of_ble_eq_true rfl) (fun M1 v hq hl1 => ?_)
  obtain ⟨a, rfl, ⟨s1, h1⟩, hz⟩ := hq
  have hl1 : M1.length = M.length := hl1
  refine Z_aload_n d_law_573 rfl ?_
  refine Z_aload_n d_law_574 rfl ?_
  refine Z_iload_n d_law_575 rfl ?_
  refine Zn_iconst (nI 1) d_law_576 (by decide) ?_
  refine Zn_iadd d_law_577 ?_
  refine Zs_ld (j := i + 1) d_law_578 hs (by omega) hL ?_
  refine Z_aload_n d_law_579 rfl ?_
  refine Z_iload_n d_law_580 rfl ?_
  refine Zn_iconst (nI 2) d_law_581 (by decide) ?_
  refine Zn_iadd d_law_582 ?_
  refine Zs_ld (j := i + 2) d_law_583 hs (by omega) hL ?_
  refine Z_callV (As := [.int (xs (i + 1)), .int (xs (i + 2))]) d_law_584 lm_law_79 h1 rfl hz (Nat.le_of_ble_eq_true rfl) (Nat.le_of_ble_eq_true rfl) (Nat.le_of_ble_eq_true rfl) (Nat.le_of_ble_eq_true rfl) (Nat.le_of_ble_eq_true rfl) (fun M2 v2 hq hl2 => ?_)
  obtain ⟨rfl, hI⟩ := hq
  have hl2 : M2.length = M1.length := hl2
  refine Z_icmp_eq (tgt := 1302) d_law_587 (by decide) (fun _ => ?_) (fun h => absurd rfl h)
  exact hk M2 hI (by omega)
set_option maxHeartbeats 4000000 in
theorem law_c16 {Γ : zCtx} {M : List zE} {L i : Nat} {nm : String} {xs : Nat → Int32} (hs : (zScr Γ).2 = (L, xs)) (hL : L ≤ 2048) (hi : i + 4 ≤ L) (h : INV M) (hM : M.length = 167) (hk : ∀ M2, INV M2 → M2.length = 167 → Z Γ room_1 (mLaw nm) lwP 167 8548 1302 (lwL i) [] M2) : Z Γ room_1 (mLaw nm) lwP 167 8548 592 (lwL i) [] M := by
  obtain ⟨fs, h0⟩ := h.o
  refine Z_aload_n d_law_592 rfl ?_
  refine Z_aload_n d_law_593 rfl ?_
  refine Z_iload_n d_law_594 rfl ?_
  refine Zn_iconst (nI 1) d_law_595 (by decide) ?_
  refine Zn_iadd d_law_596 ?_
  refine Zs_ld (j := i + 1) d_law_597 hs (by omega) hL ?_
  refine Z_aload_n d_law_598 rfl ?_
  refine Z_iload_n d_law_599 rfl ?_
  refine Zn_iconst (nI 2) d_law_600 (by decide) ?_
  refine Zn_iadd d_law_601 ?_
  refine Zs_ld (j := i + 2) d_law_602 hs (by omega) hL ?_
  refine Z_callV (As := [.int (xs (i + 1)), .int (xs (i + 2))]) d_law_603 lm_law_80 h0 rfl (k_isRepealedAt 0 h (xs (i + 1)) (xs (i + 2))) (Nat.le_of_ble_eq_true rfl) (Nat.le_of_ble_eq_true rfl) (Nat.le_of_ble_eq_true rfl) (Nat.le_of_ble_eq_true rfl) (Nat.le_of_ble_eq_true rfl) (fun M1 v hq hl1 => ?_)
  obtain ⟨a, rfl, ⟨s1, h1⟩, hz⟩ := hq
  have hl1 : M1.length = M.length := hl1
  refine Z_aload_n d_law_606 rfl ?_
  refine Z_aload_n d_law_607 rfl ?_
  refine Z_iload_n d_law_608 rfl ?_
  refine Zn_iconst (nI 1) d_law_609 (by decide) ?_
  refine Zn_iadd d_law_610 ?_
  refine Zs_ld (j := i + 1) d_law_611 hs (by omega) hL ?_
  refine Z_aload_n d_law_612 rfl ?_
  refine Z_iload_n d_law_613 rfl ?_
  refine Zn_iconst (nI 2) d_law_614 (by decide) ?_
  refine Zn_iadd d_law_615 ?_
  refine Zs_ld (j := i + 2) d_law_616 hs (by omega) hL ?_
  refine Z_callV (As := [.int (xs (i + 1)), .int (xs (i + 2))]) d_law_617 lm_law_83 h1 rfl hz (Nat.le_of_ble_eq_true rfl) (Nat.le_of_ble_eq_true rfl) (Nat.le_of_ble_eq_true rfl) (Nat.le_of_ble_eq_true rfl) (Nat.le_of_ble_eq_true rfl) (fun M2 v2 hq hl2 => ?_)
  obtain ⟨rfl, hI⟩ := hq
  have hl2 : M2.length = M1.length := hl2
  refine Z_icmp_eq (tgt := 1302) d_law_620 (by decide) (fun _ => ?_) (fun h => absurd rfl h)
  exact hk M2 hI (by omega)
set_option maxHeartbeats 4000000 in
theorem law_c17 {Γ : zCtx} {M : List zE} {L i : Nat} {nm : String} {xs : Nat → Int32} (hs : (zScr Γ).2 = (L, xs)) (hL : L ≤ 2048) (hi : i + 4 ≤ L) (h : INV M) (hM : M.length = 167) (hk : ∀ M2, INV M2 → M2.length = 167 → Z Γ room_1 (mLaw nm) lwP 167 8548 1302 (lwL i) [] M2) : Z Γ room_1 (mLaw nm) lwP 167 8548 625 (lwL i) [] M := by
  obtain ⟨fs, h0⟩ := h.o
  refine Z_aload_n d_law_625 rfl ?_
  refine Z_aload_n d_law_626 rfl ?_
  refine Z_iload_n d_law_627 rfl ?_
  refine Zn_iconst (nI 1) d_law_628 (by decide) ?_
  refine Zn_iadd d_law_629 ?_
  refine Zs_ld (j := i + 1) d_law_630 hs (by omega) hL ?_
  refine Z_aload_n d_law_631 rfl ?_
  refine Z_iload_n d_law_632 rfl ?_
  refine Zn_iconst (nI 2) d_law_633 (by decide) ?_
  refine Zn_iadd d_law_634 ?_
  refine Zs_ld (j := i + 2) d_law_635 hs (by omega) hL ?_
  refine Z_callV (As := [.int (xs (i + 1)), .int (xs (i + 2))]) d_law_636 lm_law_84 h0 rfl (k_pathLengthAt 0 h (xs (i + 1)) (xs (i + 2))) (Nat.le_of_ble_eq_true rfl) (Nat.le_of_ble_eq_true rfl) (Nat.le_of_ble_eq_true rfl) (Nat.le_of_ble_eq_true rfl) (Nat.le_of_ble_eq_true rfl) (fun M1 v hq hl1 => ?_)
  obtain ⟨a, rfl, ⟨s1, h1⟩, hz⟩ := hq
  have hl1 : M1.length = M.length := hl1
  refine Z_aload_n d_law_639 rfl ?_
  refine Z_aload_n d_law_640 rfl ?_
  refine Z_iload_n d_law_641 rfl ?_
  refine Zn_iconst (nI 1) d_law_642 (by decide) ?_
  refine Zn_iadd d_law_643 ?_
  refine Zs_ld (j := i + 1) d_law_644 hs (by omega) hL ?_
  refine Z_aload_n d_law_645 rfl ?_
  refine Z_iload_n d_law_646 rfl ?_
  refine Zn_iconst (nI 2) d_law_647 (by decide) ?_
  refine Zn_iadd d_law_648 ?_
  refine Zs_ld (j := i + 2) d_law_649 hs (by omega) hL ?_
  refine Z_callV (As := [.int (xs (i + 1)), .int (xs (i + 2))]) d_law_650 lm_law_87 h1 rfl hz (Nat.le_of_ble_eq_true rfl) (Nat.le_of_ble_eq_true rfl) (Nat.le_of_ble_eq_true rfl) (Nat.le_of_ble_eq_true rfl) (Nat.le_of_ble_eq_true rfl) (fun M2 v2 hq hl2 => ?_)
  obtain ⟨rfl, hI⟩ := hq
  have hl2 : M2.length = M1.length := hl2
  refine Z_icmp_eq (tgt := 1302) d_law_653 (by decide) (fun _ => ?_) (fun h => absurd rfl h)
  exact hk M2 hI (by omega)
set_option maxHeartbeats 4000000 in
theorem law_c18 {Γ : zCtx} {M : List zE} {L i : Nat} {nm : String} {xs : Nat → Int32} (hs : (zScr Γ).2 = (L, xs)) (hL : L ≤ 2048) (hi : i + 4 ≤ L) (h : INV M) (hM : M.length = 167) (hk : ∀ M2, INV M2 → M2.length = 167 → Z Γ room_1 (mLaw nm) lwP 167 8548 1302 (lwL i) [] M2) : Z Γ room_1 (mLaw nm) lwP 167 8548 658 (lwL i) [] M := by
  obtain ⟨fs, h0⟩ := h.o
  refine Z_aload_n d_law_658 rfl ?_
  refine Z_aload_n d_law_659 rfl ?_
  refine Z_iload_n d_law_660 rfl ?_
  refine Zn_iconst (nI 1) d_law_661 (by decide) ?_
  refine Zn_iadd d_law_662 ?_
  refine Zs_ld (j := i + 1) d_law_663 hs (by omega) hL ?_
  refine Z_aload_n d_law_664 rfl ?_
  refine Z_iload_n d_law_665 rfl ?_
  refine Zn_iconst (nI 2) d_law_666 (by decide) ?_
  refine Zn_iadd d_law_667 ?_
  refine Zs_ld (j := i + 2) d_law_668 hs (by omega) hL ?_
  refine Z_aload_n d_law_669 rfl ?_
  refine Z_iload_n d_law_670 rfl ?_
  refine Zn_iconst (nI 3) d_law_671 (by decide) ?_
  refine Zn_iadd d_law_672 ?_
  refine Zs_ld (j := i + 3) d_law_673 hs (by omega) hL ?_
  refine Z_callV (As := [.int (xs (i + 1)), .int (xs (i + 2)), .int (xs (i + 3))]) d_law_674 lm_law_88 h0 rfl (k_pathCharacterAt 0 h (xs (i + 1)) (xs (i + 2)) (xs (i + 3))) (Nat.le_of_ble_eq_true rfl) (Nat.le_of_ble_eq_true rfl) (Nat.le_of_ble_eq_true rfl) (Nat.le_of_ble_eq_true rfl) (Nat.le_of_ble_eq_true rfl) (fun M1 v hq hl1 => ?_)
  obtain ⟨a, rfl, ⟨s1, h1⟩, hz⟩ := hq
  have hl1 : M1.length = M.length := hl1
  refine Z_aload_n d_law_677 rfl ?_
  refine Z_aload_n d_law_678 rfl ?_
  refine Z_iload_n d_law_679 rfl ?_
  refine Zn_iconst (nI 1) d_law_680 (by decide) ?_
  refine Zn_iadd d_law_681 ?_
  refine Zs_ld (j := i + 1) d_law_682 hs (by omega) hL ?_
  refine Z_aload_n d_law_683 rfl ?_
  refine Z_iload_n d_law_684 rfl ?_
  refine Zn_iconst (nI 2) d_law_685 (by decide) ?_
  refine Zn_iadd d_law_686 ?_
  refine Zs_ld (j := i + 2) d_law_687 hs (by omega) hL ?_
  refine Z_aload_n d_law_688 rfl ?_
  refine Z_iload_n d_law_689 rfl ?_
  refine Zn_iconst (nI 3) d_law_690 (by decide) ?_
  refine Zn_iadd d_law_691 ?_
  refine Zs_ld (j := i + 3) d_law_692 hs (by omega) hL ?_
  refine Z_callV (As := [.int (xs (i + 1)), .int (xs (i + 2)), .int (xs (i + 3))]) d_law_693 lm_law_92 h1 rfl hz (Nat.le_of_ble_eq_true rfl) (Nat.le_of_ble_eq_true rfl) (Nat.le_of_ble_eq_true rfl) (Nat.le_of_ble_eq_true rfl) (Nat.le_of_ble_eq_true rfl) (fun M2 v2 hq hl2 => ?_)
  obtain ⟨rfl, hI⟩ := hq
  have hl2 : M2.length = M1.length := hl2
  refine Z_icmp_eq (tgt := 1302) d_law_696 (by decide) (fun _ => ?_) (fun h => absurd rfl h)
  exact hk M2 hI (by omega)
set_option maxHeartbeats 4000000 in
theorem law_c19 {Γ : zCtx} {M : List zE} {L i : Nat} {nm : String} {xs : Nat → Int32} (hs : (zScr Γ).2 = (L, xs)) (hL : L ≤ 2048) (hi : i + 4 ≤ L) (h : INV M) (hM : M.length = 167) (hk : ∀ M2, INV M2 → M2.length = 167 → Z Γ room_1 (mLaw nm) lwP 167 8548 1302 (lwL i) [] M2) : Z Γ room_1 (mLaw nm) lwP 167 8548 701 (lwL i) [] M := by
  obtain ⟨fs, h0⟩ := h.o
  refine Z_aload_n d_law_701 rfl ?_
  refine Z_aload_n d_law_702 rfl ?_
  refine Z_iload_n d_law_703 rfl ?_
  refine Zn_iconst (nI 1) d_law_704 (by decide) ?_
  refine Zn_iadd d_law_705 ?_
  refine Zs_ld (j := i + 1) d_law_706 hs (by omega) hL ?_
  refine Z_aload_n d_law_707 rfl ?_
  refine Z_iload_n d_law_708 rfl ?_
  refine Zn_iconst (nI 2) d_law_709 (by decide) ?_
  refine Zn_iadd d_law_710 ?_
  refine Zs_ld (j := i + 2) d_law_711 hs (by omega) hL ?_
  refine Z_callV (As := [.int (xs (i + 1)), .int (xs (i + 2))]) d_law_712 lm_law_93 h0 rfl (k_originAt 0 h (xs (i + 1)) (xs (i + 2))) (Nat.le_of_ble_eq_true rfl) (Nat.le_of_ble_eq_true rfl) (Nat.le_of_ble_eq_true rfl) (Nat.le_of_ble_eq_true rfl) (Nat.le_of_ble_eq_true rfl) (fun M1 v hq hl1 => ?_)
  obtain ⟨a, rfl, ⟨s1, h1⟩, hz⟩ := hq
  have hl1 : M1.length = M.length := hl1
  refine Z_aload_n d_law_715 rfl ?_
  refine Z_aload_n d_law_716 rfl ?_
  refine Z_iload_n d_law_717 rfl ?_
  refine Zn_iconst (nI 1) d_law_718 (by decide) ?_
  refine Zn_iadd d_law_719 ?_
  refine Zs_ld (j := i + 1) d_law_720 hs (by omega) hL ?_
  refine Z_aload_n d_law_721 rfl ?_
  refine Z_iload_n d_law_722 rfl ?_
  refine Zn_iconst (nI 2) d_law_723 (by decide) ?_
  refine Zn_iadd d_law_724 ?_
  refine Zs_ld (j := i + 2) d_law_725 hs (by omega) hL ?_
  refine Z_callV (As := [.int (xs (i + 1)), .int (xs (i + 2))]) d_law_726 lm_law_96 h1 rfl hz (Nat.le_of_ble_eq_true rfl) (Nat.le_of_ble_eq_true rfl) (Nat.le_of_ble_eq_true rfl) (Nat.le_of_ble_eq_true rfl) (Nat.le_of_ble_eq_true rfl) (fun M2 v2 hq hl2 => ?_)
  obtain ⟨rfl, hI⟩ := hq
  have hl2 : M2.length = M1.length := hl2
  refine Z_icmp_eq (tgt := 1302) d_law_729 (by decide) (fun _ => ?_) (fun h => absurd rfl h)
  exact hk M2 hI (by omega)
set_option maxHeartbeats 4000000 in
theorem law_c20 {Γ : zCtx} {M : List zE} {L i : Nat} {nm : String} {xs : Nat → Int32} (hs : (zScr Γ).2 = (L, xs)) (hL : L ≤ 2048) (hi : i + 4 ≤ L) (h : INV M) (hM : M.length = 167) (hk : ∀ M2, INV M2 → M2.length = 167 → Z Γ room_1 (mLaw nm) lwP 167 8548 1302 (lwL i) [] M2) : Z Γ room_1 (mLaw nm) lwP 167 8548 734 (lwL i) [] M := by
  obtain ⟨fs, h0⟩ := h.o
  refine Z_aload_n d_law_734 rfl ?_
  refine Z_aload_n d_law_735 rfl ?_
  refine Z_iload_n d_law_736 rfl ?_
  refine Zn_iconst (nI 1) d_law_737 (by decide) ?_
  refine Zn_iadd d_law_738 ?_
  refine Zs_ld (j := i + 1) d_law_739 hs (by omega) hL ?_
  refine Z_aload_n d_law_740 rfl ?_
  refine Z_iload_n d_law_741 rfl ?_
  refine Zn_iconst (nI 2) d_law_742 (by decide) ?_
  refine Zn_iadd d_law_743 ?_
  refine Zs_ld (j := i + 2) d_law_744 hs (by omega) hL ?_
  refine Z_callV (As := [.int (xs (i + 1)), .int (xs (i + 2))]) d_law_745 lm_law_97 h0 rfl (k_creatorAt 0 h (xs (i + 1)) (xs (i + 2))) (Nat.le_of_ble_eq_true rfl) (Nat.le_of_ble_eq_true rfl) (Nat.le_of_ble_eq_true rfl) (Nat.le_of_ble_eq_true rfl) (Nat.le_of_ble_eq_true rfl) (fun M1 v hq hl1 => ?_)
  obtain ⟨a, rfl, ⟨s1, h1⟩, hz⟩ := hq
  have hl1 : M1.length = M.length := hl1
  refine Z_aload_n d_law_748 rfl ?_
  refine Z_aload_n d_law_749 rfl ?_
  refine Z_iload_n d_law_750 rfl ?_
  refine Zn_iconst (nI 1) d_law_751 (by decide) ?_
  refine Zn_iadd d_law_752 ?_
  refine Zs_ld (j := i + 1) d_law_753 hs (by omega) hL ?_
  refine Z_aload_n d_law_754 rfl ?_
  refine Z_iload_n d_law_755 rfl ?_
  refine Zn_iconst (nI 2) d_law_756 (by decide) ?_
  refine Zn_iadd d_law_757 ?_
  refine Zs_ld (j := i + 2) d_law_758 hs (by omega) hL ?_
  refine Z_callV (As := [.int (xs (i + 1)), .int (xs (i + 2))]) d_law_759 lm_law_100 h1 rfl hz (Nat.le_of_ble_eq_true rfl) (Nat.le_of_ble_eq_true rfl) (Nat.le_of_ble_eq_true rfl) (Nat.le_of_ble_eq_true rfl) (Nat.le_of_ble_eq_true rfl) (fun M2 v2 hq hl2 => ?_)
  obtain ⟨rfl, hI⟩ := hq
  have hl2 : M2.length = M1.length := hl2
  refine Z_icmp_eq (tgt := 1302) d_law_762 (by decide) (fun _ => ?_) (fun h => absurd rfl h)
  exact hk M2 hI (by omega)
set_option maxHeartbeats 4000000 in
theorem law_c21 {Γ : zCtx} {M : List zE} {L i : Nat} {nm : String} {xs : Nat → Int32} (hs : (zScr Γ).2 = (L, xs)) (hL : L ≤ 2048) (hi : i + 4 ≤ L) (h : INV M) (hM : M.length = 167) (hk : ∀ M2, INV M2 → M2.length = 167 → Z Γ room_1 (mLaw nm) lwP 167 8548 1302 (lwL i) [] M2) : Z Γ room_1 (mLaw nm) lwP 167 8548 767 (lwL i) [] M := by
  obtain ⟨fs, h0⟩ := h.o
  refine Z_aload_n d_law_767 rfl ?_
  refine Z_aload_n d_law_768 rfl ?_
  refine Z_iload_n d_law_769 rfl ?_
  refine Zn_iconst (nI 1) d_law_770 (by decide) ?_
  refine Zn_iadd d_law_771 ?_
  refine Zs_ld (j := i + 1) d_law_772 hs (by omega) hL ?_
  refine Z_callV (As := [.int (xs (i + 1))]) d_law_773 lm_law_101 h0 rfl (k_find 0 h (xs (i + 1))) (Nat.le_of_ble_eq_true rfl) (Nat.le_of_ble_eq_true rfl) (Nat.le_of_ble_eq_true rfl) (Nat.le_of_ble_eq_true rfl) (Nat.le_of_ble_eq_true rfl) (fun M1 v hq hl1 => ?_)
  obtain ⟨a, rfl, ⟨s1, h1⟩, hz⟩ := hq
  have hl1 : M1.length = M.length := hl1
  refine Z_aload_n d_law_776 rfl ?_
  refine Z_aload_n d_law_777 rfl ?_
  refine Z_iload_n d_law_778 rfl ?_
  refine Zn_iconst (nI 1) d_law_779 (by decide) ?_
  refine Zn_iadd d_law_780 ?_
  refine Zs_ld (j := i + 1) d_law_781 hs (by omega) hL ?_
  refine Z_callV (As := [.int (xs (i + 1))]) d_law_782 lm_law_104 h1 rfl hz (Nat.le_of_ble_eq_true rfl) (Nat.le_of_ble_eq_true rfl) (Nat.le_of_ble_eq_true rfl) (Nat.le_of_ble_eq_true rfl) (Nat.le_of_ble_eq_true rfl) (fun M2 v2 hq hl2 => ?_)
  obtain ⟨rfl, hI⟩ := hq
  have hl2 : M2.length = M1.length := hl2
  refine Z_icmp_eq (tgt := 1302) d_law_785 (by decide) (fun _ => ?_) (fun h => absurd rfl h)
  exact hk M2 hI (by omega)
set_option maxHeartbeats 4000000 in
theorem law_c22 {Γ : zCtx} {M : List zE} {L i : Nat} {nm : String} {xs : Nat → Int32} (hs : (zScr Γ).2 = (L, xs)) (hL : L ≤ 2048) (hi : i + 4 ≤ L) (h : INV M) (hM : M.length = 167) (hk : ∀ M2, INV M2 → M2.length = 167 → Z Γ room_1 (mLaw nm) lwP 167 8548 1302 (lwL i) [] M2) : Z Γ room_1 (mLaw nm) lwP 167 8548 790 (lwL i) [] M := by
  obtain ⟨fs, h0⟩ := h.o
  refine Z_aload_n d_law_790 rfl ?_
  refine Z_aload_n d_law_791 rfl ?_
  refine Z_iload_n d_law_792 rfl ?_
  refine Zn_iconst (nI 1) d_law_793 (by decide) ?_
  refine Zn_iadd d_law_794 ?_
  refine Zs_ld (j := i + 1) d_law_795 hs (by omega) hL ?_
  refine Z_aload_n d_law_796 rfl ?_
  refine Z_iload_n d_law_797 rfl ?_
  refine Zn_iconst (nI 2) d_law_798 (by decide) ?_
  refine Zn_iadd d_law_799 ?_
  refine Zs_ld (j := i + 2) d_law_800 hs (by omega) hL ?_
  refine Z_callV (As := [.int (xs (i + 1)), .int (xs (i + 2))]) d_law_801 lm_law_105 h0 rfl (k_firstDifference 0 h (xs (i + 1)) (xs (i + 2))) (Nat.le_of_ble_eq_true rfl) (Nat.le_of_ble_eq_true rfl) (Nat.le_of_ble_eq_true rfl) (Nat.le_of_ble_eq_true rfl) (Nat.le_of_ble_eq_true rfl) (fun M1 v hq hl1 => ?_)
  obtain ⟨a, rfl, ⟨s1, h1⟩, hz⟩ := hq
  have hl1 : M1.length = M.length := hl1
  refine Z_aload_n d_law_804 rfl ?_
  refine Z_aload_n d_law_805 rfl ?_
  refine Z_iload_n d_law_806 rfl ?_
  refine Zn_iconst (nI 1) d_law_807 (by decide) ?_
  refine Zn_iadd d_law_808 ?_
  refine Zs_ld (j := i + 1) d_law_809 hs (by omega) hL ?_
  refine Z_aload_n d_law_810 rfl ?_
  refine Z_iload_n d_law_811 rfl ?_
  refine Zn_iconst (nI 2) d_law_812 (by decide) ?_
  refine Zn_iadd d_law_813 ?_
  refine Zs_ld (j := i + 2) d_law_814 hs (by omega) hL ?_
  refine Z_callV (As := [.int (xs (i + 1)), .int (xs (i + 2))]) d_law_815 lm_law_108 h1 rfl hz (Nat.le_of_ble_eq_true rfl) (Nat.le_of_ble_eq_true rfl) (Nat.le_of_ble_eq_true rfl) (Nat.le_of_ble_eq_true rfl) (Nat.le_of_ble_eq_true rfl) (fun M2 v2 hq hl2 => ?_)
  obtain ⟨rfl, hI⟩ := hq
  have hl2 : M2.length = M1.length := hl2
  refine Z_icmp_eq (tgt := 1302) d_law_818 (by decide) (fun _ => ?_) (fun h => absurd rfl h)
  exact hk M2 hI (by omega)
set_option maxHeartbeats 4000000 in
theorem law_c23 {Γ : zCtx} {M : List zE} {L i : Nat} {nm : String} {xs : Nat → Int32} (hs : (zScr Γ).2 = (L, xs)) (hL : L ≤ 2048) (hi : i + 4 ≤ L) (h : INV M) (hM : M.length = 167) (hk : ∀ M2, INV M2 → M2.length = 167 → Z Γ room_1 (mLaw nm) lwP 167 8548 1302 (lwL i) [] M2) : Z Γ room_1 (mLaw nm) lwP 167 8548 823 (lwL i) [] M := by
  obtain ⟨fs, h0⟩ := h.o
  refine Z_aload_n d_law_823 rfl ?_
  refine Z_aload_n d_law_824 rfl ?_
  refine Z_iload_n d_law_825 rfl ?_
  refine Zn_iconst (nI 1) d_law_826 (by decide) ?_
  refine Zn_iadd d_law_827 ?_
  refine Zs_ld (j := i + 1) d_law_828 hs (by omega) hL ?_
  refine Z_aload_n d_law_829 rfl ?_
  refine Z_iload_n d_law_830 rfl ?_
  refine Zn_iconst (nI 2) d_law_831 (by decide) ?_
  refine Zn_iadd d_law_832 ?_
  refine Zs_ld (j := i + 2) d_law_833 hs (by omega) hL ?_
  refine Z_callV (As := [.int (xs (i + 1)), .int (xs (i + 2))]) d_law_834 lm_law_109 h0 rfl (k_referenceCountAt 0 h (xs (i + 1)) (xs (i + 2))) (Nat.le_of_ble_eq_true rfl) (Nat.le_of_ble_eq_true rfl) (Nat.le_of_ble_eq_true rfl) (Nat.le_of_ble_eq_true rfl) (Nat.le_of_ble_eq_true rfl) (fun M1 v hq hl1 => ?_)
  obtain ⟨a, rfl, ⟨s1, h1⟩, hz⟩ := hq
  have hl1 : M1.length = M.length := hl1
  refine Z_aload_n d_law_837 rfl ?_
  refine Z_aload_n d_law_838 rfl ?_
  refine Z_iload_n d_law_839 rfl ?_
  refine Zn_iconst (nI 1) d_law_840 (by decide) ?_
  refine Zn_iadd d_law_841 ?_
  refine Zs_ld (j := i + 1) d_law_842 hs (by omega) hL ?_
  refine Z_aload_n d_law_843 rfl ?_
  refine Z_iload_n d_law_844 rfl ?_
  refine Zn_iconst (nI 2) d_law_845 (by decide) ?_
  refine Zn_iadd d_law_846 ?_
  refine Zs_ld (j := i + 2) d_law_847 hs (by omega) hL ?_
  refine Z_callV (As := [.int (xs (i + 1)), .int (xs (i + 2))]) d_law_848 lm_law_112 h1 rfl hz (Nat.le_of_ble_eq_true rfl) (Nat.le_of_ble_eq_true rfl) (Nat.le_of_ble_eq_true rfl) (Nat.le_of_ble_eq_true rfl) (Nat.le_of_ble_eq_true rfl) (fun M2 v2 hq hl2 => ?_)
  obtain ⟨rfl, hI⟩ := hq
  have hl2 : M2.length = M1.length := hl2
  refine Z_icmp_eq (tgt := 1302) d_law_851 (by decide) (fun _ => ?_) (fun h => absurd rfl h)
  exact hk M2 hI (by omega)
set_option maxHeartbeats 4000000 in
theorem law_c24 {Γ : zCtx} {M : List zE} {L i : Nat} {nm : String} {xs : Nat → Int32} (hs : (zScr Γ).2 = (L, xs)) (hL : L ≤ 2048) (hi : i + 4 ≤ L) (h : INV M) (hM : M.length = 167) (hk : ∀ M2, INV M2 → M2.length = 167 → Z Γ room_1 (mLaw nm) lwP 167 8548 1302 (lwL i) [] M2) : Z Γ room_1 (mLaw nm) lwP 167 8548 856 (lwL i) [] M := by
  obtain ⟨fs, h0⟩ := h.o
  refine Z_aload_n d_law_856 rfl ?_
  refine Z_aload_n d_law_857 rfl ?_
  refine Z_iload_n d_law_858 rfl ?_
  refine Zn_iconst (nI 1) d_law_859 (by decide) ?_
  refine Zn_iadd d_law_860 ?_
  refine Zs_ld (j := i + 1) d_law_861 hs (by omega) hL ?_
  refine Z_aload_n d_law_862 rfl ?_
  refine Z_iload_n d_law_863 rfl ?_
  refine Zn_iconst (nI 2) d_law_864 (by decide) ?_
  refine Zn_iadd d_law_865 ?_
  refine Zs_ld (j := i + 2) d_law_866 hs (by omega) hL ?_
  refine Z_aload_n d_law_867 rfl ?_
  refine Z_iload_n d_law_868 rfl ?_
  refine Zn_iconst (nI 3) d_law_869 (by decide) ?_
  refine Zn_iadd d_law_870 ?_
  refine Zs_ld (j := i + 3) d_law_871 hs (by omega) hL ?_
  refine Z_callV (As := [.int (xs (i + 1)), .int (xs (i + 2)), .int (xs (i + 3))]) d_law_872 lm_law_113 h0 rfl (k_referenceAt 0 h (xs (i + 1)) (xs (i + 2)) (xs (i + 3))) (Nat.le_of_ble_eq_true rfl) (Nat.le_of_ble_eq_true rfl) (Nat.le_of_ble_eq_true rfl) (Nat.le_of_ble_eq_true rfl) (Nat.le_of_ble_eq_true rfl) (fun M1 v hq hl1 => ?_)
  obtain ⟨a, rfl, ⟨s1, h1⟩, hz⟩ := hq
  have hl1 : M1.length = M.length := hl1
  refine Z_aload_n d_law_875 rfl ?_
  refine Z_aload_n d_law_876 rfl ?_
  refine Z_iload_n d_law_877 rfl ?_
  refine Zn_iconst (nI 1) d_law_878 (by decide) ?_
  refine Zn_iadd d_law_879 ?_
  refine Zs_ld (j := i + 1) d_law_880 hs (by omega) hL ?_
  refine Z_aload_n d_law_881 rfl ?_
  refine Z_iload_n d_law_882 rfl ?_
  refine Zn_iconst (nI 2) d_law_883 (by decide) ?_
  refine Zn_iadd d_law_884 ?_
  refine Zs_ld (j := i + 2) d_law_885 hs (by omega) hL ?_
  refine Z_aload_n d_law_886 rfl ?_
  refine Z_iload_n d_law_887 rfl ?_
  refine Zn_iconst (nI 3) d_law_888 (by decide) ?_
  refine Zn_iadd d_law_889 ?_
  refine Zs_ld (j := i + 3) d_law_890 hs (by omega) hL ?_
  refine Z_callV (As := [.int (xs (i + 1)), .int (xs (i + 2)), .int (xs (i + 3))]) d_law_891 lm_law_116 h1 rfl hz (Nat.le_of_ble_eq_true rfl) (Nat.le_of_ble_eq_true rfl) (Nat.le_of_ble_eq_true rfl) (Nat.le_of_ble_eq_true rfl) (Nat.le_of_ble_eq_true rfl) (fun M2 v2 hq hl2 => ?_)
  obtain ⟨rfl, hI⟩ := hq
  have hl2 : M2.length = M1.length := hl2
  refine Z_icmp_eq (tgt := 1302) d_law_894 (by decide) (fun _ => ?_) (fun h => absurd rfl h)
  exact hk M2 hI (by omega)
set_option maxHeartbeats 4000000 in
theorem law_c25 {Γ : zCtx} {M : List zE} {L i : Nat} {nm : String} {xs : Nat → Int32} (hs : (zScr Γ).2 = (L, xs)) (hL : L ≤ 2048) (hi : i + 4 ≤ L) (h : INV M) (hM : M.length = 167) (hk : ∀ M2, INV M2 → M2.length = 167 → Z Γ room_1 (mLaw nm) lwP 167 8548 1302 (lwL i) [] M2) : Z Γ room_1 (mLaw nm) lwP 167 8548 899 (lwL i) [] M := by
  obtain ⟨fs, h0⟩ := h.o
  refine Z_aload_n d_law_899 rfl ?_
  refine Z_aload_n d_law_900 rfl ?_
  refine Z_iload_n d_law_901 rfl ?_
  refine Zn_iconst (nI 1) d_law_902 (by decide) ?_
  refine Zn_iadd d_law_903 ?_
  refine Zs_ld (j := i + 1) d_law_904 hs (by omega) hL ?_
  refine Z_callV (As := [.int (xs (i + 1))]) d_law_905 lm_law_117 h0 rfl (k_danglingCount 0 h (xs (i + 1))) (Nat.le_of_ble_eq_true rfl) (Nat.le_of_ble_eq_true rfl) (Nat.le_of_ble_eq_true rfl) (Nat.le_of_ble_eq_true rfl) (Nat.le_of_ble_eq_true rfl) (fun M1 v hq hl1 => ?_)
  obtain ⟨a, rfl, ⟨s1, h1⟩, hz⟩ := hq
  have hl1 : M1.length = M.length := hl1
  refine Z_aload_n d_law_908 rfl ?_
  refine Z_aload_n d_law_909 rfl ?_
  refine Z_iload_n d_law_910 rfl ?_
  refine Zn_iconst (nI 1) d_law_911 (by decide) ?_
  refine Zn_iadd d_law_912 ?_
  refine Zs_ld (j := i + 1) d_law_913 hs (by omega) hL ?_
  refine Z_callV (As := [.int (xs (i + 1))]) d_law_914 lm_law_120 h1 rfl hz (Nat.le_of_ble_eq_true rfl) (Nat.le_of_ble_eq_true rfl) (Nat.le_of_ble_eq_true rfl) (Nat.le_of_ble_eq_true rfl) (Nat.le_of_ble_eq_true rfl) (fun M2 v2 hq hl2 => ?_)
  obtain ⟨rfl, hI⟩ := hq
  have hl2 : M2.length = M1.length := hl2
  refine Z_icmp_eq (tgt := 1302) d_law_917 (by decide) (fun _ => ?_) (fun h => absurd rfl h)
  exact hk M2 hI (by omega)
set_option maxHeartbeats 4000000 in
theorem law_c26 {Γ : zCtx} {M : List zE} {L i : Nat} {nm : String} {xs : Nat → Int32} (hs : (zScr Γ).2 = (L, xs)) (hL : L ≤ 2048) (hi : i + 4 ≤ L) (h : INV M) (hM : M.length = 167) (hk : ∀ M2, INV M2 → M2.length = 167 → Z Γ room_1 (mLaw nm) lwP 167 8548 1302 (lwL i) [] M2) : Z Γ room_1 (mLaw nm) lwP 167 8548 922 (lwL i) [] M := by
  obtain ⟨fs, h0⟩ := h.o
  refine Z_aload_n d_law_922 rfl ?_
  refine Z_aload_n d_law_923 rfl ?_
  refine Z_iload_n d_law_924 rfl ?_
  refine Zn_iconst (nI 1) d_law_925 (by decide) ?_
  refine Zn_iadd d_law_926 ?_
  refine Zs_ld (j := i + 1) d_law_927 hs (by omega) hL ?_
  refine Z_callV (As := [.int (xs (i + 1))]) d_law_928 lm_law_121 h0 rfl (k_conflictCount 0 h (xs (i + 1))) (Nat.le_of_ble_eq_true rfl) (Nat.le_of_ble_eq_true rfl) (Nat.le_of_ble_eq_true rfl) (Nat.le_of_ble_eq_true rfl) (Nat.le_of_ble_eq_true rfl) (fun M1 v hq hl1 => ?_)
  obtain ⟨a, rfl, ⟨s1, h1⟩, hz⟩ := hq
  have hl1 : M1.length = M.length := hl1
  refine Z_aload_n d_law_931 rfl ?_
  refine Z_aload_n d_law_932 rfl ?_
  refine Z_iload_n d_law_933 rfl ?_
  refine Zn_iconst (nI 1) d_law_934 (by decide) ?_
  refine Zn_iadd d_law_935 ?_
  refine Zs_ld (j := i + 1) d_law_936 hs (by omega) hL ?_
  refine Z_callV (As := [.int (xs (i + 1))]) d_law_937 lm_law_124 h1 rfl hz (Nat.le_of_ble_eq_true rfl) (Nat.le_of_ble_eq_true rfl) (Nat.le_of_ble_eq_true rfl) (Nat.le_of_ble_eq_true rfl) (Nat.le_of_ble_eq_true rfl) (fun M2 v2 hq hl2 => ?_)
  obtain ⟨rfl, hI⟩ := hq
  have hl2 : M2.length = M1.length := hl2
  refine Z_icmp_eq (tgt := 1302) d_law_940 (by decide) (fun _ => ?_) (fun h => absurd rfl h)
  exact hk M2 hI (by omega)
set_option maxHeartbeats 4000000 in
theorem law_c27 {Γ : zCtx} {M : List zE} {L i : Nat} {nm : String} {xs : Nat → Int32} (hs : (zScr Γ).2 = (L, xs)) (hL : L ≤ 2048) (hi : i + 4 ≤ L) (h : INV M) (hM : M.length = 167) (hk : ∀ M2, INV M2 → M2.length = 167 → Z Γ room_1 (mLaw nm) lwP 167 8548 1302 (lwL i) [] M2) : Z Γ room_1 (mLaw nm) lwP 167 8548 945 (lwL i) [] M := by
  obtain ⟨fs, h0⟩ := h.o
  refine Z_aload_n d_law_945 rfl ?_
  refine Z_aload_n d_law_946 rfl ?_
  refine Z_iload_n d_law_947 rfl ?_
  refine Zn_iconst (nI 1) d_law_948 (by decide) ?_
  refine Zn_iadd d_law_949 ?_
  refine Zs_ld (j := i + 1) d_law_950 hs (by omega) hL ?_
  refine Z_aload_n d_law_951 rfl ?_
  refine Z_iload_n d_law_952 rfl ?_
  refine Zn_iconst (nI 2) d_law_953 (by decide) ?_
  refine Zn_iadd d_law_954 ?_
  refine Zs_ld (j := i + 2) d_law_955 hs (by omega) hL ?_
  refine Z_callV (As := [.int (xs (i + 1)), .int (xs (i + 2))]) d_law_956 lm_law_125 h0 rfl (k_conflictAmendment 0 h (xs (i + 1)) (xs (i + 2))) (Nat.le_of_ble_eq_true rfl) (Nat.le_of_ble_eq_true rfl) (Nat.le_of_ble_eq_true rfl) (Nat.le_of_ble_eq_true rfl) (Nat.le_of_ble_eq_true rfl) (fun M1 v hq hl1 => ?_)
  obtain ⟨a, rfl, ⟨s1, h1⟩, hz⟩ := hq
  have hl1 : M1.length = M.length := hl1
  refine Z_aload_n d_law_959 rfl ?_
  refine Z_aload_n d_law_960 rfl ?_
  refine Z_iload_n d_law_961 rfl ?_
  refine Zn_iconst (nI 1) d_law_962 (by decide) ?_
  refine Zn_iadd d_law_963 ?_
  refine Zs_ld (j := i + 1) d_law_964 hs (by omega) hL ?_
  refine Z_aload_n d_law_965 rfl ?_
  refine Z_iload_n d_law_966 rfl ?_
  refine Zn_iconst (nI 2) d_law_967 (by decide) ?_
  refine Zn_iadd d_law_968 ?_
  refine Zs_ld (j := i + 2) d_law_969 hs (by omega) hL ?_
  refine Z_callV (As := [.int (xs (i + 1)), .int (xs (i + 2))]) d_law_970 lm_law_128 h1 rfl hz (Nat.le_of_ble_eq_true rfl) (Nat.le_of_ble_eq_true rfl) (Nat.le_of_ble_eq_true rfl) (Nat.le_of_ble_eq_true rfl) (Nat.le_of_ble_eq_true rfl) (fun M2 v2 hq hl2 => ?_)
  obtain ⟨rfl, hI⟩ := hq
  have hl2 : M2.length = M1.length := hl2
  refine Z_icmp_eq (tgt := 1302) d_law_973 (by decide) (fun _ => ?_) (fun h => absurd rfl h)
  exact hk M2 hI (by omega)
set_option maxHeartbeats 4000000 in
theorem law_c28 {Γ : zCtx} {M : List zE} {L i : Nat} {nm : String} {xs : Nat → Int32} (hs : (zScr Γ).2 = (L, xs)) (hL : L ≤ 2048) (hi : i + 4 ≤ L) (h : INV M) (hM : M.length = 167) (hk : ∀ M2, INV M2 → M2.length = 167 → Z Γ room_1 (mLaw nm) lwP 167 8548 1302 (lwL i) [] M2) : Z Γ room_1 (mLaw nm) lwP 167 8548 978 (lwL i) [] M := by
  obtain ⟨fs, h0⟩ := h.o
  refine Z_aload_n d_law_978 rfl ?_
  refine Z_aload_n d_law_979 rfl ?_
  refine Z_iload_n d_law_980 rfl ?_
  refine Zn_iconst (nI 1) d_law_981 (by decide) ?_
  refine Zn_iadd d_law_982 ?_
  refine Zs_ld (j := i + 1) d_law_983 hs (by omega) hL ?_
  refine Z_aload_n d_law_984 rfl ?_
  refine Z_iload_n d_law_985 rfl ?_
  refine Zn_iconst (nI 2) d_law_986 (by decide) ?_
  refine Zn_iadd d_law_987 ?_
  refine Zs_ld (j := i + 2) d_law_988 hs (by omega) hL ?_
  refine Z_callV (As := [.int (xs (i + 1)), .int (xs (i + 2))]) d_law_989 lm_law_129 h0 rfl (k_conflictInstruction 0 h (xs (i + 1)) (xs (i + 2))) (Nat.le_of_ble_eq_true rfl) (Nat.le_of_ble_eq_true rfl) (Nat.le_of_ble_eq_true rfl) (Nat.le_of_ble_eq_true rfl) (Nat.le_of_ble_eq_true rfl) (fun M1 v hq hl1 => ?_)
  obtain ⟨a, rfl, ⟨s1, h1⟩, hz⟩ := hq
  have hl1 : M1.length = M.length := hl1
  refine Z_aload_n d_law_992 rfl ?_
  refine Z_aload_n d_law_993 rfl ?_
  refine Z_iload_n d_law_994 rfl ?_
  refine Zn_iconst (nI 1) d_law_995 (by decide) ?_
  refine Zn_iadd d_law_996 ?_
  refine Zs_ld (j := i + 1) d_law_997 hs (by omega) hL ?_
  refine Z_aload_n d_law_998 rfl ?_
  refine Z_iload_n d_law_999 rfl ?_
  refine Zn_iconst (nI 2) d_law_1000 (by decide) ?_
  refine Zn_iadd d_law_1001 ?_
  refine Zs_ld (j := i + 2) d_law_1002 hs (by omega) hL ?_
  refine Z_callV (As := [.int (xs (i + 1)), .int (xs (i + 2))]) d_law_1003 lm_law_132 h1 rfl hz (Nat.le_of_ble_eq_true rfl) (Nat.le_of_ble_eq_true rfl) (Nat.le_of_ble_eq_true rfl) (Nat.le_of_ble_eq_true rfl) (Nat.le_of_ble_eq_true rfl) (fun M2 v2 hq hl2 => ?_)
  obtain ⟨rfl, hI⟩ := hq
  have hl2 : M2.length = M1.length := hl2
  refine Z_icmp_eq (tgt := 1302) d_law_1006 (by decide) (fun _ => ?_) (fun h => absurd rfl h)
  exact hk M2 hI (by omega)
set_option maxHeartbeats 4000000 in
theorem law_c29 {Γ : zCtx} {M : List zE} {L i : Nat} {nm : String} {xs : Nat → Int32} (hs : (zScr Γ).2 = (L, xs)) (hL : L ≤ 2048) (hi : i + 4 ≤ L) (h : INV M) (hM : M.length = 167) (hk : ∀ M2, INV M2 → M2.length = 167 → Z Γ room_1 (mLaw nm) lwP 167 8548 1302 (lwL i) [] M2) : Z Γ room_1 (mLaw nm) lwP 167 8548 1011 (lwL i) [] M := by
  obtain ⟨fs, h0⟩ := h.o
  refine Z_aload_n d_law_1011 rfl ?_
  refine Z_aload_n d_law_1012 rfl ?_
  refine Z_iload_n d_law_1013 rfl ?_
  refine Zn_iconst (nI 1) d_law_1014 (by decide) ?_
  refine Zn_iadd d_law_1015 ?_
  refine Zs_ld (j := i + 1) d_law_1016 hs (by omega) hL ?_
  refine Z_aload_n d_law_1017 rfl ?_
  refine Z_iload_n d_law_1018 rfl ?_
  refine Zn_iconst (nI 2) d_law_1019 (by decide) ?_
  refine Zn_iadd d_law_1020 ?_
  refine Zs_ld (j := i + 2) d_law_1021 hs (by omega) hL ?_
  refine Z_callV (As := [.int (xs (i + 1)), .int (xs (i + 2))]) d_law_1022 lm_law_133 h0 rfl (k_conflictReason 0 h (xs (i + 1)) (xs (i + 2))) (Nat.le_of_ble_eq_true rfl) (Nat.le_of_ble_eq_true rfl) (Nat.le_of_ble_eq_true rfl) (Nat.le_of_ble_eq_true rfl) (Nat.le_of_ble_eq_true rfl) (fun M1 v hq hl1 => ?_)
  obtain ⟨a, rfl, ⟨s1, h1⟩, hz⟩ := hq
  have hl1 : M1.length = M.length := hl1
  refine Z_aload_n d_law_1025 rfl ?_
  refine Z_aload_n d_law_1026 rfl ?_
  refine Z_iload_n d_law_1027 rfl ?_
  refine Zn_iconst (nI 1) d_law_1028 (by decide) ?_
  refine Zn_iadd d_law_1029 ?_
  refine Zs_ld (j := i + 1) d_law_1030 hs (by omega) hL ?_
  refine Z_aload_n d_law_1031 rfl ?_
  refine Z_iload_n d_law_1032 rfl ?_
  refine Zn_iconst (nI 2) d_law_1033 (by decide) ?_
  refine Zn_iadd d_law_1034 ?_
  refine Zs_ld (j := i + 2) d_law_1035 hs (by omega) hL ?_
  refine Z_callV (As := [.int (xs (i + 1)), .int (xs (i + 2))]) d_law_1036 lm_law_136 h1 rfl hz (Nat.le_of_ble_eq_true rfl) (Nat.le_of_ble_eq_true rfl) (Nat.le_of_ble_eq_true rfl) (Nat.le_of_ble_eq_true rfl) (Nat.le_of_ble_eq_true rfl) (fun M2 v2 hq hl2 => ?_)
  obtain ⟨rfl, hI⟩ := hq
  have hl2 : M2.length = M1.length := hl2
  refine Z_icmp_eq (tgt := 1302) d_law_1039 (by decide) (fun _ => ?_) (fun h => absurd rfl h)
  exact hk M2 hI (by omega)
set_option maxHeartbeats 4000000 in
theorem law_c30 {Γ : zCtx} {M : List zE} {L i : Nat} {nm : String} {xs : Nat → Int32} (hs : (zScr Γ).2 = (L, xs)) (hL : L ≤ 2048) (hi : i + 4 ≤ L) (h : INV M) (hM : M.length = 167) (hk : ∀ M2, INV M2 → M2.length = 167 → Z Γ room_1 (mLaw nm) lwP 167 8548 1302 (lwL i) [] M2) : Z Γ room_1 (mLaw nm) lwP 167 8548 1044 (lwL i) [] M := by
  obtain ⟨fs, h0⟩ := h.o
  refine Z_aload_n d_law_1044 rfl ?_
  refine Z_aload_n d_law_1045 rfl ?_
  refine Z_iload_n d_law_1046 rfl ?_
  refine Zn_iconst (nI 1) d_law_1047 (by decide) ?_
  refine Zn_iadd d_law_1048 ?_
  refine Zs_ld (j := i + 1) d_law_1049 hs (by omega) hL ?_
  refine Z_aload_n d_law_1050 rfl ?_
  refine Z_iload_n d_law_1051 rfl ?_
  refine Zn_iconst (nI 2) d_law_1052 (by decide) ?_
  refine Zn_iadd d_law_1053 ?_
  refine Zs_ld (j := i + 2) d_law_1054 hs (by omega) hL ?_
  refine Z_callV (As := [.int (xs (i + 1)), .int (xs (i + 2))]) d_law_1055 lm_law_137 h0 rfl (k_doCommute 0 h (xs (i + 1)) (xs (i + 2))) (Nat.le_of_ble_eq_true rfl) (Nat.le_of_ble_eq_true rfl) (Nat.le_of_ble_eq_true rfl) (Nat.le_of_ble_eq_true rfl) (Nat.le_of_ble_eq_true rfl) (fun M1 v hq hl1 => ?_)
  obtain ⟨a, rfl, ⟨s1, h1⟩, hz⟩ := hq
  have hl1 : M1.length = M.length := hl1
  refine Z_aload_n d_law_1058 rfl ?_
  refine Z_aload_n d_law_1059 rfl ?_
  refine Z_iload_n d_law_1060 rfl ?_
  refine Zn_iconst (nI 1) d_law_1061 (by decide) ?_
  refine Zn_iadd d_law_1062 ?_
  refine Zs_ld (j := i + 1) d_law_1063 hs (by omega) hL ?_
  refine Z_aload_n d_law_1064 rfl ?_
  refine Z_iload_n d_law_1065 rfl ?_
  refine Zn_iconst (nI 2) d_law_1066 (by decide) ?_
  refine Zn_iadd d_law_1067 ?_
  refine Zs_ld (j := i + 2) d_law_1068 hs (by omega) hL ?_
  refine Z_callV (As := [.int (xs (i + 1)), .int (xs (i + 2))]) d_law_1069 lm_law_140 h1 rfl hz (Nat.le_of_ble_eq_true rfl) (Nat.le_of_ble_eq_true rfl) (Nat.le_of_ble_eq_true rfl) (Nat.le_of_ble_eq_true rfl) (Nat.le_of_ble_eq_true rfl) (fun M2 v2 hq hl2 => ?_)
  obtain ⟨rfl, hI⟩ := hq
  have hl2 : M2.length = M1.length := hl2
  refine Z_icmp_eq (tgt := 1302) d_law_1072 (by decide) (fun _ => ?_) (fun h => absurd rfl h)
  exact hk M2 hI (by omega)
set_option maxHeartbeats 4000000 in
theorem law_c31 {Γ : zCtx} {M : List zE} {L i : Nat} {nm : String} {xs : Nat → Int32} (hs : (zScr Γ).2 = (L, xs)) (hL : L ≤ 2048) (hi : i + 4 ≤ L) (h : INV M) (hM : M.length = 167) (hk : ∀ M2, INV M2 → M2.length = 167 → Z Γ room_1 (mLaw nm) lwP 167 8548 1302 (lwL i) [] M2) : Z Γ room_1 (mLaw nm) lwP 167 8548 1077 (lwL i) [] M := by
  obtain ⟨fs, h0⟩ := h.o
  refine Z_aload_n d_law_1077 rfl ?_
  refine Z_aload_n d_law_1078 rfl ?_
  refine Z_iload_n d_law_1079 rfl ?_
  refine Zn_iconst (nI 1) d_law_1080 (by decide) ?_
  refine Zn_iadd d_law_1081 ?_
  refine Zs_ld (j := i + 1) d_law_1082 hs (by omega) hL ?_
  refine Z_callV (As := [.int (xs (i + 1))]) d_law_1083 lm_law_141 h0 rfl (k_averageLevel 0 h (xs (i + 1))) (Nat.le_of_ble_eq_true rfl) (Nat.le_of_ble_eq_true rfl) (Nat.le_of_ble_eq_true rfl) (Nat.le_of_ble_eq_true rfl) (Nat.le_of_ble_eq_true rfl) (fun M1 v hq hl1 => ?_)
  obtain ⟨a, rfl, ⟨s1, h1⟩, hz⟩ := hq
  have hl1 : M1.length = M.length := hl1
  refine Z_aload_n d_law_1086 rfl ?_
  refine Z_aload_n d_law_1087 rfl ?_
  refine Z_iload_n d_law_1088 rfl ?_
  refine Zn_iconst (nI 1) d_law_1089 (by decide) ?_
  refine Zn_iadd d_law_1090 ?_
  refine Zs_ld (j := i + 1) d_law_1091 hs (by omega) hL ?_
  refine Z_callV (As := [.int (xs (i + 1))]) d_law_1092 lm_law_144 h1 rfl hz (Nat.le_of_ble_eq_true rfl) (Nat.le_of_ble_eq_true rfl) (Nat.le_of_ble_eq_true rfl) (Nat.le_of_ble_eq_true rfl) (Nat.le_of_ble_eq_true rfl) (fun M2 v2 hq hl2 => ?_)
  obtain ⟨rfl, hI⟩ := hq
  have hl2 : M2.length = M1.length := hl2
  refine Z_icmp_eq (tgt := 1302) d_law_1095 (by decide) (fun _ => ?_) (fun h => absurd rfl h)
  exact hk M2 hI (by omega)
set_option maxHeartbeats 4000000 in
theorem law_c32 {Γ : zCtx} {M : List zE} {L i : Nat} {nm : String} {xs : Nat → Int32} (hs : (zScr Γ).2 = (L, xs)) (hL : L ≤ 2048) (hi : i + 4 ≤ L) (h : INV M) (hM : M.length = 167) (hk : ∀ M2, INV M2 → M2.length = 167 → Z Γ room_1 (mLaw nm) lwP 167 8548 1302 (lwL i) [] M2) : Z Γ room_1 (mLaw nm) lwP 167 8548 1100 (lwL i) [] M := by
  obtain ⟨fs, h0⟩ := h.o
  refine Z_aload_n d_law_1100 rfl ?_
  refine Z_aload_n d_law_1101 rfl ?_
  refine Z_iload_n d_law_1102 rfl ?_
  refine Zn_iconst (nI 1) d_law_1103 (by decide) ?_
  refine Zn_iadd d_law_1104 ?_
  refine Zs_ld (j := i + 1) d_law_1105 hs (by omega) hL ?_
  refine Z_callV (As := [.int (xs (i + 1))]) d_law_1106 lm_law_145 h0 rfl (k_repealedShare 0 h (xs (i + 1))) (Nat.le_of_ble_eq_true rfl) (Nat.le_of_ble_eq_true rfl) (Nat.le_of_ble_eq_true rfl) (Nat.le_of_ble_eq_true rfl) (Nat.le_of_ble_eq_true rfl) (fun M1 v hq hl1 => ?_)
  obtain ⟨a, rfl, ⟨s1, h1⟩, hz⟩ := hq
  have hl1 : M1.length = M.length := hl1
  refine Z_aload_n d_law_1109 rfl ?_
  refine Z_aload_n d_law_1110 rfl ?_
  refine Z_iload_n d_law_1111 rfl ?_
  refine Zn_iconst (nI 1) d_law_1112 (by decide) ?_
  refine Zn_iadd d_law_1113 ?_
  refine Zs_ld (j := i + 1) d_law_1114 hs (by omega) hL ?_
  refine Z_callV (As := [.int (xs (i + 1))]) d_law_1115 lm_law_149 h1 rfl hz (Nat.le_of_ble_eq_true rfl) (Nat.le_of_ble_eq_true rfl) (Nat.le_of_ble_eq_true rfl) (Nat.le_of_ble_eq_true rfl) (Nat.le_of_ble_eq_true rfl) (fun M2 v2 hq hl2 => ?_)
  obtain ⟨rfl, hI⟩ := hq
  have hl2 : M2.length = M1.length := hl2
  refine Z_lcmp d_law_1118 ?_
  refine Z_if_eq (tgt := 1302) d_law_1119 (by decide) (fun _ => ?_) (fun h => absurd (lg_self a) h)
  exact hk M2 hI (by omega)
set_option maxHeartbeats 4000000 in
theorem law_c33 {Γ : zCtx} {M : List zE} {L i : Nat} {nm : String} {xs : Nat → Int32} (hs : (zScr Γ).2 = (L, xs)) (hL : L ≤ 2048) (hi : i + 4 ≤ L) (h : INV M) (hM : M.length = 167) (hk : ∀ M2, INV M2 → M2.length = 167 → Z Γ room_1 (mLaw nm) lwP 167 8548 1302 (lwL i) [] M2) : Z Γ room_1 (mLaw nm) lwP 167 8548 1124 (lwL i) [] M := by
  obtain ⟨fs, h0⟩ := h.o
  refine Z_aload_n d_law_1124 rfl ?_
  refine Z_aload_n d_law_1125 rfl ?_
  refine Z_iload_n d_law_1126 rfl ?_
  refine Zn_iconst (nI 1) d_law_1127 (by decide) ?_
  refine Zn_iadd d_law_1128 ?_
  refine Zs_ld (j := i + 1) d_law_1129 hs (by omega) hL ?_
  refine Z_aload_n d_law_1130 rfl ?_
  refine Z_iload_n d_law_1131 rfl ?_
  refine Zn_iconst (nI 2) d_law_1132 (by decide) ?_
  refine Zn_iadd d_law_1133 ?_
  refine Zs_ld (j := i + 2) d_law_1134 hs (by omega) hL ?_
  refine Z_aload_n d_law_1135 rfl ?_
  refine Z_iload_n d_law_1136 rfl ?_
  refine Zn_iconst (nI 3) d_law_1137 (by decide) ?_
  refine Zn_iadd d_law_1138 ?_
  refine Zs_ld (j := i + 3) d_law_1139 hs (by omega) hL ?_
  refine Z_callV (As := [.int (xs (i + 1)), .int (xs (i + 2)), .int (xs (i + 3))]) d_law_1140 lm_law_150 h0 rfl (k_newShelf 0 h (xs (i + 1)) (xs (i + 2)) (xs (i + 3))) (Nat.le_of_ble_eq_true rfl) (Nat.le_of_ble_eq_true rfl) (Nat.le_of_ble_eq_true rfl) (Nat.le_of_ble_eq_true rfl) (Nat.le_of_ble_eq_true rfl) (fun M1 v hq hl1 => ?_)
  obtain ⟨a, rfl, ⟨s1, h1⟩, hz⟩ := hq
  have hl1 : M1.length = M.length := hl1
  refine Z_aload_n d_law_1143 rfl ?_
  refine Z_aload_n d_law_1144 rfl ?_
  refine Z_iload_n d_law_1145 rfl ?_
  refine Zn_iconst (nI 1) d_law_1146 (by decide) ?_
  refine Zn_iadd d_law_1147 ?_
  refine Zs_ld (j := i + 1) d_law_1148 hs (by omega) hL ?_
  refine Z_aload_n d_law_1149 rfl ?_
  refine Z_iload_n d_law_1150 rfl ?_
  refine Zn_iconst (nI 2) d_law_1151 (by decide) ?_
  refine Zn_iadd d_law_1152 ?_
  refine Zs_ld (j := i + 2) d_law_1153 hs (by omega) hL ?_
  refine Z_aload_n d_law_1154 rfl ?_
  refine Z_iload_n d_law_1155 rfl ?_
  refine Zn_iconst (nI 3) d_law_1156 (by decide) ?_
  refine Zn_iadd d_law_1157 ?_
  refine Zs_ld (j := i + 3) d_law_1158 hs (by omega) hL ?_
  refine Z_callV (As := [.int (xs (i + 1)), .int (xs (i + 2)), .int (xs (i + 3))]) d_law_1159 lm_law_153 h1 rfl hz (Nat.le_of_ble_eq_true rfl) (Nat.le_of_ble_eq_true rfl) (Nat.le_of_ble_eq_true rfl) (Nat.le_of_ble_eq_true rfl) (Nat.le_of_ble_eq_true rfl) (fun M2 v2 hq hl2 => ?_)
  obtain ⟨rfl, hI⟩ := hq
  have hl2 : M2.length = M1.length := hl2
  refine Z_icmp_eq (tgt := 1302) d_law_1162 (by decide) (fun _ => ?_) (fun h => absurd rfl h)
  exact hk M2 hI (by omega)
set_option maxHeartbeats 4000000 in
theorem law_c34 {Γ : zCtx} {M : List zE} {L i : Nat} {nm : String} {xs : Nat → Int32} (hs : (zScr Γ).2 = (L, xs)) (hL : L ≤ 2048) (hi : i + 4 ≤ L) (h : INV M) (hM : M.length = 167) (hk : ∀ M2, INV M2 → M2.length = 167 → Z Γ room_1 (mLaw nm) lwP 167 8548 1302 (lwL i) [] M2) : Z Γ room_1 (mLaw nm) lwP 167 8548 1167 (lwL i) [] M := by
  obtain ⟨fs, h0⟩ := h.o
  refine Z_aload_n d_law_1167 rfl ?_
  refine Z_aload_n d_law_1168 rfl ?_
  refine Z_iload_n d_law_1169 rfl ?_
  refine Zn_iconst (nI 1) d_law_1170 (by decide) ?_
  refine Zn_iadd d_law_1171 ?_
  refine Zs_ld (j := i + 1) d_law_1172 hs (by omega) hL ?_
  refine Z_aload_n d_law_1173 rfl ?_
  refine Z_iload_n d_law_1174 rfl ?_
  refine Zn_iconst (nI 2) d_law_1175 (by decide) ?_
  refine Zn_iadd d_law_1176 ?_
  refine Zs_ld (j := i + 2) d_law_1177 hs (by omega) hL ?_
  refine Z_aload_n d_law_1178 rfl ?_
  refine Z_iload_n d_law_1179 rfl ?_
  refine Zn_iconst (nI 3) d_law_1180 (by decide) ?_
  refine Zn_iadd d_law_1181 ?_
  refine Zs_ld (j := i + 3) d_law_1182 hs (by omega) hL ?_
  refine Z_callV (As := [.int (xs (i + 1)), .int (xs (i + 2)), .int (xs (i + 3))]) d_law_1183 lm_law_154 h0 rfl (k_place 0 h (xs (i + 1)) (xs (i + 2)) (xs (i + 3))) (Nat.le_of_ble_eq_true rfl) (Nat.le_of_ble_eq_true rfl) (Nat.le_of_ble_eq_true rfl) (Nat.le_of_ble_eq_true rfl) (Nat.le_of_ble_eq_true rfl) (fun M1 v hq hl1 => ?_)
  obtain ⟨a, rfl, ⟨s1, h1⟩, hz⟩ := hq
  have hl1 : M1.length = M.length := hl1
  refine Z_aload_n d_law_1186 rfl ?_
  refine Z_aload_n d_law_1187 rfl ?_
  refine Z_iload_n d_law_1188 rfl ?_
  refine Zn_iconst (nI 1) d_law_1189 (by decide) ?_
  refine Zn_iadd d_law_1190 ?_
  refine Zs_ld (j := i + 1) d_law_1191 hs (by omega) hL ?_
  refine Z_aload_n d_law_1192 rfl ?_
  refine Z_iload_n d_law_1193 rfl ?_
  refine Zn_iconst (nI 2) d_law_1194 (by decide) ?_
  refine Zn_iadd d_law_1195 ?_
  refine Zs_ld (j := i + 2) d_law_1196 hs (by omega) hL ?_
  refine Z_aload_n d_law_1197 rfl ?_
  refine Z_iload_n d_law_1198 rfl ?_
  refine Zn_iconst (nI 3) d_law_1199 (by decide) ?_
  refine Zn_iadd d_law_1200 ?_
  refine Zs_ld (j := i + 3) d_law_1201 hs (by omega) hL ?_
  refine Z_callV (As := [.int (xs (i + 1)), .int (xs (i + 2)), .int (xs (i + 3))]) d_law_1202 lm_law_157 h1 rfl hz (Nat.le_of_ble_eq_true rfl) (Nat.le_of_ble_eq_true rfl) (Nat.le_of_ble_eq_true rfl) (Nat.le_of_ble_eq_true rfl) (Nat.le_of_ble_eq_true rfl) (fun M2 v2 hq hl2 => ?_)
  obtain ⟨rfl, hI⟩ := hq
  have hl2 : M2.length = M1.length := hl2
  refine Z_icmp_eq (tgt := 1302) d_law_1205 (by decide) (fun _ => ?_) (fun h => absurd rfl h)
  exact hk M2 hI (by omega)
set_option maxHeartbeats 4000000 in
theorem law_c35 {Γ : zCtx} {M : List zE} {L i : Nat} {nm : String} {xs : Nat → Int32} (hs : (zScr Γ).2 = (L, xs)) (hL : L ≤ 2048) (hi : i + 4 ≤ L) (h : INV M) (hM : M.length = 167) (hk : ∀ M2, INV M2 → M2.length = 167 → Z Γ room_1 (mLaw nm) lwP 167 8548 1302 (lwL i) [] M2) : Z Γ room_1 (mLaw nm) lwP 167 8548 1210 (lwL i) [] M := by
  obtain ⟨fs, h0⟩ := h.o
  refine Z_aload_n d_law_1210 rfl ?_
  refine Z_aload_n d_law_1211 rfl ?_
  refine Z_iload_n d_law_1212 rfl ?_
  refine Zn_iconst (nI 1) d_law_1213 (by decide) ?_
  refine Zn_iadd d_law_1214 ?_
  refine Zs_ld (j := i + 1) d_law_1215 hs (by omega) hL ?_
  refine Z_aload_n d_law_1216 rfl ?_
  refine Z_iload_n d_law_1217 rfl ?_
  refine Zn_iconst (nI 2) d_law_1218 (by decide) ?_
  refine Zn_iadd d_law_1219 ?_
  refine Zs_ld (j := i + 2) d_law_1220 hs (by omega) hL ?_
  refine Z_callV (As := [.int (xs (i + 1)), .int (xs (i + 2))]) d_law_1221 lm_law_158 h0 rfl (k_shelved 0 h (xs (i + 1)) (xs (i + 2))) (Nat.le_of_ble_eq_true rfl) (Nat.le_of_ble_eq_true rfl) (Nat.le_of_ble_eq_true rfl) (Nat.le_of_ble_eq_true rfl) (Nat.le_of_ble_eq_true rfl) (fun M1 v hq hl1 => ?_)
  obtain ⟨a, rfl, ⟨s1, h1⟩, hz⟩ := hq
  have hl1 : M1.length = M.length := hl1
  refine Z_aload_n d_law_1224 rfl ?_
  refine Z_aload_n d_law_1225 rfl ?_
  refine Z_iload_n d_law_1226 rfl ?_
  refine Zn_iconst (nI 1) d_law_1227 (by decide) ?_
  refine Zn_iadd d_law_1228 ?_
  refine Zs_ld (j := i + 1) d_law_1229 hs (by omega) hL ?_
  refine Z_aload_n d_law_1230 rfl ?_
  refine Z_iload_n d_law_1231 rfl ?_
  refine Zn_iconst (nI 2) d_law_1232 (by decide) ?_
  refine Zn_iadd d_law_1233 ?_
  refine Zs_ld (j := i + 2) d_law_1234 hs (by omega) hL ?_
  refine Z_callV (As := [.int (xs (i + 1)), .int (xs (i + 2))]) d_law_1235 lm_law_161 h1 rfl hz (Nat.le_of_ble_eq_true rfl) (Nat.le_of_ble_eq_true rfl) (Nat.le_of_ble_eq_true rfl) (Nat.le_of_ble_eq_true rfl) (Nat.le_of_ble_eq_true rfl) (fun M2 v2 hq hl2 => ?_)
  obtain ⟨rfl, hI⟩ := hq
  have hl2 : M2.length = M1.length := hl2
  refine Z_icmp_eq (tgt := 1302) d_law_1238 (by decide) (fun _ => ?_) (fun h => absurd rfl h)
  exact hk M2 hI (by omega)
set_option maxHeartbeats 4000000 in
theorem law_c36 {Γ : zCtx} {M : List zE} {L i : Nat} {nm : String} {xs : Nat → Int32} (hs : (zScr Γ).2 = (L, xs)) (hL : L ≤ 2048) (hi : i + 4 ≤ L) (h : INV M) (hM : M.length = 167) (hk : ∀ M2, INV M2 → M2.length = 167 → Z Γ room_1 (mLaw nm) lwP 167 8548 1302 (lwL i) [] M2) : Z Γ room_1 (mLaw nm) lwP 167 8548 1243 (lwL i) [] M := by
  obtain ⟨fs, h0⟩ := h.o
  refine Z_aload_n d_law_1243 rfl ?_
  refine Z_aload_n d_law_1244 rfl ?_
  refine Z_iload_n d_law_1245 rfl ?_
  refine Zn_iconst (nI 1) d_law_1246 (by decide) ?_
  refine Zn_iadd d_law_1247 ?_
  refine Zs_ld (j := i + 1) d_law_1248 hs (by omega) hL ?_
  refine Z_aload_n d_law_1249 rfl ?_
  refine Z_iload_n d_law_1250 rfl ?_
  refine Zn_iconst (nI 2) d_law_1251 (by decide) ?_
  refine Zn_iadd d_law_1252 ?_
  refine Zs_ld (j := i + 2) d_law_1253 hs (by omega) hL ?_
  refine Z_callV (As := [.int (xs (i + 1)), .int (xs (i + 2))]) d_law_1254 lm_law_162 h0 rfl (k_copyShelf 0 h (xs (i + 1)) (xs (i + 2))) (Nat.le_of_ble_eq_true rfl) (Nat.le_of_ble_eq_true rfl) (Nat.le_of_ble_eq_true rfl) (Nat.le_of_ble_eq_true rfl) (Nat.le_of_ble_eq_true rfl) (fun M1 v hq hl1 => ?_)
  obtain ⟨a, rfl, ⟨s1, h1⟩, hz⟩ := hq
  have hl1 : M1.length = M.length := hl1
  refine Z_aload_n d_law_1257 rfl ?_
  refine Z_aload_n d_law_1258 rfl ?_
  refine Z_iload_n d_law_1259 rfl ?_
  refine Zn_iconst (nI 1) d_law_1260 (by decide) ?_
  refine Zn_iadd d_law_1261 ?_
  refine Zs_ld (j := i + 1) d_law_1262 hs (by omega) hL ?_
  refine Z_aload_n d_law_1263 rfl ?_
  refine Z_iload_n d_law_1264 rfl ?_
  refine Zn_iconst (nI 2) d_law_1265 (by decide) ?_
  refine Zn_iadd d_law_1266 ?_
  refine Zs_ld (j := i + 2) d_law_1267 hs (by omega) hL ?_
  refine Z_callV (As := [.int (xs (i + 1)), .int (xs (i + 2))]) d_law_1268 lm_law_165 h1 rfl hz (Nat.le_of_ble_eq_true rfl) (Nat.le_of_ble_eq_true rfl) (Nat.le_of_ble_eq_true rfl) (Nat.le_of_ble_eq_true rfl) (Nat.le_of_ble_eq_true rfl) (fun M2 v2 hq hl2 => ?_)
  obtain ⟨rfl, hI⟩ := hq
  have hl2 : M2.length = M1.length := hl2
  refine Z_icmp_eq (tgt := 1302) d_law_1271 (by decide) (fun _ => ?_) (fun h => absurd rfl h)
  exact hk M2 hI (by omega)
set_option maxHeartbeats 4000000 in
theorem law_c37 {Γ : zCtx} {M : List zE} {L i : Nat} {nm : String} {xs : Nat → Int32} (hs : (zScr Γ).2 = (L, xs)) (hL : L ≤ 2048) (hi : i + 4 ≤ L) (h : INV M) (hM : M.length = 167) (hk : ∀ M2, INV M2 → M2.length = 167 → Z Γ room_1 (mLaw nm) lwP 167 8548 1302 (lwL i) [] M2) : Z Γ room_1 (mLaw nm) lwP 167 8548 1276 (lwL i) [] M := by
  obtain ⟨fs, h0⟩ := h.o
  refine Z_aload_n d_law_1276 rfl ?_
  refine Z_callV (As := []) d_law_1277 lm_law_166 h0 rfl (k_saveSnapshot 0 h ) (Nat.le_of_ble_eq_true rfl) (Nat.le_of_ble_eq_true rfl) (Nat.le_of_ble_eq_true rfl) (Nat.le_of_ble_eq_true rfl) (Nat.le_of_ble_eq_true rfl) (fun M1 v hq hl1 => ?_)
  obtain ⟨a, rfl, ⟨s1, h1⟩, hz⟩ := hq
  have hl1 : M1.length = M.length := hl1
  refine Z_aload_n d_law_1280 rfl ?_
  refine Z_callV (As := []) d_law_1281 lm_law_169 h1 rfl hz (Nat.le_of_ble_eq_true rfl) (Nat.le_of_ble_eq_true rfl) (Nat.le_of_ble_eq_true rfl) (Nat.le_of_ble_eq_true rfl) (Nat.le_of_ble_eq_true rfl) (fun M2 v2 hq hl2 => ?_)
  obtain ⟨rfl, hI⟩ := hq
  have hl2 : M2.length = M1.length := hl2
  refine Z_icmp_eq (tgt := 1302) d_law_1284 (by decide) (fun _ => ?_) (fun h => absurd rfl h)
  exact hk M2 hI (by omega)
set_option maxHeartbeats 4000000 in
theorem law_c38 {Γ : zCtx} {M : List zE} {L i : Nat} {nm : String} {xs : Nat → Int32} (hs : (zScr Γ).2 = (L, xs)) (hL : L ≤ 2048) (hi : i + 4 ≤ L) (h : INV M) (hM : M.length = 167) (hk : ∀ M2, INV M2 → M2.length = 167 → Z Γ room_1 (mLaw nm) lwP 167 8548 1302 (lwL i) [] M2) : Z Γ room_1 (mLaw nm) lwP 167 8548 1289 (lwL i) [] M := by
  obtain ⟨fs, h0⟩ := h.o
  refine Z_aload_n d_law_1289 rfl ?_
  refine Z_callV (As := []) d_law_1290 lm_law_170 h0 rfl (k_restoreSnapshot 0 h ) (Nat.le_of_ble_eq_true rfl) (Nat.le_of_ble_eq_true rfl) (Nat.le_of_ble_eq_true rfl) (Nat.le_of_ble_eq_true rfl) (Nat.le_of_ble_eq_true rfl) (fun M1 v hq hl1 => ?_)
  obtain ⟨a, rfl, ⟨s1, h1⟩, hz⟩ := hq
  have hl1 : M1.length = M.length := hl1
  refine Z_aload_n d_law_1293 rfl ?_
  refine Z_callV (As := []) d_law_1294 lm_law_173 h1 rfl hz (Nat.le_of_ble_eq_true rfl) (Nat.le_of_ble_eq_true rfl) (Nat.le_of_ble_eq_true rfl) (Nat.le_of_ble_eq_true rfl) (Nat.le_of_ble_eq_true rfl) (fun M2 v2 hq hl2 => ?_)
  obtain ⟨rfl, hI⟩ := hq
  have hl2 : M2.length = M1.length := hl2
  refine Z_icmp_eq (tgt := 1302) d_law_1297 (by decide) (fun _ => ?_) (fun h => absurd rfl h)
  exact hk M2 hI (by omega)
theorem tab_in {v : Int32} (h : ¬ (v.toInt < 0 ∨ 38 < v.toInt)) : ∃ j, j ≤ 38 ∧ v = nI j := by
  have h0 : ¬ v < 0 := by
    intro z
    rw [Int32.lt_iff_toInt_lt] at z
    have e : (0 : Int32).toInt = 0 := by decide
    omega
  obtain ⟨e1, e2⟩ := i32_nn h0
  refine ⟨v.toNatClampNeg, ?_, e1⟩
  have e3 : v.toNatClampNeg = v.toInt.toNat := rfl
  omega
set_option maxHeartbeats 4000000 in
theorem law_loop {Γ : zCtx} {nm : String} {L : Nat} {xs : Nat → Int32} (hs : (zScr Γ).2 = (L, xs)) (hL : L ≤ 2048) : ∀ (f i : Nat) (M : List zE), i ≤ L + 4 → L + 4 < i + f → INV M → M.length = 167 → Z Γ room_1 (mLaw nm) lwP 167 8548 18 (lwL i) [] M := by
  intro f
  induction f with
  | zero => intro i M h1 h2; exact absurd h2 (by omega)
  | succ f ih =>
    intro i M hi hf h hM
    refine Z_iload_n d_law_18 rfl ?_
    refine Z_aload_n d_law_19 rfl ?_
    refine Z_slen d_law_20 hs ?_
    refine Zn_iconst (nI 4) d_law_21 (by decide) ?_
    refine Z_isub d_law_22 ?_
    refine Z_icmp_gt (tgt := 1308) d_law_23 (by decide) (fun h23 => ?_) (fun h23 => ?_)
    · refine Zn_iconst 1 d_law_1308 (by decide) ?_
      exact Z_law1 hM (by decide)
    · have hi4 := law_gt hL (by omega) h23
      have hk : ∀ M2, INV M2 → M2.length = 167 → Z Γ room_1 (mLaw nm) lwP 167 8548 1302 (lwL i) [] M2 := fun M2 a b => by
        refine Zn_iinc (lwL (i + 4)) (nI (i + 4)) d_law_1302 rfl (Nat.le_of_ble_eq_true rfl) (nI_add i 4) rfl ?_
        refine Z_goto (tgt := 18) d_law_1305 (by decide) ?_
        exact ih (i + 4) M2 (by omega) (by omega) a b
      refine Z_aload_n d_law_26 rfl ?_
      refine Z_iload_n d_law_27 rfl ?_
      refine Zs_ld (j := i) d_law_28 hs (by omega) hL ?_
      refine Zn_bipush (nI 63) d_law_29 (by decide) ?_
      refine Z_iand d_law_31 ?_
      generalize xs i &&& nI 63 = v
      by_cases hv : v.toInt < 0 ∨ 38 < v.toInt
      · exact Z_tableOut (tgt := 1302) d_law_32 hv (by decide) (hk M h hM)
      · obtain ⟨j, hj, rfl⟩ := tab_in hv
        rcases (show j = 0 ∨ j = 1 ∨ j = 2 ∨ j = 3 ∨ j = 4 ∨ j = 5 ∨ j = 6 ∨ j = 7 ∨ j = 8 ∨ j = 9 ∨ j = 10 ∨ j = 11 ∨ j = 12 ∨ j = 13 ∨ j = 14 ∨ j = 15 ∨ j = 16 ∨ j = 17 ∨ j = 18 ∨ j = 19 ∨ j = 20 ∨ j = 21 ∨ j = 22 ∨ j = 23 ∨ j = 24 ∨ j = 25 ∨ j = 26 ∨ j = 27 ∨ j = 28 ∨ j = 29 ∨ j = 30 ∨ j = 31 ∨ j = 32 ∨ j = 33 ∨ j = 34 ∨ j = 35 ∨ j = 36 ∨ j = 37 ∨ j = 38 by omega) with rfl | rfl | rfl | rfl | rfl | rfl | rfl | rfl | rfl | rfl | rfl | rfl | rfl | rfl | rfl | rfl | rfl | rfl | rfl | rfl | rfl | rfl | rfl | rfl | rfl | rfl | rfl | rfl | rfl | rfl | rfl | rfl | rfl | rfl | rfl | rfl | rfl | rfl | rfl
        · exact Z_tableIn (tgt := 204) (off := 172) d_law_32 (by decide) (by decide) (by decide) (by decide) (law_c0 hs hL hi4 h hM hk)
        · exact Z_tableIn (tgt := 237) (off := 205) d_law_32 (by decide) (by decide) (by decide) (by decide) (law_c1 hs hL hi4 h hM hk)
        · exact Z_tableIn (tgt := 270) (off := 238) d_law_32 (by decide) (by decide) (by decide) (by decide) (law_c2 hs hL hi4 h hM hk)
        · exact Z_tableIn (tgt := 303) (off := 271) d_law_32 (by decide) (by decide) (by decide) (by decide) (law_c3 hs hL hi4 h hM hk)
        · exact Z_tableIn (tgt := 336) (off := 304) d_law_32 (by decide) (by decide) (by decide) (by decide) (law_c4 hs hL hi4 h hM hk)
        · exact Z_tableIn (tgt := 349) (off := 317) d_law_32 (by decide) (by decide) (by decide) (by decide) (law_c5 hs hL hi4 h hM hk)
        · exact Z_tableIn (tgt := 362) (off := 330) d_law_32 (by decide) (by decide) (by decide) (by decide) (law_c6 hs hL hi4 h hM hk)
        · exact Z_tableIn (tgt := 385) (off := 353) d_law_32 (by decide) (by decide) (by decide) (by decide) (law_c7 hs hL hi4 h hM hk)
        · exact Z_tableIn (tgt := 398) (off := 366) d_law_32 (by decide) (by decide) (by decide) (by decide) (law_c8 hs hL hi4 h hM hk)
        · exact Z_tableIn (tgt := 421) (off := 389) d_law_32 (by decide) (by decide) (by decide) (by decide) (law_c9 hs hL hi4 h hM hk)
        · exact Z_tableIn (tgt := 434) (off := 402) d_law_32 (by decide) (by decide) (by decide) (by decide) (law_c10 hs hL hi4 h hM hk)
        · exact Z_tableIn (tgt := 457) (off := 425) d_law_32 (by decide) (by decide) (by decide) (by decide) (law_c11 hs hL hi4 h hM hk)
        · exact Z_tableIn (tgt := 490) (off := 458) d_law_32 (by decide) (by decide) (by decide) (by decide) (law_c12 hs hL hi4 h hM hk)
        · exact Z_tableIn (tgt := 503) (off := 471) d_law_32 (by decide) (by decide) (by decide) (by decide) (law_c13 hs hL hi4 h hM hk)
        · exact Z_tableIn (tgt := 526) (off := 494) d_law_32 (by decide) (by decide) (by decide) (by decide) (law_c14 hs hL hi4 h hM hk)
        · exact Z_tableIn (tgt := 559) (off := 527) d_law_32 (by decide) (by decide) (by decide) (by decide) (law_c15 hs hL hi4 h hM hk)
        · exact Z_tableIn (tgt := 592) (off := 560) d_law_32 (by decide) (by decide) (by decide) (by decide) (law_c16 hs hL hi4 h hM hk)
        · exact Z_tableIn (tgt := 625) (off := 593) d_law_32 (by decide) (by decide) (by decide) (by decide) (law_c17 hs hL hi4 h hM hk)
        · exact Z_tableIn (tgt := 658) (off := 626) d_law_32 (by decide) (by decide) (by decide) (by decide) (law_c18 hs hL hi4 h hM hk)
        · exact Z_tableIn (tgt := 701) (off := 669) d_law_32 (by decide) (by decide) (by decide) (by decide) (law_c19 hs hL hi4 h hM hk)
        · exact Z_tableIn (tgt := 734) (off := 702) d_law_32 (by decide) (by decide) (by decide) (by decide) (law_c20 hs hL hi4 h hM hk)
        · exact Z_tableIn (tgt := 767) (off := 735) d_law_32 (by decide) (by decide) (by decide) (by decide) (law_c21 hs hL hi4 h hM hk)
        · exact Z_tableIn (tgt := 790) (off := 758) d_law_32 (by decide) (by decide) (by decide) (by decide) (law_c22 hs hL hi4 h hM hk)
        · exact Z_tableIn (tgt := 823) (off := 791) d_law_32 (by decide) (by decide) (by decide) (by decide) (law_c23 hs hL hi4 h hM hk)
        · exact Z_tableIn (tgt := 856) (off := 824) d_law_32 (by decide) (by decide) (by decide) (by decide) (law_c24 hs hL hi4 h hM hk)
        · exact Z_tableIn (tgt := 899) (off := 867) d_law_32 (by decide) (by decide) (by decide) (by decide) (law_c25 hs hL hi4 h hM hk)
        · exact Z_tableIn (tgt := 922) (off := 890) d_law_32 (by decide) (by decide) (by decide) (by decide) (law_c26 hs hL hi4 h hM hk)
        · exact Z_tableIn (tgt := 945) (off := 913) d_law_32 (by decide) (by decide) (by decide) (by decide) (law_c27 hs hL hi4 h hM hk)
        · exact Z_tableIn (tgt := 978) (off := 946) d_law_32 (by decide) (by decide) (by decide) (by decide) (law_c28 hs hL hi4 h hM hk)
        · exact Z_tableIn (tgt := 1011) (off := 979) d_law_32 (by decide) (by decide) (by decide) (by decide) (law_c29 hs hL hi4 h hM hk)
        · exact Z_tableIn (tgt := 1044) (off := 1012) d_law_32 (by decide) (by decide) (by decide) (by decide) (law_c30 hs hL hi4 h hM hk)
        · exact Z_tableIn (tgt := 1077) (off := 1045) d_law_32 (by decide) (by decide) (by decide) (by decide) (law_c31 hs hL hi4 h hM hk)
        · exact Z_tableIn (tgt := 1100) (off := 1068) d_law_32 (by decide) (by decide) (by decide) (by decide) (law_c32 hs hL hi4 h hM hk)
        · exact Z_tableIn (tgt := 1124) (off := 1092) d_law_32 (by decide) (by decide) (by decide) (by decide) (law_c33 hs hL hi4 h hM hk)
        · exact Z_tableIn (tgt := 1167) (off := 1135) d_law_32 (by decide) (by decide) (by decide) (by decide) (law_c34 hs hL hi4 h hM hk)
        · exact Z_tableIn (tgt := 1210) (off := 1178) d_law_32 (by decide) (by decide) (by decide) (by decide) (law_c35 hs hL hi4 h hM hk)
        · exact Z_tableIn (tgt := 1243) (off := 1211) d_law_32 (by decide) (by decide) (by decide) (by decide) (law_c36 hs hL hi4 h hM hk)
        · exact Z_tableIn (tgt := 1276) (off := 1244) d_law_32 (by decide) (by decide) (by decide) (by decide) (law_c37 hs hL hi4 h hM hk)
        · exact Z_tableIn (tgt := 1289) (off := 1257) d_law_32 (by decide) (by decide) (by decide) (by decide) (law_c38 hs hL hi4 h hM hk)
