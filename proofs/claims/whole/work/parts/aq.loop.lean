/-! the law's loop -/
section LOOP
variable {xs : Nat → Int} {L d k pc : Nat} {ls st r : List Value} {sh : List (Nat × Nat)} {M : Nat → Nat → Int} {Q : Option Value → px_H → Prop} {n : Nat}
theorem rr_icmp_same {v off : Int} (tgt : Nat) (hf : px_fetch k pc = some (.if_icmp .eq off, 3)) (ht : (pc : Int) + off = (tgt : Int)) (G : px_R xs L d k (tgt, ls, st, (sh, M)) Q) : px_R xs L d k (pc, ls, .int (iI v) :: .int (iI v) :: st, (sh, M)) Q := by
  have hv : rg (iI v).toInt := by have h1 := Int32.le_toInt (iI v); have h2 := Int32.toInt_lt (iI v); unfold rg; omega
  rw [← iI_iI (x := v)]
  exact rr_icmp_eq tgt hf ht hv hv (fun _ => G) (fun z => absurd rfl z)
theorem lI_lI {v : Int} : lI ((lI v).toInt) = lI v := by unfold lI; exact Int64.ofInt_toInt _
theorem rr_lcmp_same {v : Int} (hf : px_fetch k pc = some (.lcmp, 1)) (G : px_R xs L d k (pc + 1, ls, .int (iI (cm (lI v).toInt (lI v).toInt)) :: st, (sh, M)) Q) : px_R xs L d k (pc, ls, .long (lI v) :: .long (lI v) :: st, (sh, M)) Q := by
  have hv : rl (lI v).toInt := by have h1 := Int64.le_toInt (lI v); have h2 := Int64.toInt_lt (lI v); unfold rl; omega
  rw [← lI_lI (v := v)]
  refine rr_lcmp hf hv hv ?_
  exact G
theorem JJ_s (h : JJ sh M n) (hn : n < 600) : JJ sh M (n + 1) := by
  obtain ⟨hn6, ⟨hW, hF, hG, hl1, hl2⟩, x, tl, ld, st, ft, sp, tn, tb, rf, dl, yf, im, hC, hR, hP⟩ := h
  exact ⟨by omega, ⟨hW, hF, hG, by omega, by omega⟩, x, tl, ld, st, ft, sp, tn, tb, rf, dl, yf, im, hC, hR, PO_s hP⟩
theorem lc_word (hxs : ∀ j, rg (xs j)) (hd : 44 ≤ d) (hL : L ≤ 3072) (hi : 6 * n + 6 ≤ L) (h : JJ sh M n) (G : ∀ sh2 M2, JJ sh2 M2 (n + 1) → px_R xs L d 0 (1306, [.retAddr 0, .ref 0, .ref 228, .int (iI ((6 * n : Nat) : Int))], [], (sh2, M2)) Q) : px_R xs L d 0 (212, [.retAddr 0, .ref 0, .ref 228, .int (iI ((6 * n : Nat) : Int))], [], (sh, M)) Q := by
  obtain ⟨v, sh2, M1, M2, c1, c2, hJ⟩ := st_word (xs := xs) (L := L) hd h (by omega) (hxs (((6 * n : Nat) : Int) + 1).toNat) (hxs (((6 * n : Nat) : Int) + 2).toNat)
  have hW := h.2.1.1
  have hW2 := hJ.2.1.1
  refine rr_aload_n pf_0_212 rfl ?_
  refine rr_aload_nT pf_0_213 rfl (by decide) ?_
  refine rr_iload_n pf_0_214 rfl ?_
  refine rr_iconst pf_0_215 ?_
  refine rr_iadd pf_0_216 ?_
  refine rr_sald pf_0_217 (by omega) (by omega) (by unfold rg; omega) ?_
  refine rr_aload_nT pf_0_218 rfl (by decide) ?_
  refine rr_iload_n pf_0_219 rfl ?_
  refine rr_iconst pf_0_220 ?_
  refine rr_iadd pf_0_221 ?_
  refine rr_sald pf_0_222 (by omega) (by omega) (by unfold rg; omega) ?_
  refine rr_cV2 pf_0_223 po_0 pc_25_13 (ws_0 hW) po_10 (by decide) rfl c1 ?_
  refine rr_aload_n pf_0_226 rfl ?_
  refine rr_aload_nT pf_0_227 rfl (by decide) ?_
  refine rr_iload_n pf_0_228 rfl ?_
  refine rr_iconst pf_0_229 ?_
  refine rr_iadd pf_0_230 ?_
  refine rr_sald pf_0_231 (by omega) (by omega) (by unfold rg; omega) ?_
  refine rr_aload_nT pf_0_232 rfl (by decide) ?_
  refine rr_iload_n pf_0_233 rfl ?_
  refine rr_iconst pf_0_234 ?_
  refine rr_iadd pf_0_235 ?_
  refine rr_sald pf_0_236 (by omega) (by omega) (by unfold rg; omega) ?_
  refine rr_cV2 pf_0_237 po_0 pc_25_17 (ws_228 hW2) po_182 (by decide) rfl c2 ?_
  refine rr_icmp_same 1306 pf_0_240 (by decide) (G sh2 M2 hJ)

theorem lc_of (hxs : ∀ j, rg (xs j)) (hd : 44 ≤ d) (hL : L ≤ 3072) (hi : 6 * n + 6 ≤ L) (h : JJ sh M n) (G : ∀ sh2 M2, JJ sh2 M2 (n + 1) → px_R xs L d 0 (1306, [.retAddr 0, .ref 0, .ref 228, .int (iI ((6 * n : Nat) : Int))], [], (sh2, M2)) Q) : px_R xs L d 0 (245, [.retAddr 0, .ref 0, .ref 228, .int (iI ((6 * n : Nat) : Int))], [], (sh, M)) Q := by
  obtain ⟨v, sh2, M1, M2, c1, c2, hJ⟩ := st_of (xs := xs) (L := L) hd h (by omega) (hxs (((6 * n : Nat) : Int) + 1).toNat) (hxs (((6 * n : Nat) : Int) + 2).toNat)
  have hW := h.2.1.1
  have hW2 := hJ.2.1.1
  refine rr_aload_n pf_0_245 rfl ?_
  refine rr_aload_nT pf_0_246 rfl (by decide) ?_
  refine rr_iload_n pf_0_247 rfl ?_
  refine rr_iconst pf_0_248 ?_
  refine rr_iadd pf_0_249 ?_
  refine rr_sald pf_0_250 (by omega) (by omega) (by unfold rg; omega) ?_
  refine rr_aload_nT pf_0_251 rfl (by decide) ?_
  refine rr_iload_n pf_0_252 rfl ?_
  refine rr_iconst pf_0_253 ?_
  refine rr_iadd pf_0_254 ?_
  refine rr_sald pf_0_255 (by omega) (by omega) (by unfold rg; omega) ?_
  refine rr_cV2 pf_0_256 po_0 pc_25_18 (ws_0 hW) po_16 (by decide) rfl c1 ?_
  refine rr_aload_n pf_0_259 rfl ?_
  refine rr_aload_nT pf_0_260 rfl (by decide) ?_
  refine rr_iload_n pf_0_261 rfl ?_
  refine rr_iconst pf_0_262 ?_
  refine rr_iadd pf_0_263 ?_
  refine rr_sald pf_0_264 (by omega) (by omega) (by unfold rg; omega) ?_
  refine rr_aload_nT pf_0_265 rfl (by decide) ?_
  refine rr_iload_n pf_0_266 rfl ?_
  refine rr_iconst pf_0_267 ?_
  refine rr_iadd pf_0_268 ?_
  refine rr_sald pf_0_269 (by omega) (by omega) (by unfold rg; omega) ?_
  refine rr_cV2 pf_0_270 po_0 pc_25_21 (ws_228 hW2) po_184 (by decide) rfl c2 ?_
  refine rr_icmp_same 1306 pf_0_273 (by decide) (G sh2 M2 hJ)

theorem lc_at (hxs : ∀ j, rg (xs j)) (hd : 44 ≤ d) (hL : L ≤ 3072) (hi : 6 * n + 6 ≤ L) (h : JJ sh M n) (G : ∀ sh2 M2, JJ sh2 M2 (n + 1) → px_R xs L d 0 (1306, [.retAddr 0, .ref 0, .ref 228, .int (iI ((6 * n : Nat) : Int))], [], (sh2, M2)) Q) : px_R xs L d 0 (278, [.retAddr 0, .ref 0, .ref 228, .int (iI ((6 * n : Nat) : Int))], [], (sh, M)) Q := by
  obtain ⟨v, sh2, M1, M2, c1, c2, hJ⟩ := st_at (xs := xs) (L := L) hd h (by omega) (hxs (((6 * n : Nat) : Int) + 1).toNat) (hxs (((6 * n : Nat) : Int) + 2).toNat)
  have hW := h.2.1.1
  have hW2 := hJ.2.1.1
  refine rr_aload_n pf_0_278 rfl ?_
  refine rr_aload_nT pf_0_279 rfl (by decide) ?_
  refine rr_iload_n pf_0_280 rfl ?_
  refine rr_iconst pf_0_281 ?_
  refine rr_iadd pf_0_282 ?_
  refine rr_sald pf_0_283 (by omega) (by omega) (by unfold rg; omega) ?_
  refine rr_aload_nT pf_0_284 rfl (by decide) ?_
  refine rr_iload_n pf_0_285 rfl ?_
  refine rr_iconst pf_0_286 ?_
  refine rr_iadd pf_0_287 ?_
  refine rr_sald pf_0_288 (by omega) (by omega) (by unfold rg; omega) ?_
  refine rr_cV2 pf_0_289 po_0 pc_25_22 (ws_0 hW) po_30 (by decide) rfl c1 ?_
  refine rr_aload_n pf_0_292 rfl ?_
  refine rr_aload_nT pf_0_293 rfl (by decide) ?_
  refine rr_iload_n pf_0_294 rfl ?_
  refine rr_iconst pf_0_295 ?_
  refine rr_iadd pf_0_296 ?_
  refine rr_sald pf_0_297 (by omega) (by omega) (by unfold rg; omega) ?_
  refine rr_aload_nT pf_0_298 rfl (by decide) ?_
  refine rr_iload_n pf_0_299 rfl ?_
  refine rr_iconst pf_0_300 ?_
  refine rr_iadd pf_0_301 ?_
  refine rr_sald pf_0_302 (by omega) (by omega) (by unfold rg; omega) ?_
  refine rr_cV2 pf_0_303 po_0 pc_25_25 (ws_228 hW2) po_198 (by decide) rfl c2 ?_
  refine rr_icmp_same 1306 pf_0_306 (by decide) (G sh2 M2 hJ)

theorem lc_listener (hxs : ∀ j, rg (xs j)) (hd : 44 ≤ d) (hL : L ≤ 3072) (hi : 6 * n + 6 ≤ L) (h : JJ sh M n) (G : ∀ sh2 M2, JJ sh2 M2 (n + 1) → px_R xs L d 0 (1306, [.retAddr 0, .ref 0, .ref 228, .int (iI ((6 * n : Nat) : Int))], [], (sh2, M2)) Q) : px_R xs L d 0 (311, [.retAddr 0, .ref 0, .ref 228, .int (iI ((6 * n : Nat) : Int))], [], (sh, M)) Q := by
  obtain ⟨v, sh2, M1, M2, c1, c2, hJ⟩ := st_listener (xs := xs) (L := L) hd h (by omega) (hxs (((6 * n : Nat) : Int) + 1).toNat) (hxs (((6 * n : Nat) : Int) + 2).toNat)
  have hW := h.2.1.1
  have hW2 := hJ.2.1.1
  refine rr_aload_n pf_0_311 rfl ?_
  refine rr_aload_nT pf_0_312 rfl (by decide) ?_
  refine rr_iload_n pf_0_313 rfl ?_
  refine rr_iconst pf_0_314 ?_
  refine rr_iadd pf_0_315 ?_
  refine rr_sald pf_0_316 (by omega) (by omega) (by unfold rg; omega) ?_
  refine rr_aload_nT pf_0_317 rfl (by decide) ?_
  refine rr_iload_n pf_0_318 rfl ?_
  refine rr_iconst pf_0_319 ?_
  refine rr_iadd pf_0_320 ?_
  refine rr_sald pf_0_321 (by omega) (by omega) (by unfold rg; omega) ?_
  refine rr_cV2 pf_0_322 po_0 pc_25_26 (ws_0 hW) po_36 (by decide) rfl c1 ?_
  refine rr_aload_n pf_0_325 rfl ?_
  refine rr_aload_nT pf_0_326 rfl (by decide) ?_
  refine rr_iload_n pf_0_327 rfl ?_
  refine rr_iconst pf_0_328 ?_
  refine rr_iadd pf_0_329 ?_
  refine rr_sald pf_0_330 (by omega) (by omega) (by unfold rg; omega) ?_
  refine rr_aload_nT pf_0_331 rfl (by decide) ?_
  refine rr_iload_n pf_0_332 rfl ?_
  refine rr_iconst pf_0_333 ?_
  refine rr_iadd pf_0_334 ?_
  refine rr_sald pf_0_335 (by omega) (by omega) (by unfold rg; omega) ?_
  refine rr_cV2 pf_0_336 po_0 pc_25_29 (ws_228 hW2) po_203 (by decide) rfl c2 ?_
  refine rr_icmp_same 1306 pf_0_339 (by decide) (G sh2 M2 hJ)

theorem lc_has (hxs : ∀ j, rg (xs j)) (hd : 44 ≤ d) (hL : L ≤ 3072) (hi : 6 * n + 6 ≤ L) (h : JJ sh M n) (G : ∀ sh2 M2, JJ sh2 M2 (n + 1) → px_R xs L d 0 (1306, [.retAddr 0, .ref 0, .ref 228, .int (iI ((6 * n : Nat) : Int))], [], (sh2, M2)) Q) : px_R xs L d 0 (344, [.retAddr 0, .ref 0, .ref 228, .int (iI ((6 * n : Nat) : Int))], [], (sh, M)) Q := by
  obtain ⟨v, sh2, M1, M2, c1, c2, hJ⟩ := st_has (xs := xs) (L := L) hd h (by omega) (hxs (((6 * n : Nat) : Int) + 1).toNat) (hxs (((6 * n : Nat) : Int) + 2).toNat)
  have hW := h.2.1.1
  have hW2 := hJ.2.1.1
  refine rr_aload_n pf_0_344 rfl ?_
  refine rr_aload_nT pf_0_345 rfl (by decide) ?_
  refine rr_iload_n pf_0_346 rfl ?_
  refine rr_iconst pf_0_347 ?_
  refine rr_iadd pf_0_348 ?_
  refine rr_sald pf_0_349 (by omega) (by omega) (by unfold rg; omega) ?_
  refine rr_aload_nT pf_0_350 rfl (by decide) ?_
  refine rr_iload_n pf_0_351 rfl ?_
  refine rr_iconst pf_0_352 ?_
  refine rr_iadd pf_0_353 ?_
  refine rr_sald pf_0_354 (by omega) (by omega) (by unfold rg; omega) ?_
  refine rr_cV2 pf_0_355 po_0 pc_25_30 (ws_0 hW) po_39 (by decide) rfl c1 ?_
  refine rr_aload_n pf_0_358 rfl ?_
  refine rr_aload_nT pf_0_359 rfl (by decide) ?_
  refine rr_iload_n pf_0_360 rfl ?_
  refine rr_iconst pf_0_361 ?_
  refine rr_iadd pf_0_362 ?_
  refine rr_sald pf_0_363 (by omega) (by omega) (by unfold rg; omega) ?_
  refine rr_aload_nT pf_0_364 rfl (by decide) ?_
  refine rr_iload_n pf_0_365 rfl ?_
  refine rr_iconst pf_0_366 ?_
  refine rr_iadd pf_0_367 ?_
  refine rr_sald pf_0_368 (by omega) (by omega) (by unfold rg; omega) ?_
  refine rr_cV2 pf_0_369 po_0 pc_25_33 (ws_228 hW2) po_206 (by decide) rfl c2 ?_
  refine rr_icmp_same 1306 pf_0_372 (by decide) (G sh2 M2 hJ)

theorem lc_light (hxs : ∀ j, rg (xs j)) (hd : 44 ≤ d) (hL : L ≤ 3072) (hi : 6 * n + 6 ≤ L) (h : JJ sh M n) (G : ∀ sh2 M2, JJ sh2 M2 (n + 1) → px_R xs L d 0 (1306, [.retAddr 0, .ref 0, .ref 228, .int (iI ((6 * n : Nat) : Int))], [], (sh2, M2)) Q) : px_R xs L d 0 (377, [.retAddr 0, .ref 0, .ref 228, .int (iI ((6 * n : Nat) : Int))], [], (sh, M)) Q := by
  obtain ⟨v, sh2, M1, M2, c1, c2, hJ⟩ := st_light (xs := xs) (L := L) hd h (by omega) (hxs (((6 * n : Nat) : Int) + 1).toNat) (hxs (((6 * n : Nat) : Int) + 2).toNat)
  have hW := h.2.1.1
  have hW2 := hJ.2.1.1
  refine rr_aload_n pf_0_377 rfl ?_
  refine rr_aload_nT pf_0_378 rfl (by decide) ?_
  refine rr_iload_n pf_0_379 rfl ?_
  refine rr_iconst pf_0_380 ?_
  refine rr_iadd pf_0_381 ?_
  refine rr_sald pf_0_382 (by omega) (by omega) (by unfold rg; omega) ?_
  refine rr_aload_nT pf_0_383 rfl (by decide) ?_
  refine rr_iload_n pf_0_384 rfl ?_
  refine rr_iconst pf_0_385 ?_
  refine rr_iadd pf_0_386 ?_
  refine rr_sald pf_0_387 (by omega) (by omega) (by unfold rg; omega) ?_
  refine rr_cV2 pf_0_388 po_0 pc_25_34 (ws_0 hW) po_44 (by decide) rfl c1 ?_
  refine rr_aload_n pf_0_391 rfl ?_
  refine rr_aload_nT pf_0_392 rfl (by decide) ?_
  refine rr_iload_n pf_0_393 rfl ?_
  refine rr_iconst pf_0_394 ?_
  refine rr_iadd pf_0_395 ?_
  refine rr_sald pf_0_396 (by omega) (by omega) (by unfold rg; omega) ?_
  refine rr_aload_nT pf_0_397 rfl (by decide) ?_
  refine rr_iload_n pf_0_398 rfl ?_
  refine rr_iconst pf_0_399 ?_
  refine rr_iadd pf_0_400 ?_
  refine rr_sald pf_0_401 (by omega) (by omega) (by unfold rg; omega) ?_
  refine rr_cV2 pf_0_402 po_0 pc_25_37 (ws_228 hW2) po_210 (by decide) rfl c2 ?_
  refine rr_icmp_same 1306 pf_0_405 (by decide) (G sh2 M2 hJ)

theorem lc_terms (hxs : ∀ j, rg (xs j)) (hd : 44 ≤ d) (hL : L ≤ 3072) (hi : 6 * n + 6 ≤ L) (h : JJ sh M n) (G : ∀ sh2 M2, JJ sh2 M2 (n + 1) → px_R xs L d 0 (1306, [.retAddr 0, .ref 0, .ref 228, .int (iI ((6 * n : Nat) : Int))], [], (sh2, M2)) Q) : px_R xs L d 0 (410, [.retAddr 0, .ref 0, .ref 228, .int (iI ((6 * n : Nat) : Int))], [], (sh, M)) Q := by
  obtain ⟨v, sh2, M1, M2, c1, c2, hJ⟩ := st_terms (xs := xs) (L := L) hd h (by omega) (hxs (((6 * n : Nat) : Int) + 1).toNat) (hxs (((6 * n : Nat) : Int) + 2).toNat)
  have hW := h.2.1.1
  have hW2 := hJ.2.1.1
  refine rr_aload_n pf_0_410 rfl ?_
  refine rr_aload_nT pf_0_411 rfl (by decide) ?_
  refine rr_iload_n pf_0_412 rfl ?_
  refine rr_iconst pf_0_413 ?_
  refine rr_iadd pf_0_414 ?_
  refine rr_sald pf_0_415 (by omega) (by omega) (by unfold rg; omega) ?_
  refine rr_aload_nT pf_0_416 rfl (by decide) ?_
  refine rr_iload_n pf_0_417 rfl ?_
  refine rr_iconst pf_0_418 ?_
  refine rr_iadd pf_0_419 ?_
  refine rr_sald pf_0_420 (by omega) (by omega) (by unfold rg; omega) ?_
  refine rr_cV2 pf_0_421 po_0 pc_25_38 (ws_0 hW) po_45 (by decide) rfl c1 ?_
  refine rr_aload_n pf_0_424 rfl ?_
  refine rr_aload_nT pf_0_425 rfl (by decide) ?_
  refine rr_iload_n pf_0_426 rfl ?_
  refine rr_iconst pf_0_427 ?_
  refine rr_iadd pf_0_428 ?_
  refine rr_sald pf_0_429 (by omega) (by omega) (by unfold rg; omega) ?_
  refine rr_aload_nT pf_0_430 rfl (by decide) ?_
  refine rr_iload_n pf_0_431 rfl ?_
  refine rr_iconst pf_0_432 ?_
  refine rr_iadd pf_0_433 ?_
  refine rr_sald pf_0_434 (by omega) (by omega) (by unfold rg; omega) ?_
  refine rr_cV2 pf_0_435 po_0 pc_25_41 (ws_228 hW2) po_211 (by decide) rfl c2 ?_
  refine rr_icmp_same 1306 pf_0_438 (by decide) (G sh2 M2 hJ)

theorem lc_feed (hxs : ∀ j, rg (xs j)) (hd : 44 ≤ d) (hL : L ≤ 3072) (hi : 6 * n + 6 ≤ L) (h : JJ sh M n) (G : ∀ sh2 M2, JJ sh2 M2 (n + 1) → px_R xs L d 0 (1306, [.retAddr 0, .ref 0, .ref 228, .int (iI ((6 * n : Nat) : Int))], [], (sh2, M2)) Q) : px_R xs L d 0 (443, [.retAddr 0, .ref 0, .ref 228, .int (iI ((6 * n : Nat) : Int))], [], (sh, M)) Q := by
  obtain ⟨v, sh2, M1, M2, c1, c2, hJ⟩ := st_feed (xs := xs) (L := L) hd h (by omega) (hxs (((6 * n : Nat) : Int) + 1).toNat) (hxs (((6 * n : Nat) : Int) + 2).toNat) (hxs (((6 * n : Nat) : Int) + 3).toNat) (hxs (((6 * n : Nat) : Int) + 4).toNat) (hxs (((6 * n : Nat) : Int) + 5).toNat)
  have hW := h.2.1.1
  have hW2 := hJ.2.1.1
  refine rr_aload_n pf_0_443 rfl ?_
  refine rr_aload_nT pf_0_444 rfl (by decide) ?_
  refine rr_iload_n pf_0_445 rfl ?_
  refine rr_iconst pf_0_446 ?_
  refine rr_iadd pf_0_447 ?_
  refine rr_sald pf_0_448 (by omega) (by omega) (by unfold rg; omega) ?_
  refine rr_aload_nT pf_0_449 rfl (by decide) ?_
  refine rr_iload_n pf_0_450 rfl ?_
  refine rr_iconst pf_0_451 ?_
  refine rr_iadd pf_0_452 ?_
  refine rr_sald pf_0_453 (by omega) (by omega) (by unfold rg; omega) ?_
  refine rr_aload_nT pf_0_454 rfl (by decide) ?_
  refine rr_iload_n pf_0_455 rfl ?_
  refine rr_iconst pf_0_456 ?_
  refine rr_iadd pf_0_457 ?_
  refine rr_sald pf_0_458 (by omega) (by omega) (by unfold rg; omega) ?_
  refine rr_aload_nT pf_0_459 rfl (by decide) ?_
  refine rr_iload_n pf_0_460 rfl ?_
  refine rr_iconst pf_0_461 ?_
  refine rr_iadd pf_0_462 ?_
  refine rr_sald pf_0_463 (by omega) (by omega) (by unfold rg; omega) ?_
  refine rr_aload_nT pf_0_464 rfl (by decide) ?_
  refine rr_iload_n pf_0_465 rfl ?_
  refine rr_iconst pf_0_466 ?_
  refine rr_iadd pf_0_467 ?_
  refine rr_sald pf_0_468 (by omega) (by omega) (by unfold rg; omega) ?_
  refine rr_cV5 pf_0_469 po_0 pc_25_42 (ws_0 hW) po_48 (by decide) rfl c1 ?_
  refine rr_aload_n pf_0_472 rfl ?_
  refine rr_aload_nT pf_0_473 rfl (by decide) ?_
  refine rr_iload_n pf_0_474 rfl ?_
  refine rr_iconst pf_0_475 ?_
  refine rr_iadd pf_0_476 ?_
  refine rr_sald pf_0_477 (by omega) (by omega) (by unfold rg; omega) ?_
  refine rr_aload_nT pf_0_478 rfl (by decide) ?_
  refine rr_iload_n pf_0_479 rfl ?_
  refine rr_iconst pf_0_480 ?_
  refine rr_iadd pf_0_481 ?_
  refine rr_sald pf_0_482 (by omega) (by omega) (by unfold rg; omega) ?_
  refine rr_aload_nT pf_0_483 rfl (by decide) ?_
  refine rr_iload_n pf_0_484 rfl ?_
  refine rr_iconst pf_0_485 ?_
  refine rr_iadd pf_0_486 ?_
  refine rr_sald pf_0_487 (by omega) (by omega) (by unfold rg; omega) ?_
  refine rr_aload_nT pf_0_488 rfl (by decide) ?_
  refine rr_iload_n pf_0_489 rfl ?_
  refine rr_iconst pf_0_490 ?_
  refine rr_iadd pf_0_491 ?_
  refine rr_sald pf_0_492 (by omega) (by omega) (by unfold rg; omega) ?_
  refine rr_aload_nT pf_0_493 rfl (by decide) ?_
  refine rr_iload_n pf_0_494 rfl ?_
  refine rr_iconst pf_0_495 ?_
  refine rr_iadd pf_0_496 ?_
  refine rr_sald pf_0_497 (by omega) (by omega) (by unfold rg; omega) ?_
  refine rr_cV5 pf_0_498 po_0 pc_25_46 (ws_228 hW2) po_215 (by decide) rfl c2 ?_
  refine rr_icmp_same 1306 pf_0_501 (by decide) (G sh2 M2 hJ)

theorem lc_end (hxs : ∀ j, rg (xs j)) (hd : 44 ≤ d) (hL : L ≤ 3072) (hi : 6 * n + 6 ≤ L) (h : JJ sh M n) (G : ∀ sh2 M2, JJ sh2 M2 (n + 1) → px_R xs L d 0 (1306, [.retAddr 0, .ref 0, .ref 228, .int (iI ((6 * n : Nat) : Int))], [], (sh2, M2)) Q) : px_R xs L d 0 (506, [.retAddr 0, .ref 0, .ref 228, .int (iI ((6 * n : Nat) : Int))], [], (sh, M)) Q := by
  obtain ⟨v, sh2, M1, M2, c1, c2, hJ⟩ := st_end (xs := xs) (L := L) hd h (by omega) (hxs (((6 * n : Nat) : Int) + 1).toNat)
  have hW := h.2.1.1
  have hW2 := hJ.2.1.1
  refine rr_aload_n pf_0_506 rfl ?_
  refine rr_aload_nT pf_0_507 rfl (by decide) ?_
  refine rr_iload_n pf_0_508 rfl ?_
  refine rr_iconst pf_0_509 ?_
  refine rr_iadd pf_0_510 ?_
  refine rr_sald pf_0_511 (by omega) (by omega) (by unfold rg; omega) ?_
  refine rr_cV1 pf_0_512 po_0 pc_25_47 (ws_0 hW) po_50 (by decide) rfl c1 ?_
  refine rr_aload_n pf_0_515 rfl ?_
  refine rr_aload_nT pf_0_516 rfl (by decide) ?_
  refine rr_iload_n pf_0_517 rfl ?_
  refine rr_iconst pf_0_518 ?_
  refine rr_iadd pf_0_519 ?_
  refine rr_sald pf_0_520 (by omega) (by omega) (by unfold rg; omega) ?_
  refine rr_cV1 pf_0_521 po_0 pc_25_51 (ws_228 hW2) po_217 (by decide) rfl c2 ?_
  refine rr_icmp_same 1306 pf_0_524 (by decide) (G sh2 M2 hJ)

theorem lc_row (hxs : ∀ j, rg (xs j)) (hd : 44 ≤ d) (hL : L ≤ 3072) (hi : 6 * n + 6 ≤ L) (h : JJ sh M n) (G : ∀ sh2 M2, JJ sh2 M2 (n + 1) → px_R xs L d 0 (1306, [.retAddr 0, .ref 0, .ref 228, .int (iI ((6 * n : Nat) : Int))], [], (sh2, M2)) Q) : px_R xs L d 0 (529, [.retAddr 0, .ref 0, .ref 228, .int (iI ((6 * n : Nat) : Int))], [], (sh, M)) Q := by
  obtain ⟨v, sh2, M1, M2, c1, c2, hJ⟩ := st_row (xs := xs) (L := L) hd h (by omega) 
  have hW := h.2.1.1
  have hW2 := hJ.2.1.1
  refine rr_aload_n pf_0_529 rfl ?_
  refine rr_cV0 pf_0_530 po_0 pc_25_52 (ws_0 hW) po_51 (by decide) rfl c1 ?_
  refine rr_aload_n pf_0_533 rfl ?_
  refine rr_cV0 pf_0_534 po_0 pc_25_56 (ws_228 hW2) po_213 (by decide) rfl c2 ?_
  refine rr_icmp_same 1306 pf_0_537 (by decide) (G sh2 M2 hJ)

theorem lc_leads (hxs : ∀ j, rg (xs j)) (hd : 44 ≤ d) (hL : L ≤ 3072) (hi : 6 * n + 6 ≤ L) (h : JJ sh M n) (G : ∀ sh2 M2, JJ sh2 M2 (n + 1) → px_R xs L d 0 (1306, [.retAddr 0, .ref 0, .ref 228, .int (iI ((6 * n : Nat) : Int))], [], (sh2, M2)) Q) : px_R xs L d 0 (542, [.retAddr 0, .ref 0, .ref 228, .int (iI ((6 * n : Nat) : Int))], [], (sh, M)) Q := by
  obtain ⟨v, sh2, M1, M2, c1, c2, hJ⟩ := st_leads (xs := xs) (L := L) hd h (by omega) 
  have hW := h.2.1.1
  have hW2 := hJ.2.1.1
  refine rr_aload_n pf_0_542 rfl ?_
  refine rr_cV0 pf_0_543 po_0 pc_25_57 (ws_0 hW) po_54 (by decide) rfl c1 ?_
  refine rr_aload_n pf_0_546 rfl ?_
  refine rr_cV0 pf_0_547 po_0 pc_25_60 (ws_228 hW2) po_214 (by decide) rfl c2 ?_
  refine rr_icmp_same 1306 pf_0_550 (by decide) (G sh2 M2 hJ)

theorem lc_law (hxs : ∀ j, rg (xs j)) (hd : 44 ≤ d) (hL : L ≤ 3072) (hi : 6 * n + 6 ≤ L) (h : JJ sh M n) (G : ∀ sh2 M2, JJ sh2 M2 (n + 1) → px_R xs L d 0 (1306, [.retAddr 0, .ref 0, .ref 228, .int (iI ((6 * n : Nat) : Int))], [], (sh2, M2)) Q) : px_R xs L d 0 (555, [.retAddr 0, .ref 0, .ref 228, .int (iI ((6 * n : Nat) : Int))], [], (sh, M)) Q := by
  obtain ⟨v, sh2, M1, M2, c1, c2, hJ⟩ := st_law (xs := xs) (L := L) hd h (by omega) 
  have hW := h.2.1.1
  have hW2 := hJ.2.1.1
  refine rr_aload_n pf_0_555 rfl ?_
  refine rr_cV0 pf_0_556 po_0 pc_25_61 (ws_0 hW) po_55 (by decide) rfl c1 ?_
  refine rr_aload_n pf_0_559 rfl ?_
  refine rr_cV0 pf_0_560 po_0 pc_25_64 (ws_228 hW2) po_219 (by decide) rfl c2 ?_
  refine rr_icmp_same 1306 pf_0_563 (by decide) (G sh2 M2 hJ)

theorem lc_orders (hxs : ∀ j, rg (xs j)) (hd : 44 ≤ d) (hL : L ≤ 3072) (hi : 6 * n + 6 ≤ L) (h : JJ sh M n) (G : ∀ sh2 M2, JJ sh2 M2 (n + 1) → px_R xs L d 0 (1306, [.retAddr 0, .ref 0, .ref 228, .int (iI ((6 * n : Nat) : Int))], [], (sh2, M2)) Q) : px_R xs L d 0 (568, [.retAddr 0, .ref 0, .ref 228, .int (iI ((6 * n : Nat) : Int))], [], (sh, M)) Q := by
  obtain ⟨v, sh2, M1, M2, c1, c2, hJ⟩ := st_orders (xs := xs) (L := L) hd h (by omega) 
  have hW := h.2.1.1
  have hW2 := hJ.2.1.1
  refine rr_aload_n pf_0_568 rfl ?_
  refine rr_cV0 pf_0_569 po_0 pc_25_65 (ws_0 hW) po_92 (by decide) rfl c1 ?_
  refine rr_aload_n pf_0_572 rfl ?_
  refine rr_cV0 pf_0_573 po_0 pc_25_68 (ws_228 hW2) po_292 (by decide) rfl c2 ?_
  refine rr_icmp_same 1306 pf_0_576 (by decide) (G sh2 M2 hJ)

theorem lc_fault (hxs : ∀ j, rg (xs j)) (hd : 44 ≤ d) (hL : L ≤ 3072) (hi : 6 * n + 6 ≤ L) (h : JJ sh M n) (G : ∀ sh2 M2, JJ sh2 M2 (n + 1) → px_R xs L d 0 (1306, [.retAddr 0, .ref 0, .ref 228, .int (iI ((6 * n : Nat) : Int))], [], (sh2, M2)) Q) : px_R xs L d 0 (581, [.retAddr 0, .ref 0, .ref 228, .int (iI ((6 * n : Nat) : Int))], [], (sh, M)) Q := by
  obtain ⟨v, sh2, M1, M2, c1, c2, hJ⟩ := st_fault (xs := xs) (L := L) hd h (by omega) 
  have hW := h.2.1.1
  have hW2 := hJ.2.1.1
  refine rr_aload_n pf_0_581 rfl ?_
  refine rr_cV0 pf_0_582 po_0 pc_25_69 (ws_0 hW) po_109 (by decide) rfl c1 ?_
  refine rr_aload_n pf_0_585 rfl ?_
  refine rr_cV0 pf_0_586 po_0 pc_25_72 (ws_228 hW2) po_218 (by decide) rfl c2 ?_
  refine rr_icmp_same 1306 pf_0_589 (by decide) (G sh2 M2 hJ)

theorem lc_stopped (hxs : ∀ j, rg (xs j)) (hd : 44 ≤ d) (hL : L ≤ 3072) (hi : 6 * n + 6 ≤ L) (h : JJ sh M n) (G : ∀ sh2 M2, JJ sh2 M2 (n + 1) → px_R xs L d 0 (1306, [.retAddr 0, .ref 0, .ref 228, .int (iI ((6 * n : Nat) : Int))], [], (sh2, M2)) Q) : px_R xs L d 0 (594, [.retAddr 0, .ref 0, .ref 228, .int (iI ((6 * n : Nat) : Int))], [], (sh, M)) Q := by
  obtain ⟨v, sh2, M1, M2, c1, c2, hJ⟩ := st_stopped (xs := xs) (L := L) hd h (by omega) 
  have hW := h.2.1.1
  have hW2 := hJ.2.1.1
  refine rr_aload_n pf_0_594 rfl ?_
  refine rr_cV0 pf_0_595 po_0 pc_25_73 (ws_0 hW) po_110 (by decide) rfl c1 ?_
  refine rr_aload_n pf_0_598 rfl ?_
  refine rr_cV0 pf_0_599 po_0 pc_25_76 (ws_228 hW2) po_299 (by decide) rfl c2 ?_
  refine rr_icmp_same 1306 pf_0_602 (by decide) (G sh2 M2 hJ)

theorem lc_force (hxs : ∀ j, rg (xs j)) (hd : 44 ≤ d) (hL : L ≤ 3072) (hi : 6 * n + 6 ≤ L) (h : JJ sh M n) (G : ∀ sh2 M2, JJ sh2 M2 (n + 1) → px_R xs L d 0 (1306, [.retAddr 0, .ref 0, .ref 228, .int (iI ((6 * n : Nat) : Int))], [], (sh2, M2)) Q) : px_R xs L d 0 (607, [.retAddr 0, .ref 0, .ref 228, .int (iI ((6 * n : Nat) : Int))], [], (sh, M)) Q := by
  obtain ⟨v, sh2, M1, M2, c1, c2, hJ⟩ := st_force (xs := xs) (L := L) hd h (by omega) (hxs (((6 * n : Nat) : Int) + 1).toNat)
  have hW := h.2.1.1
  have hW2 := hJ.2.1.1
  refine rr_aload_n pf_0_607 rfl ?_
  refine rr_aload_nT pf_0_608 rfl (by decide) ?_
  refine rr_iload_n pf_0_609 rfl ?_
  refine rr_iconst pf_0_610 ?_
  refine rr_iadd pf_0_611 ?_
  refine rr_sald pf_0_612 (by omega) (by omega) (by unfold rg; omega) ?_
  refine rr_cV1 pf_0_613 po_0 pc_25_77 (ws_0 hW) po_111 (by decide) rfl c1 ?_
  refine rr_aload_n pf_0_616 rfl ?_
  refine rr_aload_nT pf_0_617 rfl (by decide) ?_
  refine rr_iload_n pf_0_618 rfl ?_
  refine rr_iconst pf_0_619 ?_
  refine rr_iadd pf_0_620 ?_
  refine rr_sald pf_0_621 (by omega) (by omega) (by unfold rg; omega) ?_
  refine rr_cV1 pf_0_622 po_0 pc_25_80 (ws_228 hW2) po_246 (by decide) rfl c2 ?_
  refine rr_icmp_same 1306 pf_0_625 (by decide) (G sh2 M2 hJ)

theorem lc_preach (hxs : ∀ j, rg (xs j)) (hd : 44 ≤ d) (hL : L ≤ 3072) (hi : 6 * n + 6 ≤ L) (h : JJ sh M n) (G : ∀ sh2 M2, JJ sh2 M2 (n + 1) → px_R xs L d 0 (1306, [.retAddr 0, .ref 0, .ref 228, .int (iI ((6 * n : Nat) : Int))], [], (sh2, M2)) Q) : px_R xs L d 0 (630, [.retAddr 0, .ref 0, .ref 228, .int (iI ((6 * n : Nat) : Int))], [], (sh, M)) Q := by
  obtain ⟨v, sh2, M1, M2, c1, c2, hJ⟩ := st_preach (xs := xs) (L := L) hd h (by omega) (hxs (((6 * n : Nat) : Int) + 1).toNat)
  have hW := h.2.1.1
  have hW2 := hJ.2.1.1
  refine rr_aload_n pf_0_630 rfl ?_
  refine rr_aload_nT pf_0_631 rfl (by decide) ?_
  refine rr_iload_n pf_0_632 rfl ?_
  refine rr_iconst pf_0_633 ?_
  refine rr_iadd pf_0_634 ?_
  refine rr_sald pf_0_635 (by omega) (by omega) (by unfold rg; omega) ?_
  refine rr_cV1 pf_0_636 po_0 pc_25_81 (ws_0 hW) po_112 (by decide) rfl c1 ?_
  refine rr_aload_n pf_0_639 rfl ?_
  refine rr_aload_nT pf_0_640 rfl (by decide) ?_
  refine rr_iload_n pf_0_641 rfl ?_
  refine rr_iconst pf_0_642 ?_
  refine rr_iadd pf_0_643 ?_
  refine rr_sald pf_0_644 (by omega) (by omega) (by unfold rg; omega) ?_
  refine rr_cV1 pf_0_645 po_0 pc_25_84 (ws_228 hW2) po_248 (by decide) rfl c2 ?_
  refine rr_icmp_same 1306 pf_0_648 (by decide) (G sh2 M2 hJ)

theorem lc_scrape (hxs : ∀ j, rg (xs j)) (hd : 44 ≤ d) (hL : L ≤ 3072) (hi : 6 * n + 6 ≤ L) (h : JJ sh M n) (G : ∀ sh2 M2, JJ sh2 M2 (n + 1) → px_R xs L d 0 (1306, [.retAddr 0, .ref 0, .ref 228, .int (iI ((6 * n : Nat) : Int))], [], (sh2, M2)) Q) : px_R xs L d 0 (653, [.retAddr 0, .ref 0, .ref 228, .int (iI ((6 * n : Nat) : Int))], [], (sh, M)) Q := by
  obtain ⟨v, sh2, M1, M2, c1, c2, hJ⟩ := st_scrape (xs := xs) (L := L) hd h (by omega) (hxs (((6 * n : Nat) : Int) + 1).toNat) (hxs (((6 * n : Nat) : Int) + 2).toNat)
  have hW := h.2.1.1
  have hW2 := hJ.2.1.1
  refine rr_aload_n pf_0_653 rfl ?_
  refine rr_aload_nT pf_0_654 rfl (by decide) ?_
  refine rr_iload_n pf_0_655 rfl ?_
  refine rr_iconst pf_0_656 ?_
  refine rr_iadd pf_0_657 ?_
  refine rr_sald pf_0_658 (by omega) (by omega) (by unfold rg; omega) ?_
  refine rr_aload_nT pf_0_659 rfl (by decide) ?_
  refine rr_iload_n pf_0_660 rfl ?_
  refine rr_iconst pf_0_661 ?_
  refine rr_iadd pf_0_662 ?_
  refine rr_sald pf_0_663 (by omega) (by omega) (by unfold rg; omega) ?_
  refine rr_cV2 pf_0_664 po_0 pc_25_85 (ws_0 hW) po_114 (by decide) rfl c1 ?_
  refine rr_aload_n pf_0_667 rfl ?_
  refine rr_aload_nT pf_0_668 rfl (by decide) ?_
  refine rr_iload_n pf_0_669 rfl ?_
  refine rr_iconst pf_0_670 ?_
  refine rr_iadd pf_0_671 ?_
  refine rr_sald pf_0_672 (by omega) (by omega) (by unfold rg; omega) ?_
  refine rr_aload_nT pf_0_673 rfl (by decide) ?_
  refine rr_iload_n pf_0_674 rfl ?_
  refine rr_iconst pf_0_675 ?_
  refine rr_iadd pf_0_676 ?_
  refine rr_sald pf_0_677 (by omega) (by omega) (by unfold rg; omega) ?_
  refine rr_cV2 pf_0_678 po_0 pc_25_88 (ws_228 hW2) po_253 (by decide) rfl c2 ?_
  refine rr_icmp_same 1306 pf_0_681 (by decide) (G sh2 M2 hJ)

theorem lc_walk (hxs : ∀ j, rg (xs j)) (hd : 44 ≤ d) (hL : L ≤ 3072) (hi : 6 * n + 6 ≤ L) (h : JJ sh M n) (G : ∀ sh2 M2, JJ sh2 M2 (n + 1) → px_R xs L d 0 (1306, [.retAddr 0, .ref 0, .ref 228, .int (iI ((6 * n : Nat) : Int))], [], (sh2, M2)) Q) : px_R xs L d 0 (686, [.retAddr 0, .ref 0, .ref 228, .int (iI ((6 * n : Nat) : Int))], [], (sh, M)) Q := by
  obtain ⟨v, sh2, M1, M2, c1, c2, hJ⟩ := st_walk (xs := xs) (L := L) hd h (by omega) (hxs (((6 * n : Nat) : Int) + 1).toNat)
  have hW := h.2.1.1
  have hW2 := hJ.2.1.1
  refine rr_aload_n pf_0_686 rfl ?_
  refine rr_aload_nT pf_0_687 rfl (by decide) ?_
  refine rr_iload_n pf_0_688 rfl ?_
  refine rr_iconst pf_0_689 ?_
  refine rr_iadd pf_0_690 ?_
  refine rr_sald pf_0_691 (by omega) (by omega) (by unfold rg; omega) ?_
  refine rr_cV1 pf_0_692 po_0 pc_25_89 (ws_0 hW) po_115 (by decide) rfl c1 ?_
  refine rr_aload_n pf_0_695 rfl ?_
  refine rr_aload_nT pf_0_696 rfl (by decide) ?_
  refine rr_iload_n pf_0_697 rfl ?_
  refine rr_iconst pf_0_698 ?_
  refine rr_iadd pf_0_699 ?_
  refine rr_sald pf_0_700 (by omega) (by omega) (by unfold rg; omega) ?_
  refine rr_cV1 pf_0_701 po_0 pc_25_92 (ws_228 hW2) po_255 (by decide) rfl c2 ?_
  refine rr_icmp_same 1306 pf_0_704 (by decide) (G sh2 M2 hJ)

theorem lc_sit (hxs : ∀ j, rg (xs j)) (hd : 44 ≤ d) (hL : L ≤ 3072) (hi : 6 * n + 6 ≤ L) (h : JJ sh M n) (G : ∀ sh2 M2, JJ sh2 M2 (n + 1) → px_R xs L d 0 (1306, [.retAddr 0, .ref 0, .ref 228, .int (iI ((6 * n : Nat) : Int))], [], (sh2, M2)) Q) : px_R xs L d 0 (709, [.retAddr 0, .ref 0, .ref 228, .int (iI ((6 * n : Nat) : Int))], [], (sh, M)) Q := by
  obtain ⟨v, sh2, M1, M2, c1, c2, hJ⟩ := st_sit (xs := xs) (L := L) hd h (by omega) (hxs (((6 * n : Nat) : Int) + 1).toNat) (hxs (((6 * n : Nat) : Int) + 2).toNat)
  have hW := h.2.1.1
  have hW2 := hJ.2.1.1
  refine rr_aload_n pf_0_709 rfl ?_
  refine rr_aload_nT pf_0_710 rfl (by decide) ?_
  refine rr_iload_n pf_0_711 rfl ?_
  refine rr_iconst pf_0_712 ?_
  refine rr_iadd pf_0_713 ?_
  refine rr_sald pf_0_714 (by omega) (by omega) (by unfold rg; omega) ?_
  refine rr_aload_nT pf_0_715 rfl (by decide) ?_
  refine rr_iload_n pf_0_716 rfl ?_
  refine rr_iconst pf_0_717 ?_
  refine rr_iadd pf_0_718 ?_
  refine rr_sald pf_0_719 (by omega) (by omega) (by unfold rg; omega) ?_
  refine rr_cV2 pf_0_720 po_0 pc_25_93 (ws_0 hW) po_116 (by decide) rfl c1 ?_
  refine rr_aload_n pf_0_723 rfl ?_
  refine rr_aload_nT pf_0_724 rfl (by decide) ?_
  refine rr_iload_n pf_0_725 rfl ?_
  refine rr_iconst pf_0_726 ?_
  refine rr_iadd pf_0_727 ?_
  refine rr_sald pf_0_728 (by omega) (by omega) (by unfold rg; omega) ?_
  refine rr_aload_nT pf_0_729 rfl (by decide) ?_
  refine rr_iload_n pf_0_730 rfl ?_
  refine rr_iconst pf_0_731 ?_
  refine rr_iadd pf_0_732 ?_
  refine rr_sald pf_0_733 (by omega) (by omega) (by unfold rg; omega) ?_
  refine rr_cV2 pf_0_734 po_0 pc_25_96 (ws_228 hW2) po_257 (by decide) rfl c2 ?_
  refine rr_icmp_same 1306 pf_0_737 (by decide) (G sh2 M2 hJ)

theorem lc_pass (hxs : ∀ j, rg (xs j)) (hd : 44 ≤ d) (hL : L ≤ 3072) (hi : 6 * n + 6 ≤ L) (h : JJ sh M n) (G : ∀ sh2 M2, JJ sh2 M2 (n + 1) → px_R xs L d 0 (1306, [.retAddr 0, .ref 0, .ref 228, .int (iI ((6 * n : Nat) : Int))], [], (sh2, M2)) Q) : px_R xs L d 0 (742, [.retAddr 0, .ref 0, .ref 228, .int (iI ((6 * n : Nat) : Int))], [], (sh, M)) Q := by
  obtain ⟨v, sh2, M1, M2, c1, c2, hJ⟩ := st_pass (xs := xs) (L := L) hd h (by omega) 
  have hW := h.2.1.1
  have hW2 := hJ.2.1.1
  refine rr_aload_n pf_0_742 rfl ?_
  refine rr_cV0 pf_0_743 po_0 pc_25_97 (ws_0 hW) po_117 (by decide) rfl c1 ?_
  refine rr_aload_n pf_0_746 rfl ?_
  refine rr_cV0 pf_0_747 po_0 pc_25_100 (ws_228 hW2) po_259 (by decide) rfl c2 ?_
  refine rr_icmp_same 1306 pf_0_750 (by decide) (G sh2 M2 hJ)

theorem lc_undo (hxs : ∀ j, rg (xs j)) (hd : 44 ≤ d) (hL : L ≤ 3072) (hi : 6 * n + 6 ≤ L) (h : JJ sh M n) (G : ∀ sh2 M2, JJ sh2 M2 (n + 1) → px_R xs L d 0 (1306, [.retAddr 0, .ref 0, .ref 228, .int (iI ((6 * n : Nat) : Int))], [], (sh2, M2)) Q) : px_R xs L d 0 (755, [.retAddr 0, .ref 0, .ref 228, .int (iI ((6 * n : Nat) : Int))], [], (sh, M)) Q := by
  obtain ⟨v, sh2, M1, M2, c1, c2, hJ⟩ := st_undo (xs := xs) (L := L) hd h (by omega) 
  have hW := h.2.1.1
  have hW2 := hJ.2.1.1
  refine rr_aload_n pf_0_755 rfl ?_
  refine rr_cV0 pf_0_756 po_0 pc_25_101 (ws_0 hW) po_118 (by decide) rfl c1 ?_
  refine rr_aload_n pf_0_759 rfl ?_
  refine rr_cV0 pf_0_760 po_0 pc_25_104 (ws_228 hW2) po_175 (by decide) rfl c2 ?_
  refine rr_icmp_same 1306 pf_0_763 (by decide) (G sh2 M2 hJ)

theorem lc_sermon (hxs : ∀ j, rg (xs j)) (hd : 44 ≤ d) (hL : L ≤ 3072) (hi : 6 * n + 6 ≤ L) (h : JJ sh M n) (G : ∀ sh2 M2, JJ sh2 M2 (n + 1) → px_R xs L d 0 (1306, [.retAddr 0, .ref 0, .ref 228, .int (iI ((6 * n : Nat) : Int))], [], (sh2, M2)) Q) : px_R xs L d 0 (768, [.retAddr 0, .ref 0, .ref 228, .int (iI ((6 * n : Nat) : Int))], [], (sh, M)) Q := by
  obtain ⟨v, sh2, M1, M2, c1, c2, hJ⟩ := st_sermon (xs := xs) (L := L) hd h (by omega) (hxs (((6 * n : Nat) : Int) + 1).toNat) (hxs (((6 * n : Nat) : Int) + 2).toNat) (hxs (((6 * n : Nat) : Int) + 3).toNat) (hxs (((6 * n : Nat) : Int) + 4).toNat) (hxs (((6 * n : Nat) : Int) + 5).toNat)
  have hW := h.2.1.1
  have hW2 := hJ.2.1.1
  refine rr_aload_n pf_0_768 rfl ?_
  refine rr_aload_nT pf_0_769 rfl (by decide) ?_
  refine rr_iload_n pf_0_770 rfl ?_
  refine rr_iconst pf_0_771 ?_
  refine rr_iadd pf_0_772 ?_
  refine rr_sald pf_0_773 (by omega) (by omega) (by unfold rg; omega) ?_
  refine rr_aload_nT pf_0_774 rfl (by decide) ?_
  refine rr_iload_n pf_0_775 rfl ?_
  refine rr_iconst pf_0_776 ?_
  refine rr_iadd pf_0_777 ?_
  refine rr_sald pf_0_778 (by omega) (by omega) (by unfold rg; omega) ?_
  refine rr_aload_nT pf_0_779 rfl (by decide) ?_
  refine rr_iload_n pf_0_780 rfl ?_
  refine rr_iconst pf_0_781 ?_
  refine rr_iadd pf_0_782 ?_
  refine rr_sald pf_0_783 (by omega) (by omega) (by unfold rg; omega) ?_
  refine rr_aload_nT pf_0_784 rfl (by decide) ?_
  refine rr_iload_n pf_0_785 rfl ?_
  refine rr_iconst pf_0_786 ?_
  refine rr_iadd pf_0_787 ?_
  refine rr_sald pf_0_788 (by omega) (by omega) (by unfold rg; omega) ?_
  refine rr_aload_nT pf_0_789 rfl (by decide) ?_
  refine rr_iload_n pf_0_790 rfl ?_
  refine rr_iconst pf_0_791 ?_
  refine rr_iadd pf_0_792 ?_
  refine rr_sald pf_0_793 (by omega) (by omega) (by unfold rg; omega) ?_
  refine rr_cV5 pf_0_794 po_0 pc_25_105 (ws_0 hW) po_120 (by decide) rfl c1 ?_
  refine rr_aload_n pf_0_797 rfl ?_
  refine rr_aload_nT pf_0_798 rfl (by decide) ?_
  refine rr_iload_n pf_0_799 rfl ?_
  refine rr_iconst pf_0_800 ?_
  refine rr_iadd pf_0_801 ?_
  refine rr_sald pf_0_802 (by omega) (by omega) (by unfold rg; omega) ?_
  refine rr_aload_nT pf_0_803 rfl (by decide) ?_
  refine rr_iload_n pf_0_804 rfl ?_
  refine rr_iconst pf_0_805 ?_
  refine rr_iadd pf_0_806 ?_
  refine rr_sald pf_0_807 (by omega) (by omega) (by unfold rg; omega) ?_
  refine rr_aload_nT pf_0_808 rfl (by decide) ?_
  refine rr_iload_n pf_0_809 rfl ?_
  refine rr_iconst pf_0_810 ?_
  refine rr_iadd pf_0_811 ?_
  refine rr_sald pf_0_812 (by omega) (by omega) (by unfold rg; omega) ?_
  refine rr_aload_nT pf_0_813 rfl (by decide) ?_
  refine rr_iload_n pf_0_814 rfl ?_
  refine rr_iconst pf_0_815 ?_
  refine rr_iadd pf_0_816 ?_
  refine rr_sald pf_0_817 (by omega) (by omega) (by unfold rg; omega) ?_
  refine rr_aload_nT pf_0_818 rfl (by decide) ?_
  refine rr_iload_n pf_0_819 rfl ?_
  refine rr_iconst pf_0_820 ?_
  refine rr_iadd pf_0_821 ?_
  refine rr_sald pf_0_822 (by omega) (by omega) (by unfold rg; omega) ?_
  refine rr_cV5 pf_0_823 po_0 pc_25_108 (ws_228 hW2) po_262 (by decide) rfl c2 ?_
  refine rr_icmp_same 1306 pf_0_826 (by decide) (G sh2 M2 hJ)

theorem lc_told (hxs : ∀ j, rg (xs j)) (hd : 44 ≤ d) (hL : L ≤ 3072) (hi : 6 * n + 6 ≤ L) (h : JJ sh M n) (G : ∀ sh2 M2, JJ sh2 M2 (n + 1) → px_R xs L d 0 (1306, [.retAddr 0, .ref 0, .ref 228, .int (iI ((6 * n : Nat) : Int))], [], (sh2, M2)) Q) : px_R xs L d 0 (831, [.retAddr 0, .ref 0, .ref 228, .int (iI ((6 * n : Nat) : Int))], [], (sh, M)) Q := by
  obtain ⟨v, sh2, M1, M2, c1, c2, hJ⟩ := st_told (xs := xs) (L := L) hd h (by omega) (hxs (((6 * n : Nat) : Int) + 1).toNat) (hxs (((6 * n : Nat) : Int) + 2).toNat) (hxs (((6 * n : Nat) : Int) + 3).toNat)
  have hW := h.2.1.1
  have hW2 := hJ.2.1.1
  refine rr_aload_n pf_0_831 rfl ?_
  refine rr_aload_nT pf_0_832 rfl (by decide) ?_
  refine rr_iload_n pf_0_833 rfl ?_
  refine rr_iconst pf_0_834 ?_
  refine rr_iadd pf_0_835 ?_
  refine rr_sald pf_0_836 (by omega) (by omega) (by unfold rg; omega) ?_
  refine rr_aload_nT pf_0_837 rfl (by decide) ?_
  refine rr_iload_n pf_0_838 rfl ?_
  refine rr_iconst pf_0_839 ?_
  refine rr_iadd pf_0_840 ?_
  refine rr_sald pf_0_841 (by omega) (by omega) (by unfold rg; omega) ?_
  refine rr_aload_nT pf_0_842 rfl (by decide) ?_
  refine rr_iload_n pf_0_843 rfl ?_
  refine rr_iconst pf_0_844 ?_
  refine rr_iadd pf_0_845 ?_
  refine rr_sald pf_0_846 (by omega) (by omega) (by unfold rg; omega) ?_
  refine rr_cV3 pf_0_847 po_0 pc_25_109 (ws_0 hW) po_125 (by decide) rfl c1 ?_
  refine rr_aload_n pf_0_850 rfl ?_
  refine rr_aload_nT pf_0_851 rfl (by decide) ?_
  refine rr_iload_n pf_0_852 rfl ?_
  refine rr_iconst pf_0_853 ?_
  refine rr_iadd pf_0_854 ?_
  refine rr_sald pf_0_855 (by omega) (by omega) (by unfold rg; omega) ?_
  refine rr_aload_nT pf_0_856 rfl (by decide) ?_
  refine rr_iload_n pf_0_857 rfl ?_
  refine rr_iconst pf_0_858 ?_
  refine rr_iadd pf_0_859 ?_
  refine rr_sald pf_0_860 (by omega) (by omega) (by unfold rg; omega) ?_
  refine rr_aload_nT pf_0_861 rfl (by decide) ?_
  refine rr_iload_n pf_0_862 rfl ?_
  refine rr_iconst pf_0_863 ?_
  refine rr_iadd pf_0_864 ?_
  refine rr_sald pf_0_865 (by omega) (by omega) (by unfold rg; omega) ?_
  refine rr_cV3 pf_0_866 po_0 pc_25_113 (ws_228 hW2) po_267 (by decide) rfl c2 ?_
  refine rr_icmp_same 1306 pf_0_869 (by decide) (G sh2 M2 hJ)

theorem lc_forget (hxs : ∀ j, rg (xs j)) (hd : 44 ≤ d) (hL : L ≤ 3072) (hi : 6 * n + 6 ≤ L) (h : JJ sh M n) (G : ∀ sh2 M2, JJ sh2 M2 (n + 1) → px_R xs L d 0 (1306, [.retAddr 0, .ref 0, .ref 228, .int (iI ((6 * n : Nat) : Int))], [], (sh2, M2)) Q) : px_R xs L d 0 (874, [.retAddr 0, .ref 0, .ref 228, .int (iI ((6 * n : Nat) : Int))], [], (sh, M)) Q := by
  obtain ⟨v, sh2, M1, M2, c1, c2, hJ⟩ := st_forget (xs := xs) (L := L) hd h (by omega) 
  have hW := h.2.1.1
  have hW2 := hJ.2.1.1
  refine rr_aload_n pf_0_874 rfl ?_
  refine rr_cV0 pf_0_875 po_0 pc_25_114 (ws_0 hW) po_126 (by decide) rfl c1 ?_
  refine rr_aload_n pf_0_878 rfl ?_
  refine rr_cV0 pf_0_879 po_0 pc_25_117 (ws_228 hW2) po_268 (by decide) rfl c2 ?_
  refine rr_icmp_same 1306 pf_0_882 (by decide) (G sh2 M2 hJ)

theorem lc_preached (hxs : ∀ j, rg (xs j)) (hd : 44 ≤ d) (hL : L ≤ 3072) (hi : 6 * n + 6 ≤ L) (h : JJ sh M n) (G : ∀ sh2 M2, JJ sh2 M2 (n + 1) → px_R xs L d 0 (1306, [.retAddr 0, .ref 0, .ref 228, .int (iI ((6 * n : Nat) : Int))], [], (sh2, M2)) Q) : px_R xs L d 0 (887, [.retAddr 0, .ref 0, .ref 228, .int (iI ((6 * n : Nat) : Int))], [], (sh, M)) Q := by
  obtain ⟨v, sh2, M1, M2, c1, c2, hJ⟩ := st_preached (xs := xs) (L := L) hd h (by omega) (hxs (((6 * n : Nat) : Int) + 1).toNat)
  have hW := h.2.1.1
  have hW2 := hJ.2.1.1
  refine rr_aload_n pf_0_887 rfl ?_
  refine rr_aload_nT pf_0_888 rfl (by decide) ?_
  refine rr_iload_n pf_0_889 rfl ?_
  refine rr_iconst pf_0_890 ?_
  refine rr_iadd pf_0_891 ?_
  refine rr_sald pf_0_892 (by omega) (by omega) (by unfold rg; omega) ?_
  refine rr_cV1 pf_0_893 po_0 pc_25_118 (ws_0 hW) po_127 (by decide) rfl c1 ?_
  refine rr_aload_n pf_0_896 rfl ?_
  refine rr_aload_nT pf_0_897 rfl (by decide) ?_
  refine rr_iload_n pf_0_898 rfl ?_
  refine rr_iconst pf_0_899 ?_
  refine rr_iadd pf_0_900 ?_
  refine rr_sald pf_0_901 (by omega) (by omega) (by unfold rg; omega) ?_
  refine rr_cV1 pf_0_902 po_0 pc_25_121 (ws_228 hW2) po_269 (by decide) rfl c2 ?_
  refine rr_icmp_same 1306 pf_0_905 (by decide) (G sh2 M2 hJ)

theorem lc_look (hxs : ∀ j, rg (xs j)) (hd : 44 ≤ d) (hL : L ≤ 3072) (hi : 6 * n + 6 ≤ L) (h : JJ sh M n) (G : ∀ sh2 M2, JJ sh2 M2 (n + 1) → px_R xs L d 0 (1306, [.retAddr 0, .ref 0, .ref 228, .int (iI ((6 * n : Nat) : Int))], [], (sh2, M2)) Q) : px_R xs L d 0 (910, [.retAddr 0, .ref 0, .ref 228, .int (iI ((6 * n : Nat) : Int))], [], (sh, M)) Q := by
  obtain ⟨v, sh2, M1, M2, c1, c2, hJ⟩ := st_look (xs := xs) (L := L) hd h (by omega) (hxs (((6 * n : Nat) : Int) + 1).toNat)
  have hW := h.2.1.1
  have hW2 := hJ.2.1.1
  refine rr_aload_n pf_0_910 rfl ?_
  refine rr_aload_nT pf_0_911 rfl (by decide) ?_
  refine rr_iload_n pf_0_912 rfl ?_
  refine rr_iconst pf_0_913 ?_
  refine rr_iadd pf_0_914 ?_
  refine rr_sald pf_0_915 (by omega) (by omega) (by unfold rg; omega) ?_
  refine rr_cV1 pf_0_916 po_0 pc_25_122 (ws_0 hW) po_132 (by decide) rfl c1 ?_
  refine rr_aload_n pf_0_919 rfl ?_
  refine rr_aload_nT pf_0_920 rfl (by decide) ?_
  refine rr_iload_n pf_0_921 rfl ?_
  refine rr_iconst pf_0_922 ?_
  refine rr_iadd pf_0_923 ?_
  refine rr_sald pf_0_924 (by omega) (by omega) (by unfold rg; omega) ?_
  refine rr_cV1 pf_0_925 po_0 pc_25_125 (ws_228 hW2) po_274 (by decide) rfl c2 ?_
  refine rr_icmp_same 1306 pf_0_928 (by decide) (G sh2 M2 hJ)

theorem lc_seated (hxs : ∀ j, rg (xs j)) (hd : 44 ≤ d) (hL : L ≤ 3072) (hi : 6 * n + 6 ≤ L) (h : JJ sh M n) (G : ∀ sh2 M2, JJ sh2 M2 (n + 1) → px_R xs L d 0 (1306, [.retAddr 0, .ref 0, .ref 228, .int (iI ((6 * n : Nat) : Int))], [], (sh2, M2)) Q) : px_R xs L d 0 (933, [.retAddr 0, .ref 0, .ref 228, .int (iI ((6 * n : Nat) : Int))], [], (sh, M)) Q := by
  obtain ⟨v, sh2, M1, M2, c1, c2, hJ⟩ := st_seated (xs := xs) (L := L) hd h (by omega) (hxs (((6 * n : Nat) : Int) + 1).toNat)
  have hW := h.2.1.1
  have hW2 := hJ.2.1.1
  refine rr_aload_n pf_0_933 rfl ?_
  refine rr_aload_nT pf_0_934 rfl (by decide) ?_
  refine rr_iload_n pf_0_935 rfl ?_
  refine rr_iconst pf_0_936 ?_
  refine rr_iadd pf_0_937 ?_
  refine rr_sald pf_0_938 (by omega) (by omega) (by unfold rg; omega) ?_
  refine rr_cV1 pf_0_939 po_0 pc_25_126 (ws_0 hW) po_135 (by decide) rfl c1 ?_
  refine rr_aload_n pf_0_942 rfl ?_
  refine rr_aload_nT pf_0_943 rfl (by decide) ?_
  refine rr_iload_n pf_0_944 rfl ?_
  refine rr_iconst pf_0_945 ?_
  refine rr_iadd pf_0_946 ?_
  refine rr_sald pf_0_947 (by omega) (by omega) (by unfold rg; omega) ?_
  refine rr_cV1 pf_0_948 po_0 pc_25_129 (ws_228 hW2) po_276 (by decide) rfl c2 ?_
  refine rr_icmp_same 1306 pf_0_951 (by decide) (G sh2 M2 hJ)

theorem lc_cleared (hxs : ∀ j, rg (xs j)) (hd : 44 ≤ d) (hL : L ≤ 3072) (hi : 6 * n + 6 ≤ L) (h : JJ sh M n) (G : ∀ sh2 M2, JJ sh2 M2 (n + 1) → px_R xs L d 0 (1306, [.retAddr 0, .ref 0, .ref 228, .int (iI ((6 * n : Nat) : Int))], [], (sh2, M2)) Q) : px_R xs L d 0 (956, [.retAddr 0, .ref 0, .ref 228, .int (iI ((6 * n : Nat) : Int))], [], (sh, M)) Q := by
  obtain ⟨v, sh2, M1, M2, c1, c2, hJ⟩ := st_cleared (xs := xs) (L := L) hd h (by omega) (hxs (((6 * n : Nat) : Int) + 1).toNat)
  have hW := h.2.1.1
  have hW2 := hJ.2.1.1
  refine rr_aload_n pf_0_956 rfl ?_
  refine rr_aload_nT pf_0_957 rfl (by decide) ?_
  refine rr_iload_n pf_0_958 rfl ?_
  refine rr_iconst pf_0_959 ?_
  refine rr_iadd pf_0_960 ?_
  refine rr_sald pf_0_961 (by omega) (by omega) (by unfold rg; omega) ?_
  refine rr_cV1 pf_0_962 po_0 pc_25_130 (ws_0 hW) po_141 (by decide) rfl c1 ?_
  refine rr_aload_n pf_0_965 rfl ?_
  refine rr_aload_nT pf_0_966 rfl (by decide) ?_
  refine rr_iload_n pf_0_967 rfl ?_
  refine rr_iconst pf_0_968 ?_
  refine rr_iadd pf_0_969 ?_
  refine rr_sald pf_0_970 (by omega) (by omega) (by unfold rg; omega) ?_
  refine rr_cV1 pf_0_971 po_0 pc_25_133 (ws_228 hW2) po_279 (by decide) rfl c2 ?_
  refine rr_icmp_same 1306 pf_0_974 (by decide) (G sh2 M2 hJ)

theorem lc_apart (hxs : ∀ j, rg (xs j)) (hd : 44 ≤ d) (hL : L ≤ 3072) (hi : 6 * n + 6 ≤ L) (h : JJ sh M n) (G : ∀ sh2 M2, JJ sh2 M2 (n + 1) → px_R xs L d 0 (1306, [.retAddr 0, .ref 0, .ref 228, .int (iI ((6 * n : Nat) : Int))], [], (sh2, M2)) Q) : px_R xs L d 0 (979, [.retAddr 0, .ref 0, .ref 228, .int (iI ((6 * n : Nat) : Int))], [], (sh, M)) Q := by
  obtain ⟨v, sh2, M1, M2, c1, c2, hJ⟩ := st_apart (xs := xs) (L := L) hd h (by omega) (hxs (((6 * n : Nat) : Int) + 1).toNat)
  have hW := h.2.1.1
  have hW2 := hJ.2.1.1
  refine rr_aload_n pf_0_979 rfl ?_
  refine rr_aload_nT pf_0_980 rfl (by decide) ?_
  refine rr_iload_n pf_0_981 rfl ?_
  refine rr_iconst pf_0_982 ?_
  refine rr_iadd pf_0_983 ?_
  refine rr_sald pf_0_984 (by omega) (by omega) (by unfold rg; omega) ?_
  refine rr_cV1 pf_0_985 po_0 pc_25_134 (ws_0 hW) po_143 (by decide) rfl c1 ?_
  refine rr_aload_n pf_0_988 rfl ?_
  refine rr_aload_nT pf_0_989 rfl (by decide) ?_
  refine rr_iload_n pf_0_990 rfl ?_
  refine rr_iconst pf_0_991 ?_
  refine rr_iadd pf_0_992 ?_
  refine rr_sald pf_0_993 (by omega) (by omega) (by unfold rg; omega) ?_
  refine rr_cV1 pf_0_994 po_0 pc_25_137 (ws_228 hW2) po_280 (by decide) rfl c2 ?_
  refine rr_icmp_same 1306 pf_0_997 (by decide) (G sh2 M2 hJ)

theorem lc_place (hxs : ∀ j, rg (xs j)) (hd : 44 ≤ d) (hL : L ≤ 3072) (hi : 6 * n + 6 ≤ L) (h : JJ sh M n) (G : ∀ sh2 M2, JJ sh2 M2 (n + 1) → px_R xs L d 0 (1306, [.retAddr 0, .ref 0, .ref 228, .int (iI ((6 * n : Nat) : Int))], [], (sh2, M2)) Q) : px_R xs L d 0 (1002, [.retAddr 0, .ref 0, .ref 228, .int (iI ((6 * n : Nat) : Int))], [], (sh, M)) Q := by
  obtain ⟨v, sh2, M1, M2, c1, c2, hJ⟩ := st_place (xs := xs) (L := L) hd h (by omega) (hxs (((6 * n : Nat) : Int) + 1).toNat) (hxs (((6 * n : Nat) : Int) + 2).toNat)
  have hW := h.2.1.1
  have hW2 := hJ.2.1.1
  refine rr_aload_n pf_0_1002 rfl ?_
  refine rr_aload_nT pf_0_1003 rfl (by decide) ?_
  refine rr_iload_n pf_0_1004 rfl ?_
  refine rr_iconst pf_0_1005 ?_
  refine rr_iadd pf_0_1006 ?_
  refine rr_sald pf_0_1007 (by omega) (by omega) (by unfold rg; omega) ?_
  refine rr_aload_nT pf_0_1008 rfl (by decide) ?_
  refine rr_iload_n pf_0_1009 rfl ?_
  refine rr_iconst pf_0_1010 ?_
  refine rr_iadd pf_0_1011 ?_
  refine rr_sald pf_0_1012 (by omega) (by omega) (by unfold rg; omega) ?_
  refine rr_cV2 pf_0_1013 po_0 pc_25_138 (ws_0 hW) po_150 (by decide) rfl c1 ?_
  refine rr_aload_n pf_0_1016 rfl ?_
  refine rr_aload_nT pf_0_1017 rfl (by decide) ?_
  refine rr_iload_n pf_0_1018 rfl ?_
  refine rr_iconst pf_0_1019 ?_
  refine rr_iadd pf_0_1020 ?_
  refine rr_sald pf_0_1021 (by omega) (by omega) (by unfold rg; omega) ?_
  refine rr_aload_nT pf_0_1022 rfl (by decide) ?_
  refine rr_iload_n pf_0_1023 rfl ?_
  refine rr_iconst pf_0_1024 ?_
  refine rr_iadd pf_0_1025 ?_
  refine rr_sald pf_0_1026 (by omega) (by omega) (by unfold rg; omega) ?_
  refine rr_cV2 pf_0_1027 po_0 pc_25_141 (ws_228 hW2) po_283 (by decide) rfl c2 ?_
  refine rr_icmp_same 1306 pf_0_1030 (by decide) (G sh2 M2 hJ)

theorem lc_way (hxs : ∀ j, rg (xs j)) (hd : 44 ≤ d) (hL : L ≤ 3072) (hi : 6 * n + 6 ≤ L) (h : JJ sh M n) (G : ∀ sh2 M2, JJ sh2 M2 (n + 1) → px_R xs L d 0 (1306, [.retAddr 0, .ref 0, .ref 228, .int (iI ((6 * n : Nat) : Int))], [], (sh2, M2)) Q) : px_R xs L d 0 (1035, [.retAddr 0, .ref 0, .ref 228, .int (iI ((6 * n : Nat) : Int))], [], (sh, M)) Q := by
  obtain ⟨v, sh2, M1, M2, c1, c2, hJ⟩ := st_way (xs := xs) (L := L) hd h (by omega) (hxs (((6 * n : Nat) : Int) + 1).toNat) (hxs (((6 * n : Nat) : Int) + 2).toNat)
  have hW := h.2.1.1
  have hW2 := hJ.2.1.1
  refine rr_aload_n pf_0_1035 rfl ?_
  refine rr_aload_nT pf_0_1036 rfl (by decide) ?_
  refine rr_iload_n pf_0_1037 rfl ?_
  refine rr_iconst pf_0_1038 ?_
  refine rr_iadd pf_0_1039 ?_
  refine rr_sald pf_0_1040 (by omega) (by omega) (by unfold rg; omega) ?_
  refine rr_aload_nT pf_0_1041 rfl (by decide) ?_
  refine rr_iload_n pf_0_1042 rfl ?_
  refine rr_iconst pf_0_1043 ?_
  refine rr_iadd pf_0_1044 ?_
  refine rr_sald pf_0_1045 (by omega) (by omega) (by unfold rg; omega) ?_
  refine rr_cV2 pf_0_1046 po_0 pc_25_142 (ws_0 hW) po_153 (by decide) rfl c1 ?_
  refine rr_aload_n pf_0_1049 rfl ?_
  refine rr_aload_nT pf_0_1050 rfl (by decide) ?_
  refine rr_iload_n pf_0_1051 rfl ?_
  refine rr_iconst pf_0_1052 ?_
  refine rr_iadd pf_0_1053 ?_
  refine rr_sald pf_0_1054 (by omega) (by omega) (by unfold rg; omega) ?_
  refine rr_aload_nT pf_0_1055 rfl (by decide) ?_
  refine rr_iload_n pf_0_1056 rfl ?_
  refine rr_iconst pf_0_1057 ?_
  refine rr_iadd pf_0_1058 ?_
  refine rr_sald pf_0_1059 (by omega) (by omega) (by unfold rg; omega) ?_
  refine rr_cV2 pf_0_1060 po_0 pc_25_145 (ws_228 hW2) po_284 (by decide) rfl c2 ?_
  refine rr_icmp_same 1306 pf_0_1063 (by decide) (G sh2 M2 hJ)

theorem lc_later (hxs : ∀ j, rg (xs j)) (hd : 44 ≤ d) (hL : L ≤ 3072) (hi : 6 * n + 6 ≤ L) (h : JJ sh M n) (G : ∀ sh2 M2, JJ sh2 M2 (n + 1) → px_R xs L d 0 (1306, [.retAddr 0, .ref 0, .ref 228, .int (iI ((6 * n : Nat) : Int))], [], (sh2, M2)) Q) : px_R xs L d 0 (1068, [.retAddr 0, .ref 0, .ref 228, .int (iI ((6 * n : Nat) : Int))], [], (sh, M)) Q := by
  obtain ⟨v, sh2, M1, M2, c1, c2, hJ⟩ := st_later (xs := xs) (L := L) hd h (by omega) (hxs (((6 * n : Nat) : Int) + 1).toNat) (hxs (((6 * n : Nat) : Int) + 2).toNat)
  have hW := h.2.1.1
  have hW2 := hJ.2.1.1
  refine rr_aload_n pf_0_1068 rfl ?_
  refine rr_aload_nT pf_0_1069 rfl (by decide) ?_
  refine rr_iload_n pf_0_1070 rfl ?_
  refine rr_iconst pf_0_1071 ?_
  refine rr_iadd pf_0_1072 ?_
  refine rr_sald pf_0_1073 (by omega) (by omega) (by unfold rg; omega) ?_
  refine rr_aload_nT pf_0_1074 rfl (by decide) ?_
  refine rr_iload_n pf_0_1075 rfl ?_
  refine rr_iconst pf_0_1076 ?_
  refine rr_iadd pf_0_1077 ?_
  refine rr_sald pf_0_1078 (by omega) (by omega) (by unfold rg; omega) ?_
  refine rr_cV2 pf_0_1079 po_0 pc_25_146 (ws_0 hW) po_159 (by decide) rfl c1 ?_
  refine rr_aload_n pf_0_1082 rfl ?_
  refine rr_aload_nT pf_0_1083 rfl (by decide) ?_
  refine rr_iload_n pf_0_1084 rfl ?_
  refine rr_iconst pf_0_1085 ?_
  refine rr_iadd pf_0_1086 ?_
  refine rr_sald pf_0_1087 (by omega) (by omega) (by unfold rg; omega) ?_
  refine rr_aload_nT pf_0_1088 rfl (by decide) ?_
  refine rr_iload_n pf_0_1089 rfl ?_
  refine rr_iconst pf_0_1090 ?_
  refine rr_iadd pf_0_1091 ?_
  refine rr_sald pf_0_1092 (by omega) (by omega) (by unfold rg; omega) ?_
  refine rr_cV2 pf_0_1093 po_0 pc_25_149 (ws_228 hW2) po_288 (by decide) rfl c2 ?_
  refine rr_icmp_same 1306 pf_0_1096 (by decide) (G sh2 M2 hJ)

theorem lc_blackened (hxs : ∀ j, rg (xs j)) (hd : 44 ≤ d) (hL : L ≤ 3072) (hi : 6 * n + 6 ≤ L) (h : JJ sh M n) (G : ∀ sh2 M2, JJ sh2 M2 (n + 1) → px_R xs L d 0 (1306, [.retAddr 0, .ref 0, .ref 228, .int (iI ((6 * n : Nat) : Int))], [], (sh2, M2)) Q) : px_R xs L d 0 (1101, [.retAddr 0, .ref 0, .ref 228, .int (iI ((6 * n : Nat) : Int))], [], (sh, M)) Q := by
  obtain ⟨v, sh2, M1, M2, c1, c2, hJ⟩ := st_blackened (xs := xs) (L := L) hd h (by omega) (hxs (((6 * n : Nat) : Int) + 1).toNat)
  have hW := h.2.1.1
  have hW2 := hJ.2.1.1
  refine rr_aload_n pf_0_1101 rfl ?_
  refine rr_aload_nT pf_0_1102 rfl (by decide) ?_
  refine rr_iload_n pf_0_1103 rfl ?_
  refine rr_iconst pf_0_1104 ?_
  refine rr_iadd pf_0_1105 ?_
  refine rr_sald pf_0_1106 (by omega) (by omega) (by unfold rg; omega) ?_
  refine rr_cV1 pf_0_1107 po_0 pc_25_150 (ws_0 hW) po_161 (by decide) rfl c1 ?_
  refine rr_aload_n pf_0_1110 rfl ?_
  refine rr_aload_nT pf_0_1111 rfl (by decide) ?_
  refine rr_iload_n pf_0_1112 rfl ?_
  refine rr_iconst pf_0_1113 ?_
  refine rr_iadd pf_0_1114 ?_
  refine rr_sald pf_0_1115 (by omega) (by omega) (by unfold rg; omega) ?_
  refine rr_cV1 pf_0_1116 po_0 pc_25_153 (ws_228 hW2) po_289 (by decide) rfl c2 ?_
  refine rr_icmp_same 1306 pf_0_1119 (by decide) (G sh2 M2 hJ)

theorem lc_few (hxs : ∀ j, rg (xs j)) (hd : 44 ≤ d) (hL : L ≤ 3072) (hi : 6 * n + 6 ≤ L) (h : JJ sh M n) (G : ∀ sh2 M2, JJ sh2 M2 (n + 1) → px_R xs L d 0 (1306, [.retAddr 0, .ref 0, .ref 228, .int (iI ((6 * n : Nat) : Int))], [], (sh2, M2)) Q) : px_R xs L d 0 (1124, [.retAddr 0, .ref 0, .ref 228, .int (iI ((6 * n : Nat) : Int))], [], (sh, M)) Q := by
  obtain ⟨v, sh2, M1, M2, c1, c2, hJ⟩ := st_few (xs := xs) (L := L) hd h (by omega) (hxs (((6 * n : Nat) : Int) + 1).toNat) (hxs (((6 * n : Nat) : Int) + 2).toNat)
  have hW := h.2.1.1
  have hW2 := hJ.2.1.1
  refine rr_aload_n pf_0_1124 rfl ?_
  refine rr_aload_nT pf_0_1125 rfl (by decide) ?_
  refine rr_iload_n pf_0_1126 rfl ?_
  refine rr_iconst pf_0_1127 ?_
  refine rr_iadd pf_0_1128 ?_
  refine rr_sald pf_0_1129 (by omega) (by omega) (by unfold rg; omega) ?_
  refine rr_aload_nT pf_0_1130 rfl (by decide) ?_
  refine rr_iload_n pf_0_1131 rfl ?_
  refine rr_iconst pf_0_1132 ?_
  refine rr_iadd pf_0_1133 ?_
  refine rr_sald pf_0_1134 (by omega) (by omega) (by unfold rg; omega) ?_
  refine rr_cV2 pf_0_1135 po_0 pc_25_154 (ws_0 hW) po_163 (by decide) rfl c1 ?_
  refine rr_aload_n pf_0_1138 rfl ?_
  refine rr_aload_nT pf_0_1139 rfl (by decide) ?_
  refine rr_iload_n pf_0_1140 rfl ?_
  refine rr_iconst pf_0_1141 ?_
  refine rr_iadd pf_0_1142 ?_
  refine rr_sald pf_0_1143 (by omega) (by omega) (by unfold rg; omega) ?_
  refine rr_aload_nT pf_0_1144 rfl (by decide) ?_
  refine rr_iload_n pf_0_1145 rfl ?_
  refine rr_iconst pf_0_1146 ?_
  refine rr_iadd pf_0_1147 ?_
  refine rr_sald pf_0_1148 (by omega) (by omega) (by unfold rg; omega) ?_
  refine rr_cV2 pf_0_1149 po_0 pc_25_158 (ws_228 hW2) po_291 (by decide) rfl c2 ?_
  refine rr_lcmp_same pf_0_1152 ?_
  exact rr_ifc_eq 1306 pf_0_1153 (by decide) (fun _ => G sh2 M2 hJ) (fun z => absurd rfl z)

theorem lc_years (hxs : ∀ j, rg (xs j)) (hd : 44 ≤ d) (hL : L ≤ 3072) (hi : 6 * n + 6 ≤ L) (h : JJ sh M n) (G : ∀ sh2 M2, JJ sh2 M2 (n + 1) → px_R xs L d 0 (1306, [.retAddr 0, .ref 0, .ref 228, .int (iI ((6 * n : Nat) : Int))], [], (sh2, M2)) Q) : px_R xs L d 0 (1158, [.retAddr 0, .ref 0, .ref 228, .int (iI ((6 * n : Nat) : Int))], [], (sh, M)) Q := by
  obtain ⟨v, sh2, M1, M2, c1, c2, hJ⟩ := st_years (xs := xs) (L := L) hd h (by omega) (hxs (((6 * n : Nat) : Int) + 1).toNat) (hxs (((6 * n : Nat) : Int) + 2).toNat)
  have hW := h.2.1.1
  have hW2 := hJ.2.1.1
  refine rr_aload_n pf_0_1158 rfl ?_
  refine rr_aload_nT pf_0_1159 rfl (by decide) ?_
  refine rr_iload_n pf_0_1160 rfl ?_
  refine rr_iconst pf_0_1161 ?_
  refine rr_iadd pf_0_1162 ?_
  refine rr_sald pf_0_1163 (by omega) (by omega) (by unfold rg; omega) ?_
  refine rr_aload_nT pf_0_1164 rfl (by decide) ?_
  refine rr_iload_n pf_0_1165 rfl ?_
  refine rr_iconst pf_0_1166 ?_
  refine rr_iadd pf_0_1167 ?_
  refine rr_sald pf_0_1168 (by omega) (by omega) (by unfold rg; omega) ?_
  refine rr_cV2 pf_0_1169 po_0 pc_25_159 (ws_0 hW) po_166 (by decide) rfl c1 ?_
  refine rr_aload_n pf_0_1172 rfl ?_
  refine rr_aload_nT pf_0_1173 rfl (by decide) ?_
  refine rr_iload_n pf_0_1174 rfl ?_
  refine rr_iconst pf_0_1175 ?_
  refine rr_iadd pf_0_1176 ?_
  refine rr_sald pf_0_1177 (by omega) (by omega) (by unfold rg; omega) ?_
  refine rr_aload_nT pf_0_1178 rfl (by decide) ?_
  refine rr_iload_n pf_0_1179 rfl ?_
  refine rr_iconst pf_0_1180 ?_
  refine rr_iadd pf_0_1181 ?_
  refine rr_sald pf_0_1182 (by omega) (by omega) (by unfold rg; omega) ?_
  refine rr_cV2 pf_0_1183 po_0 pc_25_162 (ws_228 hW2) po_300 (by decide) rfl c2 ?_
  refine rr_icmp_same 1306 pf_0_1186 (by decide) (G sh2 M2 hJ)

theorem lc_drawn (hxs : ∀ j, rg (xs j)) (hd : 44 ≤ d) (hL : L ≤ 3072) (hi : 6 * n + 6 ≤ L) (h : JJ sh M n) (G : ∀ sh2 M2, JJ sh2 M2 (n + 1) → px_R xs L d 0 (1306, [.retAddr 0, .ref 0, .ref 228, .int (iI ((6 * n : Nat) : Int))], [], (sh2, M2)) Q) : px_R xs L d 0 (1191, [.retAddr 0, .ref 0, .ref 228, .int (iI ((6 * n : Nat) : Int))], [], (sh, M)) Q := by
  obtain ⟨v, sh2, M1, M2, c1, c2, hJ⟩ := st_drawn (xs := xs) (L := L) hd h (by omega) (hxs (((6 * n : Nat) : Int) + 1).toNat) (hxs (((6 * n : Nat) : Int) + 2).toNat)
  have hW := h.2.1.1
  have hW2 := hJ.2.1.1
  refine rr_aload_n pf_0_1191 rfl ?_
  refine rr_aload_nT pf_0_1192 rfl (by decide) ?_
  refine rr_iload_n pf_0_1193 rfl ?_
  refine rr_iconst pf_0_1194 ?_
  refine rr_iadd pf_0_1195 ?_
  refine rr_sald pf_0_1196 (by omega) (by omega) (by unfold rg; omega) ?_
  refine rr_aload_nT pf_0_1197 rfl (by decide) ?_
  refine rr_iload_n pf_0_1198 rfl ?_
  refine rr_iconst pf_0_1199 ?_
  refine rr_iadd pf_0_1200 ?_
  refine rr_sald pf_0_1201 (by omega) (by omega) (by unfold rg; omega) ?_
  refine rr_cV2 pf_0_1202 po_0 pc_25_163 (ws_0 hW) po_169 (by decide) rfl c1 ?_
  refine rr_aload_n pf_0_1205 rfl ?_
  refine rr_aload_nT pf_0_1206 rfl (by decide) ?_
  refine rr_iload_n pf_0_1207 rfl ?_
  refine rr_iconst pf_0_1208 ?_
  refine rr_iadd pf_0_1209 ?_
  refine rr_sald pf_0_1210 (by omega) (by omega) (by unfold rg; omega) ?_
  refine rr_aload_nT pf_0_1211 rfl (by decide) ?_
  refine rr_iload_n pf_0_1212 rfl ?_
  refine rr_iconst pf_0_1213 ?_
  refine rr_iadd pf_0_1214 ?_
  refine rr_sald pf_0_1215 (by omega) (by omega) (by unfold rg; omega) ?_
  refine rr_cV2 pf_0_1216 po_0 pc_25_166 (ws_228 hW2) po_302 (by decide) rfl c2 ?_
  refine rr_icmp_same 1306 pf_0_1219 (by decide) (G sh2 M2 hJ)

theorem lc_image (hxs : ∀ j, rg (xs j)) (hd : 44 ≤ d) (hL : L ≤ 3072) (hi : 6 * n + 6 ≤ L) (h : JJ sh M n) (G : ∀ sh2 M2, JJ sh2 M2 (n + 1) → px_R xs L d 0 (1306, [.retAddr 0, .ref 0, .ref 228, .int (iI ((6 * n : Nat) : Int))], [], (sh2, M2)) Q) : px_R xs L d 0 (1224, [.retAddr 0, .ref 0, .ref 228, .int (iI ((6 * n : Nat) : Int))], [], (sh, M)) Q := by
  obtain ⟨v, sh2, M1, M2, c1, c2, hJ⟩ := st_image (xs := xs) (L := L) hd h (by omega) (hxs (((6 * n : Nat) : Int) + 1).toNat)
  have hW := h.2.1.1
  have hW2 := hJ.2.1.1
  refine rr_aload_n pf_0_1224 rfl ?_
  refine rr_aload_nT pf_0_1225 rfl (by decide) ?_
  refine rr_iload_n pf_0_1226 rfl ?_
  refine rr_iconst pf_0_1227 ?_
  refine rr_iadd pf_0_1228 ?_
  refine rr_sald pf_0_1229 (by omega) (by omega) (by unfold rg; omega) ?_
  refine rr_cV1 pf_0_1230 po_0 pc_25_167 (ws_0 hW) po_170 (by decide) rfl c1 ?_
  refine rr_aload_n pf_0_1233 rfl ?_
  refine rr_aload_nT pf_0_1234 rfl (by decide) ?_
  refine rr_iload_n pf_0_1235 rfl ?_
  refine rr_iconst pf_0_1236 ?_
  refine rr_iadd pf_0_1237 ?_
  refine rr_sald pf_0_1238 (by omega) (by omega) (by unfold rg; omega) ?_
  refine rr_cV1 pf_0_1239 po_0 pc_25_170 (ws_228 hW2) po_178 (by decide) rfl c2 ?_
  refine rr_icmp_same 1306 pf_0_1242 (by decide) (G sh2 M2 hJ)

theorem lc_back (hxs : ∀ j, rg (xs j)) (hd : 44 ≤ d) (hL : L ≤ 3072) (hi : 6 * n + 6 ≤ L) (h : JJ sh M n) (G : ∀ sh2 M2, JJ sh2 M2 (n + 1) → px_R xs L d 0 (1306, [.retAddr 0, .ref 0, .ref 228, .int (iI ((6 * n : Nat) : Int))], [], (sh2, M2)) Q) : px_R xs L d 0 (1247, [.retAddr 0, .ref 0, .ref 228, .int (iI ((6 * n : Nat) : Int))], [], (sh, M)) Q := by
  obtain ⟨v, sh2, M1, M2, c1, c2, hJ⟩ := st_back (xs := xs) (L := L) hd h (by omega) (hxs (((6 * n : Nat) : Int) + 1).toNat)
  have hW := h.2.1.1
  have hW2 := hJ.2.1.1
  refine rr_aload_n pf_0_1247 rfl ?_
  refine rr_aload_nT pf_0_1248 rfl (by decide) ?_
  refine rr_iload_n pf_0_1249 rfl ?_
  refine rr_iconst pf_0_1250 ?_
  refine rr_iadd pf_0_1251 ?_
  refine rr_sald pf_0_1252 (by omega) (by omega) (by unfold rg; omega) ?_
  refine rr_cV1 pf_0_1253 po_0 pc_25_171 (ws_0 hW) po_171 (by decide) rfl c1 ?_
  refine rr_aload_n pf_0_1256 rfl ?_
  refine rr_aload_nT pf_0_1257 rfl (by decide) ?_
  refine rr_iload_n pf_0_1258 rfl ?_
  refine rr_iconst pf_0_1259 ?_
  refine rr_iadd pf_0_1260 ?_
  refine rr_sald pf_0_1261 (by omega) (by omega) (by unfold rg; omega) ?_
  refine rr_cV1 pf_0_1262 po_0 pc_25_174 (ws_228 hW2) po_180 (by decide) rfl c2 ?_
  refine rr_icmp_same 1306 pf_0_1265 (by decide) (G sh2 M2 hJ)

theorem lc_count (hxs : ∀ j, rg (xs j)) (hd : 44 ≤ d) (hL : L ≤ 3072) (hi : 6 * n + 6 ≤ L) (h : JJ sh M n) (G : ∀ sh2 M2, JJ sh2 M2 (n + 1) → px_R xs L d 0 (1306, [.retAddr 0, .ref 0, .ref 228, .int (iI ((6 * n : Nat) : Int))], [], (sh2, M2)) Q) : px_R xs L d 0 (1270, [.retAddr 0, .ref 0, .ref 228, .int (iI ((6 * n : Nat) : Int))], [], (sh, M)) Q := by
  obtain ⟨v, sh2, M1, M2, c1, c2, hJ⟩ := st_count (xs := xs) (L := L) hd h (by omega) (hxs (((6 * n : Nat) : Int) + 1).toNat)
  have hW := h.2.1.1
  have hW2 := hJ.2.1.1
  refine rr_aload_n pf_0_1270 rfl ?_
  refine rr_aload_nT pf_0_1271 rfl (by decide) ?_
  refine rr_iload_n pf_0_1272 rfl ?_
  refine rr_iconst pf_0_1273 ?_
  refine rr_iadd pf_0_1274 ?_
  refine rr_sald pf_0_1275 (by omega) (by omega) (by unfold rg; omega) ?_
  refine rr_cV1 pf_0_1276 po_0 pc_25_175 (ws_0 hW) po_172 (by decide) rfl c1 ?_
  refine rr_aload_n pf_0_1279 rfl ?_
  refine rr_aload_nT pf_0_1280 rfl (by decide) ?_
  refine rr_iload_n pf_0_1281 rfl ?_
  refine rr_iconst pf_0_1282 ?_
  refine rr_iadd pf_0_1283 ?_
  refine rr_sald pf_0_1284 (by omega) (by omega) (by unfold rg; omega) ?_
  refine rr_cV1 pf_0_1285 po_0 pc_25_178 (ws_228 hW2) po_303 (by decide) rfl c2 ?_
  refine rr_icmp_same 1306 pf_0_1288 (by decide) (G sh2 M2 hJ)

theorem lc_status (hxs : ∀ j, rg (xs j)) (hd : 44 ≤ d) (hL : L ≤ 3072) (hi : 6 * n + 6 ≤ L) (h : JJ sh M n) (G : ∀ sh2 M2, JJ sh2 M2 (n + 1) → px_R xs L d 0 (1306, [.retAddr 0, .ref 0, .ref 228, .int (iI ((6 * n : Nat) : Int))], [], (sh2, M2)) Q) : px_R xs L d 0 (1293, [.retAddr 0, .ref 0, .ref 228, .int (iI ((6 * n : Nat) : Int))], [], (sh, M)) Q := by
  obtain ⟨v, sh2, M1, M2, c1, c2, hJ⟩ := st_status (xs := xs) (L := L) hd h (by omega) 
  have hW := h.2.1.1
  have hW2 := hJ.2.1.1
  refine rr_aload_n pf_0_1293 rfl ?_
  refine rr_cV0 pf_0_1294 po_0 pc_25_179 (ws_0 hW) po_173 (by decide) rfl c1 ?_
  refine rr_aload_n pf_0_1297 rfl ?_
  refine rr_cV0 pf_0_1298 po_0 pc_25_182 (ws_228 hW2) po_304 (by decide) rfl c2 ?_
  refine rr_icmp_same 1306 pf_0_1301 (by decide) (G sh2 M2 hJ)

theorem law_loop (hxs : ∀ j, rg (xs j)) (hd : 44 ≤ d) (hL : L ≤ 3072) : ∀ (m n : Nat) (sh : List (Nat × Nat)) (M : Nat → Nat → Int), n + m = 600 → JJ sh M n → px_R xs L d 0 (18, [.retAddr 0, .ref 0, .ref 228, .int (iI ((6 * n : Nat) : Int))], [], (sh, M)) (fun r h2 => r = some (.int 1) ∧ h2.1.length ≤ 600000 ∧ px_sl h2 ≤ 7302250) := by
  intro m
  induction m with
  | zero =>
    intro n sh M hm h
    refine rr_iload_n pf_0_18 rfl ?_
    refine rr_aload_nT pf_0_19 rfl (by decide) ?_
    refine rr_slen pf_0_20 ?_
    refine rr_bipush pf_0_21 (by decide) ?_
    refine rr_isub pf_0_23 ?_
    refine rr_icmp_gt 1312 pf_0_24 (by decide) (by unfold rg; omega) (by unfold rg; omega) (fun c1 => ?_) (fun c1 => ?_)
    · refine rr_iconst pf_0_1312 ?_
      refine rr_zret pf_0_1313 pt_0 (Or.inr rfl) ⟨rfl, ?_, ?_⟩
      · have := h.2.1.2.2.2.1; have := h.1; show sh.length ≤ 600000; omega
      · have := h.2.1.2.2.2.2; have := h.1; show sSl sh ≤ 7302250; omega
    · exfalso; omega
  | succ m ih =>
    intro n sh M hm h
    refine rr_iload_n pf_0_18 rfl ?_
    refine rr_aload_nT pf_0_19 rfl (by decide) ?_
    refine rr_slen pf_0_20 ?_
    refine rr_bipush pf_0_21 (by decide) ?_
    refine rr_isub pf_0_23 ?_
    refine rr_icmp_gt 1312 pf_0_24 (by decide) (by unfold rg; omega) (by unfold rg; omega) (fun c1 => ?_) (fun c1 => ?_)
    · refine rr_iconst pf_0_1312 ?_
      refine rr_zret pf_0_1313 pt_0 (Or.inr rfl) ⟨rfl, ?_, ?_⟩
      · have := h.2.1.2.2.2.1; have := h.1; show sh.length ≤ 600000; omega
      · have := h.2.1.2.2.2.2; have := h.1; show sSl sh ≤ 7302250; omega
    · have hi : 6 * n + 6 ≤ L := by omega
      have G : ∀ sh2 M2, JJ sh2 M2 (n + 1) → px_R xs L d 0 (1306, [.retAddr 0, .ref 0, .ref 228, .int (iI ((6 * n : Nat) : Int))], [], (sh2, M2)) (fun r h2 => r = some (.int 1) ∧ h2.1.length ≤ 600000 ∧ px_sl h2 ≤ 7302250) := by
        intro sh2 M2 h2
        refine rr_iinc (x := ((6 * n : Nat) : Int)) pf_0_1306 rfl (fun y => [.retAddr 0, .ref 0, .ref 228, .int (iI y)]) (fun _ => rfl) (fun y ey => ?_)
        obtain rfl : y = ((6 * (n + 1) : Nat) : Int) := by rw [ey]; omega
        refine rr_goto 18 pf_0_1309 (by decide) ?_
        exact ih (n + 1) sh2 M2 (by omega) h2
      refine rr_aload_nT pf_0_27 rfl (by decide) ?_
      refine rr_iload_n pf_0_28 rfl ?_
      refine rr_sald pf_0_29 (by omega) (by omega) (by unfold rg; omega) ?_
      refine rr_bipush pf_0_30 (by decide) ?_
      refine rr_iand (xs ((6 * n : Nat) : Int).toNat % 2 ^ 6) pf_0_32 (iI_mask 6 (by decide)) ?_
      obtain ⟨z, hz⟩ : ∃ z, z = xs ((6 * n : Nat) : Int).toNat % 2 ^ 6 := ⟨_, rfl⟩
      rw [← hz]
      have hz0 : 0 ≤ z ∧ z < 64 := by rw [hz]; omega
      by_cases hz4 : 40 < z
      · exact rr_tsw_out 1306 pf_0_33 (by decide) (by unfold rg; omega) (Or.inr hz4) (G sh M (JJ_s h (by omega)))
      by_cases hz0x : z = 0
      · rw [hz0x]
        exact rr_tsw_in 212 pf_0_33 (by unfold rg; omega) (by omega) rfl (by decide) (lc_word hxs hd hL hi h G)
      by_cases hz1x : z = 1
      · rw [hz1x]
        exact rr_tsw_in 245 pf_0_33 (by unfold rg; omega) (by omega) rfl (by decide) (lc_of hxs hd hL hi h G)
      by_cases hz2x : z = 2
      · rw [hz2x]
        exact rr_tsw_in 278 pf_0_33 (by unfold rg; omega) (by omega) rfl (by decide) (lc_at hxs hd hL hi h G)
      by_cases hz3x : z = 3
      · rw [hz3x]
        exact rr_tsw_in 311 pf_0_33 (by unfold rg; omega) (by omega) rfl (by decide) (lc_listener hxs hd hL hi h G)
      by_cases hz4x : z = 4
      · rw [hz4x]
        exact rr_tsw_in 344 pf_0_33 (by unfold rg; omega) (by omega) rfl (by decide) (lc_has hxs hd hL hi h G)
      by_cases hz5x : z = 5
      · rw [hz5x]
        exact rr_tsw_in 377 pf_0_33 (by unfold rg; omega) (by omega) rfl (by decide) (lc_light hxs hd hL hi h G)
      by_cases hz6x : z = 6
      · rw [hz6x]
        exact rr_tsw_in 410 pf_0_33 (by unfold rg; omega) (by omega) rfl (by decide) (lc_terms hxs hd hL hi h G)
      by_cases hz7x : z = 7
      · rw [hz7x]
        exact rr_tsw_in 443 pf_0_33 (by unfold rg; omega) (by omega) rfl (by decide) (lc_feed hxs hd hL hi h G)
      by_cases hz8x : z = 8
      · rw [hz8x]
        exact rr_tsw_in 506 pf_0_33 (by unfold rg; omega) (by omega) rfl (by decide) (lc_end hxs hd hL hi h G)
      by_cases hz9x : z = 9
      · rw [hz9x]
        exact rr_tsw_in 529 pf_0_33 (by unfold rg; omega) (by omega) rfl (by decide) (lc_row hxs hd hL hi h G)
      by_cases hz10x : z = 10
      · rw [hz10x]
        exact rr_tsw_in 542 pf_0_33 (by unfold rg; omega) (by omega) rfl (by decide) (lc_leads hxs hd hL hi h G)
      by_cases hz11x : z = 11
      · rw [hz11x]
        exact rr_tsw_in 555 pf_0_33 (by unfold rg; omega) (by omega) rfl (by decide) (lc_law hxs hd hL hi h G)
      by_cases hz12x : z = 12
      · rw [hz12x]
        exact rr_tsw_in 568 pf_0_33 (by unfold rg; omega) (by omega) rfl (by decide) (lc_orders hxs hd hL hi h G)
      by_cases hz13x : z = 13
      · rw [hz13x]
        exact rr_tsw_in 581 pf_0_33 (by unfold rg; omega) (by omega) rfl (by decide) (lc_fault hxs hd hL hi h G)
      by_cases hz14x : z = 14
      · rw [hz14x]
        exact rr_tsw_in 594 pf_0_33 (by unfold rg; omega) (by omega) rfl (by decide) (lc_stopped hxs hd hL hi h G)
      by_cases hz15x : z = 15
      · rw [hz15x]
        exact rr_tsw_in 607 pf_0_33 (by unfold rg; omega) (by omega) rfl (by decide) (lc_force hxs hd hL hi h G)
      by_cases hz16x : z = 16
      · rw [hz16x]
        exact rr_tsw_in 630 pf_0_33 (by unfold rg; omega) (by omega) rfl (by decide) (lc_preach hxs hd hL hi h G)
      by_cases hz17x : z = 17
      · rw [hz17x]
        exact rr_tsw_in 653 pf_0_33 (by unfold rg; omega) (by omega) rfl (by decide) (lc_scrape hxs hd hL hi h G)
      by_cases hz18x : z = 18
      · rw [hz18x]
        exact rr_tsw_in 686 pf_0_33 (by unfold rg; omega) (by omega) rfl (by decide) (lc_walk hxs hd hL hi h G)
      by_cases hz19x : z = 19
      · rw [hz19x]
        exact rr_tsw_in 709 pf_0_33 (by unfold rg; omega) (by omega) rfl (by decide) (lc_sit hxs hd hL hi h G)
      by_cases hz20x : z = 20
      · rw [hz20x]
        exact rr_tsw_in 742 pf_0_33 (by unfold rg; omega) (by omega) rfl (by decide) (lc_pass hxs hd hL hi h G)
      by_cases hz21x : z = 21
      · rw [hz21x]
        exact rr_tsw_in 755 pf_0_33 (by unfold rg; omega) (by omega) rfl (by decide) (lc_undo hxs hd hL hi h G)
      by_cases hz22x : z = 22
      · rw [hz22x]
        exact rr_tsw_in 768 pf_0_33 (by unfold rg; omega) (by omega) rfl (by decide) (lc_sermon hxs hd hL hi h G)
      by_cases hz23x : z = 23
      · rw [hz23x]
        exact rr_tsw_in 831 pf_0_33 (by unfold rg; omega) (by omega) rfl (by decide) (lc_told hxs hd hL hi h G)
      by_cases hz24x : z = 24
      · rw [hz24x]
        exact rr_tsw_in 874 pf_0_33 (by unfold rg; omega) (by omega) rfl (by decide) (lc_forget hxs hd hL hi h G)
      by_cases hz25x : z = 25
      · rw [hz25x]
        exact rr_tsw_in 887 pf_0_33 (by unfold rg; omega) (by omega) rfl (by decide) (lc_preached hxs hd hL hi h G)
      by_cases hz26x : z = 26
      · rw [hz26x]
        exact rr_tsw_in 910 pf_0_33 (by unfold rg; omega) (by omega) rfl (by decide) (lc_look hxs hd hL hi h G)
      by_cases hz27x : z = 27
      · rw [hz27x]
        exact rr_tsw_in 933 pf_0_33 (by unfold rg; omega) (by omega) rfl (by decide) (lc_seated hxs hd hL hi h G)
      by_cases hz28x : z = 28
      · rw [hz28x]
        exact rr_tsw_in 956 pf_0_33 (by unfold rg; omega) (by omega) rfl (by decide) (lc_cleared hxs hd hL hi h G)
      by_cases hz29x : z = 29
      · rw [hz29x]
        exact rr_tsw_in 979 pf_0_33 (by unfold rg; omega) (by omega) rfl (by decide) (lc_apart hxs hd hL hi h G)
      by_cases hz30x : z = 30
      · rw [hz30x]
        exact rr_tsw_in 1002 pf_0_33 (by unfold rg; omega) (by omega) rfl (by decide) (lc_place hxs hd hL hi h G)
      by_cases hz31x : z = 31
      · rw [hz31x]
        exact rr_tsw_in 1035 pf_0_33 (by unfold rg; omega) (by omega) rfl (by decide) (lc_way hxs hd hL hi h G)
      by_cases hz32x : z = 32
      · rw [hz32x]
        exact rr_tsw_in 1068 pf_0_33 (by unfold rg; omega) (by omega) rfl (by decide) (lc_later hxs hd hL hi h G)
      by_cases hz33x : z = 33
      · rw [hz33x]
        exact rr_tsw_in 1101 pf_0_33 (by unfold rg; omega) (by omega) rfl (by decide) (lc_blackened hxs hd hL hi h G)
      by_cases hz34x : z = 34
      · rw [hz34x]
        exact rr_tsw_in 1124 pf_0_33 (by unfold rg; omega) (by omega) rfl (by decide) (lc_few hxs hd hL hi h G)
      by_cases hz35x : z = 35
      · rw [hz35x]
        exact rr_tsw_in 1158 pf_0_33 (by unfold rg; omega) (by omega) rfl (by decide) (lc_years hxs hd hL hi h G)
      by_cases hz36x : z = 36
      · rw [hz36x]
        exact rr_tsw_in 1191 pf_0_33 (by unfold rg; omega) (by omega) rfl (by decide) (lc_drawn hxs hd hL hi h G)
      by_cases hz37x : z = 37
      · rw [hz37x]
        exact rr_tsw_in 1224 pf_0_33 (by unfold rg; omega) (by omega) rfl (by decide) (lc_image hxs hd hL hi h G)
      by_cases hz38x : z = 38
      · rw [hz38x]
        exact rr_tsw_in 1247 pf_0_33 (by unfold rg; omega) (by omega) rfl (by decide) (lc_back hxs hd hL hi h G)
      by_cases hz39x : z = 39
      · rw [hz39x]
        exact rr_tsw_in 1270 pf_0_33 (by unfold rg; omega) (by omega) rfl (by decide) (lc_count hxs hd hL hi h G)
      by_cases hz40x : z = 40
      · rw [hz40x]
        exact rr_tsw_in 1293 pf_0_33 (by unfold rg; omega) (by omega) rfl (by decide) (lc_status hxs hd hL hi h G)
      exfalso; omega
end LOOP
