/-! ===== the law, case by case ===== -/
theorem lg_cmp_self (x : Int64) : lg_cmp x x = 0 := by simp [lg_cmp]
theorem case_0 {E : xE} {b L : Nat} {xs : Nat → Int32} {F : Option Value → xS → Prop} {σ : xS} {i : Nat} (hL : L ≤ 384) (hi : i + 6 ≤ L) (h : Inv σ σ) (k : ∀ σ2, Inv σ2 σ2 → Lx E b L xs F 1280 (LL E b i) [] σ2) : Lx E b L xs F 208 (LL E b i) [] σ := by
  have hb : Both E yX5_town cX5_town 2 (some .int) yX6_town cX6_town 2 (some .int) [] σ := b_town h
  obtain ⟨v, σ1, σ2, c1, c2, hI, hv⟩ := hb
  obtain ⟨x, rfl⟩ := vOk.i hv
  refine lx_aload_1 dL_law_208 ?_
  refine lx_invV (i := 0) (ci := 5) (as := []) dL_law_209 ml_L_13 mt_X5_town c1 ⟨by decide, by decide⟩ (by decide) rfl rfl rfl ⟨by decide, by decide⟩ (Nat.le_of_ble_eq_true rfl) ?_
  refine lx_aload_2 dL_law_212 ?_
  refine lx_invV (i := 73) (ci := 6) (as := []) dL_law_213 ml_L_17 mt_X6_town c2 ⟨by decide, by decide⟩ (by decide) rfl rfl rfl ⟨by decide, by decide⟩ (Nat.le_of_ble_eq_true rfl) ?_
  exact lx_icmp_eq 1280 dL_law_216 rfl (fun _ => k σ2 hI) (fun z => absurd rfl z)
theorem case_1 {E : xE} {b L : Nat} {xs : Nat → Int32} {F : Option Value → xS → Prop} {σ : xS} {i : Nat} (hL : L ≤ 384) (hi : i + 6 ≤ L) (h : Inv σ σ) (k : ∀ σ2, Inv σ2 σ2 → Lx E b L xs F 1280 (LL E b i) [] σ2) : Lx E b L xs F 221 (LL E b i) [] σ := by
  have hb : Both E yX5_promise cX5_promise 3 (some .int) yX6_promise cX6_promise 3 (some .int) [.int (xs (nI i + 1).toNatClampNeg), .int (xs (nI i + 2).toNatClampNeg)] σ := b_promise h
  obtain ⟨v, σ1, σ2, c1, c2, hI, hv⟩ := hb
  obtain ⟨x, rfl⟩ := vOk.i hv
  refine lx_aload_1 dL_law_221 ?_
  refine lx_arg1 dL_law_222 dL_law_223 dL_law_224 dL_law_225 dL_law_226 hL hi ?_
  refine lx_arg2 dL_law_227 dL_law_228 dL_law_229 dL_law_230 dL_law_231 hL hi ?_
  refine lx_invV (i := 0) (ci := 5) (as := [.int (xs (nI i + 1).toNatClampNeg), .int (xs (nI i + 2).toNatClampNeg)]) dL_law_232 ml_L_18 mt_X5_promise c1 ⟨by decide, by decide⟩ (by decide) rfl rfl rfl ⟨by decide, by decide⟩ (Nat.le_of_ble_eq_true rfl) ?_
  refine lx_aload_2 dL_law_235 ?_
  refine lx_arg1 dL_law_236 dL_law_237 dL_law_238 dL_law_239 dL_law_240 hL hi ?_
  refine lx_arg2 dL_law_241 dL_law_242 dL_law_243 dL_law_244 dL_law_245 hL hi ?_
  refine lx_invV (i := 73) (ci := 6) (as := [.int (xs (nI i + 1).toNatClampNeg), .int (xs (nI i + 2).toNatClampNeg)]) dL_law_246 ml_L_22 mt_X6_promise c2 ⟨by decide, by decide⟩ (by decide) rfl rfl rfl ⟨by decide, by decide⟩ (Nat.le_of_ble_eq_true rfl) ?_
  exact lx_icmp_eq 1280 dL_law_249 rfl (fun _ => k σ2 hI) (fun z => absurd rfl z)
theorem case_2 {E : xE} {b L : Nat} {xs : Nat → Int32} {F : Option Value → xS → Prop} {σ : xS} {i : Nat} (hL : L ≤ 384) (hi : i + 6 ≤ L) (h : Inv σ σ) (k : ∀ σ2, Inv σ2 σ2 → Lx E b L xs F 1280 (LL E b i) [] σ2) : Lx E b L xs F 254 (LL E b i) [] σ := by
  have hb : Both E yX5_hearer cX5_hearer 3 (some .int) yX6_hearer cX6_hearer 3 (some .int) [.int (xs (nI i + 1).toNatClampNeg), .int (xs (nI i + 2).toNatClampNeg)] σ := b_hearer h
  obtain ⟨v, σ1, σ2, c1, c2, hI, hv⟩ := hb
  obtain ⟨x, rfl⟩ := vOk.i hv
  refine lx_aload_1 dL_law_254 ?_
  refine lx_arg1 dL_law_255 dL_law_256 dL_law_257 dL_law_258 dL_law_259 hL hi ?_
  refine lx_arg2 dL_law_260 dL_law_261 dL_law_262 dL_law_263 dL_law_264 hL hi ?_
  refine lx_invV (i := 0) (ci := 5) (as := [.int (xs (nI i + 1).toNatClampNeg), .int (xs (nI i + 2).toNatClampNeg)]) dL_law_265 ml_L_23 mt_X5_hearer c1 ⟨by decide, by decide⟩ (by decide) rfl rfl rfl ⟨by decide, by decide⟩ (Nat.le_of_ble_eq_true rfl) ?_
  refine lx_aload_2 dL_law_268 ?_
  refine lx_arg1 dL_law_269 dL_law_270 dL_law_271 dL_law_272 dL_law_273 hL hi ?_
  refine lx_arg2 dL_law_274 dL_law_275 dL_law_276 dL_law_277 dL_law_278 hL hi ?_
  refine lx_invV (i := 73) (ci := 6) (as := [.int (xs (nI i + 1).toNatClampNeg), .int (xs (nI i + 2).toNatClampNeg)]) dL_law_279 ml_L_26 mt_X6_hearer c2 ⟨by decide, by decide⟩ (by decide) rfl rfl rfl ⟨by decide, by decide⟩ (Nat.le_of_ble_eq_true rfl) ?_
  exact lx_icmp_eq 1280 dL_law_282 rfl (fun _ => k σ2 hI) (fun z => absurd rfl z)
theorem case_3 {E : xE} {b L : Nat} {xs : Nat → Int32} {F : Option Value → xS → Prop} {σ : xS} {i : Nat} (hL : L ≤ 384) (hi : i + 6 ≤ L) (h : Inv σ σ) (k : ∀ σ2, Inv σ2 σ2 → Lx E b L xs F 1280 (LL E b i) [] σ2) : Lx E b L xs F 287 (LL E b i) [] σ := by
  have hb : Both E yX5_buyer cX5_buyer 2 (some .int) yX6_buyer cX6_buyer 2 (some .int) [.int (xs (nI i + 1).toNatClampNeg)] σ := b_buyer h
  obtain ⟨v, σ1, σ2, c1, c2, hI, hv⟩ := hb
  obtain ⟨x, rfl⟩ := vOk.i hv
  refine lx_aload_1 dL_law_287 ?_
  refine lx_arg1 dL_law_288 dL_law_289 dL_law_290 dL_law_291 dL_law_292 hL hi ?_
  refine lx_invV (i := 0) (ci := 5) (as := [.int (xs (nI i + 1).toNatClampNeg)]) dL_law_293 ml_L_27 mt_X5_buyer c1 ⟨by decide, by decide⟩ (by decide) rfl rfl rfl ⟨by decide, by decide⟩ (Nat.le_of_ble_eq_true rfl) ?_
  refine lx_aload_2 dL_law_296 ?_
  refine lx_arg1 dL_law_297 dL_law_298 dL_law_299 dL_law_300 dL_law_301 hL hi ?_
  refine lx_invV (i := 73) (ci := 6) (as := [.int (xs (nI i + 1).toNatClampNeg)]) dL_law_302 ml_L_31 mt_X6_buyer c2 ⟨by decide, by decide⟩ (by decide) rfl rfl rfl ⟨by decide, by decide⟩ (Nat.le_of_ble_eq_true rfl) ?_
  exact lx_icmp_eq 1280 dL_law_305 rfl (fun _ => k σ2 hI) (fun z => absurd rfl z)
theorem case_4 {E : xE} {b L : Nat} {xs : Nat → Int32} {F : Option Value → xS → Prop} {σ : xS} {i : Nat} (hL : L ≤ 384) (hi : i + 6 ≤ L) (h : Inv σ σ) (k : ∀ σ2, Inv σ2 σ2 → Lx E b L xs F 1280 (LL E b i) [] σ2) : Lx E b L xs F 310 (LL E b i) [] σ := by
  have hb : Both E yX5_type cX5_type 2 (some .int) yX6_type cX6_type 2 (some .int) [.int (xs (nI i + 1).toNatClampNeg)] σ := b_type h
  obtain ⟨v, σ1, σ2, c1, c2, hI, hv⟩ := hb
  obtain ⟨x, rfl⟩ := vOk.i hv
  refine lx_aload_1 dL_law_310 ?_
  refine lx_arg1 dL_law_311 dL_law_312 dL_law_313 dL_law_314 dL_law_315 hL hi ?_
  refine lx_invV (i := 0) (ci := 5) (as := [.int (xs (nI i + 1).toNatClampNeg)]) dL_law_316 ml_L_32 mt_X5_type c1 ⟨by decide, by decide⟩ (by decide) rfl rfl rfl ⟨by decide, by decide⟩ (Nat.le_of_ble_eq_true rfl) ?_
  refine lx_aload_2 dL_law_319 ?_
  refine lx_arg1 dL_law_320 dL_law_321 dL_law_322 dL_law_323 dL_law_324 hL hi ?_
  refine lx_invV (i := 73) (ci := 6) (as := [.int (xs (nI i + 1).toNatClampNeg)]) dL_law_325 ml_L_35 mt_X6_type c2 ⟨by decide, by decide⟩ (by decide) rfl rfl rfl ⟨by decide, by decide⟩ (Nat.le_of_ble_eq_true rfl) ?_
  exact lx_icmp_eq 1280 dL_law_328 rfl (fun _ => k σ2 hI) (fun z => absurd rfl z)
theorem case_5 {E : xE} {b L : Nat} {xs : Nat → Int32} {F : Option Value → xS → Prop} {σ : xS} {i : Nat} (hL : L ≤ 384) (hi : i + 6 ≤ L) (h : Inv σ σ) (k : ∀ σ2, Inv σ2 σ2 → Lx E b L xs F 1280 (LL E b i) [] σ2) : Lx E b L xs F 333 (LL E b i) [] σ := by
  have hb : Both E yX5_clear cX5_clear 2 (some .int) yX6_clear cX6_clear 2 (some .int) [] σ := b_clear h
  obtain ⟨v, σ1, σ2, c1, c2, hI, hv⟩ := hb
  obtain ⟨x, rfl⟩ := vOk.i hv
  refine lx_aload_1 dL_law_333 ?_
  refine lx_invV (i := 0) (ci := 5) (as := []) dL_law_334 ml_L_36 mt_X5_clear c1 ⟨by decide, by decide⟩ (by decide) rfl rfl rfl ⟨by decide, by decide⟩ (Nat.le_of_ble_eq_true rfl) ?_
  refine lx_aload_2 dL_law_337 ?_
  refine lx_invV (i := 73) (ci := 6) (as := []) dL_law_338 ml_L_39 mt_X6_clear c2 ⟨by decide, by decide⟩ (by decide) rfl rfl rfl ⟨by decide, by decide⟩ (Nat.le_of_ble_eq_true rfl) ?_
  exact lx_icmp_eq 1280 dL_law_341 rfl (fun _ => k σ2 hI) (fun z => absurd rfl z)
theorem case_6 {E : xE} {b L : Nat} {xs : Nat → Int32} {F : Option Value → xS → Prop} {σ : xS} {i : Nat} (hL : L ≤ 384) (hi : i + 6 ≤ L) (h : Inv σ σ) (k : ∀ σ2, Inv σ2 σ2 → Lx E b L xs F 1280 (LL E b i) [] σ2) : Lx E b L xs F 346 (LL E b i) [] σ := by
  have hb : Both E yX5_read cX5_read 2 (some .int) yX6_read cX6_read 3 (some .int) [] σ := b_read h
  obtain ⟨v, σ1, σ2, c1, c2, hI, hv⟩ := hb
  obtain ⟨x, rfl⟩ := vOk.i hv
  refine lx_aload_1 dL_law_346 ?_
  refine lx_invV (i := 0) (ci := 5) (as := []) dL_law_347 ml_L_40 mt_X5_read c1 ⟨by decide, by decide⟩ (by decide) rfl rfl rfl ⟨by decide, by decide⟩ (Nat.le_of_ble_eq_true rfl) ?_
  refine lx_aload_2 dL_law_350 ?_
  refine lx_invV (i := 73) (ci := 6) (as := []) dL_law_351 ml_L_43 mt_X6_read c2 ⟨by decide, by decide⟩ (by decide) rfl rfl rfl ⟨by decide, by decide⟩ (Nat.le_of_ble_eq_true rfl) ?_
  exact lx_icmp_eq 1280 dL_law_354 rfl (fun _ => k σ2 hI) (fun z => absurd rfl z)
theorem case_7 {E : xE} {b L : Nat} {xs : Nat → Int32} {F : Option Value → xS → Prop} {σ : xS} {i : Nat} (hL : L ≤ 384) (hi : i + 6 ≤ L) (h : Inv σ σ) (k : ∀ σ2, Inv σ2 σ2 → Lx E b L xs F 1280 (LL E b i) [] σ2) : Lx E b L xs F 359 (LL E b i) [] σ := by
  have hb : Both E yX5_days cX5_days 2 (some .int) yX6_days cX6_days 2 (some .int) [.int (xs (nI i + 1).toNatClampNeg)] σ := b_days h
  obtain ⟨v, σ1, σ2, c1, c2, hI, hv⟩ := hb
  obtain ⟨x, rfl⟩ := vOk.i hv
  refine lx_aload_1 dL_law_359 ?_
  refine lx_arg1 dL_law_360 dL_law_361 dL_law_362 dL_law_363 dL_law_364 hL hi ?_
  refine lx_invV (i := 0) (ci := 5) (as := [.int (xs (nI i + 1).toNatClampNeg)]) dL_law_365 ml_L_44 mt_X5_days c1 ⟨by decide, by decide⟩ (by decide) rfl rfl rfl ⟨by decide, by decide⟩ (Nat.le_of_ble_eq_true rfl) ?_
  refine lx_aload_2 dL_law_368 ?_
  refine lx_arg1 dL_law_369 dL_law_370 dL_law_371 dL_law_372 dL_law_373 hL hi ?_
  refine lx_invV (i := 73) (ci := 6) (as := [.int (xs (nI i + 1).toNatClampNeg)]) dL_law_374 ml_L_47 mt_X6_days c2 ⟨by decide, by decide⟩ (by decide) rfl rfl rfl ⟨by decide, by decide⟩ (Nat.le_of_ble_eq_true rfl) ?_
  exact lx_icmp_eq 1280 dL_law_377 rfl (fun _ => k σ2 hI) (fun z => absurd rfl z)
theorem case_8 {E : xE} {b L : Nat} {xs : Nat → Int32} {F : Option Value → xS → Prop} {σ : xS} {i : Nat} (hL : L ≤ 384) (hi : i + 6 ≤ L) (h : Inv σ σ) (k : ∀ σ2, Inv σ2 σ2 → Lx E b L xs F 1280 (LL E b i) [] σ2) : Lx E b L xs F 382 (LL E b i) [] σ := by
  have hb : Both E yX5_buys cX5_buys 4 (some .int) yX6_buys cX6_buys 3 (some .int) [.int (xs (nI i + 1).toNatClampNeg), .int (xs (nI i + 2).toNatClampNeg)] σ := b_buys h
  obtain ⟨v, σ1, σ2, c1, c2, hI, hv⟩ := hb
  obtain ⟨x, rfl⟩ := vOk.i hv
  refine lx_aload_1 dL_law_382 ?_
  refine lx_arg1 dL_law_383 dL_law_384 dL_law_385 dL_law_386 dL_law_387 hL hi ?_
  refine lx_arg2 dL_law_388 dL_law_389 dL_law_390 dL_law_391 dL_law_392 hL hi ?_
  refine lx_invV (i := 0) (ci := 5) (as := [.int (xs (nI i + 1).toNatClampNeg), .int (xs (nI i + 2).toNatClampNeg)]) dL_law_393 ml_L_48 mt_X5_buys c1 ⟨by decide, by decide⟩ (by decide) rfl rfl rfl ⟨by decide, by decide⟩ (Nat.le_of_ble_eq_true rfl) ?_
  refine lx_aload_2 dL_law_396 ?_
  refine lx_arg1 dL_law_397 dL_law_398 dL_law_399 dL_law_400 dL_law_401 hL hi ?_
  refine lx_arg2 dL_law_402 dL_law_403 dL_law_404 dL_law_405 dL_law_406 hL hi ?_
  refine lx_invV (i := 73) (ci := 6) (as := [.int (xs (nI i + 1).toNatClampNeg), .int (xs (nI i + 2).toNatClampNeg)]) dL_law_407 ml_L_51 mt_X6_buys c2 ⟨by decide, by decide⟩ (by decide) rfl rfl rfl ⟨by decide, by decide⟩ (Nat.le_of_ble_eq_true rfl) ?_
  exact lx_icmp_eq 1280 dL_law_410 rfl (fun _ => k σ2 hI) (fun z => absurd rfl z)
theorem case_9 {E : xE} {b L : Nat} {xs : Nat → Int32} {F : Option Value → xS → Prop} {σ : xS} {i : Nat} (hL : L ≤ 384) (hi : i + 6 ≤ L) (h : Inv σ σ) (k : ∀ σ2, Inv σ2 σ2 → Lx E b L xs F 1280 (LL E b i) [] σ2) : Lx E b L xs F 415 (LL E b i) [] σ := by
  have hb : Both E yX5_keeps cX5_keeps 4 (some .int) yX6_keeps cX6_keeps 3 (some .int) [.int (xs (nI i + 1).toNatClampNeg), .int (xs (nI i + 2).toNatClampNeg)] σ := b_keeps h
  obtain ⟨v, σ1, σ2, c1, c2, hI, hv⟩ := hb
  obtain ⟨x, rfl⟩ := vOk.i hv
  refine lx_aload_1 dL_law_415 ?_
  refine lx_arg1 dL_law_416 dL_law_417 dL_law_418 dL_law_419 dL_law_420 hL hi ?_
  refine lx_arg2 dL_law_421 dL_law_422 dL_law_423 dL_law_424 dL_law_425 hL hi ?_
  refine lx_invV (i := 0) (ci := 5) (as := [.int (xs (nI i + 1).toNatClampNeg), .int (xs (nI i + 2).toNatClampNeg)]) dL_law_426 ml_L_52 mt_X5_keeps c1 ⟨by decide, by decide⟩ (by decide) rfl rfl rfl ⟨by decide, by decide⟩ (Nat.le_of_ble_eq_true rfl) ?_
  refine lx_aload_2 dL_law_429 ?_
  refine lx_arg1 dL_law_430 dL_law_431 dL_law_432 dL_law_433 dL_law_434 hL hi ?_
  refine lx_arg2 dL_law_435 dL_law_436 dL_law_437 dL_law_438 dL_law_439 hL hi ?_
  refine lx_invV (i := 73) (ci := 6) (as := [.int (xs (nI i + 1).toNatClampNeg), .int (xs (nI i + 2).toNatClampNeg)]) dL_law_440 ml_L_55 mt_X6_keeps c2 ⟨by decide, by decide⟩ (by decide) rfl rfl rfl ⟨by decide, by decide⟩ (Nat.le_of_ble_eq_true rfl) ?_
  exact lx_icmp_eq 1280 dL_law_443 rfl (fun _ => k σ2 hI) (fun z => absurd rfl z)
theorem case_10 {E : xE} {b L : Nat} {xs : Nat → Int32} {F : Option Value → xS → Prop} {σ : xS} {i : Nat} (hL : L ≤ 384) (hi : i + 6 ≤ L) (h : Inv σ σ) (k : ∀ σ2, Inv σ2 σ2 → Lx E b L xs F 1280 (LL E b i) [] σ2) : Lx E b L xs F 448 (LL E b i) [] σ := by
  have hb : Both E yX5_undo cX5_undo 1 (some .int) yX6_undo cX6_undo 2 (some .int) [] σ := b_undo h
  obtain ⟨v, σ1, σ2, c1, c2, hI, hv⟩ := hb
  obtain ⟨x, rfl⟩ := vOk.i hv
  refine lx_aload_1 dL_law_448 ?_
  refine lx_invV (i := 0) (ci := 5) (as := []) dL_law_449 ml_L_56 mt_X5_undo c1 ⟨by decide, by decide⟩ (by decide) rfl rfl rfl ⟨by decide, by decide⟩ (Nat.le_of_ble_eq_true rfl) ?_
  refine lx_aload_2 dL_law_452 ?_
  refine lx_invV (i := 73) (ci := 6) (as := []) dL_law_453 ml_L_59 mt_X6_undo c2 ⟨by decide, by decide⟩ (by decide) rfl rfl rfl ⟨by decide, by decide⟩ (Nat.le_of_ble_eq_true rfl) ?_
  exact lx_icmp_eq 1280 dL_law_456 rfl (fun _ => k σ2 hI) (fun z => absurd rfl z)
theorem case_11 {E : xE} {b L : Nat} {xs : Nat → Int32} {F : Option Value → xS → Prop} {σ : xS} {i : Nat} (hL : L ≤ 384) (hi : i + 6 ≤ L) (h : Inv σ σ) (k : ∀ σ2, Inv σ2 σ2 → Lx E b L xs F 1280 (LL E b i) [] σ2) : Lx E b L xs F 461 (LL E b i) [] σ := by
  have hb : Both E yX5_of cX5_of 4 (some .int) yX6_of cX6_of 3 (some .int) [.int (xs (nI i + 1).toNatClampNeg), .int (xs (nI i + 2).toNatClampNeg)] σ := b_of h
  obtain ⟨v, σ1, σ2, c1, c2, hI, hv⟩ := hb
  obtain ⟨x, rfl⟩ := vOk.i hv
  refine lx_aload_1 dL_law_461 ?_
  refine lx_arg1 dL_law_462 dL_law_463 dL_law_464 dL_law_465 dL_law_466 hL hi ?_
  refine lx_arg2 dL_law_467 dL_law_468 dL_law_469 dL_law_470 dL_law_471 hL hi ?_
  refine lx_invV (i := 0) (ci := 5) (as := [.int (xs (nI i + 1).toNatClampNeg), .int (xs (nI i + 2).toNatClampNeg)]) dL_law_472 ml_L_60 mt_X5_of c1 ⟨by decide, by decide⟩ (by decide) rfl rfl rfl ⟨by decide, by decide⟩ (Nat.le_of_ble_eq_true rfl) ?_
  refine lx_aload_2 dL_law_475 ?_
  refine lx_arg1 dL_law_476 dL_law_477 dL_law_478 dL_law_479 dL_law_480 hL hi ?_
  refine lx_arg2 dL_law_481 dL_law_482 dL_law_483 dL_law_484 dL_law_485 hL hi ?_
  refine lx_invV (i := 73) (ci := 6) (as := [.int (xs (nI i + 1).toNatClampNeg), .int (xs (nI i + 2).toNatClampNeg)]) dL_law_486 ml_L_63 mt_X6_of c2 ⟨by decide, by decide⟩ (by decide) rfl rfl rfl ⟨by decide, by decide⟩ (Nat.le_of_ble_eq_true rfl) ?_
  exact lx_icmp_eq 1280 dL_law_489 rfl (fun _ => k σ2 hI) (fun z => absurd rfl z)
theorem case_12 {E : xE} {b L : Nat} {xs : Nat → Int32} {F : Option Value → xS → Prop} {σ : xS} {i : Nat} (hL : L ≤ 384) (hi : i + 6 ≤ L) (h : Inv σ σ) (k : ∀ σ2, Inv σ2 σ2 → Lx E b L xs F 1280 (LL E b i) [] σ2) : Lx E b L xs F 494 (LL E b i) [] σ := by
  have hb : Both E yX5_about cX5_about 4 (some .int) yX6_about cX6_about 3 (some .int) [.int (xs (nI i + 1).toNatClampNeg), .int (xs (nI i + 2).toNatClampNeg)] σ := b_about h
  obtain ⟨v, σ1, σ2, c1, c2, hI, hv⟩ := hb
  obtain ⟨x, rfl⟩ := vOk.i hv
  refine lx_aload_1 dL_law_494 ?_
  refine lx_arg1 dL_law_495 dL_law_496 dL_law_497 dL_law_498 dL_law_499 hL hi ?_
  refine lx_arg2 dL_law_500 dL_law_501 dL_law_502 dL_law_503 dL_law_504 hL hi ?_
  refine lx_invV (i := 0) (ci := 5) (as := [.int (xs (nI i + 1).toNatClampNeg), .int (xs (nI i + 2).toNatClampNeg)]) dL_law_505 ml_L_64 mt_X5_about c1 ⟨by decide, by decide⟩ (by decide) rfl rfl rfl ⟨by decide, by decide⟩ (Nat.le_of_ble_eq_true rfl) ?_
  refine lx_aload_2 dL_law_508 ?_
  refine lx_arg1 dL_law_509 dL_law_510 dL_law_511 dL_law_512 dL_law_513 hL hi ?_
  refine lx_arg2 dL_law_514 dL_law_515 dL_law_516 dL_law_517 dL_law_518 hL hi ?_
  refine lx_invV (i := 73) (ci := 6) (as := [.int (xs (nI i + 1).toNatClampNeg), .int (xs (nI i + 2).toNatClampNeg)]) dL_law_519 ml_L_67 mt_X6_about c2 ⟨by decide, by decide⟩ (by decide) rfl rfl rfl ⟨by decide, by decide⟩ (Nat.le_of_ble_eq_true rfl) ?_
  exact lx_icmp_eq 1280 dL_law_522 rfl (fun _ => k σ2 hI) (fun z => absurd rfl z)
theorem case_13 {E : xE} {b L : Nat} {xs : Nat → Int32} {F : Option Value → xS → Prop} {σ : xS} {i : Nat} (hL : L ≤ 384) (hi : i + 6 ≤ L) (h : Inv σ σ) (k : ∀ σ2, Inv σ2 σ2 → Lx E b L xs F 1280 (LL E b i) [] σ2) : Lx E b L xs F 527 (LL E b i) [] σ := by
  have hb : Both E yX5_purse cX5_purse 4 (some .int) yX6_purse cX6_purse 3 (some .int) [.int (xs (nI i + 1).toNatClampNeg), .int (xs (nI i + 2).toNatClampNeg)] σ := b_purse h
  obtain ⟨v, σ1, σ2, c1, c2, hI, hv⟩ := hb
  obtain ⟨x, rfl⟩ := vOk.i hv
  refine lx_aload_1 dL_law_527 ?_
  refine lx_arg1 dL_law_528 dL_law_529 dL_law_530 dL_law_531 dL_law_532 hL hi ?_
  refine lx_arg2 dL_law_533 dL_law_534 dL_law_535 dL_law_536 dL_law_537 hL hi ?_
  refine lx_invV (i := 0) (ci := 5) (as := [.int (xs (nI i + 1).toNatClampNeg), .int (xs (nI i + 2).toNatClampNeg)]) dL_law_538 ml_L_68 mt_X5_purse c1 ⟨by decide, by decide⟩ (by decide) rfl rfl rfl ⟨by decide, by decide⟩ (Nat.le_of_ble_eq_true rfl) ?_
  refine lx_aload_2 dL_law_541 ?_
  refine lx_arg1 dL_law_542 dL_law_543 dL_law_544 dL_law_545 dL_law_546 hL hi ?_
  refine lx_arg2 dL_law_547 dL_law_548 dL_law_549 dL_law_550 dL_law_551 hL hi ?_
  refine lx_invV (i := 73) (ci := 6) (as := [.int (xs (nI i + 1).toNatClampNeg), .int (xs (nI i + 2).toNatClampNeg)]) dL_law_552 ml_L_71 mt_X6_purse c2 ⟨by decide, by decide⟩ (by decide) rfl rfl rfl ⟨by decide, by decide⟩ (Nat.le_of_ble_eq_true rfl) ?_
  exact lx_icmp_eq 1280 dL_law_555 rfl (fun _ => k σ2 hI) (fun z => absurd rfl z)
theorem case_14 {E : xE} {b L : Nat} {xs : Nat → Int32} {F : Option Value → xS → Prop} {σ : xS} {i : Nat} (hL : L ≤ 384) (hi : i + 6 ≤ L) (h : Inv σ σ) (k : ∀ σ2, Inv σ2 σ2 → Lx E b L xs F 1280 (LL E b i) [] σ2) : Lx E b L xs F 560 (LL E b i) [] σ := by
  have hb : Both E yX5_good cX5_good 3 (some .int) yX6_good cX6_good 3 (some .int) [.int (xs (nI i + 1).toNatClampNeg), .int (xs (nI i + 2).toNatClampNeg)] σ := b_good h
  obtain ⟨v, σ1, σ2, c1, c2, hI, hv⟩ := hb
  obtain ⟨x, rfl⟩ := vOk.i hv
  refine lx_aload_1 dL_law_560 ?_
  refine lx_arg1 dL_law_561 dL_law_562 dL_law_563 dL_law_564 dL_law_565 hL hi ?_
  refine lx_arg2 dL_law_566 dL_law_567 dL_law_568 dL_law_569 dL_law_570 hL hi ?_
  refine lx_invV (i := 0) (ci := 5) (as := [.int (xs (nI i + 1).toNatClampNeg), .int (xs (nI i + 2).toNatClampNeg)]) dL_law_571 ml_L_72 mt_X5_good c1 ⟨by decide, by decide⟩ (by decide) rfl rfl rfl ⟨by decide, by decide⟩ (Nat.le_of_ble_eq_true rfl) ?_
  refine lx_aload_2 dL_law_574 ?_
  refine lx_arg1 dL_law_575 dL_law_576 dL_law_577 dL_law_578 dL_law_579 hL hi ?_
  refine lx_arg2 dL_law_580 dL_law_581 dL_law_582 dL_law_583 dL_law_584 hL hi ?_
  refine lx_invV (i := 73) (ci := 6) (as := [.int (xs (nI i + 1).toNatClampNeg), .int (xs (nI i + 2).toNatClampNeg)]) dL_law_585 ml_L_75 mt_X6_good c2 ⟨by decide, by decide⟩ (by decide) rfl rfl rfl ⟨by decide, by decide⟩ (Nat.le_of_ble_eq_true rfl) ?_
  exact lx_icmp_eq 1280 dL_law_588 rfl (fun _ => k σ2 hI) (fun z => absurd rfl z)
theorem case_15 {E : xE} {b L : Nat} {xs : Nat → Int32} {F : Option Value → xS → Prop} {σ : xS} {i : Nat} (hL : L ≤ 384) (hi : i + 6 ≤ L) (h : Inv σ σ) (k : ∀ σ2, Inv σ2 σ2 → Lx E b L xs F 1280 (LL E b i) [] σ2) : Lx E b L xs F 593 (LL E b i) [] σ := by
  have hb : Both E yX5_joy cX5_joy 3 (some .int) yX6_joy cX6_joy 3 (some .int) [.int (xs (nI i + 1).toNatClampNeg), .int (xs (nI i + 2).toNatClampNeg)] σ := b_joy h
  obtain ⟨v, σ1, σ2, c1, c2, hI, hv⟩ := hb
  obtain ⟨x, rfl⟩ := vOk.i hv
  refine lx_aload_1 dL_law_593 ?_
  refine lx_arg1 dL_law_594 dL_law_595 dL_law_596 dL_law_597 dL_law_598 hL hi ?_
  refine lx_arg2 dL_law_599 dL_law_600 dL_law_601 dL_law_602 dL_law_603 hL hi ?_
  refine lx_invV (i := 0) (ci := 5) (as := [.int (xs (nI i + 1).toNatClampNeg), .int (xs (nI i + 2).toNatClampNeg)]) dL_law_604 ml_L_76 mt_X5_joy c1 ⟨by decide, by decide⟩ (by decide) rfl rfl rfl ⟨by decide, by decide⟩ (Nat.le_of_ble_eq_true rfl) ?_
  refine lx_aload_2 dL_law_607 ?_
  refine lx_arg1 dL_law_608 dL_law_609 dL_law_610 dL_law_611 dL_law_612 hL hi ?_
  refine lx_arg2 dL_law_613 dL_law_614 dL_law_615 dL_law_616 dL_law_617 hL hi ?_
  refine lx_invV (i := 73) (ci := 6) (as := [.int (xs (nI i + 1).toNatClampNeg), .int (xs (nI i + 2).toNatClampNeg)]) dL_law_618 ml_L_79 mt_X6_joy c2 ⟨by decide, by decide⟩ (by decide) rfl rfl rfl ⟨by decide, by decide⟩ (Nat.le_of_ble_eq_true rfl) ?_
  exact lx_icmp_eq 1280 dL_law_621 rfl (fun _ => k σ2 hI) (fun z => absurd rfl z)
theorem case_16 {E : xE} {b L : Nat} {xs : Nat → Int32} {F : Option Value → xS → Prop} {σ : xS} {i : Nat} (hL : L ≤ 384) (hi : i + 6 ≤ L) (h : Inv σ σ) (k : ∀ σ2, Inv σ2 σ2 → Lx E b L xs F 1280 (LL E b i) [] σ2) : Lx E b L xs F 626 (LL E b i) [] σ := by
  have hb : Both E yX5_when cX5_when 4 (some .int) yX6_when cX6_when 4 (some .int) [.int (xs (nI i + 1).toNatClampNeg), .int (xs (nI i + 2).toNatClampNeg)] σ := b_when h
  obtain ⟨v, σ1, σ2, c1, c2, hI, hv⟩ := hb
  obtain ⟨x, rfl⟩ := vOk.i hv
  refine lx_aload_1 dL_law_626 ?_
  refine lx_arg1 dL_law_627 dL_law_628 dL_law_629 dL_law_630 dL_law_631 hL hi ?_
  refine lx_arg2 dL_law_632 dL_law_633 dL_law_634 dL_law_635 dL_law_636 hL hi ?_
  refine lx_invV (i := 0) (ci := 5) (as := [.int (xs (nI i + 1).toNatClampNeg), .int (xs (nI i + 2).toNatClampNeg)]) dL_law_637 ml_L_80 mt_X5_when c1 ⟨by decide, by decide⟩ (by decide) rfl rfl rfl ⟨by decide, by decide⟩ (Nat.le_of_ble_eq_true rfl) ?_
  refine lx_aload_2 dL_law_640 ?_
  refine lx_arg1 dL_law_641 dL_law_642 dL_law_643 dL_law_644 dL_law_645 hL hi ?_
  refine lx_arg2 dL_law_646 dL_law_647 dL_law_648 dL_law_649 dL_law_650 hL hi ?_
  refine lx_invV (i := 73) (ci := 6) (as := [.int (xs (nI i + 1).toNatClampNeg), .int (xs (nI i + 2).toNatClampNeg)]) dL_law_651 ml_L_83 mt_X6_when c2 ⟨by decide, by decide⟩ (by decide) rfl rfl rfl ⟨by decide, by decide⟩ (Nat.le_of_ble_eq_true rfl) ?_
  exact lx_icmp_eq 1280 dL_law_654 rfl (fun _ => k σ2 hI) (fun z => absurd rfl z)
theorem case_17 {E : xE} {b L : Nat} {xs : Nat → Int32} {F : Option Value → xS → Prop} {σ : xS} {i : Nat} (hL : L ≤ 384) (hi : i + 6 ≤ L) (h : Inv σ σ) (k : ∀ σ2, Inv σ2 σ2 → Lx E b L xs F 1280 (LL E b i) [] σ2) : Lx E b L xs F 659 (LL E b i) [] σ := by
  have hb : Both E yX5_waits cX5_waits 1 (some .int) yX6_waits cX6_waits 1 (some .int) [] σ := b_waits h
  obtain ⟨v, σ1, σ2, c1, c2, hI, hv⟩ := hb
  obtain ⟨x, rfl⟩ := vOk.i hv
  refine lx_aload_1 dL_law_659 ?_
  refine lx_invV (i := 0) (ci := 5) (as := []) dL_law_660 ml_L_84 mt_X5_waits c1 ⟨by decide, by decide⟩ (by decide) rfl rfl rfl ⟨by decide, by decide⟩ (Nat.le_of_ble_eq_true rfl) ?_
  refine lx_aload_2 dL_law_663 ?_
  refine lx_invV (i := 73) (ci := 6) (as := []) dL_law_664 ml_L_87 mt_X6_waits c2 ⟨by decide, by decide⟩ (by decide) rfl rfl rfl ⟨by decide, by decide⟩ (Nat.le_of_ble_eq_true rfl) ?_
  exact lx_icmp_eq 1280 dL_law_667 rfl (fun _ => k σ2 hI) (fun z => absurd rfl z)
theorem case_18 {E : xE} {b L : Nat} {xs : Nat → Int32} {F : Option Value → xS → Prop} {σ : xS} {i : Nat} (hL : L ≤ 384) (hi : i + 6 ≤ L) (h : Inv σ σ) (k : ∀ σ2, Inv σ2 σ2 → Lx E b L xs F 1280 (LL E b i) [] σ2) : Lx E b L xs F 672 (LL E b i) [] σ := by
  have hb : Both E yX5_fit cX5_fit 6 (some .int) yX6_fit cX6_fit 6 (some .int) [.int (xs (nI i + 1).toNatClampNeg)] σ := b_fit h
  obtain ⟨v, σ1, σ2, c1, c2, hI, hv⟩ := hb
  obtain ⟨x, rfl⟩ := vOk.i hv
  refine lx_aload_1 dL_law_672 ?_
  refine lx_arg1 dL_law_673 dL_law_674 dL_law_675 dL_law_676 dL_law_677 hL hi ?_
  refine lx_invV (i := 0) (ci := 5) (as := [.int (xs (nI i + 1).toNatClampNeg)]) dL_law_678 ml_L_88 mt_X5_fit c1 ⟨by decide, by decide⟩ (by decide) rfl rfl rfl ⟨by decide, by decide⟩ (Nat.le_of_ble_eq_true rfl) ?_
  refine lx_aload_2 dL_law_681 ?_
  refine lx_arg1 dL_law_682 dL_law_683 dL_law_684 dL_law_685 dL_law_686 hL hi ?_
  refine lx_invV (i := 73) (ci := 6) (as := [.int (xs (nI i + 1).toNatClampNeg)]) dL_law_687 ml_L_91 mt_X6_fit c2 ⟨by decide, by decide⟩ (by decide) rfl rfl rfl ⟨by decide, by decide⟩ (Nat.le_of_ble_eq_true rfl) ?_
  exact lx_icmp_eq 1280 dL_law_690 rfl (fun _ => k σ2 hI) (fun z => absurd rfl z)
theorem case_19 {E : xE} {b L : Nat} {xs : Nat → Int32} {F : Option Value → xS → Prop} {σ : xS} {i : Nat} (hL : L ≤ 384) (hi : i + 6 ≤ L) (h : Inv σ σ) (k : ∀ σ2, Inv σ2 σ2 → Lx E b L xs F 1280 (LL E b i) [] σ2) : Lx E b L xs F 695 (LL E b i) [] σ := by
  have hb : Both E yX5_buy cX5_buy 6 (some .int) yX6_buy cX6_buy 10 (some .int) [.int (xs (nI i + 1).toNatClampNeg), .int (xs (nI i + 2).toNatClampNeg), .int (xs (nI i + 3).toNatClampNeg)] σ := b_buy h
  obtain ⟨v, σ1, σ2, c1, c2, hI, hv⟩ := hb
  obtain ⟨x, rfl⟩ := vOk.i hv
  refine lx_aload_1 dL_law_695 ?_
  refine lx_arg1 dL_law_696 dL_law_697 dL_law_698 dL_law_699 dL_law_700 hL hi ?_
  refine lx_arg2 dL_law_701 dL_law_702 dL_law_703 dL_law_704 dL_law_705 hL hi ?_
  refine lx_arg3 dL_law_706 dL_law_707 dL_law_708 dL_law_709 dL_law_710 hL hi ?_
  refine lx_invV (i := 0) (ci := 5) (as := [.int (xs (nI i + 1).toNatClampNeg), .int (xs (nI i + 2).toNatClampNeg), .int (xs (nI i + 3).toNatClampNeg)]) dL_law_711 ml_L_92 mt_X5_buy c1 ⟨by decide, by decide⟩ (by decide) rfl rfl rfl ⟨by decide, by decide⟩ (Nat.le_of_ble_eq_true rfl) ?_
  refine lx_aload_2 dL_law_714 ?_
  refine lx_arg1 dL_law_715 dL_law_716 dL_law_717 dL_law_718 dL_law_719 hL hi ?_
  refine lx_arg2 dL_law_720 dL_law_721 dL_law_722 dL_law_723 dL_law_724 hL hi ?_
  refine lx_arg3 dL_law_725 dL_law_726 dL_law_727 dL_law_728 dL_law_729 hL hi ?_
  refine lx_invV (i := 73) (ci := 6) (as := [.int (xs (nI i + 1).toNatClampNeg), .int (xs (nI i + 2).toNatClampNeg), .int (xs (nI i + 3).toNatClampNeg)]) dL_law_730 ml_L_96 mt_X6_buy c2 ⟨by decide, by decide⟩ (by decide) rfl rfl rfl ⟨by decide, by decide⟩ (Nat.le_of_ble_eq_true rfl) ?_
  exact lx_icmp_eq 1280 dL_law_733 rfl (fun _ => k σ2 hI) (fun z => absurd rfl z)
theorem case_20 {E : xE} {b L : Nat} {xs : Nat → Int32} {F : Option Value → xS → Prop} {σ : xS} {i : Nat} (hL : L ≤ 384) (hi : i + 6 ≤ L) (h : Inv σ σ) (k : ∀ σ2, Inv σ2 σ2 → Lx E b L xs F 1280 (LL E b i) [] σ2) : Lx E b L xs F 738 (LL E b i) [] σ := by
  have hb : Both E yX5_cheap cX5_cheap 1 (some .int) yX6_cheap cX6_cheap 7 (some .int) [] σ := b_cheap h
  obtain ⟨v, σ1, σ2, c1, c2, hI, hv⟩ := hb
  obtain ⟨x, rfl⟩ := vOk.i hv
  refine lx_aload_1 dL_law_738 ?_
  refine lx_invV (i := 0) (ci := 5) (as := []) dL_law_739 ml_L_97 mt_X5_cheap c1 ⟨by decide, by decide⟩ (by decide) rfl rfl rfl ⟨by decide, by decide⟩ (Nat.le_of_ble_eq_true rfl) ?_
  refine lx_aload_2 dL_law_742 ?_
  refine lx_invV (i := 73) (ci := 6) (as := []) dL_law_743 ml_L_100 mt_X6_cheap c2 ⟨by decide, by decide⟩ (by decide) rfl rfl rfl ⟨by decide, by decide⟩ (Nat.le_of_ble_eq_true rfl) ?_
  exact lx_icmp_eq 1280 dL_law_746 rfl (fun _ => k σ2 hI) (fun z => absurd rfl z)
theorem case_21 {E : xE} {b L : Nat} {xs : Nat → Int32} {F : Option Value → xS → Prop} {σ : xS} {i : Nat} (hL : L ≤ 384) (hi : i + 6 ≤ L) (h : Inv σ σ) (k : ∀ σ2, Inv σ2 σ2 → Lx E b L xs F 1280 (LL E b i) [] σ2) : Lx E b L xs F 751 (LL E b i) [] σ := by
  have hb : Both E yX5_seen cX5_seen 3 (some .int) yX6_seen cX6_seen 3 (some .int) [.int (xs (nI i + 1).toNatClampNeg), .int (xs (nI i + 2).toNatClampNeg)] σ := b_seen h
  obtain ⟨v, σ1, σ2, c1, c2, hI, hv⟩ := hb
  obtain ⟨x, rfl⟩ := vOk.i hv
  refine lx_aload_1 dL_law_751 ?_
  refine lx_arg1 dL_law_752 dL_law_753 dL_law_754 dL_law_755 dL_law_756 hL hi ?_
  refine lx_arg2 dL_law_757 dL_law_758 dL_law_759 dL_law_760 dL_law_761 hL hi ?_
  refine lx_invV (i := 0) (ci := 5) (as := [.int (xs (nI i + 1).toNatClampNeg), .int (xs (nI i + 2).toNatClampNeg)]) dL_law_762 ml_L_101 mt_X5_seen c1 ⟨by decide, by decide⟩ (by decide) rfl rfl rfl ⟨by decide, by decide⟩ (Nat.le_of_ble_eq_true rfl) ?_
  refine lx_aload_2 dL_law_765 ?_
  refine lx_arg1 dL_law_766 dL_law_767 dL_law_768 dL_law_769 dL_law_770 hL hi ?_
  refine lx_arg2 dL_law_771 dL_law_772 dL_law_773 dL_law_774 dL_law_775 hL hi ?_
  refine lx_invV (i := 73) (ci := 6) (as := [.int (xs (nI i + 1).toNatClampNeg), .int (xs (nI i + 2).toNatClampNeg)]) dL_law_776 ml_L_104 mt_X6_seen c2 ⟨by decide, by decide⟩ (by decide) rfl rfl rfl ⟨by decide, by decide⟩ (Nat.le_of_ble_eq_true rfl) ?_
  exact lx_icmp_eq 1280 dL_law_779 rfl (fun _ => k σ2 hI) (fun z => absurd rfl z)
theorem case_22 {E : xE} {b L : Nat} {xs : Nat → Int32} {F : Option Value → xS → Prop} {σ : xS} {i : Nat} (hL : L ≤ 384) (hi : i + 6 ≤ L) (h : Inv σ σ) (k : ∀ σ2, Inv σ2 σ2 → Lx E b L xs F 1280 (LL E b i) [] σ2) : Lx E b L xs F 784 (LL E b i) [] σ := by
  have hb : Both E yX5_which cX5_which 1 (some .int) yX6_which cX6_which 1 (some .int) [] σ := b_which h
  obtain ⟨v, σ1, σ2, c1, c2, hI, hv⟩ := hb
  obtain ⟨x, rfl⟩ := vOk.i hv
  refine lx_aload_1 dL_law_784 ?_
  refine lx_invV (i := 0) (ci := 5) (as := []) dL_law_785 ml_L_105 mt_X5_which c1 ⟨by decide, by decide⟩ (by decide) rfl rfl rfl ⟨by decide, by decide⟩ (Nat.le_of_ble_eq_true rfl) ?_
  refine lx_aload_2 dL_law_788 ?_
  refine lx_invV (i := 73) (ci := 6) (as := []) dL_law_789 ml_L_108 mt_X6_which c2 ⟨by decide, by decide⟩ (by decide) rfl rfl rfl ⟨by decide, by decide⟩ (Nat.le_of_ble_eq_true rfl) ?_
  exact lx_icmp_eq 1280 dL_law_792 rfl (fun _ => k σ2 hI) (fun z => absurd rfl z)
theorem case_23 {E : xE} {b L : Nat} {xs : Nat → Int32} {F : Option Value → xS → Prop} {σ : xS} {i : Nat} (hL : L ≤ 384) (hi : i + 6 ≤ L) (h : Inv σ σ) (k : ∀ σ2, Inv σ2 σ2 → Lx E b L xs F 1280 (LL E b i) [] σ2) : Lx E b L xs F 797 (LL E b i) [] σ := by
  have hb : Both E yX5_tell cX5_tell 1 (some .int) yX6_tell cX6_tell 6 (some .int) [] σ := b_tell h
  obtain ⟨v, σ1, σ2, c1, c2, hI, hv⟩ := hb
  obtain ⟨x, rfl⟩ := vOk.i hv
  refine lx_aload_1 dL_law_797 ?_
  refine lx_invV (i := 0) (ci := 5) (as := []) dL_law_798 ml_L_109 mt_X5_tell c1 ⟨by decide, by decide⟩ (by decide) rfl rfl rfl ⟨by decide, by decide⟩ (Nat.le_of_ble_eq_true rfl) ?_
  refine lx_aload_2 dL_law_801 ?_
  refine lx_invV (i := 73) (ci := 6) (as := []) dL_law_802 ml_L_112 mt_X6_tell c2 ⟨by decide, by decide⟩ (by decide) rfl rfl rfl ⟨by decide, by decide⟩ (Nat.le_of_ble_eq_true rfl) ?_
  exact lx_icmp_eq 1280 dL_law_805 rfl (fun _ => k σ2 hI) (fun z => absurd rfl z)
theorem case_24 {E : xE} {b L : Nat} {xs : Nat → Int32} {F : Option Value → xS → Prop} {σ : xS} {i : Nat} (hL : L ≤ 384) (hi : i + 6 ≤ L) (h : Inv σ σ) (k : ∀ σ2, Inv σ2 σ2 → Lx E b L xs F 1280 (LL E b i) [] σ2) : Lx E b L xs F 810 (LL E b i) [] σ := by
  have hb : Both E yX5_note cX5_note 5 (some .int) yX6_note cX6_note 5 (some .int) [.int (xs (nI i + 1).toNatClampNeg), .int (xs (nI i + 2).toNatClampNeg), .int (xs (nI i + 3).toNatClampNeg), .int (xs (nI i + 4).toNatClampNeg)] σ := b_note h
  obtain ⟨v, σ1, σ2, c1, c2, hI, hv⟩ := hb
  obtain ⟨x, rfl⟩ := vOk.i hv
  refine lx_aload_1 dL_law_810 ?_
  refine lx_arg1 dL_law_811 dL_law_812 dL_law_813 dL_law_814 dL_law_815 hL hi ?_
  refine lx_arg2 dL_law_816 dL_law_817 dL_law_818 dL_law_819 dL_law_820 hL hi ?_
  refine lx_arg3 dL_law_821 dL_law_822 dL_law_823 dL_law_824 dL_law_825 hL hi ?_
  refine lx_arg4 dL_law_826 dL_law_827 dL_law_828 dL_law_829 dL_law_830 hL hi ?_
  refine lx_invV (i := 0) (ci := 5) (as := [.int (xs (nI i + 1).toNatClampNeg), .int (xs (nI i + 2).toNatClampNeg), .int (xs (nI i + 3).toNatClampNeg), .int (xs (nI i + 4).toNatClampNeg)]) dL_law_831 ml_L_113 mt_X5_note c1 ⟨by decide, by decide⟩ (by decide) rfl rfl rfl ⟨by decide, by decide⟩ (Nat.le_of_ble_eq_true rfl) ?_
  refine lx_aload_2 dL_law_834 ?_
  refine lx_arg1 dL_law_835 dL_law_836 dL_law_837 dL_law_838 dL_law_839 hL hi ?_
  refine lx_arg2 dL_law_840 dL_law_841 dL_law_842 dL_law_843 dL_law_844 hL hi ?_
  refine lx_arg3 dL_law_845 dL_law_846 dL_law_847 dL_law_848 dL_law_849 hL hi ?_
  refine lx_arg4 dL_law_850 dL_law_851 dL_law_852 dL_law_853 dL_law_854 hL hi ?_
  refine lx_invV (i := 73) (ci := 6) (as := [.int (xs (nI i + 1).toNatClampNeg), .int (xs (nI i + 2).toNatClampNeg), .int (xs (nI i + 3).toNatClampNeg), .int (xs (nI i + 4).toNatClampNeg)]) dL_law_855 ml_L_117 mt_X6_note c2 ⟨by decide, by decide⟩ (by decide) rfl rfl rfl ⟨by decide, by decide⟩ (Nat.le_of_ble_eq_true rfl) ?_
  exact lx_icmp_eq 1280 dL_law_858 rfl (fun _ => k σ2 hI) (fun z => absurd rfl z)
theorem case_25 {E : xE} {b L : Nat} {xs : Nat → Int32} {F : Option Value → xS → Prop} {σ : xS} {i : Nat} (hL : L ≤ 384) (hi : i + 6 ≤ L) (h : Inv σ σ) (k : ∀ σ2, Inv σ2 σ2 → Lx E b L xs F 1280 (LL E b i) [] σ2) : Lx E b L xs F 863 (LL E b i) [] σ := by
  have hb : Both E yX5_mark cX5_mark 5 (some .int) yX6_mark cX6_mark 5 (some .int) [.int (xs (nI i + 1).toNatClampNeg), .int (xs (nI i + 2).toNatClampNeg), .int (xs (nI i + 3).toNatClampNeg), .int (xs (nI i + 4).toNatClampNeg)] σ := b_mark h
  obtain ⟨v, σ1, σ2, c1, c2, hI, hv⟩ := hb
  obtain ⟨x, rfl⟩ := vOk.i hv
  refine lx_aload_1 dL_law_863 ?_
  refine lx_arg1 dL_law_864 dL_law_865 dL_law_866 dL_law_867 dL_law_868 hL hi ?_
  refine lx_arg2 dL_law_869 dL_law_870 dL_law_871 dL_law_872 dL_law_873 hL hi ?_
  refine lx_arg3 dL_law_874 dL_law_875 dL_law_876 dL_law_877 dL_law_878 hL hi ?_
  refine lx_arg4 dL_law_879 dL_law_880 dL_law_881 dL_law_882 dL_law_883 hL hi ?_
  refine lx_invV (i := 0) (ci := 5) (as := [.int (xs (nI i + 1).toNatClampNeg), .int (xs (nI i + 2).toNatClampNeg), .int (xs (nI i + 3).toNatClampNeg), .int (xs (nI i + 4).toNatClampNeg)]) dL_law_884 ml_L_118 mt_X5_mark c1 ⟨by decide, by decide⟩ (by decide) rfl rfl rfl ⟨by decide, by decide⟩ (Nat.le_of_ble_eq_true rfl) ?_
  refine lx_aload_2 dL_law_887 ?_
  refine lx_arg1 dL_law_888 dL_law_889 dL_law_890 dL_law_891 dL_law_892 hL hi ?_
  refine lx_arg2 dL_law_893 dL_law_894 dL_law_895 dL_law_896 dL_law_897 hL hi ?_
  refine lx_arg3 dL_law_898 dL_law_899 dL_law_900 dL_law_901 dL_law_902 hL hi ?_
  refine lx_arg4 dL_law_903 dL_law_904 dL_law_905 dL_law_906 dL_law_907 hL hi ?_
  refine lx_invV (i := 73) (ci := 6) (as := [.int (xs (nI i + 1).toNatClampNeg), .int (xs (nI i + 2).toNatClampNeg), .int (xs (nI i + 3).toNatClampNeg), .int (xs (nI i + 4).toNatClampNeg)]) dL_law_908 ml_L_121 mt_X6_mark c2 ⟨by decide, by decide⟩ (by decide) rfl rfl rfl ⟨by decide, by decide⟩ (Nat.le_of_ble_eq_true rfl) ?_
  exact lx_icmp_eq 1280 dL_law_911 rfl (fun _ => k σ2 hI) (fun z => absurd rfl z)
theorem case_26 {E : xE} {b L : Nat} {xs : Nat → Int32} {F : Option Value → xS → Prop} {σ : xS} {i : Nat} (hL : L ≤ 384) (hi : i + 6 ≤ L) (h : Inv σ σ) (k : ∀ σ2, Inv σ2 σ2 → Lx E b L xs F 1280 (LL E b i) [] σ2) : Lx E b L xs F 916 (LL E b i) [] σ := by
  have hb : Both E yX5_forget cX5_forget 4 (some .int) yX6_forget cX6_forget 3 (some .int) [.int (xs (nI i + 1).toNatClampNeg)] σ := b_forget h
  obtain ⟨v, σ1, σ2, c1, c2, hI, hv⟩ := hb
  obtain ⟨x, rfl⟩ := vOk.i hv
  refine lx_aload_1 dL_law_916 ?_
  refine lx_arg1 dL_law_917 dL_law_918 dL_law_919 dL_law_920 dL_law_921 hL hi ?_
  refine lx_invV (i := 0) (ci := 5) (as := [.int (xs (nI i + 1).toNatClampNeg)]) dL_law_922 ml_L_122 mt_X5_forget c1 ⟨by decide, by decide⟩ (by decide) rfl rfl rfl ⟨by decide, by decide⟩ (Nat.le_of_ble_eq_true rfl) ?_
  refine lx_aload_2 dL_law_925 ?_
  refine lx_arg1 dL_law_926 dL_law_927 dL_law_928 dL_law_929 dL_law_930 hL hi ?_
  refine lx_invV (i := 73) (ci := 6) (as := [.int (xs (nI i + 1).toNatClampNeg)]) dL_law_931 ml_L_125 mt_X6_forget c2 ⟨by decide, by decide⟩ (by decide) rfl rfl rfl ⟨by decide, by decide⟩ (Nat.le_of_ble_eq_true rfl) ?_
  exact lx_icmp_eq 1280 dL_law_934 rfl (fun _ => k σ2 hI) (fun z => absurd rfl z)
theorem case_27 {E : xE} {b L : Nat} {xs : Nat → Int32} {F : Option Value → xS → Prop} {σ : xS} {i : Nat} (hL : L ≤ 384) (hi : i + 6 ≤ L) (h : Inv σ σ) (k : ∀ σ2, Inv σ2 σ2 → Lx E b L xs F 1280 (LL E b i) [] σ2) : Lx E b L xs F 939 (LL E b i) [] σ := by
  have hb : Both E yX5_is cX5_is 2 (some .int) yX6_is cX6_is 2 (some .int) [.int (xs (nI i + 1).toNatClampNeg)] σ := b_is h
  obtain ⟨v, σ1, σ2, c1, c2, hI, hv⟩ := hb
  obtain ⟨x, rfl⟩ := vOk.i hv
  refine lx_aload_1 dL_law_939 ?_
  refine lx_arg1 dL_law_940 dL_law_941 dL_law_942 dL_law_943 dL_law_944 hL hi ?_
  refine lx_invV (i := 0) (ci := 5) (as := [.int (xs (nI i + 1).toNatClampNeg)]) dL_law_945 ml_L_126 mt_X5_is c1 ⟨by decide, by decide⟩ (by decide) rfl rfl rfl ⟨by decide, by decide⟩ (Nat.le_of_ble_eq_true rfl) ?_
  refine lx_aload_2 dL_law_948 ?_
  refine lx_arg1 dL_law_949 dL_law_950 dL_law_951 dL_law_952 dL_law_953 hL hi ?_
  refine lx_invV (i := 73) (ci := 6) (as := [.int (xs (nI i + 1).toNatClampNeg)]) dL_law_954 ml_L_129 mt_X6_is c2 ⟨by decide, by decide⟩ (by decide) rfl rfl rfl ⟨by decide, by decide⟩ (Nat.le_of_ble_eq_true rfl) ?_
  exact lx_icmp_eq 1280 dL_law_957 rfl (fun _ => k σ2 hI) (fun z => absurd rfl z)
theorem case_28 {E : xE} {b L : Nat} {xs : Nat → Int32} {F : Option Value → xS → Prop} {σ : xS} {i : Nat} (hL : L ≤ 384) (hi : i + 6 ≤ L) (h : Inv σ σ) (k : ∀ σ2, Inv σ2 σ2 → Lx E b L xs F 1280 (LL E b i) [] σ2) : Lx E b L xs F 962 (LL E b i) [] σ := by
  have hb : Both E yX5_look cX5_look 2 (some .int) yX6_look cX6_look 7 (some .int) [.int (xs (nI i + 1).toNatClampNeg)] σ := b_look h
  obtain ⟨v, σ1, σ2, c1, c2, hI, hv⟩ := hb
  obtain ⟨x, rfl⟩ := vOk.i hv
  refine lx_aload_1 dL_law_962 ?_
  refine lx_arg1 dL_law_963 dL_law_964 dL_law_965 dL_law_966 dL_law_967 hL hi ?_
  refine lx_invV (i := 0) (ci := 5) (as := [.int (xs (nI i + 1).toNatClampNeg)]) dL_law_968 ml_L_130 mt_X5_look c1 ⟨by decide, by decide⟩ (by decide) rfl rfl rfl ⟨by decide, by decide⟩ (Nat.le_of_ble_eq_true rfl) ?_
  refine lx_aload_2 dL_law_971 ?_
  refine lx_arg1 dL_law_972 dL_law_973 dL_law_974 dL_law_975 dL_law_976 hL hi ?_
  refine lx_invV (i := 73) (ci := 6) (as := [.int (xs (nI i + 1).toNatClampNeg)]) dL_law_977 ml_L_133 mt_X6_look c2 ⟨by decide, by decide⟩ (by decide) rfl rfl rfl ⟨by decide, by decide⟩ (Nat.le_of_ble_eq_true rfl) ?_
  exact lx_icmp_eq 1280 dL_law_980 rfl (fun _ => k σ2 hI) (fun z => absurd rfl z)
theorem case_29 {E : xE} {b L : Nat} {xs : Nat → Int32} {F : Option Value → xS → Prop} {σ : xS} {i : Nat} (hL : L ≤ 384) (hi : i + 6 ≤ L) (h : Inv σ σ) (k : ∀ σ2, Inv σ2 σ2 → Lx E b L xs F 1280 (LL E b i) [] σ2) : Lx E b L xs F 985 (LL E b i) [] σ := by
  have hb : Both E yX5_kinds cX5_kinds 2 (some .int) yX6_kinds cX6_kinds 2 (some .int) [.int (xs (nI i + 1).toNatClampNeg)] σ := b_kinds h
  obtain ⟨v, σ1, σ2, c1, c2, hI, hv⟩ := hb
  obtain ⟨x, rfl⟩ := vOk.i hv
  refine lx_aload_1 dL_law_985 ?_
  refine lx_arg1 dL_law_986 dL_law_987 dL_law_988 dL_law_989 dL_law_990 hL hi ?_
  refine lx_invV (i := 0) (ci := 5) (as := [.int (xs (nI i + 1).toNatClampNeg)]) dL_law_991 ml_L_134 mt_X5_kinds c1 ⟨by decide, by decide⟩ (by decide) rfl rfl rfl ⟨by decide, by decide⟩ (Nat.le_of_ble_eq_true rfl) ?_
  refine lx_aload_2 dL_law_994 ?_
  refine lx_arg1 dL_law_995 dL_law_996 dL_law_997 dL_law_998 dL_law_999 hL hi ?_
  refine lx_invV (i := 73) (ci := 6) (as := [.int (xs (nI i + 1).toNatClampNeg)]) dL_law_1000 ml_L_137 mt_X6_kinds c2 ⟨by decide, by decide⟩ (by decide) rfl rfl rfl ⟨by decide, by decide⟩ (Nat.le_of_ble_eq_true rfl) ?_
  exact lx_icmp_eq 1280 dL_law_1003 rfl (fun _ => k σ2 hI) (fun z => absurd rfl z)
theorem case_30 {E : xE} {b L : Nat} {xs : Nat → Int32} {F : Option Value → xS → Prop} {σ : xS} {i : Nat} (hL : L ≤ 384) (hi : i + 6 ≤ L) (h : Inv σ σ) (k : ∀ σ2, Inv σ2 σ2 → Lx E b L xs F 1280 (LL E b i) [] σ2) : Lx E b L xs F 1008 (LL E b i) [] σ := by
  have hb : Both E yX5_ask cX5_ask 2 (some .int) yX6_ask cX6_ask 7 (some .int) [.int (xs (nI i + 1).toNatClampNeg)] σ := b_ask h
  obtain ⟨v, σ1, σ2, c1, c2, hI, hv⟩ := hb
  obtain ⟨x, rfl⟩ := vOk.i hv
  refine lx_aload_1 dL_law_1008 ?_
  refine lx_arg1 dL_law_1009 dL_law_1010 dL_law_1011 dL_law_1012 dL_law_1013 hL hi ?_
  refine lx_invV (i := 0) (ci := 5) (as := [.int (xs (nI i + 1).toNatClampNeg)]) dL_law_1014 ml_L_138 mt_X5_ask c1 ⟨by decide, by decide⟩ (by decide) rfl rfl rfl ⟨by decide, by decide⟩ (Nat.le_of_ble_eq_true rfl) ?_
  refine lx_aload_2 dL_law_1017 ?_
  refine lx_arg1 dL_law_1018 dL_law_1019 dL_law_1020 dL_law_1021 dL_law_1022 hL hi ?_
  refine lx_invV (i := 73) (ci := 6) (as := [.int (xs (nI i + 1).toNatClampNeg)]) dL_law_1023 ml_L_141 mt_X6_ask c2 ⟨by decide, by decide⟩ (by decide) rfl rfl rfl ⟨by decide, by decide⟩ (Nat.le_of_ble_eq_true rfl) ?_
  exact lx_icmp_eq 1280 dL_law_1026 rfl (fun _ => k σ2 hI) (fun z => absurd rfl z)
theorem case_31 {E : xE} {b L : Nat} {xs : Nat → Int32} {F : Option Value → xS → Prop} {σ : xS} {i : Nat} (hL : L ≤ 384) (hi : i + 6 ≤ L) (h : Inv σ σ) (k : ∀ σ2, Inv σ2 σ2 → Lx E b L xs F 1280 (LL E b i) [] σ2) : Lx E b L xs F 1031 (LL E b i) [] σ := by
  have hb : Both E yX5_bids cX5_bids 11 (some .int) yX6_bids cX6_bids 9 (some .int) [.int (xs (nI i + 1).toNatClampNeg), .int (xs (nI i + 2).toNatClampNeg), .int (xs (nI i + 3).toNatClampNeg), .int (xs (nI i + 4).toNatClampNeg), .int (xs (nI i + 5).toNatClampNeg)] σ := b_bids h
  obtain ⟨v, σ1, σ2, c1, c2, hI, hv⟩ := hb
  obtain ⟨x, rfl⟩ := vOk.i hv
  refine lx_aload_1 dL_law_1031 ?_
  refine lx_arg1 dL_law_1032 dL_law_1033 dL_law_1034 dL_law_1035 dL_law_1036 hL hi ?_
  refine lx_arg2 dL_law_1037 dL_law_1038 dL_law_1039 dL_law_1040 dL_law_1041 hL hi ?_
  refine lx_arg3 dL_law_1042 dL_law_1043 dL_law_1044 dL_law_1045 dL_law_1046 hL hi ?_
  refine lx_arg4 dL_law_1047 dL_law_1048 dL_law_1049 dL_law_1050 dL_law_1051 hL hi ?_
  refine lx_arg5 dL_law_1052 dL_law_1053 dL_law_1054 dL_law_1055 dL_law_1056 hL hi ?_
  refine lx_invV (i := 0) (ci := 5) (as := [.int (xs (nI i + 1).toNatClampNeg), .int (xs (nI i + 2).toNatClampNeg), .int (xs (nI i + 3).toNatClampNeg), .int (xs (nI i + 4).toNatClampNeg), .int (xs (nI i + 5).toNatClampNeg)]) dL_law_1057 ml_L_142 mt_X5_bids c1 ⟨by decide, by decide⟩ (by decide) rfl rfl rfl ⟨by decide, by decide⟩ (Nat.le_of_ble_eq_true rfl) ?_
  refine lx_aload_2 dL_law_1060 ?_
  refine lx_arg1 dL_law_1061 dL_law_1062 dL_law_1063 dL_law_1064 dL_law_1065 hL hi ?_
  refine lx_arg2 dL_law_1066 dL_law_1067 dL_law_1068 dL_law_1069 dL_law_1070 hL hi ?_
  refine lx_arg3 dL_law_1071 dL_law_1072 dL_law_1073 dL_law_1074 dL_law_1075 hL hi ?_
  refine lx_arg4 dL_law_1076 dL_law_1077 dL_law_1078 dL_law_1079 dL_law_1080 hL hi ?_
  refine lx_arg5 dL_law_1081 dL_law_1082 dL_law_1083 dL_law_1084 dL_law_1085 hL hi ?_
  refine lx_invV (i := 73) (ci := 6) (as := [.int (xs (nI i + 1).toNatClampNeg), .int (xs (nI i + 2).toNatClampNeg), .int (xs (nI i + 3).toNatClampNeg), .int (xs (nI i + 4).toNatClampNeg), .int (xs (nI i + 5).toNatClampNeg)]) dL_law_1086 ml_L_146 mt_X6_bids c2 ⟨by decide, by decide⟩ (by decide) rfl rfl rfl ⟨by decide, by decide⟩ (Nat.le_of_ble_eq_true rfl) ?_
  exact lx_icmp_eq 1280 dL_law_1089 rfl (fun _ => k σ2 hI) (fun z => absurd rfl z)
theorem case_32 {E : xE} {b L : Nat} {xs : Nat → Int32} {F : Option Value → xS → Prop} {σ : xS} {i : Nat} (hL : L ≤ 384) (hi : i + 6 ≤ L) (h : Inv σ σ) (k : ∀ σ2, Inv σ2 σ2 → Lx E b L xs F 1280 (LL E b i) [] σ2) : Lx E b L xs F 1094 (LL E b i) [] σ := by
  have hb : Both E yX5_redeemed cX5_redeemed 3 (some .int) yX6_redeemed cX6_redeemed 5 (some .int) [.int (xs (nI i + 1).toNatClampNeg)] σ := b_redeemed h
  obtain ⟨v, σ1, σ2, c1, c2, hI, hv⟩ := hb
  obtain ⟨x, rfl⟩ := vOk.i hv
  refine lx_aload_1 dL_law_1094 ?_
  refine lx_arg1 dL_law_1095 dL_law_1096 dL_law_1097 dL_law_1098 dL_law_1099 hL hi ?_
  refine lx_invV (i := 0) (ci := 5) (as := [.int (xs (nI i + 1).toNatClampNeg)]) dL_law_1100 ml_L_147 mt_X5_redeemed c1 ⟨by decide, by decide⟩ (by decide) rfl rfl rfl ⟨by decide, by decide⟩ (Nat.le_of_ble_eq_true rfl) ?_
  refine lx_aload_2 dL_law_1103 ?_
  refine lx_arg1 dL_law_1104 dL_law_1105 dL_law_1106 dL_law_1107 dL_law_1108 hL hi ?_
  refine lx_invV (i := 73) (ci := 6) (as := [.int (xs (nI i + 1).toNatClampNeg)]) dL_law_1109 ml_L_150 mt_X6_redeemed c2 ⟨by decide, by decide⟩ (by decide) rfl rfl rfl ⟨by decide, by decide⟩ (Nat.le_of_ble_eq_true rfl) ?_
  exact lx_icmp_eq 1280 dL_law_1112 rfl (fun _ => k σ2 hI) (fun z => absurd rfl z)
theorem case_33 {E : xE} {b L : Nat} {xs : Nat → Int32} {F : Option Value → xS → Prop} {σ : xS} {i : Nat} (hL : L ≤ 384) (hi : i + 6 ≤ L) (h : Inv σ σ) (k : ∀ σ2, Inv σ2 σ2 → Lx E b L xs F 1280 (LL E b i) [] σ2) : Lx E b L xs F 1117 (LL E b i) [] σ := by
  have hb : Both E yX5_years cX5_years 8 (some .int) yX6_years cX6_years 8 (some .int) [.int (xs (nI i + 1).toNatClampNeg), .int (xs (nI i + 2).toNatClampNeg)] σ := b_years h
  obtain ⟨v, σ1, σ2, c1, c2, hI, hv⟩ := hb
  obtain ⟨x, rfl⟩ := vOk.i hv
  refine lx_aload_1 dL_law_1117 ?_
  refine lx_arg1 dL_law_1118 dL_law_1119 dL_law_1120 dL_law_1121 dL_law_1122 hL hi ?_
  refine lx_arg2 dL_law_1123 dL_law_1124 dL_law_1125 dL_law_1126 dL_law_1127 hL hi ?_
  refine lx_invV (i := 0) (ci := 5) (as := [.int (xs (nI i + 1).toNatClampNeg), .int (xs (nI i + 2).toNatClampNeg)]) dL_law_1128 ml_L_151 mt_X5_years c1 ⟨by decide, by decide⟩ (by decide) rfl rfl rfl ⟨by decide, by decide⟩ (Nat.le_of_ble_eq_true rfl) ?_
  refine lx_aload_2 dL_law_1131 ?_
  refine lx_arg1 dL_law_1132 dL_law_1133 dL_law_1134 dL_law_1135 dL_law_1136 hL hi ?_
  refine lx_arg2 dL_law_1137 dL_law_1138 dL_law_1139 dL_law_1140 dL_law_1141 hL hi ?_
  refine lx_invV (i := 73) (ci := 6) (as := [.int (xs (nI i + 1).toNatClampNeg), .int (xs (nI i + 2).toNatClampNeg)]) dL_law_1142 ml_L_154 mt_X6_years c2 ⟨by decide, by decide⟩ (by decide) rfl rfl rfl ⟨by decide, by decide⟩ (Nat.le_of_ble_eq_true rfl) ?_
  exact lx_icmp_eq 1280 dL_law_1145 rfl (fun _ => k σ2 hI) (fun z => absurd rfl z)
theorem case_34 {E : xE} {b L : Nat} {xs : Nat → Int32} {F : Option Value → xS → Prop} {σ : xS} {i : Nat} (hL : L ≤ 384) (hi : i + 6 ≤ L) (h : Inv σ σ) (k : ∀ σ2, Inv σ2 σ2 → Lx E b L xs F 1280 (LL E b i) [] σ2) : Lx E b L xs F 1150 (LL E b i) [] σ := by
  have hb : Both E yX5_part cX5_part 2 (some .long) yX6_part cX6_part 2 (some .long) [.int (xs (nI i + 1).toNatClampNeg)] σ := b_part h
  obtain ⟨v, σ1, σ2, c1, c2, hI, hv⟩ := hb
  obtain ⟨x, rfl⟩ := vOk.l hv
  refine lx_aload_1 dL_law_1150 ?_
  refine lx_arg1 dL_law_1151 dL_law_1152 dL_law_1153 dL_law_1154 dL_law_1155 hL hi ?_
  refine lx_invV (i := 0) (ci := 5) (as := [.int (xs (nI i + 1).toNatClampNeg)]) dL_law_1156 ml_L_155 mt_X5_part c1 ⟨by decide, by decide⟩ (by decide) rfl rfl rfl ⟨by decide, by decide⟩ (Nat.le_of_ble_eq_true rfl) ?_
  refine lx_aload_2 dL_law_1159 ?_
  refine lx_arg1 dL_law_1160 dL_law_1161 dL_law_1162 dL_law_1163 dL_law_1164 hL hi ?_
  refine lx_invV (i := 73) (ci := 6) (as := [.int (xs (nI i + 1).toNatClampNeg)]) dL_law_1165 ml_L_159 mt_X6_part c2 ⟨by decide, by decide⟩ (by decide) rfl rfl rfl ⟨by decide, by decide⟩ (Nat.le_of_ble_eq_true rfl) ?_
  refine lx_lcmp dL_law_1168 ?_
  exact lx_if_eq 1280 dL_law_1169 rfl (fun _ => k σ2 hI) (fun z => absurd (lg_cmp_self x) z)
theorem case_35 {E : xE} {b L : Nat} {xs : Nat → Int32} {F : Option Value → xS → Prop} {σ : xS} {i : Nat} (hL : L ≤ 384) (hi : i + 6 ≤ L) (h : Inv σ σ) (k : ∀ σ2, Inv σ2 σ2 → Lx E b L xs F 1280 (LL E b i) [] σ2) : Lx E b L xs F 1174 (LL E b i) [] σ := by
  have hb : Both E yX5_image cX5_image 3 (some .int) yX6_image cX6_image 3 (some .int) [.int (xs (nI i + 1).toNatClampNeg)] σ := b_image h
  obtain ⟨v, σ1, σ2, c1, c2, hI, hv⟩ := hb
  obtain ⟨x, rfl⟩ := vOk.i hv
  refine lx_aload_1 dL_law_1174 ?_
  refine lx_arg1 dL_law_1175 dL_law_1176 dL_law_1177 dL_law_1178 dL_law_1179 hL hi ?_
  refine lx_invV (i := 0) (ci := 5) (as := [.int (xs (nI i + 1).toNatClampNeg)]) dL_law_1180 ml_L_160 mt_X5_image c1 ⟨by decide, by decide⟩ (by decide) rfl rfl rfl ⟨by decide, by decide⟩ (Nat.le_of_ble_eq_true rfl) ?_
  refine lx_aload_2 dL_law_1183 ?_
  refine lx_arg1 dL_law_1184 dL_law_1185 dL_law_1186 dL_law_1187 dL_law_1188 hL hi ?_
  refine lx_invV (i := 73) (ci := 6) (as := [.int (xs (nI i + 1).toNatClampNeg)]) dL_law_1189 ml_L_163 mt_X6_image c2 ⟨by decide, by decide⟩ (by decide) rfl rfl rfl ⟨by decide, by decide⟩ (Nat.le_of_ble_eq_true rfl) ?_
  exact lx_icmp_eq 1280 dL_law_1192 rfl (fun _ => k σ2 hI) (fun z => absurd rfl z)
theorem case_36 {E : xE} {b L : Nat} {xs : Nat → Int32} {F : Option Value → xS → Prop} {σ : xS} {i : Nat} (hL : L ≤ 384) (hi : i + 6 ≤ L) (h : Inv σ σ) (k : ∀ σ2, Inv σ2 σ2 → Lx E b L xs F 1280 (LL E b i) [] σ2) : Lx E b L xs F 1197 (LL E b i) [] σ := by
  have hb : Both E yX5_from cX5_from 3 (some .int) yX6_from cX6_from 3 (some .int) [.int (xs (nI i + 1).toNatClampNeg)] σ := b_from h
  obtain ⟨v, σ1, σ2, c1, c2, hI, hv⟩ := hb
  obtain ⟨x, rfl⟩ := vOk.i hv
  refine lx_aload_1 dL_law_1197 ?_
  refine lx_arg1 dL_law_1198 dL_law_1199 dL_law_1200 dL_law_1201 dL_law_1202 hL hi ?_
  refine lx_invV (i := 0) (ci := 5) (as := [.int (xs (nI i + 1).toNatClampNeg)]) dL_law_1203 ml_L_164 mt_X5_from c1 ⟨by decide, by decide⟩ (by decide) rfl rfl rfl ⟨by decide, by decide⟩ (Nat.le_of_ble_eq_true rfl) ?_
  refine lx_aload_2 dL_law_1206 ?_
  refine lx_arg1 dL_law_1207 dL_law_1208 dL_law_1209 dL_law_1210 dL_law_1211 hL hi ?_
  refine lx_invV (i := 73) (ci := 6) (as := [.int (xs (nI i + 1).toNatClampNeg)]) dL_law_1212 ml_L_167 mt_X6_from c2 ⟨by decide, by decide⟩ (by decide) rfl rfl rfl ⟨by decide, by decide⟩ (Nat.le_of_ble_eq_true rfl) ?_
  exact lx_icmp_eq 1280 dL_law_1215 rfl (fun _ => k σ2 hI) (fun z => absurd rfl z)
theorem case_37 {E : xE} {b L : Nat} {xs : Nat → Int32} {F : Option Value → xS → Prop} {σ : xS} {i : Nat} (hL : L ≤ 384) (hi : i + 6 ≤ L) (h : Inv σ σ) (k : ∀ σ2, Inv σ2 σ2 → Lx E b L xs F 1280 (LL E b i) [] σ2) : Lx E b L xs F 1220 (LL E b i) [] σ := by
  have hb : Both E yX5_status cX5_status 2 (some .int) yX6_status cX6_status 2 (some .int) [.int (xs (nI i + 1).toNatClampNeg)] σ := b_status h
  obtain ⟨v, σ1, σ2, c1, c2, hI, hv⟩ := hb
  obtain ⟨x, rfl⟩ := vOk.i hv
  refine lx_aload_1 dL_law_1220 ?_
  refine lx_arg1 dL_law_1221 dL_law_1222 dL_law_1223 dL_law_1224 dL_law_1225 hL hi ?_
  refine lx_invV (i := 0) (ci := 5) (as := [.int (xs (nI i + 1).toNatClampNeg)]) dL_law_1226 ml_L_168 mt_X5_status c1 ⟨by decide, by decide⟩ (by decide) rfl rfl rfl ⟨by decide, by decide⟩ (Nat.le_of_ble_eq_true rfl) ?_
  refine lx_aload_2 dL_law_1229 ?_
  refine lx_arg1 dL_law_1230 dL_law_1231 dL_law_1232 dL_law_1233 dL_law_1234 hL hi ?_
  refine lx_invV (i := 73) (ci := 6) (as := [.int (xs (nI i + 1).toNatClampNeg)]) dL_law_1235 ml_L_171 mt_X6_status c2 ⟨by decide, by decide⟩ (by decide) rfl rfl rfl ⟨by decide, by decide⟩ (Nat.le_of_ble_eq_true rfl) ?_
  exact lx_icmp_eq 1280 dL_law_1238 rfl (fun _ => k σ2 hI) (fun z => absurd rfl z)
theorem case_38 {E : xE} {b L : Nat} {xs : Nat → Int32} {F : Option Value → xS → Prop} {σ : xS} {i : Nat} (hL : L ≤ 384) (hi : i + 6 ≤ L) (h : Inv σ σ) (k : ∀ σ2, Inv σ2 σ2 → Lx E b L xs F 1280 (LL E b i) [] σ2) : Lx E b L xs F 1243 (LL E b i) [] σ := by
  have hb : Both E yX5_count cX5_count 2 (some .int) yX6_count cX6_count 2 (some .int) [.int (xs (nI i + 1).toNatClampNeg)] σ := b_count h
  obtain ⟨v, σ1, σ2, c1, c2, hI, hv⟩ := hb
  obtain ⟨x, rfl⟩ := vOk.i hv
  refine lx_aload_1 dL_law_1243 ?_
  refine lx_arg1 dL_law_1244 dL_law_1245 dL_law_1246 dL_law_1247 dL_law_1248 hL hi ?_
  refine lx_invV (i := 0) (ci := 5) (as := [.int (xs (nI i + 1).toNatClampNeg)]) dL_law_1249 ml_L_172 mt_X5_count c1 ⟨by decide, by decide⟩ (by decide) rfl rfl rfl ⟨by decide, by decide⟩ (Nat.le_of_ble_eq_true rfl) ?_
  refine lx_aload_2 dL_law_1252 ?_
  refine lx_arg1 dL_law_1253 dL_law_1254 dL_law_1255 dL_law_1256 dL_law_1257 hL hi ?_
  refine lx_invV (i := 73) (ci := 6) (as := [.int (xs (nI i + 1).toNatClampNeg)]) dL_law_1258 ml_L_175 mt_X6_count c2 ⟨by decide, by decide⟩ (by decide) rfl rfl rfl ⟨by decide, by decide⟩ (Nat.le_of_ble_eq_true rfl) ?_
  exact lx_icmp_eq 1280 dL_law_1261 rfl (fun _ => k σ2 hI) (fun z => absurd rfl z)
theorem case_39 {E : xE} {b L : Nat} {xs : Nat → Int32} {F : Option Value → xS → Prop} {σ : xS} {i : Nat} (hL : L ≤ 384) (hi : i + 6 ≤ L) (h : Inv σ σ) (k : ∀ σ2, Inv σ2 σ2 → Lx E b L xs F 1280 (LL E b i) [] σ2) : Lx E b L xs F 1266 (LL E b i) [] σ := by
  have hb : Both E yX5_digest cX5_digest 4 (some .long) yX6_digest cX6_digest 5 (some .long) [] σ := b_digest h
  obtain ⟨v, σ1, σ2, c1, c2, hI, hv⟩ := hb
  obtain ⟨x, rfl⟩ := vOk.l hv
  refine lx_aload_1 dL_law_1266 ?_
  refine lx_invV (i := 0) (ci := 5) (as := []) dL_law_1267 ml_L_176 mt_X5_digest c1 ⟨by decide, by decide⟩ (by decide) rfl rfl rfl ⟨by decide, by decide⟩ (Nat.le_of_ble_eq_true rfl) ?_
  refine lx_aload_2 dL_law_1270 ?_
  refine lx_invV (i := 73) (ci := 6) (as := []) dL_law_1271 ml_L_180 mt_X6_digest c2 ⟨by decide, by decide⟩ (by decide) rfl rfl rfl ⟨by decide, by decide⟩ (Nat.le_of_ble_eq_true rfl) ?_
  refine lx_lcmp dL_law_1274 ?_
  exact lx_if_eq 1280 dL_law_1275 rfl (fun _ => k σ2 hI) (fun z => absurd (lg_cmp_self x) z)
