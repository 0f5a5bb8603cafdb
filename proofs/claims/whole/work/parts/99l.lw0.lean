set_option maxRecDepth 100000 in
theorem lw_row {l : Launch} {G : Gw} {post : Option Value → Sg → Prop} {Φ : Ph} {b L : Nat} {xs : Nat → Int32} {i : Int32} {σ : Sg} (MX : MachX l G 8 198 post Φ b L xs) (hL : L < 2147483648) (hR : Rel σ) (hb : ∀ j : Nat, j < 7 → 0 ≤ i + nI j ∧ i + nI j < nI L) (ih : ∀ τ : Sg, Rel τ → Φ 1514 [some (.ref b), some (.ref (ad G 0 0)), some (.ref (ad G 40 0)), some (.int i)] [] τ) : Φ 204 [some (.ref b), some (.ref (ad G 0 0)), some (.ref (ad G 40 0)), some (.int i)] [] σ := by
  have M := MX.m
  have b1 : 0 ≤ i + 1 := (hb 1 (by omega)).1
  have d1 : i + 1 < nI L := (hb 1 (by omega)).2
  have b2 : 0 ≤ i + 2 := (hb 2 (by omega)).1
  have d2 : i + 2 < nI L := (hb 2 (by omega)).2
  have b3 : 0 ≤ i + 3 := (hb 3 (by omega)).1
  have d3 : i + 3 < nI L := (hb 3 (by omega)).2
  have b4 : 0 ≤ i + 4 := (hb 4 (by omega)).1
  have d4 : i + 4 < nI L := (hb 4 (by omega)).2
  have b5 : 0 ≤ i + 5 := (hb 5 (by omega)).1
  have d5 : i + 5 < nI L := (hb 5 (by omega)).2
  have b6 : 0 ≤ i + 6 := (hb 6 (by omega)).1
  have d6 : i + 6 < nI L := (hb 6 (by omega)).2
  refine j_aload_n M dL_law_204 rfl ?_
  refine j_aload_n M dL_law_205 rfl ?_
  refine j_iload_n M dL_law_206 rfl ?_
  refine j_iconst (v := 1) M dL_law_207 rfl ?_
  refine j_iadd M dL_law_208 ?_
  refine j_sld MX hL dL_law_209 b1 d1 ?_
  refine j_aload_n M dL_law_210 rfl ?_
  refine j_iload_n M dL_law_211 rfl ?_
  refine j_iconst (v := 2) M dL_law_212 rfl ?_
  refine j_iadd M dL_law_213 ?_
  refine j_sld MX hL dL_law_214 b2 d2 ?_
  refine j_aload_n M dL_law_215 rfl ?_
  refine j_iload_n M dL_law_216 rfl ?_
  refine j_iconst (v := 3) M dL_law_217 rfl ?_
  refine j_iadd M dL_law_218 ?_
  refine j_sld MX hL dL_law_219 b3 d3 ?_
  refine j_inv3 M lk_L_13 (c_X6_row) rv_X6 dL_law_220 (Nat.le_of_ble_eq_true rfl) ⟨(Nat.le_of_ble_eq_true rfl), (Nat.le_of_ble_eq_true rfl)⟩ (kI fun r_220 σ_220 q_220 => ?_)
  have t40 : σ_220 40 = σ 40 := k_row q_220
  refine j_aload_n M dL_law_223 rfl ?_
  refine j_aload_n M dL_law_224 rfl ?_
  refine j_iload_n M dL_law_225 rfl ?_
  refine j_iconst (v := 1) M dL_law_226 rfl ?_
  refine j_iadd M dL_law_227 ?_
  refine j_sld MX hL dL_law_228 b1 d1 ?_
  refine j_aload_n M dL_law_229 rfl ?_
  refine j_iload_n M dL_law_230 rfl ?_
  refine j_iconst (v := 2) M dL_law_231 rfl ?_
  refine j_iadd M dL_law_232 ?_
  refine j_sld MX hL dL_law_233 b2 d2 ?_
  refine j_aload_n M dL_law_234 rfl ?_
  refine j_iload_n M dL_law_235 rfl ?_
  refine j_iconst (v := 3) M dL_law_236 rfl ?_
  refine j_iadd M dL_law_237 ?_
  refine j_sld MX hL dL_law_238 b3 d3 ?_
  refine j_inv3 M lk_L_17 (c_X7_row) rv_X7 dL_law_239 (Nat.le_of_ble_eq_true rfl) ⟨(Nat.le_of_ble_eq_true rfl), (Nat.le_of_ble_eq_true rfl)⟩ (kI fun r_239 σ_239 q_239 => ?_)
  obtain ⟨er, hR2⟩ := st_row hR q_220 q_239
  refine j_icmp_eq (tgt := 1514) M dL_law_242 (by decide) (fun h_242 => ?_) (fun h_242 => ?_)
  · exact ih _ hR2
  · exact absurd er h_242
set_option maxRecDepth 100000 in
theorem lw_set {l : Launch} {G : Gw} {post : Option Value → Sg → Prop} {Φ : Ph} {b L : Nat} {xs : Nat → Int32} {i : Int32} {σ : Sg} (MX : MachX l G 8 198 post Φ b L xs) (hL : L < 2147483648) (hR : Rel σ) (hb : ∀ j : Nat, j < 7 → 0 ≤ i + nI j ∧ i + nI j < nI L) (ih : ∀ τ : Sg, Rel τ → Φ 1514 [some (.ref b), some (.ref (ad G 0 0)), some (.ref (ad G 40 0)), some (.int i)] [] τ) : Φ 247 [some (.ref b), some (.ref (ad G 0 0)), some (.ref (ad G 40 0)), some (.int i)] [] σ := by
  have M := MX.m
  have b1 : 0 ≤ i + 1 := (hb 1 (by omega)).1
  have d1 : i + 1 < nI L := (hb 1 (by omega)).2
  have b2 : 0 ≤ i + 2 := (hb 2 (by omega)).1
  have d2 : i + 2 < nI L := (hb 2 (by omega)).2
  have b3 : 0 ≤ i + 3 := (hb 3 (by omega)).1
  have d3 : i + 3 < nI L := (hb 3 (by omega)).2
  have b4 : 0 ≤ i + 4 := (hb 4 (by omega)).1
  have d4 : i + 4 < nI L := (hb 4 (by omega)).2
  have b5 : 0 ≤ i + 5 := (hb 5 (by omega)).1
  have d5 : i + 5 < nI L := (hb 5 (by omega)).2
  have b6 : 0 ≤ i + 6 := (hb 6 (by omega)).1
  have d6 : i + 6 < nI L := (hb 6 (by omega)).2
  refine j_aload_n M dL_law_247 rfl ?_
  refine j_aload_n M dL_law_248 rfl ?_
  refine j_iload_n M dL_law_249 rfl ?_
  refine j_iconst (v := 1) M dL_law_250 rfl ?_
  refine j_iadd M dL_law_251 ?_
  refine j_sld MX hL dL_law_252 b1 d1 ?_
  refine j_aload_n M dL_law_253 rfl ?_
  refine j_iload_n M dL_law_254 rfl ?_
  refine j_iconst (v := 2) M dL_law_255 rfl ?_
  refine j_iadd M dL_law_256 ?_
  refine j_sld MX hL dL_law_257 b2 d2 ?_
  refine j_aload_n M dL_law_258 rfl ?_
  refine j_iload_n M dL_law_259 rfl ?_
  refine j_iconst (v := 3) M dL_law_260 rfl ?_
  refine j_iadd M dL_law_261 ?_
  refine j_sld MX hL dL_law_262 b3 d3 ?_
  refine j_inv3 M lk_L_18 (c_X6_set (hR.B)) rv_X6 dL_law_263 (Nat.le_of_ble_eq_true rfl) ⟨(Nat.le_of_ble_eq_true rfl), (Nat.le_of_ble_eq_true rfl)⟩ (kI fun r_263 σ_263 q_263 => ?_)
  have t40 : σ_263 40 = σ 40 := k_set q_263
  refine j_aload_n M dL_law_266 rfl ?_
  refine j_aload_n M dL_law_267 rfl ?_
  refine j_iload_n M dL_law_268 rfl ?_
  refine j_iconst (v := 1) M dL_law_269 rfl ?_
  refine j_iadd M dL_law_270 ?_
  refine j_sld MX hL dL_law_271 b1 d1 ?_
  refine j_aload_n M dL_law_272 rfl ?_
  refine j_iload_n M dL_law_273 rfl ?_
  refine j_iconst (v := 2) M dL_law_274 rfl ?_
  refine j_iadd M dL_law_275 ?_
  refine j_sld MX hL dL_law_276 b2 d2 ?_
  refine j_aload_n M dL_law_277 rfl ?_
  refine j_iload_n M dL_law_278 rfl ?_
  refine j_iconst (v := 3) M dL_law_279 rfl ?_
  refine j_iadd M dL_law_280 ?_
  refine j_sld MX hL dL_law_281 b3 d3 ?_
  refine j_inv3 M lk_L_21 (c_X7_set ((by rw [t40]; exact hR.W))) rv_X7 dL_law_282 (Nat.le_of_ble_eq_true rfl) ⟨(Nat.le_of_ble_eq_true rfl), (Nat.le_of_ble_eq_true rfl)⟩ (kI fun r_282 σ_282 q_282 => ?_)
  obtain ⟨er, hR2⟩ := st_set hR q_263 q_282
  refine j_icmp_eq (tgt := 1514) M dL_law_285 (by decide) (fun h_285 => ?_) (fun h_285 => ?_)
  · exact ih _ hR2
  · exact absurd er h_285
set_option maxRecDepth 100000 in
theorem lw_copy {l : Launch} {G : Gw} {post : Option Value → Sg → Prop} {Φ : Ph} {b L : Nat} {xs : Nat → Int32} {i : Int32} {σ : Sg} (MX : MachX l G 8 198 post Φ b L xs) (hL : L < 2147483648) (hR : Rel σ) (hb : ∀ j : Nat, j < 7 → 0 ≤ i + nI j ∧ i + nI j < nI L) (ih : ∀ τ : Sg, Rel τ → Φ 1514 [some (.ref b), some (.ref (ad G 0 0)), some (.ref (ad G 40 0)), some (.int i)] [] τ) : Φ 290 [some (.ref b), some (.ref (ad G 0 0)), some (.ref (ad G 40 0)), some (.int i)] [] σ := by
  have M := MX.m
  have b1 : 0 ≤ i + 1 := (hb 1 (by omega)).1
  have d1 : i + 1 < nI L := (hb 1 (by omega)).2
  have b2 : 0 ≤ i + 2 := (hb 2 (by omega)).1
  have d2 : i + 2 < nI L := (hb 2 (by omega)).2
  have b3 : 0 ≤ i + 3 := (hb 3 (by omega)).1
  have d3 : i + 3 < nI L := (hb 3 (by omega)).2
  have b4 : 0 ≤ i + 4 := (hb 4 (by omega)).1
  have d4 : i + 4 < nI L := (hb 4 (by omega)).2
  have b5 : 0 ≤ i + 5 := (hb 5 (by omega)).1
  have d5 : i + 5 < nI L := (hb 5 (by omega)).2
  have b6 : 0 ≤ i + 6 := (hb 6 (by omega)).1
  have d6 : i + 6 < nI L := (hb 6 (by omega)).2
  refine j_aload_n M dL_law_290 rfl ?_
  refine j_aload_n M dL_law_291 rfl ?_
  refine j_iload_n M dL_law_292 rfl ?_
  refine j_iconst (v := 1) M dL_law_293 rfl ?_
  refine j_iadd M dL_law_294 ?_
  refine j_sld MX hL dL_law_295 b1 d1 ?_
  refine j_aload_n M dL_law_296 rfl ?_
  refine j_iload_n M dL_law_297 rfl ?_
  refine j_iconst (v := 2) M dL_law_298 rfl ?_
  refine j_iadd M dL_law_299 ?_
  refine j_sld MX hL dL_law_300 b2 d2 ?_
  refine j_aload_n M dL_law_301 rfl ?_
  refine j_iload_n M dL_law_302 rfl ?_
  refine j_iconst (v := 3) M dL_law_303 rfl ?_
  refine j_iadd M dL_law_304 ?_
  refine j_sld MX hL dL_law_305 b3 d3 ?_
  refine j_aload_n M dL_law_306 rfl ?_
  refine j_iload_n M dL_law_307 rfl ?_
  refine j_iconst (v := 4) M dL_law_308 rfl ?_
  refine j_iadd M dL_law_309 ?_
  refine j_sld MX hL dL_law_310 b4 d4 ?_
  refine j_aload_n M dL_law_311 rfl ?_
  refine j_iload_n M dL_law_312 rfl ?_
  refine j_iconst (v := 5) M dL_law_313 rfl ?_
  refine j_iadd M dL_law_314 ?_
  refine j_sld MX hL dL_law_315 b5 d5 ?_
  refine j_inv5 M lk_L_22 (c_X6_copy (hR.B)) rv_X6 dL_law_316 (Nat.le_of_ble_eq_true rfl) ⟨(Nat.le_of_ble_eq_true rfl), (Nat.le_of_ble_eq_true rfl)⟩ (kI fun r_316 σ_316 q_316 => ?_)
  have t40 : σ_316 40 = σ 40 := k_copy q_316
  refine j_aload_n M dL_law_319 rfl ?_
  refine j_aload_n M dL_law_320 rfl ?_
  refine j_iload_n M dL_law_321 rfl ?_
  refine j_iconst (v := 1) M dL_law_322 rfl ?_
  refine j_iadd M dL_law_323 ?_
  refine j_sld MX hL dL_law_324 b1 d1 ?_
  refine j_aload_n M dL_law_325 rfl ?_
  refine j_iload_n M dL_law_326 rfl ?_
  refine j_iconst (v := 2) M dL_law_327 rfl ?_
  refine j_iadd M dL_law_328 ?_
  refine j_sld MX hL dL_law_329 b2 d2 ?_
  refine j_aload_n M dL_law_330 rfl ?_
  refine j_iload_n M dL_law_331 rfl ?_
  refine j_iconst (v := 3) M dL_law_332 rfl ?_
  refine j_iadd M dL_law_333 ?_
  refine j_sld MX hL dL_law_334 b3 d3 ?_
  refine j_aload_n M dL_law_335 rfl ?_
  refine j_iload_n M dL_law_336 rfl ?_
  refine j_iconst (v := 4) M dL_law_337 rfl ?_
  refine j_iadd M dL_law_338 ?_
  refine j_sld MX hL dL_law_339 b4 d4 ?_
  refine j_aload_n M dL_law_340 rfl ?_
  refine j_iload_n M dL_law_341 rfl ?_
  refine j_iconst (v := 5) M dL_law_342 rfl ?_
  refine j_iadd M dL_law_343 ?_
  refine j_sld MX hL dL_law_344 b5 d5 ?_
  refine j_inv5 M lk_L_26 (c_X7_copy ((by rw [t40]; exact hR.W))) rv_X7 dL_law_345 (Nat.le_of_ble_eq_true rfl) ⟨(Nat.le_of_ble_eq_true rfl), (Nat.le_of_ble_eq_true rfl)⟩ (kI fun r_345 σ_345 q_345 => ?_)
  obtain ⟨er, hR2⟩ := st_copy hR q_316 q_345
  refine j_icmp_eq (tgt := 1514) M dL_law_348 (by decide) (fun h_348 => ?_) (fun h_348 => ?_)
  · exact ih _ hR2
  · exact absurd er h_348
set_option maxRecDepth 100000 in
theorem lw_drop {l : Launch} {G : Gw} {post : Option Value → Sg → Prop} {Φ : Ph} {b L : Nat} {xs : Nat → Int32} {i : Int32} {σ : Sg} (MX : MachX l G 8 198 post Φ b L xs) (hL : L < 2147483648) (hR : Rel σ) (hb : ∀ j : Nat, j < 7 → 0 ≤ i + nI j ∧ i + nI j < nI L) (ih : ∀ τ : Sg, Rel τ → Φ 1514 [some (.ref b), some (.ref (ad G 0 0)), some (.ref (ad G 40 0)), some (.int i)] [] τ) : Φ 353 [some (.ref b), some (.ref (ad G 0 0)), some (.ref (ad G 40 0)), some (.int i)] [] σ := by
  have M := MX.m
  have b1 : 0 ≤ i + 1 := (hb 1 (by omega)).1
  have d1 : i + 1 < nI L := (hb 1 (by omega)).2
  have b2 : 0 ≤ i + 2 := (hb 2 (by omega)).1
  have d2 : i + 2 < nI L := (hb 2 (by omega)).2
  have b3 : 0 ≤ i + 3 := (hb 3 (by omega)).1
  have d3 : i + 3 < nI L := (hb 3 (by omega)).2
  have b4 : 0 ≤ i + 4 := (hb 4 (by omega)).1
  have d4 : i + 4 < nI L := (hb 4 (by omega)).2
  have b5 : 0 ≤ i + 5 := (hb 5 (by omega)).1
  have d5 : i + 5 < nI L := (hb 5 (by omega)).2
  have b6 : 0 ≤ i + 6 := (hb 6 (by omega)).1
  have d6 : i + 6 < nI L := (hb 6 (by omega)).2
  refine j_aload_n M dL_law_353 rfl ?_
  refine j_aload_n M dL_law_354 rfl ?_
  refine j_iload_n M dL_law_355 rfl ?_
  refine j_iconst (v := 1) M dL_law_356 rfl ?_
  refine j_iadd M dL_law_357 ?_
  refine j_sld MX hL dL_law_358 b1 d1 ?_
  refine j_inv1 M lk_L_27 (c_X6_drop) rv_X6 dL_law_359 (Nat.le_of_ble_eq_true rfl) ⟨(Nat.le_of_ble_eq_true rfl), (Nat.le_of_ble_eq_true rfl)⟩ (kI fun r_359 σ_359 q_359 => ?_)
  have t40 : σ_359 40 = σ 40 := k_drop q_359
  refine j_aload_n M dL_law_362 rfl ?_
  refine j_aload_n M dL_law_363 rfl ?_
  refine j_iload_n M dL_law_364 rfl ?_
  refine j_iconst (v := 1) M dL_law_365 rfl ?_
  refine j_iadd M dL_law_366 ?_
  refine j_sld MX hL dL_law_367 b1 d1 ?_
  refine j_inv1 M lk_L_31 (c_X7_drop) rv_X7 dL_law_368 (Nat.le_of_ble_eq_true rfl) ⟨(Nat.le_of_ble_eq_true rfl), (Nat.le_of_ble_eq_true rfl)⟩ (kI fun r_368 σ_368 q_368 => ?_)
  obtain ⟨er, hR2⟩ := st_drop hR q_359 q_368
  refine j_icmp_eq (tgt := 1514) M dL_law_371 (by decide) (fun h_371 => ?_) (fun h_371 => ?_)
  · exact ih _ hR2
  · exact absurd er h_371
set_option maxRecDepth 100000 in
theorem lw_feed {l : Launch} {G : Gw} {post : Option Value → Sg → Prop} {Φ : Ph} {b L : Nat} {xs : Nat → Int32} {i : Int32} {σ : Sg} (MX : MachX l G 8 198 post Φ b L xs) (hL : L < 2147483648) (hR : Rel σ) (hb : ∀ j : Nat, j < 7 → 0 ≤ i + nI j ∧ i + nI j < nI L) (ih : ∀ τ : Sg, Rel τ → Φ 1514 [some (.ref b), some (.ref (ad G 0 0)), some (.ref (ad G 40 0)), some (.int i)] [] τ) : Φ 376 [some (.ref b), some (.ref (ad G 0 0)), some (.ref (ad G 40 0)), some (.int i)] [] σ := by
  have M := MX.m
  have b1 : 0 ≤ i + 1 := (hb 1 (by omega)).1
  have d1 : i + 1 < nI L := (hb 1 (by omega)).2
  have b2 : 0 ≤ i + 2 := (hb 2 (by omega)).1
  have d2 : i + 2 < nI L := (hb 2 (by omega)).2
  have b3 : 0 ≤ i + 3 := (hb 3 (by omega)).1
  have d3 : i + 3 < nI L := (hb 3 (by omega)).2
  have b4 : 0 ≤ i + 4 := (hb 4 (by omega)).1
  have d4 : i + 4 < nI L := (hb 4 (by omega)).2
  have b5 : 0 ≤ i + 5 := (hb 5 (by omega)).1
  have d5 : i + 5 < nI L := (hb 5 (by omega)).2
  have b6 : 0 ≤ i + 6 := (hb 6 (by omega)).1
  have d6 : i + 6 < nI L := (hb 6 (by omega)).2
  refine j_aload_n M dL_law_376 rfl ?_
  refine j_aload_n M dL_law_377 rfl ?_
  refine j_iload_n M dL_law_378 rfl ?_
  refine j_iconst (v := 1) M dL_law_379 rfl ?_
  refine j_iadd M dL_law_380 ?_
  refine j_sld MX hL dL_law_381 b1 d1 ?_
  refine j_inv1 M lk_L_32 (c_X6_feed ((feed0 hR))) rv_X6 dL_law_382 (Nat.le_of_ble_eq_true rfl) ⟨(Nat.le_of_ble_eq_true rfl), (Nat.le_of_ble_eq_true rfl)⟩ (kI fun r_382 σ_382 q_382 => ?_)
  have t40 : σ_382 40 = σ 40 := k_feed q_382
  refine j_aload_n M dL_law_385 rfl ?_
  refine j_aload_n M dL_law_386 rfl ?_
  refine j_iload_n M dL_law_387 rfl ?_
  refine j_iconst (v := 1) M dL_law_388 rfl ?_
  refine j_iadd M dL_law_389 ?_
  refine j_sld MX hL dL_law_390 b1 d1 ?_
  refine j_inv1 M lk_L_35 (c_X7_feed ((by rw [t40]; exact feed1 hR))) rv_X7 dL_law_391 (Nat.le_of_ble_eq_true rfl) ⟨(Nat.le_of_ble_eq_true rfl), (Nat.le_of_ble_eq_true rfl)⟩ (kI fun r_391 σ_391 q_391 => ?_)
  obtain ⟨er, hR2⟩ := st_feed hR q_382 q_391
  refine j_icmp_eq (tgt := 1514) M dL_law_394 (by decide) (fun h_394 => ?_) (fun h_394 => ?_)
  · exact ih _ hR2
  · exact absurd er h_394
set_option maxRecDepth 100000 in
theorem lw_library {l : Launch} {G : Gw} {post : Option Value → Sg → Prop} {Φ : Ph} {b L : Nat} {xs : Nat → Int32} {i : Int32} {σ : Sg} (MX : MachX l G 8 198 post Φ b L xs) (hL : L < 2147483648) (hR : Rel σ) (hb : ∀ j : Nat, j < 7 → 0 ≤ i + nI j ∧ i + nI j < nI L) (ih : ∀ τ : Sg, Rel τ → Φ 1514 [some (.ref b), some (.ref (ad G 0 0)), some (.ref (ad G 40 0)), some (.int i)] [] τ) : Φ 399 [some (.ref b), some (.ref (ad G 0 0)), some (.ref (ad G 40 0)), some (.int i)] [] σ := by
  have M := MX.m
  have b1 : 0 ≤ i + 1 := (hb 1 (by omega)).1
  have d1 : i + 1 < nI L := (hb 1 (by omega)).2
  have b2 : 0 ≤ i + 2 := (hb 2 (by omega)).1
  have d2 : i + 2 < nI L := (hb 2 (by omega)).2
  have b3 : 0 ≤ i + 3 := (hb 3 (by omega)).1
  have d3 : i + 3 < nI L := (hb 3 (by omega)).2
  have b4 : 0 ≤ i + 4 := (hb 4 (by omega)).1
  have d4 : i + 4 < nI L := (hb 4 (by omega)).2
  have b5 : 0 ≤ i + 5 := (hb 5 (by omega)).1
  have d5 : i + 5 < nI L := (hb 5 (by omega)).2
  have b6 : 0 ≤ i + 6 := (hb 6 (by omega)).1
  have d6 : i + 6 < nI L := (hb 6 (by omega)).2
  obtain ⟨N, n1, n2, n3, n4, n5, n6⟩ := hR.2.2.1
  refine j_aload_n M dL_law_399 rfl ?_
  refine j_inv0 M lk_L_36 (c_X6_library (n1) (n2) (n4) (n5)) rv_X6 dL_law_400 (Nat.le_of_ble_eq_true rfl) ⟨(Nat.le_of_ble_eq_true rfl), (Nat.le_of_ble_eq_true rfl)⟩ (kI fun r_400 σ_400 q_400 => ?_)
  have t40 : σ_400 40 = σ 40 := k_library q_400
  refine j_aload_n M dL_law_403 rfl ?_
  refine j_inv0 M lk_L_40 (c_X7_library (n1) ((by rw [t40]; exact n3))) rv_X7 dL_law_404 (Nat.le_of_ble_eq_true rfl) ⟨(Nat.le_of_ble_eq_true rfl), (Nat.le_of_ble_eq_true rfl)⟩ (kI fun r_404 σ_404 q_404 => ?_)
  obtain ⟨er, hR2⟩ := st_library hR q_400 q_404
  refine j_icmp_eq (tgt := 1514) M dL_law_407 (by decide) (fun h_407 => ?_) (fun h_407 => ?_)
  · exact ih _ hR2
  · exact absurd er h_407
set_option maxRecDepth 100000 in
theorem lw_fault {l : Launch} {G : Gw} {post : Option Value → Sg → Prop} {Φ : Ph} {b L : Nat} {xs : Nat → Int32} {i : Int32} {σ : Sg} (MX : MachX l G 8 198 post Φ b L xs) (hL : L < 2147483648) (hR : Rel σ) (hb : ∀ j : Nat, j < 7 → 0 ≤ i + nI j ∧ i + nI j < nI L) (ih : ∀ τ : Sg, Rel τ → Φ 1514 [some (.ref b), some (.ref (ad G 0 0)), some (.ref (ad G 40 0)), some (.int i)] [] τ) : Φ 412 [some (.ref b), some (.ref (ad G 0 0)), some (.ref (ad G 40 0)), some (.int i)] [] σ := by
  have M := MX.m
  have b1 : 0 ≤ i + 1 := (hb 1 (by omega)).1
  have d1 : i + 1 < nI L := (hb 1 (by omega)).2
  have b2 : 0 ≤ i + 2 := (hb 2 (by omega)).1
  have d2 : i + 2 < nI L := (hb 2 (by omega)).2
  have b3 : 0 ≤ i + 3 := (hb 3 (by omega)).1
  have d3 : i + 3 < nI L := (hb 3 (by omega)).2
  have b4 : 0 ≤ i + 4 := (hb 4 (by omega)).1
  have d4 : i + 4 < nI L := (hb 4 (by omega)).2
  have b5 : 0 ≤ i + 5 := (hb 5 (by omega)).1
  have d5 : i + 5 < nI L := (hb 5 (by omega)).2
  have b6 : 0 ≤ i + 6 := (hb 6 (by omega)).1
  have d6 : i + 6 < nI L := (hb 6 (by omega)).2
  refine j_aload_n M dL_law_412 rfl ?_
  refine j_inv0 M lk_L_41 (c_X6_fault) rv_X6 dL_law_413 (Nat.le_of_ble_eq_true rfl) ⟨(Nat.le_of_ble_eq_true rfl), (Nat.le_of_ble_eq_true rfl)⟩ (kI fun r_413 σ_413 q_413 => ?_)
  have t40 : σ_413 40 = σ 40 := k_fault q_413
  refine j_aload_n M dL_law_416 rfl ?_
  refine j_inv0 M lk_L_44 (c_X7_fault) rv_X7 dL_law_417 (Nat.le_of_ble_eq_true rfl) ⟨(Nat.le_of_ble_eq_true rfl), (Nat.le_of_ble_eq_true rfl)⟩ (kI fun r_417 σ_417 q_417 => ?_)
  obtain ⟨er, hR2⟩ := st_fault hR q_413 q_417
  refine j_icmp_eq (tgt := 1514) M dL_law_420 (by decide) (fun h_420 => ?_) (fun h_420 => ?_)
  · exact ih _ hR2
  · exact absurd er h_420
set_option maxRecDepth 100000 in
theorem lw_undo {l : Launch} {G : Gw} {post : Option Value → Sg → Prop} {Φ : Ph} {b L : Nat} {xs : Nat → Int32} {i : Int32} {σ : Sg} (MX : MachX l G 8 198 post Φ b L xs) (hL : L < 2147483648) (hR : Rel σ) (hb : ∀ j : Nat, j < 7 → 0 ≤ i + nI j ∧ i + nI j < nI L) (ih : ∀ τ : Sg, Rel τ → Φ 1514 [some (.ref b), some (.ref (ad G 0 0)), some (.ref (ad G 40 0)), some (.int i)] [] τ) : Φ 425 [some (.ref b), some (.ref (ad G 0 0)), some (.ref (ad G 40 0)), some (.int i)] [] σ := by
  have M := MX.m
  have b1 : 0 ≤ i + 1 := (hb 1 (by omega)).1
  have d1 : i + 1 < nI L := (hb 1 (by omega)).2
  have b2 : 0 ≤ i + 2 := (hb 2 (by omega)).1
  have d2 : i + 2 < nI L := (hb 2 (by omega)).2
  have b3 : 0 ≤ i + 3 := (hb 3 (by omega)).1
  have d3 : i + 3 < nI L := (hb 3 (by omega)).2
  have b4 : 0 ≤ i + 4 := (hb 4 (by omega)).1
  have d4 : i + 4 < nI L := (hb 4 (by omega)).2
  have b5 : 0 ≤ i + 5 := (hb 5 (by omega)).1
  have d5 : i + 5 < nI L := (hb 5 (by omega)).2
  have b6 : 0 ≤ i + 6 := (hb 6 (by omega)).1
  have d6 : i + 6 < nI L := (hb 6 (by omega)).2
  refine j_aload_n M dL_law_425 rfl ?_
  refine j_inv0 M lk_L_45 (c_X6_undo (hR.A)) rv_X6 dL_law_426 (Nat.le_of_ble_eq_true rfl) ⟨(Nat.le_of_ble_eq_true rfl), (Nat.le_of_ble_eq_true rfl)⟩ (kI fun r_426 σ_426 q_426 => ?_)
  have t40 : σ_426 40 = σ 40 := k_undo q_426
  refine j_aload_n M dL_law_429 rfl ?_
  refine j_inv0 M lk_L_48 (c_X7_undo ((by rw [t40]; exact hR.m))) rv_X7 dL_law_430 (Nat.le_of_ble_eq_true rfl) ⟨(Nat.le_of_ble_eq_true rfl), (Nat.le_of_ble_eq_true rfl)⟩ (kI fun r_430 σ_430 q_430 => ?_)
  obtain ⟨er, hR2⟩ := st_undo hR q_426 q_430
  refine j_icmp_eq (tgt := 1514) M dL_law_433 (by decide) (fun h_433 => ?_) (fun h_433 => ?_)
  · exact ih _ hR2
  · exact absurd er h_433
set_option maxRecDepth 100000 in
theorem lw_nights {l : Launch} {G : Gw} {post : Option Value → Sg → Prop} {Φ : Ph} {b L : Nat} {xs : Nat → Int32} {i : Int32} {σ : Sg} (MX : MachX l G 8 198 post Φ b L xs) (hL : L < 2147483648) (hR : Rel σ) (hb : ∀ j : Nat, j < 7 → 0 ≤ i + nI j ∧ i + nI j < nI L) (ih : ∀ τ : Sg, Rel τ → Φ 1514 [some (.ref b), some (.ref (ad G 0 0)), some (.ref (ad G 40 0)), some (.int i)] [] τ) : Φ 438 [some (.ref b), some (.ref (ad G 0 0)), some (.ref (ad G 40 0)), some (.int i)] [] σ := by
  have M := MX.m
  have b1 : 0 ≤ i + 1 := (hb 1 (by omega)).1
  have d1 : i + 1 < nI L := (hb 1 (by omega)).2
  have b2 : 0 ≤ i + 2 := (hb 2 (by omega)).1
  have d2 : i + 2 < nI L := (hb 2 (by omega)).2
  have b3 : 0 ≤ i + 3 := (hb 3 (by omega)).1
  have d3 : i + 3 < nI L := (hb 3 (by omega)).2
  have b4 : 0 ≤ i + 4 := (hb 4 (by omega)).1
  have d4 : i + 4 < nI L := (hb 4 (by omega)).2
  have b5 : 0 ≤ i + 5 := (hb 5 (by omega)).1
  have d5 : i + 5 < nI L := (hb 5 (by omega)).2
  have b6 : 0 ≤ i + 6 := (hb 6 (by omega)).1
  have d6 : i + 6 < nI L := (hb 6 (by omega)).2
  refine j_aload_n M dL_law_438 rfl ?_
  refine j_aload_n M dL_law_439 rfl ?_
  refine j_iload_n M dL_law_440 rfl ?_
  refine j_iconst (v := 1) M dL_law_441 rfl ?_
  refine j_iadd M dL_law_442 ?_
  refine j_sld MX hL dL_law_443 b1 d1 ?_
  refine j_inv1 M lk_L_49 (c_X6_nights (h := σ 40 8) hR.S hR.L hR.A) rv_X6 dL_law_444 (Nat.le_of_ble_eq_true rfl) ⟨(Nat.le_of_ble_eq_true rfl), (Nat.le_of_ble_eq_true rfl)⟩ (kI fun r_444 σ_444 q_444 => ?_)
  have t40 : σ_444 40 = σ 40 := k_nights q_444
  refine j_aload_n M dL_law_447 rfl ?_
  refine j_aload_n M dL_law_448 rfl ?_
  refine j_iload_n M dL_law_449 rfl ?_
  refine j_iconst (v := 1) M dL_law_450 rfl ?_
  refine j_iadd M dL_law_451 ?_
  refine j_sld MX hL dL_law_452 b1 d1 ?_
  refine j_inv1 M lk_L_52 (c_X7_nights ((by rw [t40]; exact fun h => hR.S.f h)) ((by rw [t40]; exact hR.m))) rv_X7 dL_law_453 (Nat.le_of_ble_eq_true rfl) ⟨(Nat.le_of_ble_eq_true rfl), (Nat.le_of_ble_eq_true rfl)⟩ (kI fun r_453 σ_453 q_453 => ?_)
  obtain ⟨er, hR2⟩ := st_nights hR q_444 q_453
  refine j_icmp_eq (tgt := 1514) M dL_law_456 (by decide) (fun h_456 => ?_) (fun h_456 => ?_)
  · exact ih _ hR2
  · exact absurd er h_456
set_option maxRecDepth 100000 in
theorem lw_light {l : Launch} {G : Gw} {post : Option Value → Sg → Prop} {Φ : Ph} {b L : Nat} {xs : Nat → Int32} {i : Int32} {σ : Sg} (MX : MachX l G 8 198 post Φ b L xs) (hL : L < 2147483648) (hR : Rel σ) (hb : ∀ j : Nat, j < 7 → 0 ≤ i + nI j ∧ i + nI j < nI L) (ih : ∀ τ : Sg, Rel τ → Φ 1514 [some (.ref b), some (.ref (ad G 0 0)), some (.ref (ad G 40 0)), some (.int i)] [] τ) : Φ 461 [some (.ref b), some (.ref (ad G 0 0)), some (.ref (ad G 40 0)), some (.int i)] [] σ := by
  have M := MX.m
  have b1 : 0 ≤ i + 1 := (hb 1 (by omega)).1
  have d1 : i + 1 < nI L := (hb 1 (by omega)).2
  have b2 : 0 ≤ i + 2 := (hb 2 (by omega)).1
  have d2 : i + 2 < nI L := (hb 2 (by omega)).2
  have b3 : 0 ≤ i + 3 := (hb 3 (by omega)).1
  have d3 : i + 3 < nI L := (hb 3 (by omega)).2
  have b4 : 0 ≤ i + 4 := (hb 4 (by omega)).1
  have d4 : i + 4 < nI L := (hb 4 (by omega)).2
  have b5 : 0 ≤ i + 5 := (hb 5 (by omega)).1
  have d5 : i + 5 < nI L := (hb 5 (by omega)).2
  have b6 : 0 ≤ i + 6 := (hb 6 (by omega)).1
  have d6 : i + 6 < nI L := (hb 6 (by omega)).2
  refine j_aload_n M dL_law_461 rfl ?_
  refine j_aload_n M dL_law_462 rfl ?_
  refine j_iload_n M dL_law_463 rfl ?_
  refine j_iconst (v := 1) M dL_law_464 rfl ?_
  refine j_iadd M dL_law_465 ?_
  refine j_sld MX hL dL_law_466 b1 d1 ?_
  refine j_aload_n M dL_law_467 rfl ?_
  refine j_iload_n M dL_law_468 rfl ?_
  refine j_iconst (v := 2) M dL_law_469 rfl ?_
  refine j_iadd M dL_law_470 ?_
  refine j_sld MX hL dL_law_471 b2 d2 ?_
  refine j_inv2 M lk_L_53 (c_X6_light (hR.S) (hR.L) (hR.A)) rv_X6 dL_law_472 (Nat.le_of_ble_eq_true rfl) ⟨(Nat.le_of_ble_eq_true rfl), (Nat.le_of_ble_eq_true rfl)⟩ (kI fun r_472 σ_472 q_472 => ?_)
  have t40 : σ_472 40 = σ 40 := k_light q_472
  refine j_aload_n M dL_law_475 rfl ?_
  refine j_aload_n M dL_law_476 rfl ?_
  refine j_iload_n M dL_law_477 rfl ?_
  refine j_iconst (v := 1) M dL_law_478 rfl ?_
  refine j_iadd M dL_law_479 ?_
  refine j_sld MX hL dL_law_480 b1 d1 ?_
  refine j_aload_n M dL_law_481 rfl ?_
  refine j_iload_n M dL_law_482 rfl ?_
  refine j_iconst (v := 2) M dL_law_483 rfl ?_
  refine j_iadd M dL_law_484 ?_
  refine j_sld MX hL dL_law_485 b2 d2 ?_
  refine j_inv2 M lk_L_57 (c_X7_light ((by rw [t40]; exact hR.S.w)) ((by rw [t40]; exact hR.m))) rv_X7 dL_law_486 (Nat.le_of_ble_eq_true rfl) ⟨(Nat.le_of_ble_eq_true rfl), (Nat.le_of_ble_eq_true rfl)⟩ (kI fun r_486 σ_486 q_486 => ?_)
  obtain ⟨er, hR2⟩ := st_light hR q_472 q_486
  refine j_icmp_eq (tgt := 1514) M dL_law_489 (by decide) (fun h_489 => ?_) (fun h_489 => ?_)
  · exact ih _ hR2
  · exact absurd er h_489
