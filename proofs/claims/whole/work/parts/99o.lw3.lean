set_option maxRecDepth 100000 in
theorem lw_drawn {l : Launch} {G : Gw} {post : Option Value → Sg → Prop} {Φ : Ph} {b L : Nat} {xs : Nat → Int32} {i : Int32} {σ : Sg} (MX : MachX l G 8 198 post Φ b L xs) (hL : L < 2147483648) (hR : Rel σ) (hb : ∀ j : Nat, j < 7 → 0 ≤ i + nI j ∧ i + nI j < nI L) (ih : ∀ τ : Sg, Rel τ → Φ 1514 [some (.ref b), some (.ref (ad G 0 0)), some (.ref (ad G 40 0)), some (.int i)] [] τ) : Φ 1277 [some (.ref b), some (.ref (ad G 0 0)), some (.ref (ad G 40 0)), some (.int i)] [] σ := by
  have M := MX.m
  have b1 : 0 ≤ i + 1 := (hb 1 (by omega)).1
  have d1 : i + 1 < nI L := (hb 1 (by omega)).2
  have b2 : 0 ≤ i + 2 := (hb 2 (by omega)).1
  have d2 : i + 2 < nI L := (hb 2 (by omega)).2
  have b3 : 0 ≤ i + 3 := (hb 3 (by omega)).1
  have d3 : i + 3 < nI L := (hb 3 (by omega)).2
  have b4 : 0 ≤ i + 4 := (hb 4 (by omega)).1
  have d4 : i + 4 < nI L := (hb 4 (by omega)).2
  have b5 : 0 ≤ i + 5 := (hb 5 (by omega)).1
  have d5 : i + 5 < nI L := (hb 5 (by omega)).2
  have b6 : 0 ≤ i + 6 := (hb 6 (by omega)).1
  have d6 : i + 6 < nI L := (hb 6 (by omega)).2
  refine j_aload_n M dL_law_1277 rfl ?_
  refine j_aload_n M dL_law_1278 rfl ?_
  refine j_iload_n M dL_law_1279 rfl ?_
  refine j_iconst (v := 1) M dL_law_1280 rfl ?_
  refine j_iadd M dL_law_1281 ?_
  refine j_sld MX hL dL_law_1282 b1 d1 ?_
  refine j_aload_n M dL_law_1283 rfl ?_
  refine j_iload_n M dL_law_1284 rfl ?_
  refine j_iconst (v := 2) M dL_law_1285 rfl ?_
  refine j_iadd M dL_law_1286 ?_
  refine j_sld MX hL dL_law_1287 b2 d2 ?_
  refine j_aload_n M dL_law_1288 rfl ?_
  refine j_iload_n M dL_law_1289 rfl ?_
  refine j_iconst (v := 3) M dL_law_1290 rfl ?_
  refine j_iadd M dL_law_1291 ?_
  refine j_sld MX hL dL_law_1292 b3 d3 ?_
  refine j_inv3 M lk_L_141 (c_X6_drawn (hR.S) (hR.L)) rv_X6 dL_law_1293 (Nat.le_of_ble_eq_true rfl) ⟨(Nat.le_of_ble_eq_true rfl), (Nat.le_of_ble_eq_true rfl)⟩ (kI fun r_1293 σ_1293 q_1293 => ?_)
  have t40 : σ_1293 40 = σ 40 := k_drawn q_1293
  refine j_aload_n M dL_law_1296 rfl ?_
  refine j_aload_n M dL_law_1297 rfl ?_
  refine j_iload_n M dL_law_1298 rfl ?_
  refine j_iconst (v := 1) M dL_law_1299 rfl ?_
  refine j_iadd M dL_law_1300 ?_
  refine j_sld MX hL dL_law_1301 b1 d1 ?_
  refine j_aload_n M dL_law_1302 rfl ?_
  refine j_iload_n M dL_law_1303 rfl ?_
  refine j_iconst (v := 2) M dL_law_1304 rfl ?_
  refine j_iadd M dL_law_1305 ?_
  refine j_sld MX hL dL_law_1306 b2 d2 ?_
  refine j_aload_n M dL_law_1307 rfl ?_
  refine j_iload_n M dL_law_1308 rfl ?_
  refine j_iconst (v := 3) M dL_law_1309 rfl ?_
  refine j_iadd M dL_law_1310 ?_
  refine j_sld MX hL dL_law_1311 b3 d3 ?_
  refine j_inv3 M lk_L_144 (c_X7_drawn ((by rw [t40]; exact fun h => hR.S.f h))) rv_X7 dL_law_1312 (Nat.le_of_ble_eq_true rfl) ⟨(Nat.le_of_ble_eq_true rfl), (Nat.le_of_ble_eq_true rfl)⟩ (kI fun r_1312 σ_1312 q_1312 => ?_)
  obtain ⟨er, hR2⟩ := st_drawn hR q_1293 q_1312
  refine j_icmp_eq (tgt := 1514) M dL_law_1315 (by decide) (fun h_1315 => ?_) (fun h_1315 => ?_)
  · exact ih _ hR2
  · exact absurd er h_1315
set_option maxRecDepth 100000 in
theorem lw_image {l : Launch} {G : Gw} {post : Option Value → Sg → Prop} {Φ : Ph} {b L : Nat} {xs : Nat → Int32} {i : Int32} {σ : Sg} (MX : MachX l G 8 198 post Φ b L xs) (hL : L < 2147483648) (hR : Rel σ) (hb : ∀ j : Nat, j < 7 → 0 ≤ i + nI j ∧ i + nI j < nI L) (ih : ∀ τ : Sg, Rel τ → Φ 1514 [some (.ref b), some (.ref (ad G 0 0)), some (.ref (ad G 40 0)), some (.int i)] [] τ) : Φ 1320 [some (.ref b), some (.ref (ad G 0 0)), some (.ref (ad G 40 0)), some (.int i)] [] σ := by
  have M := MX.m
  have b1 : 0 ≤ i + 1 := (hb 1 (by omega)).1
  have d1 : i + 1 < nI L := (hb 1 (by omega)).2
  have b2 : 0 ≤ i + 2 := (hb 2 (by omega)).1
  have d2 : i + 2 < nI L := (hb 2 (by omega)).2
  have b3 : 0 ≤ i + 3 := (hb 3 (by omega)).1
  have d3 : i + 3 < nI L := (hb 3 (by omega)).2
  have b4 : 0 ≤ i + 4 := (hb 4 (by omega)).1
  have d4 : i + 4 < nI L := (hb 4 (by omega)).2
  have b5 : 0 ≤ i + 5 := (hb 5 (by omega)).1
  have d5 : i + 5 < nI L := (hb 5 (by omega)).2
  have b6 : 0 ≤ i + 6 := (hb 6 (by omega)).1
  have d6 : i + 6 < nI L := (hb 6 (by omega)).2
  refine j_aload_n M dL_law_1320 rfl ?_
  refine j_aload_n M dL_law_1321 rfl ?_
  refine j_iload_n M dL_law_1322 rfl ?_
  refine j_iconst (v := 1) M dL_law_1323 rfl ?_
  refine j_iadd M dL_law_1324 ?_
  refine j_sld MX hL dL_law_1325 b1 d1 ?_
  refine j_inv1 M lk_L_145 (c_X6_image (hR.S) (hR.L)) rv_X6 dL_law_1326 (Nat.le_of_ble_eq_true rfl) ⟨(Nat.le_of_ble_eq_true rfl), (Nat.le_of_ble_eq_true rfl)⟩ (kI fun r_1326 σ_1326 q_1326 => ?_)
  have t40 : σ_1326 40 = σ 40 := k_image q_1326
  refine j_aload_n M dL_law_1329 rfl ?_
  refine j_aload_n M dL_law_1330 rfl ?_
  refine j_iload_n M dL_law_1331 rfl ?_
  refine j_iconst (v := 1) M dL_law_1332 rfl ?_
  refine j_iadd M dL_law_1333 ?_
  refine j_sld MX hL dL_law_1334 b1 d1 ?_
  refine j_inv1 M lk_L_148 (c_X7_image) rv_X7 dL_law_1335 (Nat.le_of_ble_eq_true rfl) ⟨(Nat.le_of_ble_eq_true rfl), (Nat.le_of_ble_eq_true rfl)⟩ (kI fun r_1335 σ_1335 q_1335 => ?_)
  obtain ⟨er, hR2⟩ := st_image hR q_1326 q_1335
  refine j_icmp_eq (tgt := 1514) M dL_law_1338 (by decide) (fun h_1338 => ?_) (fun h_1338 => ?_)
  · exact ih _ hR2
  · exact absurd er h_1338
set_option maxRecDepth 100000 in
theorem lw_restore {l : Launch} {G : Gw} {post : Option Value → Sg → Prop} {Φ : Ph} {b L : Nat} {xs : Nat → Int32} {i : Int32} {σ : Sg} (MX : MachX l G 8 198 post Φ b L xs) (hL : L < 2147483648) (hR : Rel σ) (hb : ∀ j : Nat, j < 7 → 0 ≤ i + nI j ∧ i + nI j < nI L) (ih : ∀ τ : Sg, Rel τ → Φ 1514 [some (.ref b), some (.ref (ad G 0 0)), some (.ref (ad G 40 0)), some (.int i)] [] τ) : Φ 1343 [some (.ref b), some (.ref (ad G 0 0)), some (.ref (ad G 40 0)), some (.int i)] [] σ := by
  have M := MX.m
  have b1 : 0 ≤ i + 1 := (hb 1 (by omega)).1
  have d1 : i + 1 < nI L := (hb 1 (by omega)).2
  have b2 : 0 ≤ i + 2 := (hb 2 (by omega)).1
  have d2 : i + 2 < nI L := (hb 2 (by omega)).2
  have b3 : 0 ≤ i + 3 := (hb 3 (by omega)).1
  have d3 : i + 3 < nI L := (hb 3 (by omega)).2
  have b4 : 0 ≤ i + 4 := (hb 4 (by omega)).1
  have d4 : i + 4 < nI L := (hb 4 (by omega)).2
  have b5 : 0 ≤ i + 5 := (hb 5 (by omega)).1
  have d5 : i + 5 < nI L := (hb 5 (by omega)).2
  have b6 : 0 ≤ i + 6 := (hb 6 (by omega)).1
  have d6 : i + 6 < nI L := (hb 6 (by omega)).2
  refine j_aload_n M dL_law_1343 rfl ?_
  refine j_aload_n M dL_law_1344 rfl ?_
  refine j_iload_n M dL_law_1345 rfl ?_
  refine j_iconst (v := 1) M dL_law_1346 rfl ?_
  refine j_iadd M dL_law_1347 ?_
  refine j_sld MX hL dL_law_1348 b1 d1 ?_
  refine j_inv1 M lk_L_149 (c_X6_restore) rv_X6 dL_law_1349 (Nat.le_of_ble_eq_true rfl) ⟨(Nat.le_of_ble_eq_true rfl), (Nat.le_of_ble_eq_true rfl)⟩ (kI fun r_1349 σ_1349 q_1349 => ?_)
  have t40 : σ_1349 40 = σ 40 := k_restore q_1349
  refine j_aload_n M dL_law_1352 rfl ?_
  refine j_aload_n M dL_law_1353 rfl ?_
  refine j_iload_n M dL_law_1354 rfl ?_
  refine j_iconst (v := 1) M dL_law_1355 rfl ?_
  refine j_iadd M dL_law_1356 ?_
  refine j_sld MX hL dL_law_1357 b1 d1 ?_
  refine j_inv1 M lk_L_152 (c_X7_restore) rv_X7 dL_law_1358 (Nat.le_of_ble_eq_true rfl) ⟨(Nat.le_of_ble_eq_true rfl), (Nat.le_of_ble_eq_true rfl)⟩ (kI fun r_1358 σ_1358 q_1358 => ?_)
  obtain ⟨er, hR2⟩ := st_restore hR q_1349 q_1358
  refine j_icmp_eq (tgt := 1514) M dL_law_1361 (by decide) (fun h_1361 => ?_) (fun h_1361 => ?_)
  · exact ih _ hR2
  · exact absurd er h_1361
set_option maxRecDepth 100000 in
theorem lw_kind {l : Launch} {G : Gw} {post : Option Value → Sg → Prop} {Φ : Ph} {b L : Nat} {xs : Nat → Int32} {i : Int32} {σ : Sg} (MX : MachX l G 8 198 post Φ b L xs) (hL : L < 2147483648) (hR : Rel σ) (hb : ∀ j : Nat, j < 7 → 0 ≤ i + nI j ∧ i + nI j < nI L) (ih : ∀ τ : Sg, Rel τ → Φ 1514 [some (.ref b), some (.ref (ad G 0 0)), some (.ref (ad G 40 0)), some (.int i)] [] τ) : Φ 1366 [some (.ref b), some (.ref (ad G 0 0)), some (.ref (ad G 40 0)), some (.int i)] [] σ := by
  have M := MX.m
  have b1 : 0 ≤ i + 1 := (hb 1 (by omega)).1
  have d1 : i + 1 < nI L := (hb 1 (by omega)).2
  have b2 : 0 ≤ i + 2 := (hb 2 (by omega)).1
  have d2 : i + 2 < nI L := (hb 2 (by omega)).2
  have b3 : 0 ≤ i + 3 := (hb 3 (by omega)).1
  have d3 : i + 3 < nI L := (hb 3 (by omega)).2
  have b4 : 0 ≤ i + 4 := (hb 4 (by omega)).1
  have d4 : i + 4 < nI L := (hb 4 (by omega)).2
  have b5 : 0 ≤ i + 5 := (hb 5 (by omega)).1
  have d5 : i + 5 < nI L := (hb 5 (by omega)).2
  have b6 : 0 ≤ i + 6 := (hb 6 (by omega)).1
  have d6 : i + 6 < nI L := (hb 6 (by omega)).2
  refine j_aload_n M dL_law_1366 rfl ?_
  refine j_aload_n M dL_law_1367 rfl ?_
  refine j_iload_n M dL_law_1368 rfl ?_
  refine j_iconst (v := 1) M dL_law_1369 rfl ?_
  refine j_iadd M dL_law_1370 ?_
  refine j_sld MX hL dL_law_1371 b1 d1 ?_
  refine j_inv1 M lk_L_153 (c_X6_kind (hR.S) (hR.L)) rv_X6 dL_law_1372 (Nat.le_of_ble_eq_true rfl) ⟨(Nat.le_of_ble_eq_true rfl), (Nat.le_of_ble_eq_true rfl)⟩ (kI fun r_1372 σ_1372 q_1372 => ?_)
  have t40 : σ_1372 40 = σ 40 := k_kind q_1372
  refine j_aload_n M dL_law_1375 rfl ?_
  refine j_aload_n M dL_law_1376 rfl ?_
  refine j_iload_n M dL_law_1377 rfl ?_
  refine j_iconst (v := 1) M dL_law_1378 rfl ?_
  refine j_iadd M dL_law_1379 ?_
  refine j_sld MX hL dL_law_1380 b1 d1 ?_
  refine j_inv1 M lk_L_156 (c_X7_kind ((by rw [t40]; exact hR.S.w))) rv_X7 dL_law_1381 (Nat.le_of_ble_eq_true rfl) ⟨(Nat.le_of_ble_eq_true rfl), (Nat.le_of_ble_eq_true rfl)⟩ (kI fun r_1381 σ_1381 q_1381 => ?_)
  obtain ⟨er, hR2⟩ := st_kind hR q_1372 q_1381
  refine j_icmp_eq (tgt := 1514) M dL_law_1384 (by decide) (fun h_1384 => ?_) (fun h_1384 => ?_)
  · exact ih _ hR2
  · exact absurd er h_1384
set_option maxRecDepth 100000 in
theorem lw_as {l : Launch} {G : Gw} {post : Option Value → Sg → Prop} {Φ : Ph} {b L : Nat} {xs : Nat → Int32} {i : Int32} {σ : Sg} (MX : MachX l G 8 198 post Φ b L xs) (hL : L < 2147483648) (hR : Rel σ) (hb : ∀ j : Nat, j < 7 → 0 ≤ i + nI j ∧ i + nI j < nI L) (ih : ∀ τ : Sg, Rel τ → Φ 1514 [some (.ref b), some (.ref (ad G 0 0)), some (.ref (ad G 40 0)), some (.int i)] [] τ) : Φ 1389 [some (.ref b), some (.ref (ad G 0 0)), some (.ref (ad G 40 0)), some (.int i)] [] σ := by
  have M := MX.m
  have b1 : 0 ≤ i + 1 := (hb 1 (by omega)).1
  have d1 : i + 1 < nI L := (hb 1 (by omega)).2
  have b2 : 0 ≤ i + 2 := (hb 2 (by omega)).1
  have d2 : i + 2 < nI L := (hb 2 (by omega)).2
  have b3 : 0 ≤ i + 3 := (hb 3 (by omega)).1
  have d3 : i + 3 < nI L := (hb 3 (by omega)).2
  have b4 : 0 ≤ i + 4 := (hb 4 (by omega)).1
  have d4 : i + 4 < nI L := (hb 4 (by omega)).2
  have b5 : 0 ≤ i + 5 := (hb 5 (by omega)).1
  have d5 : i + 5 < nI L := (hb 5 (by omega)).2
  have b6 : 0 ≤ i + 6 := (hb 6 (by omega)).1
  have d6 : i + 6 < nI L := (hb 6 (by omega)).2
  refine j_aload_n M dL_law_1389 rfl ?_
  refine j_aload_n M dL_law_1390 rfl ?_
  refine j_iload_n M dL_law_1391 rfl ?_
  refine j_iconst (v := 1) M dL_law_1392 rfl ?_
  refine j_iadd M dL_law_1393 ?_
  refine j_sld MX hL dL_law_1394 b1 d1 ?_
  refine j_aload_n M dL_law_1395 rfl ?_
  refine j_iload_n M dL_law_1396 rfl ?_
  refine j_iconst (v := 2) M dL_law_1397 rfl ?_
  refine j_iadd M dL_law_1398 ?_
  refine j_sld MX hL dL_law_1399 b2 d2 ?_
  refine j_inv2 M lk_L_157 (c_X6_as (hR.S) (hR.L)) rv_X6 dL_law_1400 (Nat.le_of_ble_eq_true rfl) ⟨(Nat.le_of_ble_eq_true rfl), (Nat.le_of_ble_eq_true rfl)⟩ (kI fun r_1400 σ_1400 q_1400 => ?_)
  have t40 : σ_1400 40 = σ 40 := k_as q_1400
  refine j_aload_n M dL_law_1403 rfl ?_
  refine j_aload_n M dL_law_1404 rfl ?_
  refine j_iload_n M dL_law_1405 rfl ?_
  refine j_iconst (v := 1) M dL_law_1406 rfl ?_
  refine j_iadd M dL_law_1407 ?_
  refine j_sld MX hL dL_law_1408 b1 d1 ?_
  refine j_aload_n M dL_law_1409 rfl ?_
  refine j_iload_n M dL_law_1410 rfl ?_
  refine j_iconst (v := 2) M dL_law_1411 rfl ?_
  refine j_iadd M dL_law_1412 ?_
  refine j_sld MX hL dL_law_1413 b2 d2 ?_
  refine j_inv2 M lk_L_160 (c_X7_as ((by rw [t40]; exact hR.S.w))) rv_X7 dL_law_1414 (Nat.le_of_ble_eq_true rfl) ⟨(Nat.le_of_ble_eq_true rfl), (Nat.le_of_ble_eq_true rfl)⟩ (kI fun r_1414 σ_1414 q_1414 => ?_)
  obtain ⟨er, hR2⟩ := st_as hR q_1400 q_1414
  refine j_icmp_eq (tgt := 1514) M dL_law_1417 (by decide) (fun h_1417 => ?_) (fun h_1417 => ?_)
  · exact ih _ hR2
  · exact absurd er h_1417
set_option maxRecDepth 100000 in
theorem lw_ask {l : Launch} {G : Gw} {post : Option Value → Sg → Prop} {Φ : Ph} {b L : Nat} {xs : Nat → Int32} {i : Int32} {σ : Sg} (MX : MachX l G 8 198 post Φ b L xs) (hL : L < 2147483648) (hR : Rel σ) (hb : ∀ j : Nat, j < 7 → 0 ≤ i + nI j ∧ i + nI j < nI L) (ih : ∀ τ : Sg, Rel τ → Φ 1514 [some (.ref b), some (.ref (ad G 0 0)), some (.ref (ad G 40 0)), some (.int i)] [] τ) : Φ 1422 [some (.ref b), some (.ref (ad G 0 0)), some (.ref (ad G 40 0)), some (.int i)] [] σ := by
  have M := MX.m
  have b1 : 0 ≤ i + 1 := (hb 1 (by omega)).1
  have d1 : i + 1 < nI L := (hb 1 (by omega)).2
  have b2 : 0 ≤ i + 2 := (hb 2 (by omega)).1
  have d2 : i + 2 < nI L := (hb 2 (by omega)).2
  have b3 : 0 ≤ i + 3 := (hb 3 (by omega)).1
  have d3 : i + 3 < nI L := (hb 3 (by omega)).2
  have b4 : 0 ≤ i + 4 := (hb 4 (by omega)).1
  have d4 : i + 4 < nI L := (hb 4 (by omega)).2
  have b5 : 0 ≤ i + 5 := (hb 5 (by omega)).1
  have d5 : i + 5 < nI L := (hb 5 (by omega)).2
  have b6 : 0 ≤ i + 6 := (hb 6 (by omega)).1
  have d6 : i + 6 < nI L := (hb 6 (by omega)).2
  refine j_aload_n M dL_law_1422 rfl ?_
  refine j_aload_n M dL_law_1423 rfl ?_
  refine j_iload_n M dL_law_1424 rfl ?_
  refine j_iconst (v := 1) M dL_law_1425 rfl ?_
  refine j_iadd M dL_law_1426 ?_
  refine j_sld MX hL dL_law_1427 b1 d1 ?_
  refine j_aload_n M dL_law_1428 rfl ?_
  refine j_iload_n M dL_law_1429 rfl ?_
  refine j_iconst (v := 2) M dL_law_1430 rfl ?_
  refine j_iadd M dL_law_1431 ?_
  refine j_sld MX hL dL_law_1432 b2 d2 ?_
  refine j_inv2 M lk_L_161 (c_X6_ask (hR.S) (hR.L)) rv_X6 dL_law_1433 (Nat.le_of_ble_eq_true rfl) ⟨(Nat.le_of_ble_eq_true rfl), (Nat.le_of_ble_eq_true rfl)⟩ (kI fun r_1433 σ_1433 q_1433 => ?_)
  have t40 : σ_1433 40 = σ 40 := k_ask q_1433
  refine j_aload_n M dL_law_1436 rfl ?_
  refine j_aload_n M dL_law_1437 rfl ?_
  refine j_iload_n M dL_law_1438 rfl ?_
  refine j_iconst (v := 1) M dL_law_1439 rfl ?_
  refine j_iadd M dL_law_1440 ?_
  refine j_sld MX hL dL_law_1441 b1 d1 ?_
  refine j_aload_n M dL_law_1442 rfl ?_
  refine j_iload_n M dL_law_1443 rfl ?_
  refine j_iconst (v := 2) M dL_law_1444 rfl ?_
  refine j_iadd M dL_law_1445 ?_
  refine j_sld MX hL dL_law_1446 b2 d2 ?_
  refine j_inv2 M lk_L_164 (c_X7_ask ((by rw [t40]; exact hR.S.w))) rv_X7 dL_law_1447 (Nat.le_of_ble_eq_true rfl) ⟨(Nat.le_of_ble_eq_true rfl), (Nat.le_of_ble_eq_true rfl)⟩ (kI fun r_1447 σ_1447 q_1447 => ?_)
  obtain ⟨er, hR2⟩ := st_ask hR q_1433 q_1447
  refine j_icmp_eq (tgt := 1514) M dL_law_1450 (by decide) (fun h_1450 => ?_) (fun h_1450 => ?_)
  · exact ih _ hR2
  · exact absurd er h_1450
set_option maxRecDepth 100000 in
theorem lw_trace {l : Launch} {G : Gw} {post : Option Value → Sg → Prop} {Φ : Ph} {b L : Nat} {xs : Nat → Int32} {i : Int32} {σ : Sg} (MX : MachX l G 8 198 post Φ b L xs) (hL : L < 2147483648) (hR : Rel σ) (hb : ∀ j : Nat, j < 7 → 0 ≤ i + nI j ∧ i + nI j < nI L) (ih : ∀ τ : Sg, Rel τ → Φ 1514 [some (.ref b), some (.ref (ad G 0 0)), some (.ref (ad G 40 0)), some (.int i)] [] τ) : Φ 1455 [some (.ref b), some (.ref (ad G 0 0)), some (.ref (ad G 40 0)), some (.int i)] [] σ := by
  have M := MX.m
  have b1 : 0 ≤ i + 1 := (hb 1 (by omega)).1
  have d1 : i + 1 < nI L := (hb 1 (by omega)).2
  have b2 : 0 ≤ i + 2 := (hb 2 (by omega)).1
  have d2 : i + 2 < nI L := (hb 2 (by omega)).2
  have b3 : 0 ≤ i + 3 := (hb 3 (by omega)).1
  have d3 : i + 3 < nI L := (hb 3 (by omega)).2
  have b4 : 0 ≤ i + 4 := (hb 4 (by omega)).1
  have d4 : i + 4 < nI L := (hb 4 (by omega)).2
  have b5 : 0 ≤ i + 5 := (hb 5 (by omega)).1
  have d5 : i + 5 < nI L := (hb 5 (by omega)).2
  have b6 : 0 ≤ i + 6 := (hb 6 (by omega)).1
  have d6 : i + 6 < nI L := (hb 6 (by omega)).2
  refine j_aload_n M dL_law_1455 rfl ?_
  refine j_aload_n M dL_law_1456 rfl ?_
  refine j_iload_n M dL_law_1457 rfl ?_
  refine j_iconst (v := 1) M dL_law_1458 rfl ?_
  refine j_iadd M dL_law_1459 ?_
  refine j_sld MX hL dL_law_1460 b1 d1 ?_
  refine j_inv1 M lk_L_165 (c_X6_trace) rv_X6 dL_law_1461 (Nat.le_of_ble_eq_true rfl) ⟨(Nat.le_of_ble_eq_true rfl), (Nat.le_of_ble_eq_true rfl)⟩ (kI fun r_1461 σ_1461 q_1461 => ?_)
  have t40 : σ_1461 40 = σ 40 := k_trace q_1461
  refine j_aload_n M dL_law_1464 rfl ?_
  refine j_aload_n M dL_law_1465 rfl ?_
  refine j_iload_n M dL_law_1466 rfl ?_
  refine j_iconst (v := 1) M dL_law_1467 rfl ?_
  refine j_iadd M dL_law_1468 ?_
  refine j_sld MX hL dL_law_1469 b1 d1 ?_
  refine j_inv1 M lk_L_168 (c_X7_trace ((by rw [t40]; exact hR.T))) rv_X7 dL_law_1470 (Nat.le_of_ble_eq_true rfl) ⟨(Nat.le_of_ble_eq_true rfl), (Nat.le_of_ble_eq_true rfl)⟩ (kI fun r_1470 σ_1470 q_1470 => ?_)
  obtain ⟨er, hR2⟩ := st_trace hR q_1461 q_1470
  refine j_icmp_eq (tgt := 1514) M dL_law_1473 (by decide) (fun h_1473 => ?_) (fun h_1473 => ?_)
  · exact ih _ hR2
  · exact absurd er h_1473
set_option maxRecDepth 100000 in
theorem lw_count {l : Launch} {G : Gw} {post : Option Value → Sg → Prop} {Φ : Ph} {b L : Nat} {xs : Nat → Int32} {i : Int32} {σ : Sg} (MX : MachX l G 8 198 post Φ b L xs) (hL : L < 2147483648) (hR : Rel σ) (hb : ∀ j : Nat, j < 7 → 0 ≤ i + nI j ∧ i + nI j < nI L) (ih : ∀ τ : Sg, Rel τ → Φ 1514 [some (.ref b), some (.ref (ad G 0 0)), some (.ref (ad G 40 0)), some (.int i)] [] τ) : Φ 1478 [some (.ref b), some (.ref (ad G 0 0)), some (.ref (ad G 40 0)), some (.int i)] [] σ := by
  have M := MX.m
  have b1 : 0 ≤ i + 1 := (hb 1 (by omega)).1
  have d1 : i + 1 < nI L := (hb 1 (by omega)).2
  have b2 : 0 ≤ i + 2 := (hb 2 (by omega)).1
  have d2 : i + 2 < nI L := (hb 2 (by omega)).2
  have b3 : 0 ≤ i + 3 := (hb 3 (by omega)).1
  have d3 : i + 3 < nI L := (hb 3 (by omega)).2
  have b4 : 0 ≤ i + 4 := (hb 4 (by omega)).1
  have d4 : i + 4 < nI L := (hb 4 (by omega)).2
  have b5 : 0 ≤ i + 5 := (hb 5 (by omega)).1
  have d5 : i + 5 < nI L := (hb 5 (by omega)).2
  have b6 : 0 ≤ i + 6 := (hb 6 (by omega)).1
  have d6 : i + 6 < nI L := (hb 6 (by omega)).2
  refine j_aload_n M dL_law_1478 rfl ?_
  refine j_aload_n M dL_law_1479 rfl ?_
  refine j_iload_n M dL_law_1480 rfl ?_
  refine j_iconst (v := 1) M dL_law_1481 rfl ?_
  refine j_iadd M dL_law_1482 ?_
  refine j_sld MX hL dL_law_1483 b1 d1 ?_
  refine j_inv1 M lk_L_169 (c_X6_count (hR.S) (hR.L)) rv_X6 dL_law_1484 (Nat.le_of_ble_eq_true rfl) ⟨(Nat.le_of_ble_eq_true rfl), (Nat.le_of_ble_eq_true rfl)⟩ (kI fun r_1484 σ_1484 q_1484 => ?_)
  have t40 : σ_1484 40 = σ 40 := k_count q_1484
  refine j_aload_n M dL_law_1487 rfl ?_
  refine j_aload_n M dL_law_1488 rfl ?_
  refine j_iload_n M dL_law_1489 rfl ?_
  refine j_iconst (v := 1) M dL_law_1490 rfl ?_
  refine j_iadd M dL_law_1491 ?_
  refine j_sld MX hL dL_law_1492 b1 d1 ?_
  refine j_inv1 M lk_L_172 (c_X7_count ((by rw [t40]; exact hR.S.w))) rv_X7 dL_law_1493 (Nat.le_of_ble_eq_true rfl) ⟨(Nat.le_of_ble_eq_true rfl), (Nat.le_of_ble_eq_true rfl)⟩ (kI fun r_1493 σ_1493 q_1493 => ?_)
  obtain ⟨er, hR2⟩ := st_count hR q_1484 q_1493
  refine j_icmp_eq (tgt := 1514) M dL_law_1496 (by decide) (fun h_1496 => ?_) (fun h_1496 => ?_)
  · exact ih _ hR2
  · exact absurd er h_1496
set_option maxRecDepth 100000 in
theorem lw_status {l : Launch} {G : Gw} {post : Option Value → Sg → Prop} {Φ : Ph} {b L : Nat} {xs : Nat → Int32} {i : Int32} {σ : Sg} (MX : MachX l G 8 198 post Φ b L xs) (hL : L < 2147483648) (hR : Rel σ) (hb : ∀ j : Nat, j < 7 → 0 ≤ i + nI j ∧ i + nI j < nI L) (ih : ∀ τ : Sg, Rel τ → Φ 1514 [some (.ref b), some (.ref (ad G 0 0)), some (.ref (ad G 40 0)), some (.int i)] [] τ) : Φ 1501 [some (.ref b), some (.ref (ad G 0 0)), some (.ref (ad G 40 0)), some (.int i)] [] σ := by
  have M := MX.m
  have b1 : 0 ≤ i + 1 := (hb 1 (by omega)).1
  have d1 : i + 1 < nI L := (hb 1 (by omega)).2
  have b2 : 0 ≤ i + 2 := (hb 2 (by omega)).1
  have d2 : i + 2 < nI L := (hb 2 (by omega)).2
  have b3 : 0 ≤ i + 3 := (hb 3 (by omega)).1
  have d3 : i + 3 < nI L := (hb 3 (by omega)).2
  have b4 : 0 ≤ i + 4 := (hb 4 (by omega)).1
  have d4 : i + 4 < nI L := (hb 4 (by omega)).2
  have b5 : 0 ≤ i + 5 := (hb 5 (by omega)).1
  have d5 : i + 5 < nI L := (hb 5 (by omega)).2
  have b6 : 0 ≤ i + 6 := (hb 6 (by omega)).1
  have d6 : i + 6 < nI L := (hb 6 (by omega)).2
  refine j_aload_n M dL_law_1501 rfl ?_
  refine j_inv0 M lk_L_173 (c_X6_status) rv_X6 dL_law_1502 (Nat.le_of_ble_eq_true rfl) ⟨(Nat.le_of_ble_eq_true rfl), (Nat.le_of_ble_eq_true rfl)⟩ (kI fun r_1502 σ_1502 q_1502 => ?_)
  have t40 : σ_1502 40 = σ 40 := k_status q_1502
  refine j_aload_n M dL_law_1505 rfl ?_
  refine j_inv0 M lk_L_176 (c_X7_status) rv_X7 dL_law_1506 (Nat.le_of_ble_eq_true rfl) ⟨(Nat.le_of_ble_eq_true rfl), (Nat.le_of_ble_eq_true rfl)⟩ (kI fun r_1506 σ_1506 q_1506 => ?_)
  obtain ⟨er, hR2⟩ := st_status hR q_1502 q_1506
  refine j_icmp_eq (tgt := 1514) M dL_law_1509 (by decide) (fun h_1509 => ?_) (fun h_1509 => ?_)
  · exact ih _ hR2
  · exact absurd er h_1509
