set_option maxRecDepth 100000 in
theorem lw_keepIt {l : Launch} {G : Gw} {post : Option Value → Sg → Prop} {Φ : Ph} {b L : Nat} {xs : Nat → Int32} {i : Int32} {σ : Sg} (MX : MachX l G 8 198 post Φ b L xs) (hL : L < 2147483648) (hR : Rel σ) (hb : ∀ j : Nat, j < 7 → 0 ≤ i + nI j ∧ i + nI j < nI L) (ih : ∀ τ : Sg, Rel τ → Φ 1514 [some (.ref b), some (.ref (ad G 0 0)), some (.ref (ad G 40 0)), some (.int i)] [] τ) : Φ 494 [some (.ref b), some (.ref (ad G 0 0)), some (.ref (ad G 40 0)), some (.int i)] [] σ := by
  have M := MX.m
  have b1 : 0 ≤ i + 1 := (hb 1 (by omega)).1
  have d1 : i + 1 < nI L := (hb 1 (by omega)).2
  have b2 : 0 ≤ i + 2 := (hb 2 (by omega)).1
  have d2 : i + 2 < nI L := (hb 2 (by omega)).2
  have b3 : 0 ≤ i + 3 := (hb 3 (by omega)).1
  have d3 : i + 3 < nI L := (hb 3 (by omega)).2
  have b4 : 0 ≤ i + 4 := (hb 4 (by omega)).1
  have d4 : i + 4 < nI L := (hb 4 (by omega)).2
  have b5 : 0 ≤ i + 5 := (hb 5 (by omega)).1
  have d5 : i + 5 < nI L := (hb 5 (by omega)).2
  have b6 : 0 ≤ i + 6 := (hb 6 (by omega)).1
  have d6 : i + 6 < nI L := (hb 6 (by omega)).2
  refine j_aload_n M dL_law_494 rfl ?_
  refine j_aload_n M dL_law_495 rfl ?_
  refine j_iload_n M dL_law_496 rfl ?_
  refine j_iconst (v := 1) M dL_law_497 rfl ?_
  refine j_iadd M dL_law_498 ?_
  refine j_sld MX hL dL_law_499 b1 d1 ?_
  refine j_aload_n M dL_law_500 rfl ?_
  refine j_iload_n M dL_law_501 rfl ?_
  refine j_iconst (v := 2) M dL_law_502 rfl ?_
  refine j_iadd M dL_law_503 ?_
  refine j_sld MX hL dL_law_504 b2 d2 ?_
  refine j_inv2 M lk_L_58 (c_X6_keepIt (hR.S) (hR.L) (hR.A)) rv_X6 dL_law_505 (Nat.le_of_ble_eq_true rfl) ⟨(Nat.le_of_ble_eq_true rfl), (Nat.le_of_ble_eq_true rfl)⟩ (kI fun r_505 σ_505 q_505 => ?_)
  have t40 : σ_505 40 = σ 40 := k_keepIt q_505
  refine j_aload_n M dL_law_508 rfl ?_
  refine j_aload_n M dL_law_509 rfl ?_
  refine j_iload_n M dL_law_510 rfl ?_
  refine j_iconst (v := 1) M dL_law_511 rfl ?_
  refine j_iadd M dL_law_512 ?_
  refine j_sld MX hL dL_law_513 b1 d1 ?_
  refine j_aload_n M dL_law_514 rfl ?_
  refine j_iload_n M dL_law_515 rfl ?_
  refine j_iconst (v := 2) M dL_law_516 rfl ?_
  refine j_iadd M dL_law_517 ?_
  refine j_sld MX hL dL_law_518 b2 d2 ?_
  refine j_inv2 M lk_L_61 (c_X7_keepIt ((by rw [t40]; exact hR.S.w)) ((by rw [t40]; exact hR.m))) rv_X7 dL_law_519 (Nat.le_of_ble_eq_true rfl) ⟨(Nat.le_of_ble_eq_true rfl), (Nat.le_of_ble_eq_true rfl)⟩ (kI fun r_519 σ_519 q_519 => ?_)
  obtain ⟨er, hR2⟩ := st_keepIt hR q_505 q_519
  refine j_icmp_eq (tgt := 1514) M dL_law_522 (by decide) (fun h_522 => ?_) (fun h_522 => ?_)
  · exact ih _ hR2
  · exact absurd er h_522
set_option maxRecDepth 100000 in
theorem lw_change {l : Launch} {G : Gw} {post : Option Value → Sg → Prop} {Φ : Ph} {b L : Nat} {xs : Nat → Int32} {i : Int32} {σ : Sg} (MX : MachX l G 8 198 post Φ b L xs) (hL : L < 2147483648) (hR : Rel σ) (hb : ∀ j : Nat, j < 7 → 0 ≤ i + nI j ∧ i + nI j < nI L) (ih : ∀ τ : Sg, Rel τ → Φ 1514 [some (.ref b), some (.ref (ad G 0 0)), some (.ref (ad G 40 0)), some (.int i)] [] τ) : Φ 527 [some (.ref b), some (.ref (ad G 0 0)), some (.ref (ad G 40 0)), some (.int i)] [] σ := by
  have M := MX.m
  have b1 : 0 ≤ i + 1 := (hb 1 (by omega)).1
  have d1 : i + 1 < nI L := (hb 1 (by omega)).2
  have b2 : 0 ≤ i + 2 := (hb 2 (by omega)).1
  have d2 : i + 2 < nI L := (hb 2 (by omega)).2
  have b3 : 0 ≤ i + 3 := (hb 3 (by omega)).1
  have d3 : i + 3 < nI L := (hb 3 (by omega)).2
  have b4 : 0 ≤ i + 4 := (hb 4 (by omega)).1
  have d4 : i + 4 < nI L := (hb 4 (by omega)).2
  have b5 : 0 ≤ i + 5 := (hb 5 (by omega)).1
  have d5 : i + 5 < nI L := (hb 5 (by omega)).2
  have b6 : 0 ≤ i + 6 := (hb 6 (by omega)).1
  have d6 : i + 6 < nI L := (hb 6 (by omega)).2
  refine j_aload_n M dL_law_527 rfl ?_
  refine j_aload_n M dL_law_528 rfl ?_
  refine j_iload_n M dL_law_529 rfl ?_
  refine j_iconst (v := 1) M dL_law_530 rfl ?_
  refine j_iadd M dL_law_531 ?_
  refine j_sld MX hL dL_law_532 b1 d1 ?_
  refine j_aload_n M dL_law_533 rfl ?_
  refine j_iload_n M dL_law_534 rfl ?_
  refine j_iconst (v := 2) M dL_law_535 rfl ?_
  refine j_iadd M dL_law_536 ?_
  refine j_sld MX hL dL_law_537 b2 d2 ?_
  refine j_inv2 M lk_L_62 (c_X6_change (hR.S) (hR.L) (hR.A)) rv_X6 dL_law_538 (Nat.le_of_ble_eq_true rfl) ⟨(Nat.le_of_ble_eq_true rfl), (Nat.le_of_ble_eq_true rfl)⟩ (kI fun r_538 σ_538 q_538 => ?_)
  have t40 : σ_538 40 = σ 40 := k_change q_538
  refine j_aload_n M dL_law_541 rfl ?_
  refine j_aload_n M dL_law_542 rfl ?_
  refine j_iload_n M dL_law_543 rfl ?_
  refine j_iconst (v := 1) M dL_law_544 rfl ?_
  refine j_iadd M dL_law_545 ?_
  refine j_sld MX hL dL_law_546 b1 d1 ?_
  refine j_aload_n M dL_law_547 rfl ?_
  refine j_iload_n M dL_law_548 rfl ?_
  refine j_iconst (v := 2) M dL_law_549 rfl ?_
  refine j_iadd M dL_law_550 ?_
  refine j_sld MX hL dL_law_551 b2 d2 ?_
  refine j_inv2 M lk_L_65 (c_X7_change ((by rw [t40]; exact hR.S.w)) ((by rw [t40]; exact hR.m))) rv_X7 dL_law_552 (Nat.le_of_ble_eq_true rfl) ⟨(Nat.le_of_ble_eq_true rfl), (Nat.le_of_ble_eq_true rfl)⟩ (kI fun r_552 σ_552 q_552 => ?_)
  obtain ⟨er, hR2⟩ := st_change hR q_538 q_552
  refine j_icmp_eq (tgt := 1514) M dL_law_555 (by decide) (fun h_555 => ?_) (fun h_555 => ?_)
  · exact ih _ hR2
  · exact absurd er h_555
set_option maxRecDepth 100000 in
theorem lw_move {l : Launch} {G : Gw} {post : Option Value → Sg → Prop} {Φ : Ph} {b L : Nat} {xs : Nat → Int32} {i : Int32} {σ : Sg} (MX : MachX l G 8 198 post Φ b L xs) (hL : L < 2147483648) (hR : Rel σ) (hb : ∀ j : Nat, j < 7 → 0 ≤ i + nI j ∧ i + nI j < nI L) (ih : ∀ τ : Sg, Rel τ → Φ 1514 [some (.ref b), some (.ref (ad G 0 0)), some (.ref (ad G 40 0)), some (.int i)] [] τ) : Φ 560 [some (.ref b), some (.ref (ad G 0 0)), some (.ref (ad G 40 0)), some (.int i)] [] σ := by
  have M := MX.m
  have b1 : 0 ≤ i + 1 := (hb 1 (by omega)).1
  have d1 : i + 1 < nI L := (hb 1 (by omega)).2
  have b2 : 0 ≤ i + 2 := (hb 2 (by omega)).1
  have d2 : i + 2 < nI L := (hb 2 (by omega)).2
  have b3 : 0 ≤ i + 3 := (hb 3 (by omega)).1
  have d3 : i + 3 < nI L := (hb 3 (by omega)).2
  have b4 : 0 ≤ i + 4 := (hb 4 (by omega)).1
  have d4 : i + 4 < nI L := (hb 4 (by omega)).2
  have b5 : 0 ≤ i + 5 := (hb 5 (by omega)).1
  have d5 : i + 5 < nI L := (hb 5 (by omega)).2
  have b6 : 0 ≤ i + 6 := (hb 6 (by omega)).1
  have d6 : i + 6 < nI L := (hb 6 (by omega)).2
  refine j_aload_n M dL_law_560 rfl ?_
  refine j_aload_n M dL_law_561 rfl ?_
  refine j_iload_n M dL_law_562 rfl ?_
  refine j_iconst (v := 1) M dL_law_563 rfl ?_
  refine j_iadd M dL_law_564 ?_
  refine j_sld MX hL dL_law_565 b1 d1 ?_
  refine j_aload_n M dL_law_566 rfl ?_
  refine j_iload_n M dL_law_567 rfl ?_
  refine j_iconst (v := 2) M dL_law_568 rfl ?_
  refine j_iadd M dL_law_569 ?_
  refine j_sld MX hL dL_law_570 b2 d2 ?_
  refine j_inv2 M lk_L_66 (c_X6_move (hR.S) (hR.L) (hR.A)) rv_X6 dL_law_571 (Nat.le_of_ble_eq_true rfl) ⟨(Nat.le_of_ble_eq_true rfl), (Nat.le_of_ble_eq_true rfl)⟩ (kI fun r_571 σ_571 q_571 => ?_)
  have t40 : σ_571 40 = σ 40 := k_move q_571
  refine j_aload_n M dL_law_574 rfl ?_
  refine j_aload_n M dL_law_575 rfl ?_
  refine j_iload_n M dL_law_576 rfl ?_
  refine j_iconst (v := 1) M dL_law_577 rfl ?_
  refine j_iadd M dL_law_578 ?_
  refine j_sld MX hL dL_law_579 b1 d1 ?_
  refine j_aload_n M dL_law_580 rfl ?_
  refine j_iload_n M dL_law_581 rfl ?_
  refine j_iconst (v := 2) M dL_law_582 rfl ?_
  refine j_iadd M dL_law_583 ?_
  refine j_sld MX hL dL_law_584 b2 d2 ?_
  refine j_inv2 M lk_L_69 (c_X7_move ((by rw [t40]; exact hR.S.w)) ((by rw [t40]; exact hR.m))) rv_X7 dL_law_585 (Nat.le_of_ble_eq_true rfl) ⟨(Nat.le_of_ble_eq_true rfl), (Nat.le_of_ble_eq_true rfl)⟩ (kI fun r_585 σ_585 q_585 => ?_)
  obtain ⟨er, hR2⟩ := st_move hR q_571 q_585
  refine j_icmp_eq (tgt := 1514) M dL_law_588 (by decide) (fun h_588 => ?_) (fun h_588 => ?_)
  · exact ih _ hR2
  · exact absurd er h_588
set_option maxRecDepth 100000 in
theorem lw_catchIt {l : Launch} {G : Gw} {post : Option Value → Sg → Prop} {Φ : Ph} {b L : Nat} {xs : Nat → Int32} {i : Int32} {σ : Sg} (MX : MachX l G 8 198 post Φ b L xs) (hL : L < 2147483648) (hR : Rel σ) (hb : ∀ j : Nat, j < 7 → 0 ≤ i + nI j ∧ i + nI j < nI L) (ih : ∀ τ : Sg, Rel τ → Φ 1514 [some (.ref b), some (.ref (ad G 0 0)), some (.ref (ad G 40 0)), some (.int i)] [] τ) : Φ 593 [some (.ref b), some (.ref (ad G 0 0)), some (.ref (ad G 40 0)), some (.int i)] [] σ := by
  have M := MX.m
  have b1 : 0 ≤ i + 1 := (hb 1 (by omega)).1
  have d1 : i + 1 < nI L := (hb 1 (by omega)).2
  have b2 : 0 ≤ i + 2 := (hb 2 (by omega)).1
  have d2 : i + 2 < nI L := (hb 2 (by omega)).2
  have b3 : 0 ≤ i + 3 := (hb 3 (by omega)).1
  have d3 : i + 3 < nI L := (hb 3 (by omega)).2
  have b4 : 0 ≤ i + 4 := (hb 4 (by omega)).1
  have d4 : i + 4 < nI L := (hb 4 (by omega)).2
  have b5 : 0 ≤ i + 5 := (hb 5 (by omega)).1
  have d5 : i + 5 < nI L := (hb 5 (by omega)).2
  have b6 : 0 ≤ i + 6 := (hb 6 (by omega)).1
  have d6 : i + 6 < nI L := (hb 6 (by omega)).2
  refine j_aload_n M dL_law_593 rfl ?_
  refine j_aload_n M dL_law_594 rfl ?_
  refine j_iload_n M dL_law_595 rfl ?_
  refine j_iconst (v := 1) M dL_law_596 rfl ?_
  refine j_iadd M dL_law_597 ?_
  refine j_sld MX hL dL_law_598 b1 d1 ?_
  refine j_inv1 M lk_L_70 (c_X6_catchIt (hR.S) (hR.L) (hR.A)) rv_X6 dL_law_599 (Nat.le_of_ble_eq_true rfl) ⟨(Nat.le_of_ble_eq_true rfl), (Nat.le_of_ble_eq_true rfl)⟩ (kI fun r_599 σ_599 q_599 => ?_)
  have t40 : σ_599 40 = σ 40 := k_catchIt q_599
  refine j_aload_n M dL_law_602 rfl ?_
  refine j_aload_n M dL_law_603 rfl ?_
  refine j_iload_n M dL_law_604 rfl ?_
  refine j_iconst (v := 1) M dL_law_605 rfl ?_
  refine j_iadd M dL_law_606 ?_
  refine j_sld MX hL dL_law_607 b1 d1 ?_
  refine j_inv1 M lk_L_73 (c_X7_catchIt ((by rw [t40]; exact hR.S.w)) ((by rw [t40]; exact hR.m))) rv_X7 dL_law_608 (Nat.le_of_ble_eq_true rfl) ⟨(Nat.le_of_ble_eq_true rfl), (Nat.le_of_ble_eq_true rfl)⟩ (kI fun r_608 σ_608 q_608 => ?_)
  obtain ⟨er, hR2⟩ := st_catchIt hR q_599 q_608
  refine j_icmp_eq (tgt := 1514) M dL_law_611 (by decide) (fun h_611 => ?_) (fun h_611 => ?_)
  · exact ih _ hR2
  · exact absurd er h_611
set_option maxRecDepth 100000 in
theorem lw_book {l : Launch} {G : Gw} {post : Option Value → Sg → Prop} {Φ : Ph} {b L : Nat} {xs : Nat → Int32} {i : Int32} {σ : Sg} (MX : MachX l G 8 198 post Φ b L xs) (hL : L < 2147483648) (hR : Rel σ) (hb : ∀ j : Nat, j < 7 → 0 ≤ i + nI j ∧ i + nI j < nI L) (ih : ∀ τ : Sg, Rel τ → Φ 1514 [some (.ref b), some (.ref (ad G 0 0)), some (.ref (ad G 40 0)), some (.int i)] [] τ) : Φ 616 [some (.ref b), some (.ref (ad G 0 0)), some (.ref (ad G 40 0)), some (.int i)] [] σ := by
  have M := MX.m
  have b1 : 0 ≤ i + 1 := (hb 1 (by omega)).1
  have d1 : i + 1 < nI L := (hb 1 (by omega)).2
  have b2 : 0 ≤ i + 2 := (hb 2 (by omega)).1
  have d2 : i + 2 < nI L := (hb 2 (by omega)).2
  have b3 : 0 ≤ i + 3 := (hb 3 (by omega)).1
  have d3 : i + 3 < nI L := (hb 3 (by omega)).2
  have b4 : 0 ≤ i + 4 := (hb 4 (by omega)).1
  have d4 : i + 4 < nI L := (hb 4 (by omega)).2
  have b5 : 0 ≤ i + 5 := (hb 5 (by omega)).1
  have d5 : i + 5 < nI L := (hb 5 (by omega)).2
  have b6 : 0 ≤ i + 6 := (hb 6 (by omega)).1
  have d6 : i + 6 < nI L := (hb 6 (by omega)).2
  refine j_aload_n M dL_law_616 rfl ?_
  refine j_aload_n M dL_law_617 rfl ?_
  refine j_iload_n M dL_law_618 rfl ?_
  refine j_iconst (v := 1) M dL_law_619 rfl ?_
  refine j_iadd M dL_law_620 ?_
  refine j_sld MX hL dL_law_621 b1 d1 ?_
  refine j_aload_n M dL_law_622 rfl ?_
  refine j_iload_n M dL_law_623 rfl ?_
  refine j_iconst (v := 2) M dL_law_624 rfl ?_
  refine j_iadd M dL_law_625 ?_
  refine j_sld MX hL dL_law_626 b2 d2 ?_
  refine j_inv2 M lk_L_74 (c_X6_book (hR.S) (hR.L)) rv_X6 dL_law_627 (Nat.le_of_ble_eq_true rfl) ⟨(Nat.le_of_ble_eq_true rfl), (Nat.le_of_ble_eq_true rfl)⟩ (kI fun r_627 σ_627 q_627 => ?_)
  have t40 : σ_627 40 = σ 40 := k_book q_627
  refine j_aload_n M dL_law_630 rfl ?_
  refine j_aload_n M dL_law_631 rfl ?_
  refine j_iload_n M dL_law_632 rfl ?_
  refine j_iconst (v := 1) M dL_law_633 rfl ?_
  refine j_iadd M dL_law_634 ?_
  refine j_sld MX hL dL_law_635 b1 d1 ?_
  refine j_aload_n M dL_law_636 rfl ?_
  refine j_iload_n M dL_law_637 rfl ?_
  refine j_iconst (v := 2) M dL_law_638 rfl ?_
  refine j_iadd M dL_law_639 ?_
  refine j_sld MX hL dL_law_640 b2 d2 ?_
  refine j_inv2 M lk_L_77 (c_X7_book ((by rw [t40]; exact hR.S.w))) rv_X7 dL_law_641 (Nat.le_of_ble_eq_true rfl) ⟨(Nat.le_of_ble_eq_true rfl), (Nat.le_of_ble_eq_true rfl)⟩ (kI fun r_641 σ_641 q_641 => ?_)
  obtain ⟨er, hR2⟩ := st_book hR q_627 q_641
  refine j_icmp_eq (tgt := 1514) M dL_law_644 (by decide) (fun h_644 => ?_) (fun h_644 => ?_)
  · exact ih _ hR2
  · exact absurd er h_644
set_option maxRecDepth 100000 in
theorem lw_fish {l : Launch} {G : Gw} {post : Option Value → Sg → Prop} {Φ : Ph} {b L : Nat} {xs : Nat → Int32} {i : Int32} {σ : Sg} (MX : MachX l G 8 198 post Φ b L xs) (hL : L < 2147483648) (hR : Rel σ) (hb : ∀ j : Nat, j < 7 → 0 ≤ i + nI j ∧ i + nI j < nI L) (ih : ∀ τ : Sg, Rel τ → Φ 1514 [some (.ref b), some (.ref (ad G 0 0)), some (.ref (ad G 40 0)), some (.int i)] [] τ) : Φ 649 [some (.ref b), some (.ref (ad G 0 0)), some (.ref (ad G 40 0)), some (.int i)] [] σ := by
  have M := MX.m
  have b1 : 0 ≤ i + 1 := (hb 1 (by omega)).1
  have d1 : i + 1 < nI L := (hb 1 (by omega)).2
  have b2 : 0 ≤ i + 2 := (hb 2 (by omega)).1
  have d2 : i + 2 < nI L := (hb 2 (by omega)).2
  have b3 : 0 ≤ i + 3 := (hb 3 (by omega)).1
  have d3 : i + 3 < nI L := (hb 3 (by omega)).2
  have b4 : 0 ≤ i + 4 := (hb 4 (by omega)).1
  have d4 : i + 4 < nI L := (hb 4 (by omega)).2
  have b5 : 0 ≤ i + 5 := (hb 5 (by omega)).1
  have d5 : i + 5 < nI L := (hb 5 (by omega)).2
  have b6 : 0 ≤ i + 6 := (hb 6 (by omega)).1
  have d6 : i + 6 < nI L := (hb 6 (by omega)).2
  refine j_aload_n M dL_law_649 rfl ?_
  refine j_aload_n M dL_law_650 rfl ?_
  refine j_iload_n M dL_law_651 rfl ?_
  refine j_iconst (v := 1) M dL_law_652 rfl ?_
  refine j_iadd M dL_law_653 ?_
  refine j_sld MX hL dL_law_654 b1 d1 ?_
  refine j_aload_n M dL_law_655 rfl ?_
  refine j_iload_n M dL_law_656 rfl ?_
  refine j_iconst (v := 2) M dL_law_657 rfl ?_
  refine j_iadd M dL_law_658 ?_
  refine j_sld MX hL dL_law_659 b2 d2 ?_
  refine j_inv2 M lk_L_78 (c_X6_fish (hR.S) (hR.L)) rv_X6 dL_law_660 (Nat.le_of_ble_eq_true rfl) ⟨(Nat.le_of_ble_eq_true rfl), (Nat.le_of_ble_eq_true rfl)⟩ (kI fun r_660 σ_660 q_660 => ?_)
  have t40 : σ_660 40 = σ 40 := k_fish q_660
  refine j_aload_n M dL_law_663 rfl ?_
  refine j_aload_n M dL_law_664 rfl ?_
  refine j_iload_n M dL_law_665 rfl ?_
  refine j_iconst (v := 1) M dL_law_666 rfl ?_
  refine j_iadd M dL_law_667 ?_
  refine j_sld MX hL dL_law_668 b1 d1 ?_
  refine j_aload_n M dL_law_669 rfl ?_
  refine j_iload_n M dL_law_670 rfl ?_
  refine j_iconst (v := 2) M dL_law_671 rfl ?_
  refine j_iadd M dL_law_672 ?_
  refine j_sld MX hL dL_law_673 b2 d2 ?_
  refine j_inv2 M lk_L_81 (c_X7_fish ((by rw [t40]; exact hR.S.w))) rv_X7 dL_law_674 (Nat.le_of_ble_eq_true rfl) ⟨(Nat.le_of_ble_eq_true rfl), (Nat.le_of_ble_eq_true rfl)⟩ (kI fun r_674 σ_674 q_674 => ?_)
  obtain ⟨er, hR2⟩ := st_fish hR q_660 q_674
  refine j_icmp_eq (tgt := 1514) M dL_law_677 (by decide) (fun h_677 => ?_) (fun h_677 => ?_)
  · exact ih _ hR2
  · exact absurd er h_677
set_option maxRecDepth 100000 in
theorem lw_stand {l : Launch} {G : Gw} {post : Option Value → Sg → Prop} {Φ : Ph} {b L : Nat} {xs : Nat → Int32} {i : Int32} {σ : Sg} (MX : MachX l G 8 198 post Φ b L xs) (hL : L < 2147483648) (hR : Rel σ) (hb : ∀ j : Nat, j < 7 → 0 ≤ i + nI j ∧ i + nI j < nI L) (ih : ∀ τ : Sg, Rel τ → Φ 1514 [some (.ref b), some (.ref (ad G 0 0)), some (.ref (ad G 40 0)), some (.int i)] [] τ) : Φ 682 [some (.ref b), some (.ref (ad G 0 0)), some (.ref (ad G 40 0)), some (.int i)] [] σ := by
  have M := MX.m
  have b1 : 0 ≤ i + 1 := (hb 1 (by omega)).1
  have d1 : i + 1 < nI L := (hb 1 (by omega)).2
  have b2 : 0 ≤ i + 2 := (hb 2 (by omega)).1
  have d2 : i + 2 < nI L := (hb 2 (by omega)).2
  have b3 : 0 ≤ i + 3 := (hb 3 (by omega)).1
  have d3 : i + 3 < nI L := (hb 3 (by omega)).2
  have b4 : 0 ≤ i + 4 := (hb 4 (by omega)).1
  have d4 : i + 4 < nI L := (hb 4 (by omega)).2
  have b5 : 0 ≤ i + 5 := (hb 5 (by omega)).1
  have d5 : i + 5 < nI L := (hb 5 (by omega)).2
  have b6 : 0 ≤ i + 6 := (hb 6 (by omega)).1
  have d6 : i + 6 < nI L := (hb 6 (by omega)).2
  refine j_aload_n M dL_law_682 rfl ?_
  refine j_aload_n M dL_law_683 rfl ?_
  refine j_iload_n M dL_law_684 rfl ?_
  refine j_iconst (v := 1) M dL_law_685 rfl ?_
  refine j_iadd M dL_law_686 ?_
  refine j_sld MX hL dL_law_687 b1 d1 ?_
  refine j_inv1 M lk_L_82 (c_X6_stand (hR.S) (hR.L)) rv_X6 dL_law_688 (Nat.le_of_ble_eq_true rfl) ⟨(Nat.le_of_ble_eq_true rfl), (Nat.le_of_ble_eq_true rfl)⟩ (kI fun r_688 σ_688 q_688 => ?_)
  have t40 : σ_688 40 = σ 40 := k_stand q_688
  refine j_aload_n M dL_law_691 rfl ?_
  refine j_aload_n M dL_law_692 rfl ?_
  refine j_iload_n M dL_law_693 rfl ?_
  refine j_iconst (v := 1) M dL_law_694 rfl ?_
  refine j_iadd M dL_law_695 ?_
  refine j_sld MX hL dL_law_696 b1 d1 ?_
  refine j_inv1 M lk_L_85 (c_X7_stand ((by rw [t40]; exact hR.S.w))) rv_X7 dL_law_697 (Nat.le_of_ble_eq_true rfl) ⟨(Nat.le_of_ble_eq_true rfl), (Nat.le_of_ble_eq_true rfl)⟩ (kI fun r_697 σ_697 q_697 => ?_)
  obtain ⟨er, hR2⟩ := st_stand hR q_688 q_697
  refine j_icmp_eq (tgt := 1514) M dL_law_700 (by decide) (fun h_700 => ?_) (fun h_700 => ?_)
  · exact ih _ hR2
  · exact absurd er h_700
set_option maxRecDepth 100000 in
theorem lw_ahead {l : Launch} {G : Gw} {post : Option Value → Sg → Prop} {Φ : Ph} {b L : Nat} {xs : Nat → Int32} {i : Int32} {σ : Sg} (MX : MachX l G 8 198 post Φ b L xs) (hL : L < 2147483648) (hR : Rel σ) (hb : ∀ j : Nat, j < 7 → 0 ≤ i + nI j ∧ i + nI j < nI L) (ih : ∀ τ : Sg, Rel τ → Φ 1514 [some (.ref b), some (.ref (ad G 0 0)), some (.ref (ad G 40 0)), some (.int i)] [] τ) : Φ 705 [some (.ref b), some (.ref (ad G 0 0)), some (.ref (ad G 40 0)), some (.int i)] [] σ := by
  have M := MX.m
  have b1 : 0 ≤ i + 1 := (hb 1 (by omega)).1
  have d1 : i + 1 < nI L := (hb 1 (by omega)).2
  have b2 : 0 ≤ i + 2 := (hb 2 (by omega)).1
  have d2 : i + 2 < nI L := (hb 2 (by omega)).2
  have b3 : 0 ≤ i + 3 := (hb 3 (by omega)).1
  have d3 : i + 3 < nI L := (hb 3 (by omega)).2
  have b4 : 0 ≤ i + 4 := (hb 4 (by omega)).1
  have d4 : i + 4 < nI L := (hb 4 (by omega)).2
  have b5 : 0 ≤ i + 5 := (hb 5 (by omega)).1
  have d5 : i + 5 < nI L := (hb 5 (by omega)).2
  have b6 : 0 ≤ i + 6 := (hb 6 (by omega)).1
  have d6 : i + 6 < nI L := (hb 6 (by omega)).2
  refine j_aload_n M dL_law_705 rfl ?_
  refine j_aload_n M dL_law_706 rfl ?_
  refine j_iload_n M dL_law_707 rfl ?_
  refine j_iconst (v := 1) M dL_law_708 rfl ?_
  refine j_iadd M dL_law_709 ?_
  refine j_sld MX hL dL_law_710 b1 d1 ?_
  refine j_aload_n M dL_law_711 rfl ?_
  refine j_iload_n M dL_law_712 rfl ?_
  refine j_iconst (v := 2) M dL_law_713 rfl ?_
  refine j_iadd M dL_law_714 ?_
  refine j_sld MX hL dL_law_715 b2 d2 ?_
  refine j_aload_n M dL_law_716 rfl ?_
  refine j_iload_n M dL_law_717 rfl ?_
  refine j_iconst (v := 3) M dL_law_718 rfl ?_
  refine j_iadd M dL_law_719 ?_
  refine j_sld MX hL dL_law_720 b3 d3 ?_
  refine j_inv3 M lk_L_86 (c_X6_ahead (hR.S) (hR.L)) rv_X6 dL_law_721 (Nat.le_of_ble_eq_true rfl) ⟨(Nat.le_of_ble_eq_true rfl), (Nat.le_of_ble_eq_true rfl)⟩ (kI fun r_721 σ_721 q_721 => ?_)
  have t40 : σ_721 40 = σ 40 := k_ahead q_721
  refine j_aload_n M dL_law_724 rfl ?_
  refine j_aload_n M dL_law_725 rfl ?_
  refine j_iload_n M dL_law_726 rfl ?_
  refine j_iconst (v := 1) M dL_law_727 rfl ?_
  refine j_iadd M dL_law_728 ?_
  refine j_sld MX hL dL_law_729 b1 d1 ?_
  refine j_aload_n M dL_law_730 rfl ?_
  refine j_iload_n M dL_law_731 rfl ?_
  refine j_iconst (v := 2) M dL_law_732 rfl ?_
  refine j_iadd M dL_law_733 ?_
  refine j_sld MX hL dL_law_734 b2 d2 ?_
  refine j_aload_n M dL_law_735 rfl ?_
  refine j_iload_n M dL_law_736 rfl ?_
  refine j_iconst (v := 3) M dL_law_737 rfl ?_
  refine j_iadd M dL_law_738 ?_
  refine j_sld MX hL dL_law_739 b3 d3 ?_
  refine j_inv3 M lk_L_89 (c_X7_ahead ((by rw [t40]; exact hR.S.w))) rv_X7 dL_law_740 (Nat.le_of_ble_eq_true rfl) ⟨(Nat.le_of_ble_eq_true rfl), (Nat.le_of_ble_eq_true rfl)⟩ (kI fun r_740 σ_740 q_740 => ?_)
  obtain ⟨er, hR2⟩ := st_ahead hR q_721 q_740
  refine j_icmp_eq (tgt := 1514) M dL_law_743 (by decide) (fun h_743 => ?_) (fun h_743 => ?_)
  · exact ih _ hR2
  · exact absurd er h_743
set_option maxRecDepth 100000 in
theorem lw_later {l : Launch} {G : Gw} {post : Option Value → Sg → Prop} {Φ : Ph} {b L : Nat} {xs : Nat → Int32} {i : Int32} {σ : Sg} (MX : MachX l G 8 198 post Φ b L xs) (hL : L < 2147483648) (hR : Rel σ) (hb : ∀ j : Nat, j < 7 → 0 ≤ i + nI j ∧ i + nI j < nI L) (ih : ∀ τ : Sg, Rel τ → Φ 1514 [some (.ref b), some (.ref (ad G 0 0)), some (.ref (ad G 40 0)), some (.int i)] [] τ) : Φ 748 [some (.ref b), some (.ref (ad G 0 0)), some (.ref (ad G 40 0)), some (.int i)] [] σ := by
  have M := MX.m
  have b1 : 0 ≤ i + 1 := (hb 1 (by omega)).1
  have d1 : i + 1 < nI L := (hb 1 (by omega)).2
  have b2 : 0 ≤ i + 2 := (hb 2 (by omega)).1
  have d2 : i + 2 < nI L := (hb 2 (by omega)).2
  have b3 : 0 ≤ i + 3 := (hb 3 (by omega)).1
  have d3 : i + 3 < nI L := (hb 3 (by omega)).2
  have b4 : 0 ≤ i + 4 := (hb 4 (by omega)).1
  have d4 : i + 4 < nI L := (hb 4 (by omega)).2
  have b5 : 0 ≤ i + 5 := (hb 5 (by omega)).1
  have d5 : i + 5 < nI L := (hb 5 (by omega)).2
  have b6 : 0 ≤ i + 6 := (hb 6 (by omega)).1
  have d6 : i + 6 < nI L := (hb 6 (by omega)).2
  refine j_aload_n M dL_law_748 rfl ?_
  refine j_aload_n M dL_law_749 rfl ?_
  refine j_iload_n M dL_law_750 rfl ?_
  refine j_iconst (v := 1) M dL_law_751 rfl ?_
  refine j_iadd M dL_law_752 ?_
  refine j_sld MX hL dL_law_753 b1 d1 ?_
  refine j_aload_n M dL_law_754 rfl ?_
  refine j_iload_n M dL_law_755 rfl ?_
  refine j_iconst (v := 2) M dL_law_756 rfl ?_
  refine j_iadd M dL_law_757 ?_
  refine j_sld MX hL dL_law_758 b2 d2 ?_
  refine j_aload_n M dL_law_759 rfl ?_
  refine j_iload_n M dL_law_760 rfl ?_
  refine j_iconst (v := 3) M dL_law_761 rfl ?_
  refine j_iadd M dL_law_762 ?_
  refine j_sld MX hL dL_law_763 b3 d3 ?_
  refine j_inv3 M lk_L_90 (c_X6_later (hR.S) (hR.L)) rv_X6 dL_law_764 (Nat.le_of_ble_eq_true rfl) ⟨(Nat.le_of_ble_eq_true rfl), (Nat.le_of_ble_eq_true rfl)⟩ (kI fun r_764 σ_764 q_764 => ?_)
  have t40 : σ_764 40 = σ 40 := k_later q_764
  refine j_aload_n M dL_law_767 rfl ?_
  refine j_aload_n M dL_law_768 rfl ?_
  refine j_iload_n M dL_law_769 rfl ?_
  refine j_iconst (v := 1) M dL_law_770 rfl ?_
  refine j_iadd M dL_law_771 ?_
  refine j_sld MX hL dL_law_772 b1 d1 ?_
  refine j_aload_n M dL_law_773 rfl ?_
  refine j_iload_n M dL_law_774 rfl ?_
  refine j_iconst (v := 2) M dL_law_775 rfl ?_
  refine j_iadd M dL_law_776 ?_
  refine j_sld MX hL dL_law_777 b2 d2 ?_
  refine j_aload_n M dL_law_778 rfl ?_
  refine j_iload_n M dL_law_779 rfl ?_
  refine j_iconst (v := 3) M dL_law_780 rfl ?_
  refine j_iadd M dL_law_781 ?_
  refine j_sld MX hL dL_law_782 b3 d3 ?_
  refine j_inv3 M lk_L_93 (c_X7_later ((by rw [t40]; exact hR.S.w))) rv_X7 dL_law_783 (Nat.le_of_ble_eq_true rfl) ⟨(Nat.le_of_ble_eq_true rfl), (Nat.le_of_ble_eq_true rfl)⟩ (kI fun r_783 σ_783 q_783 => ?_)
  obtain ⟨er, hR2⟩ := st_later hR q_764 q_783
  refine j_icmp_eq (tgt := 1514) M dL_law_786 (by decide) (fun h_786 => ?_) (fun h_786 => ?_)
  · exact ih _ hR2
  · exact absurd er h_786
set_option maxRecDepth 100000 in
theorem lw_when {l : Launch} {G : Gw} {post : Option Value → Sg → Prop} {Φ : Ph} {b L : Nat} {xs : Nat → Int32} {i : Int32} {σ : Sg} (MX : MachX l G 8 198 post Φ b L xs) (hL : L < 2147483648) (hR : Rel σ) (hb : ∀ j : Nat, j < 7 → 0 ≤ i + nI j ∧ i + nI j < nI L) (ih : ∀ τ : Sg, Rel τ → Φ 1514 [some (.ref b), some (.ref (ad G 0 0)), some (.ref (ad G 40 0)), some (.int i)] [] τ) : Φ 791 [some (.ref b), some (.ref (ad G 0 0)), some (.ref (ad G 40 0)), some (.int i)] [] σ := by
  have M := MX.m
  have b1 : 0 ≤ i + 1 := (hb 1 (by omega)).1
  have d1 : i + 1 < nI L := (hb 1 (by omega)).2
  have b2 : 0 ≤ i + 2 := (hb 2 (by omega)).1
  have d2 : i + 2 < nI L := (hb 2 (by omega)).2
  have b3 : 0 ≤ i + 3 := (hb 3 (by omega)).1
  have d3 : i + 3 < nI L := (hb 3 (by omega)).2
  have b4 : 0 ≤ i + 4 := (hb 4 (by omega)).1
  have d4 : i + 4 < nI L := (hb 4 (by omega)).2
  have b5 : 0 ≤ i + 5 := (hb 5 (by omega)).1
  have d5 : i + 5 < nI L := (hb 5 (by omega)).2
  have b6 : 0 ≤ i + 6 := (hb 6 (by omega)).1
  have d6 : i + 6 < nI L := (hb 6 (by omega)).2
  refine j_aload_n M dL_law_791 rfl ?_
  refine j_aload_n M dL_law_792 rfl ?_
  refine j_iload_n M dL_law_793 rfl ?_
  refine j_iconst (v := 1) M dL_law_794 rfl ?_
  refine j_iadd M dL_law_795 ?_
  refine j_sld MX hL dL_law_796 b1 d1 ?_
  refine j_inv1 M lk_L_94 (c_X6_when (hR.S) (hR.L)) rv_X6 dL_law_797 (Nat.le_of_ble_eq_true rfl) ⟨(Nat.le_of_ble_eq_true rfl), (Nat.le_of_ble_eq_true rfl)⟩ (kI fun r_797 σ_797 q_797 => ?_)
  have t40 : σ_797 40 = σ 40 := k_when q_797
  refine j_aload_n M dL_law_800 rfl ?_
  refine j_aload_n M dL_law_801 rfl ?_
  refine j_iload_n M dL_law_802 rfl ?_
  refine j_iconst (v := 1) M dL_law_803 rfl ?_
  refine j_iadd M dL_law_804 ?_
  refine j_sld MX hL dL_law_805 b1 d1 ?_
  refine j_inv1 M lk_L_97 (c_X7_when ((by rw [t40]; exact hR.S.w))) rv_X7 dL_law_806 (Nat.le_of_ble_eq_true rfl) ⟨(Nat.le_of_ble_eq_true rfl), (Nat.le_of_ble_eq_true rfl)⟩ (kI fun r_806 σ_806 q_806 => ?_)
  obtain ⟨er, hR2⟩ := st_when hR q_797 q_806
  refine j_icmp_eq (tgt := 1514) M dL_law_809 (by decide) (fun h_809 => ?_) (fun h_809 => ?_)
  · exact ih _ hR2
  · exact absurd er h_809
