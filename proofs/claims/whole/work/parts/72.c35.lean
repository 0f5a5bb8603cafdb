def fdR (L Z : St) (w i n : Int32) : Int32 := if ¬ (0 ≤ w ∧ w < 8) ∨ L w = -1 then 1 else if ¬ i < 0 ∧ ¬ n < 0 ∧ ¬ Z w < n ∧ ¬ Z w - n < i then 0 else 2
theorem fd_rng {L : St} {w : Int32} (h : ¬ (¬ (0 ≤ w ∧ w < 8) ∨ L w = -1)) : 0 ≤ w ∧ w < 8 := Classical.byContradiction (fun q => h (Or.inl q))
set_option maxRecDepth 100000 in
theorem c_X4_isRow {l : Launch} {G : Gw} {σ : Sg} {w : Int32}   : Mt l G yX4_isRow cX4_isRow 1 (some .boolean) 0 0 [.int w] σ (pI fun r τ => τ = σ ∧ r = if 0 ≤ w ∧ w < 8 then 1 else 0) := by
  refine mt_intro (by decide +kernel) (Nat.le_of_ble_eq_true rfl) (fun Φ M => ?_)
  show Φ 0 [some (.int w)] [] σ
  refine j_iload_n M dX4_isRow_0 rfl ?_
  refine j_if_lt (tgt := 14) M dX4_isRow_1 (by decide) (fun h_1 => ?_) (fun h_1 => ?_)
  · refine j_iconst (v := 0) M dX4_isRow_14 rfl ?_
    exact j_zret M dX4_isRow_15 (by first | exact Or.inl rfl | exact Or.inr rfl | exact bitv_01 _ _ | assumption | (exact res_01 (by assumption)) | grind) ⟨_, rfl, by (try dsimp only); first | (simp [h_1]; done) | (refine ⟨rfl, ?_⟩; grind)⟩
  · refine j_iload_n M dX4_isRow_4 rfl ?_
    refine j_bipush (v := 8) M dX4_isRow_5 rfl ?_
    refine j_icmp_ge (tgt := 14) M dX4_isRow_7 (by decide) (fun h_7 => ?_) (fun h_7 => ?_)
    · refine j_iconst (v := 0) M dX4_isRow_14 rfl ?_
      exact j_zret M dX4_isRow_15 (by first | exact Or.inl rfl | exact Or.inr rfl | exact bitv_01 _ _ | assumption | (exact res_01 (by assumption)) | grind) ⟨_, rfl, by (try dsimp only); first | (simp [h_1, h_7]; done) | (refine ⟨rfl, ?_⟩; grind)⟩
    · refine j_iconst (v := 1) M dX4_isRow_10 rfl ?_
      refine j_goto (tgt := 15) M dX4_isRow_11 (by decide) ?_
      exact j_zret M dX4_isRow_15 (by first | exact Or.inl rfl | exact Or.inr rfl | exact bitv_01 _ _ | assumption | (exact res_01 (by assumption)) | grind) ⟨_, rfl, by (try dsimp only); first | (simp [h_1, h_7]; done) | (refine ⟨rfl, ?_⟩; grind)⟩
set_option maxRecDepth 100000 in
theorem c_X4_isLane {l : Launch} {G : Gw} {σ : Sg} {w : Int32}   : Mt l G yX4_isLane cX4_isLane 1 (some .boolean) 0 0 [.int w] σ (pI fun r τ => τ = σ ∧ r = if 0 ≤ w ∧ w ≤ 2 then 1 else 0) := by
  refine mt_intro (by decide +kernel) (Nat.le_of_ble_eq_true rfl) (fun Φ M => ?_)
  show Φ 0 [some (.int w)] [] σ
  refine j_iload_n M dX4_isLane_0 rfl ?_
  refine j_if_lt (tgt := 13) M dX4_isLane_1 (by decide) (fun h_1 => ?_) (fun h_1 => ?_)
  · refine j_iconst (v := 0) M dX4_isLane_13 rfl ?_
    exact j_zret M dX4_isLane_14 (by first | exact Or.inl rfl | exact Or.inr rfl | exact bitv_01 _ _ | assumption | (exact res_01 (by assumption)) | grind) ⟨_, rfl, by (try dsimp only); first | (simp [h_1]; done) | (refine ⟨rfl, ?_⟩; grind)⟩
  · refine j_iload_n M dX4_isLane_4 rfl ?_
    refine j_iconst (v := 2) M dX4_isLane_5 rfl ?_
    refine j_icmp_gt (tgt := 13) M dX4_isLane_6 (by decide) (fun h_6 => ?_) (fun h_6 => ?_)
    · refine j_iconst (v := 0) M dX4_isLane_13 rfl ?_
      exact j_zret M dX4_isLane_14 (by first | exact Or.inl rfl | exact Or.inr rfl | exact bitv_01 _ _ | assumption | (exact res_01 (by assumption)) | grind) ⟨_, rfl, by (try dsimp only); first | (simp [h_1, h_6]; done) | (refine ⟨rfl, ?_⟩; grind)⟩
    · refine j_iconst (v := 1) M dX4_isLane_9 rfl ?_
      refine j_goto (tgt := 14) M dX4_isLane_10 (by decide) ?_
      exact j_zret M dX4_isLane_14 (by first | exact Or.inl rfl | exact Or.inr rfl | exact bitv_01 _ _ | assumption | (exact res_01 (by assumption)) | grind) ⟨_, rfl, by (try dsimp only); first | (simp [h_1, h_6]; done) | (refine ⟨rfl, ?_⟩; grind)⟩
set_option maxRecDepth 100000 in
theorem c_X4_isMissing {l : Launch} {G : Gw} {σ : Sg} {w : Int32}   : Mt l G yX4_isMissing cX4_isMissing 2 (some .boolean) 1 20 [.ref (ad G 1 0), .int w] σ (pI fun r τ => τ = σ ∧ r = if ¬ (0 ≤ w ∧ w < 8) ∨ σ 1 1 w = -1 then 1 else 0) := by
  refine mt_intro (by decide +kernel) (Nat.le_of_ble_eq_true rfl) (fun Φ M => ?_)
  show Φ 0 [some (.ref (ad G 1 0)), some (.int w)] [] σ
  refine j_iload_n M dX4_isMissing_0 rfl ?_
  refine j_invs1 M lk_X4_28 (c_X4_isRow) dX4_isMissing_1 (Nat.le_of_ble_eq_true rfl) ⟨(Nat.le_of_ble_eq_true rfl), (Nat.le_of_ble_eq_true rfl)⟩ (kP fun r_1 k_1 => ?_)
  refine j_if_eq (tgt := 17) M dX4_isMissing_4 (by decide) (fun h_4 => ?_) (fun h_4 => ?_)
  · have b_1 := ifF k_1 h_4
    refine j_iconst (v := 1) M dX4_isMissing_17 rfl ?_
    refine j_goto (tgt := 22) M dX4_isMissing_18 (by decide) ?_
    exact j_zret M dX4_isMissing_22 (by first | exact Or.inl rfl | exact Or.inr rfl | exact bitv_01 _ _ | assumption | (exact res_01 (by assumption)) | grind) ⟨_, rfl, by (try dsimp only); first | (simp [b_1]; done) | (simp_all; done) | (refine ⟨rfl, ?_⟩; grind)⟩
  · have b_1 := ifT k_1 h_4
    refine j_aload_n M dX4_isMissing_7 rfl ?_
    refine gf_X4_11 M dX4_isMissing_8 ?_
    refine j_iload_n M dX4_isMissing_11 rfl ?_
    refine al_1_1 M dX4_isMissing_12 (by first | assumption | decide | exact b_1.1 | exact b_1.2) (by first | assumption | decide | exact b_1.1 | exact b_1.2) ?_
    refine j_iconst (v := (-1)) M dX4_isMissing_13 rfl ?_
    refine j_icmp_ne (tgt := 21) M dX4_isMissing_14 (by decide) (fun h_14 => ?_) (fun h_14 => ?_)
    · refine j_iconst (v := 0) M dX4_isMissing_21 rfl ?_
      exact j_zret M dX4_isMissing_22 (by first | exact Or.inl rfl | exact Or.inr rfl | exact bitv_01 _ _ | assumption | (exact res_01 (by assumption)) | grind) ⟨_, rfl, by (try dsimp only); first | (simp [b_1, h_14]; done) | (simp_all; done) | (refine ⟨rfl, ?_⟩; grind)⟩
    · refine j_iconst (v := 1) M dX4_isMissing_17 rfl ?_
      refine j_goto (tgt := 22) M dX4_isMissing_18 (by decide) ?_
      exact j_zret M dX4_isMissing_22 (by first | exact Or.inl rfl | exact Or.inr rfl | exact bitv_01 _ _ | assumption | (exact res_01 (by assumption)) | grind) ⟨_, rfl, by (try dsimp only); first | (simp [b_1, h_14]; done) | (simp_all; done) | (refine ⟨rfl, ?_⟩; grind)⟩
set_option maxRecDepth 100000 in
theorem c_X4_findingAt {l : Launch} {G : Gw} {σ : Sg} {w : Int32} {i : Int32} {n : Int32}   : Mt l G yX4_findingAt cX4_findingAt 5 (some .int) 2 41 [.ref (ad G 1 0), .int w, .int i, .int n] σ (pI fun r τ => τ = σ ∧ r = fdR (σ 1 1) (σ 1 2) w i n) := by
  refine mt_intro (by decide +kernel) (Nat.le_of_ble_eq_true rfl) (fun Φ M => ?_)
  show Φ 0 [some (.ref (ad G 1 0)), some (.int w), some (.int i), some (.int n), none] [] σ
  refine j_aload_n M dX4_findingAt_0 rfl ?_
  refine j_iload_n M dX4_findingAt_1 rfl ?_
  refine j_inv1 M lk_X4_32 (c_X4_isMissing) rv_X4 dX4_findingAt_2 (Nat.le_of_ble_eq_true rfl) ⟨(Nat.le_of_ble_eq_true rfl), (Nat.le_of_ble_eq_true rfl)⟩ (kP fun r_2 k_2 => ?_)
  refine j_if_eq (tgt := 10) M dX4_findingAt_5 (by decide) (fun h_5 => ?_) (fun h_5 => ?_)
  · have b_2 := ifF k_2 h_5
    have wr := fd_rng b_2
    refine j_iload_n M dX4_findingAt_10 rfl ?_
    refine j_if_lt (tgt := 44) M dX4_findingAt_11 (by decide) (fun h_11 => ?_) (fun h_11 => ?_)
    · refine j_iconst (v := 0) M dX4_findingAt_44 rfl ?_
      refine j_istore_4 M dX4_findingAt_45 (by exact (by first | trivial | rfl)) ?_
      refine j_iload M dX4_findingAt_47 rfl ?_
      refine j_if_eq (tgt := 56) M dX4_findingAt_49 (by decide) (fun h_49 => ?_) (fun h_49 => ?_)
      · refine j_iconst (v := 2) M dX4_findingAt_56 rfl ?_
        exact j_iret M dX4_findingAt_57 ⟨_, rfl, by (try dsimp only); first | exact absurd rfl h_49 | exact absurd h_49 (by decide) | exact ⟨rfl, by unfold fdR; rw [if_neg b_2]; simp only [b_2, h_11, h_49, not_false_eq_true, true_and, and_true, false_and, and_false, not_true_eq_false, if_true, if_false]⟩⟩
      · refine j_iconst (v := 0) M dX4_findingAt_52 rfl ?_
        refine j_goto (tgt := 57) M dX4_findingAt_53 (by decide) ?_
        exact j_iret M dX4_findingAt_57 ⟨_, rfl, by (try dsimp only); first | exact absurd rfl h_49 | exact absurd h_49 (by decide) | exact ⟨rfl, by unfold fdR; rw [if_neg b_2]; simp only [b_2, h_11, h_49, not_false_eq_true, true_and, and_true, false_and, and_false, not_true_eq_false, if_true, if_false]⟩⟩
    · refine j_iload_n M dX4_findingAt_14 rfl ?_
      refine j_if_lt (tgt := 44) M dX4_findingAt_15 (by decide) (fun h_15 => ?_) (fun h_15 => ?_)
      · refine j_iconst (v := 0) M dX4_findingAt_44 rfl ?_
        refine j_istore_4 M dX4_findingAt_45 (by exact (by first | trivial | rfl)) ?_
        refine j_iload M dX4_findingAt_47 rfl ?_
        refine j_if_eq (tgt := 56) M dX4_findingAt_49 (by decide) (fun h_49 => ?_) (fun h_49 => ?_)
        · refine j_iconst (v := 2) M dX4_findingAt_56 rfl ?_
          exact j_iret M dX4_findingAt_57 ⟨_, rfl, by (try dsimp only); first | exact absurd rfl h_49 | exact absurd h_49 (by decide) | exact ⟨rfl, by unfold fdR; rw [if_neg b_2]; simp only [b_2, h_11, h_15, h_49, not_false_eq_true, true_and, and_true, false_and, and_false, not_true_eq_false, if_true, if_false]⟩⟩
        · refine j_iconst (v := 0) M dX4_findingAt_52 rfl ?_
          refine j_goto (tgt := 57) M dX4_findingAt_53 (by decide) ?_
          exact j_iret M dX4_findingAt_57 ⟨_, rfl, by (try dsimp only); first | exact absurd rfl h_49 | exact absurd h_49 (by decide) | exact ⟨rfl, by unfold fdR; rw [if_neg b_2]; simp only [b_2, h_11, h_15, h_49, not_false_eq_true, true_and, and_true, false_and, and_false, not_true_eq_false, if_true, if_false]⟩⟩
      · refine j_iload_n M dX4_findingAt_18 rfl ?_
        refine j_aload_n M dX4_findingAt_19 rfl ?_
        refine gf_X4_15 M dX4_findingAt_20 ?_
        refine j_iload_n M dX4_findingAt_23 rfl ?_
        refine al_1_2 M dX4_findingAt_24 (by first | assumption | decide | exact wr.1 | exact wr.2) (by first | assumption | decide | exact wr.1 | exact wr.2) ?_
        refine j_icmp_gt (tgt := 44) M dX4_findingAt_25 (by decide) (fun h_25 => ?_) (fun h_25 => ?_)
        · refine j_iconst (v := 0) M dX4_findingAt_44 rfl ?_
          refine j_istore_4 M dX4_findingAt_45 (by exact (by first | trivial | rfl)) ?_
          refine j_iload M dX4_findingAt_47 rfl ?_
          refine j_if_eq (tgt := 56) M dX4_findingAt_49 (by decide) (fun h_49 => ?_) (fun h_49 => ?_)
          · refine j_iconst (v := 2) M dX4_findingAt_56 rfl ?_
            exact j_iret M dX4_findingAt_57 ⟨_, rfl, by (try dsimp only); first | exact absurd rfl h_49 | exact absurd h_49 (by decide) | exact ⟨rfl, by unfold fdR; rw [if_neg b_2]; simp only [b_2, h_11, h_15, h_25, h_49, not_false_eq_true, true_and, and_true, false_and, and_false, not_true_eq_false, if_true, if_false]⟩⟩
          · refine j_iconst (v := 0) M dX4_findingAt_52 rfl ?_
            refine j_goto (tgt := 57) M dX4_findingAt_53 (by decide) ?_
            exact j_iret M dX4_findingAt_57 ⟨_, rfl, by (try dsimp only); first | exact absurd rfl h_49 | exact absurd h_49 (by decide) | exact ⟨rfl, by unfold fdR; rw [if_neg b_2]; simp only [b_2, h_11, h_15, h_25, h_49, not_false_eq_true, true_and, and_true, false_and, and_false, not_true_eq_false, if_true, if_false]⟩⟩
        · refine j_iload_n M dX4_findingAt_28 rfl ?_
          refine j_aload_n M dX4_findingAt_29 rfl ?_
          refine gf_X4_15 M dX4_findingAt_30 ?_
          refine j_iload_n M dX4_findingAt_33 rfl ?_
          refine al_1_2 M dX4_findingAt_34 (by first | assumption | decide | exact wr.1 | exact wr.2) (by first | assumption | decide | exact wr.1 | exact wr.2) ?_
          refine j_iload_n M dX4_findingAt_35 rfl ?_
          refine j_isub M dX4_findingAt_36 ?_
          refine j_icmp_gt (tgt := 44) M dX4_findingAt_37 (by decide) (fun h_37 => ?_) (fun h_37 => ?_)
          · refine j_iconst (v := 0) M dX4_findingAt_44 rfl ?_
            refine j_istore_4 M dX4_findingAt_45 (by exact (by first | trivial | rfl)) ?_
            refine j_iload M dX4_findingAt_47 rfl ?_
            refine j_if_eq (tgt := 56) M dX4_findingAt_49 (by decide) (fun h_49 => ?_) (fun h_49 => ?_)
            · refine j_iconst (v := 2) M dX4_findingAt_56 rfl ?_
              exact j_iret M dX4_findingAt_57 ⟨_, rfl, by (try dsimp only); first | exact absurd rfl h_49 | exact absurd h_49 (by decide) | exact ⟨rfl, by unfold fdR; rw [if_neg b_2]; simp only [b_2, h_11, h_15, h_25, h_37, h_49, not_false_eq_true, true_and, and_true, false_and, and_false, not_true_eq_false, if_true, if_false]⟩⟩
            · refine j_iconst (v := 0) M dX4_findingAt_52 rfl ?_
              refine j_goto (tgt := 57) M dX4_findingAt_53 (by decide) ?_
              exact j_iret M dX4_findingAt_57 ⟨_, rfl, by (try dsimp only); first | exact absurd rfl h_49 | exact absurd h_49 (by decide) | exact ⟨rfl, by unfold fdR; rw [if_neg b_2]; simp only [b_2, h_11, h_15, h_25, h_37, h_49, not_false_eq_true, true_and, and_true, false_and, and_false, not_true_eq_false, if_true, if_false]⟩⟩
          · refine j_iconst (v := 1) M dX4_findingAt_40 rfl ?_
            refine j_goto (tgt := 45) M dX4_findingAt_41 (by decide) ?_
            refine j_istore_4 M dX4_findingAt_45 (by exact (by first | trivial | rfl)) ?_
            refine j_iload M dX4_findingAt_47 rfl ?_
            refine j_if_eq (tgt := 56) M dX4_findingAt_49 (by decide) (fun h_49 => ?_) (fun h_49 => ?_)
            · refine j_iconst (v := 2) M dX4_findingAt_56 rfl ?_
              exact j_iret M dX4_findingAt_57 ⟨_, rfl, by (try dsimp only); first | exact absurd rfl h_49 | exact absurd h_49 (by decide) | exact ⟨rfl, by unfold fdR; rw [if_neg b_2]; simp only [b_2, h_11, h_15, h_25, h_37, h_49, not_false_eq_true, true_and, and_true, false_and, and_false, not_true_eq_false, if_true, if_false]⟩⟩
            · refine j_iconst (v := 0) M dX4_findingAt_52 rfl ?_
              refine j_goto (tgt := 57) M dX4_findingAt_53 (by decide) ?_
              exact j_iret M dX4_findingAt_57 ⟨_, rfl, by (try dsimp only); first | exact absurd rfl h_49 | exact absurd h_49 (by decide) | exact ⟨rfl, by unfold fdR; rw [if_neg b_2]; simp only [b_2, h_11, h_15, h_25, h_37, h_49, not_false_eq_true, true_and, and_true, false_and, and_false, not_true_eq_false, if_true, if_false]⟩⟩
  · have b_2 := ifT k_2 h_5
    refine j_iconst (v := 1) M dX4_findingAt_8 rfl ?_
    exact j_iret M dX4_findingAt_9 ⟨_, rfl, by (try dsimp only); exact ⟨rfl, by unfold fdR; rw [if_pos b_2]⟩⟩
