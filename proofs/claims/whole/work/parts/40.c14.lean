set_option maxRecDepth 100000 in
theorem c_X7_begin {l : Launch} {G : Gw} {σ : Sg} {b : Int32}  (hT : 0 ≤ σ 40 0 25) : Mt l G yX7_begin cX7_begin 2 none 0 0 [.ref (ad G 40 0), .int b] σ (pV fun τ => τ = bgn σ b) := by
  refine mt_intro (by decide +kernel) (Nat.le_of_ble_eq_true rfl) (fun Φ M => ?_)
  show Φ 0 [some (.ref (ad G 40 0)), some (.int b)] [] σ
  refine j_aload_n M dX7_begin_0 rfl ?_
  refine gf_X7_277 M dX7_begin_1 ?_
  refine j_bipush (v := 16) M dX7_begin_4 rfl ?_
  refine j_icmp_ge (tgt := 29) M dX7_begin_6 (by decide) (fun h_6 => ?_) (fun h_6 => ?_)
  · exact j_vret M dX7_begin_29 ⟨rfl, by simp [bgn, h_6, up]⟩
  · refine j_aload_n M dX7_begin_9 rfl ?_
    refine gf_X7_53 M dX7_begin_10 ?_
    refine j_aload_n M dX7_begin_13 rfl ?_
    refine gf_X7_277 M dX7_begin_14 ?_
    refine j_iload_n M dX7_begin_17 rfl ?_
    refine as_40_15 M dX7_begin_18 (by first | assumption | decide) (by first | assumption | decide) ?_
    refine j_aload_n M dX7_begin_19 rfl ?_
    refine j_dup M dX7_begin_20 rfl ?_
    refine gf_X7_277 M dX7_begin_21 ?_
    refine j_iconst (v := 1) M dX7_begin_24 rfl ?_
    refine j_iadd M dX7_begin_25 ?_
    refine pf_X7_277 M dX7_begin_26 ?_
    exact j_vret M dX7_begin_29 ⟨rfl, by simp [bgn, h_6, up]⟩
set_option maxRecDepth 100000 in
theorem c_X7_lent {l : Launch} {G : Gw} {σ : Sg} {w : Int32} {b : Int32}  (f0 : 0 ≤ w) (f5 : w < 5) (hT : 0 ≤ σ 40 0 25) : Mt l G yX7_lent cX7_lent 3 (some .int) 1 21 [.ref (ad G 40 0), .int w, .int b] σ (pI fun r τ => r = (if b = 10 then σ 40 4 (36 + w) else w) ∧ τ = bgs σ [b]) := by
  refine mt_intro (by decide +kernel) (Nat.le_of_ble_eq_true rfl) (fun Φ M => ?_)
  show Φ 0 [some (.ref (ad G 40 0)), some (.int w), some (.int b)] [] σ
  obtain ⟨⟨⟨_, _⟩, ⟨_, _⟩⟩, ⟨_, _⟩⟩ := ixT f0 f5
  refine j_aload_n M dX7_lent_0 rfl ?_
  refine j_iload_n M dX7_lent_1 rfl ?_
  refine j_inv1 M lk_X7_280 (c_X7_begin (hT)) rv_X7 dX7_lent_2 (Nat.le_of_ble_eq_true rfl) ⟨(Nat.le_of_ble_eq_true rfl), (Nat.le_of_ble_eq_true rfl)⟩ (kV fun σ_2 q_2 => ?_)
  subst q_2
  refine j_iload_n M dX7_lent_5 rfl ?_
  refine j_bipush (v := 10) M dX7_lent_6 rfl ?_
  refine j_icmp_ne (tgt := 23) M dX7_lent_8 (by decide) (fun h_8 => ?_) (fun h_8 => ?_)
  · refine j_iload_n M dX7_lent_23 rfl ?_
    exact j_iret M dX7_lent_24 ⟨_, rfl, by (try dsimp only); (try simp only [bgn_st _ _ (show (4 : Nat) ≠ 0 ∧ (4 : Nat) ≠ 15 by decide), bgs_st _ _ (show (4 : Nat) ≠ 0 ∧ (4 : Nat) ≠ 15 by decide)]); refine ⟨?_, ?_⟩; (· simp [bgs, h_8]); (· simp [bgs, h_8, bgs_1, bgs_0])⟩
  · refine j_aload_n M dX7_lent_11 rfl ?_
    refine gf_X7_19 M dX7_lent_12 ?_
    refine j_bipush (v := 36) M dX7_lent_15 rfl ?_
    refine j_iload_n M dX7_lent_17 rfl ?_
    refine j_iadd M dX7_lent_18 ?_
    refine al_40_4 M dX7_lent_19 (by first | assumption | decide) (by first | assumption | decide) ?_
    refine j_goto (tgt := 24) M dX7_lent_20 (by decide) ?_
    exact j_iret M dX7_lent_24 ⟨_, rfl, by (try dsimp only); (try simp only [bgn_st _ _ (show (4 : Nat) ≠ 0 ∧ (4 : Nat) ≠ 15 by decide), bgs_st _ _ (show (4 : Nat) ≠ 0 ∧ (4 : Nat) ≠ 15 by decide)]); refine ⟨?_, ?_⟩; (· simp [bgs, h_8]); (· simp [bgs, h_8, bgs_1, bgs_0])⟩
set_option maxRecDepth 100000 in
theorem c_X7_readerMark {l : Launch} {G : Gw} {σ : Sg} {w : Int32}  (f0 : 0 ≤ w) (f5 : w < 5) (hT : 0 ≤ σ 40 0 25) : Mt l G yX7_readerMark cX7_readerMark 2 (some .int) 2 43 [.ref (ad G 40 0), .int w] σ (pI fun r τ => r = w + σ 40 4 (31 + w) ∧ τ = bgs σ [21, 20]) := by
  refine mt_intro (by decide +kernel) (Nat.le_of_ble_eq_true rfl) (fun Φ M => ?_)
  show Φ 0 [some (.ref (ad G 40 0)), some (.int w)] [] σ
  obtain ⟨⟨⟨_, _⟩, ⟨_, _⟩⟩, ⟨_, _⟩⟩ := ixT f0 f5
  refine j_aload_n M dX7_readerMark_0 rfl ?_
  refine j_bipush (v := 21) M dX7_readerMark_1 rfl ?_
  refine j_inv1 M lk_X7_280 (c_X7_begin (hT)) rv_X7 dX7_readerMark_3 (Nat.le_of_ble_eq_true rfl) ⟨(Nat.le_of_ble_eq_true rfl), (Nat.le_of_ble_eq_true rfl)⟩ (kV fun σ_3 q_3 => ?_)
  subst q_3
  refine j_aload_n M dX7_readerMark_6 rfl ?_
  refine j_iload_n M dX7_readerMark_7 rfl ?_
  refine j_bipush (v := 20) M dX7_readerMark_8 rfl ?_
  refine j_inv2 M lk_X7_283 (c_X7_lent (f0) (f5) ((bgn_pos hT))) rv_X7 dX7_readerMark_10 (Nat.le_of_ble_eq_true rfl) ⟨(Nat.le_of_ble_eq_true rfl), (Nat.le_of_ble_eq_true rfl)⟩ (kI fun r_10 σ_10 q_10 => ?_)
  obtain ⟨e10, rfl⟩ := q_10
  rw [e10]
  refine j_aload_n M dX7_readerMark_13 rfl ?_
  refine gf_X7_19 M dX7_readerMark_14 ?_
  refine j_bipush (v := 31) M dX7_readerMark_17 rfl ?_
  refine j_iload_n M dX7_readerMark_19 rfl ?_
  refine j_iadd M dX7_readerMark_20 ?_
  refine al_40_4 M dX7_readerMark_21 (by first | assumption | decide) (by first | assumption | decide) ?_
  refine j_iadd M dX7_readerMark_22 ?_
  exact j_iret M dX7_readerMark_23 ⟨_, rfl, by (try dsimp only); (try simp only [bgn_st _ _ (show (4 : Nat) ≠ 0 ∧ (4 : Nat) ≠ 15 by decide), bgs_st _ _ (show (4 : Nat) ≠ 0 ∧ (4 : Nat) ≠ 15 by decide)]); refine ⟨?_, ?_⟩; (· simp [bgs]); (· simp [bgs, bgs_1, bgs_0])⟩
set_option maxRecDepth 100000 in
theorem c_X7_wandererSize {l : Launch} {G : Gw} {σ : Sg} {w : Int32}  (f0 : 0 ≤ w) (f5 : w < 5) (hT : 0 ≤ σ 40 0 25) : Mt l G yX7_wandererSize cX7_wandererSize 2 (some .int) 2 43 [.ref (ad G 40 0), .int w] σ (pI fun r τ => r = σ 40 4 (36 + w) - 100 ∧ τ = bgs σ [13, 10]) := by
  refine mt_intro (by decide +kernel) (Nat.le_of_ble_eq_true rfl) (fun Φ M => ?_)
  show Φ 0 [some (.ref (ad G 40 0)), some (.int w)] [] σ
  obtain ⟨⟨⟨_, _⟩, ⟨_, _⟩⟩, ⟨_, _⟩⟩ := ixT f0 f5
  refine j_aload_n M dX7_wandererSize_0 rfl ?_
  refine j_bipush (v := 13) M dX7_wandererSize_1 rfl ?_
  refine j_inv1 M lk_X7_280 (c_X7_begin (hT)) rv_X7 dX7_wandererSize_3 (Nat.le_of_ble_eq_true rfl) ⟨(Nat.le_of_ble_eq_true rfl), (Nat.le_of_ble_eq_true rfl)⟩ (kV fun σ_3 q_3 => ?_)
  subst q_3
  refine j_aload_n M dX7_wandererSize_6 rfl ?_
  refine j_iload_n M dX7_wandererSize_7 rfl ?_
  refine j_bipush (v := 10) M dX7_wandererSize_8 rfl ?_
  refine j_inv2 M lk_X7_283 (c_X7_lent (f0) (f5) ((bgn_pos hT))) rv_X7 dX7_wandererSize_10 (Nat.le_of_ble_eq_true rfl) ⟨(Nat.le_of_ble_eq_true rfl), (Nat.le_of_ble_eq_true rfl)⟩ (kI fun r_10 σ_10 q_10 => ?_)
  obtain ⟨e10, rfl⟩ := q_10
  rw [e10]
  refine j_bipush (v := 100) M dX7_wandererSize_13 rfl ?_
  refine j_isub M dX7_wandererSize_15 ?_
  exact j_iret M dX7_wandererSize_16 ⟨_, rfl, by (try dsimp only); (try simp only [bgn_st _ _ (show (4 : Nat) ≠ 0 ∧ (4 : Nat) ≠ 15 by decide), bgs_st _ _ (show (4 : Nat) ≠ 0 ∧ (4 : Nat) ≠ 15 by decide)]); refine ⟨?_, ?_⟩; (· simp [bgs]); (· simp [bgs, bgs_1, bgs_0])⟩
set_option maxRecDepth 100000 in
theorem c_X7_sizeOfWanderer {l : Launch} {G : Gw} {σ : Sg} {w : Int32}  (f0 : 0 ≤ w) (f5 : w < 5) (hT : 0 ≤ σ 40 0 25) : Mt l G yX7_sizeOfWanderer cX7_sizeOfWanderer 2 (some .int) 3 64 [.ref (ad G 40 0), .int w] σ (pI fun r τ => r = swR (σ 40 4) w ∧ τ = bgs σ (swL (σ 40 4) w)) := by
  refine mt_intro (by decide +kernel) (Nat.le_of_ble_eq_true rfl) (fun Φ M => ?_)
  show Φ 0 [some (.ref (ad G 40 0)), some (.int w)] [] σ
  obtain ⟨⟨⟨_, _⟩, ⟨_, _⟩⟩, ⟨_, _⟩⟩ := ixT f0 f5
  refine j_aload_n M dX7_sizeOfWanderer_0 rfl ?_
  refine gf_X7_19 M dX7_sizeOfWanderer_1 ?_
  refine j_bipush (v := 26) M dX7_sizeOfWanderer_4 rfl ?_
  refine j_iload_n M dX7_sizeOfWanderer_6 rfl ?_
  refine j_iadd M dX7_sizeOfWanderer_7 ?_
  refine al_40_4 M dX7_sizeOfWanderer_8 (by first | assumption | decide) (by first | assumption | decide) ?_
  refine j_iconst (v := 5) M dX7_sizeOfWanderer_9 rfl ?_
  refine j_icmp_ne (tgt := 27) M dX7_sizeOfWanderer_10 (by decide) (fun h_10 => ?_) (fun h_10 => ?_)
  · refine j_aload_n M dX7_sizeOfWanderer_27 rfl ?_
    refine j_iload_n M dX7_sizeOfWanderer_28 rfl ?_
    refine j_inv1 M lk_X7_286 (c_X7_wandererSize (f0) (f5) (hT)) rv_X7 dX7_sizeOfWanderer_29 (Nat.le_of_ble_eq_true rfl) ⟨(Nat.le_of_ble_eq_true rfl), (Nat.le_of_ble_eq_true rfl)⟩ (kI fun r_29 σ_29 q_29 => ?_)
    obtain ⟨e29, rfl⟩ := q_29
    rw [e29]
    exact j_iret M dX7_sizeOfWanderer_32 ⟨_, rfl, by (try dsimp only); (try simp only [bgn_st _ _ (show (4 : Nat) ≠ 0 ∧ (4 : Nat) ≠ 15 by decide), bgs_st _ _ (show (4 : Nat) ≠ 0 ∧ (4 : Nat) ≠ 15 by decide)]); refine ⟨?_, ?_⟩; (· simp [swR, swL, bgs, h_10]); (· simp [swR, swL, bgs, h_10, bgs_1, bgs_0])⟩
  · refine j_aload_n M dX7_sizeOfWanderer_13 rfl ?_
    refine j_bipush (v := 14) M dX7_sizeOfWanderer_14 rfl ?_
    refine j_inv1 M lk_X7_280 (c_X7_begin (hT)) rv_X7 dX7_sizeOfWanderer_16 (Nat.le_of_ble_eq_true rfl) ⟨(Nat.le_of_ble_eq_true rfl), (Nat.le_of_ble_eq_true rfl)⟩ (kV fun σ_16 q_16 => ?_)
    subst q_16
    refine j_iconst (v := 2) M dX7_sizeOfWanderer_19 rfl ?_
    refine j_aload_n M dX7_sizeOfWanderer_20 rfl ?_
    refine j_iload_n M dX7_sizeOfWanderer_21 rfl ?_
    refine j_inv1 M lk_X7_286 (c_X7_wandererSize (f0) (f5) ((bgn_pos hT))) rv_X7 dX7_sizeOfWanderer_22 (Nat.le_of_ble_eq_true rfl) ⟨(Nat.le_of_ble_eq_true rfl), (Nat.le_of_ble_eq_true rfl)⟩ (kI fun r_22 σ_22 q_22 => ?_)
    obtain ⟨e22, rfl⟩ := q_22
    rw [e22]
    refine j_imul M dX7_sizeOfWanderer_25 ?_
    exact j_iret M dX7_sizeOfWanderer_26 ⟨_, rfl, by (try dsimp only); (try simp only [bgn_st _ _ (show (4 : Nat) ≠ 0 ∧ (4 : Nat) ≠ 15 by decide), bgs_st _ _ (show (4 : Nat) ≠ 0 ∧ (4 : Nat) ≠ 15 by decide)]); refine ⟨?_, ?_⟩; (· simp [swR, swL, bgs, h_10]); (· simp [swR, swL, bgs, h_10, bgs_1, bgs_0])⟩
set_option maxRecDepth 100000 in
theorem c_X7_markOf {l : Launch} {G : Gw} {σ : Sg} {w : Int32}  (f0 : 0 ≤ w) (f5 : w < 5) (hT : 0 ≤ σ 40 0 25) : Mt l G yX7_markOf cX7_markOf 4 (some .int) 4 85 [.ref (ad G 40 0), .int w] σ (pI fun r τ => r = mkR (σ 40 4) w ∧ τ = bgs σ (mkL (σ 40 4) w)) := by
  refine mt_intro (by decide +kernel) (Nat.le_of_ble_eq_true rfl) (fun Φ M => ?_)
  show Φ 0 [some (.ref (ad G 40 0)), some (.int w), none, none] [] σ
  obtain ⟨⟨⟨_, _⟩, ⟨_, _⟩⟩, ⟨_, _⟩⟩ := ixT f0 f5
  refine j_aload_n M dX7_markOf_0 rfl ?_
  refine gf_X7_19 M dX7_markOf_1 ?_
  refine j_bipush (v := 26) M dX7_markOf_4 rfl ?_
  refine j_iload_n M dX7_markOf_6 rfl ?_
  refine j_iadd M dX7_markOf_7 ?_
  refine al_40_4 M dX7_markOf_8 (by first | assumption | decide) (by first | assumption | decide) ?_
  refine j_istore_2 M dX7_markOf_9 (by exact (by first | trivial | rfl)) ?_
  refine j_iload_n M dX7_markOf_10 rfl ?_
  refine j_iconst (v := 2) M dX7_markOf_11 rfl ?_
  refine j_icmp_ne (tgt := 29) M dX7_markOf_12 (by decide) (fun h_12 => ?_) (fun h_12 => ?_)
  · refine j_iload_n M dX7_markOf_29 rfl ?_
    refine j_iconst (v := 3) M dX7_markOf_30 rfl ?_
    refine j_icmp_ne (tgt := 50) M dX7_markOf_31 (by decide) (fun h_31 => ?_) (fun h_31 => ?_)
    · refine j_iload_n M dX7_markOf_50 rfl ?_
      refine j_iconst (v := 1) M dX7_markOf_51 rfl ?_
      refine j_icmp_ne (tgt := 61) M dX7_markOf_52 (by decide) (fun h_52 => ?_) (fun h_52 => ?_)
      · refine j_aload_n M dX7_markOf_61 rfl ?_
        refine j_bipush (v := 23) M dX7_markOf_62 rfl ?_
        refine j_inv1 M lk_X7_280 (c_X7_begin (hT)) rv_X7 dX7_markOf_64 (Nat.le_of_ble_eq_true rfl) ⟨(Nat.le_of_ble_eq_true rfl), (Nat.le_of_ble_eq_true rfl)⟩ (kV fun σ_64 q_64 => ?_)
        subst q_64
        refine j_aload_n M dX7_markOf_67 rfl ?_
        refine j_iload_n M dX7_markOf_68 rfl ?_
        refine j_bipush (v := 20) M dX7_markOf_69 rfl ?_
        refine j_inv2 M lk_X7_283 (c_X7_lent (f0) (f5) ((bgn_pos hT))) rv_X7 dX7_markOf_71 (Nat.le_of_ble_eq_true rfl) ⟨(Nat.le_of_ble_eq_true rfl), (Nat.le_of_ble_eq_true rfl)⟩ (kI fun r_71 σ_71 q_71 => ?_)
        obtain ⟨e71, rfl⟩ := q_71
        rw [e71]
        refine j_istore_3 M dX7_markOf_74 (by exact (by first | trivial | rfl)) ?_
        refine j_iload_n M dX7_markOf_75 rfl ?_
        refine j_aload_n M dX7_markOf_76 rfl ?_
        refine j_iload_n M dX7_markOf_77 rfl ?_
        refine j_inv1 M lk_X7_292 (c_X7_sizeOfWanderer (f0) (f5) ((bgs_pos (bgn_pos hT)))) rv_X7 dX7_markOf_78 (Nat.le_of_ble_eq_true rfl) ⟨(Nat.le_of_ble_eq_true rfl), (Nat.le_of_ble_eq_true rfl)⟩ (kI fun r_78 σ_78 q_78 => ?_)
        obtain ⟨e78, rfl⟩ := q_78
        rw [e78]
        refine j_isub M dX7_markOf_81 ?_
        exact j_iret M dX7_markOf_82 ⟨_, rfl, by (try dsimp only); (try simp only [bgn_st _ _ (show (4 : Nat) ≠ 0 ∧ (4 : Nat) ≠ 15 by decide), bgs_st _ _ (show (4 : Nat) ≠ 0 ∧ (4 : Nat) ≠ 15 by decide)]); refine ⟨?_, ?_⟩; (· simp [mkR, mkL, bgs, h_12, h_31, h_52]); (· simp [mkR, mkL, bgs, h_12, h_31, h_52, bgs_1, bgs_0])⟩
      · refine j_aload_n M dX7_markOf_55 rfl ?_
        refine j_iload_n M dX7_markOf_56 rfl ?_
        refine j_inv1 M lk_X7_289 (c_X7_readerMark (f0) (f5) (hT)) rv_X7 dX7_markOf_57 (Nat.le_of_ble_eq_true rfl) ⟨(Nat.le_of_ble_eq_true rfl), (Nat.le_of_ble_eq_true rfl)⟩ (kI fun r_57 σ_57 q_57 => ?_)
        obtain ⟨e57, rfl⟩ := q_57
        rw [e57]
        exact j_iret M dX7_markOf_60 ⟨_, rfl, by (try dsimp only); (try simp only [bgn_st _ _ (show (4 : Nat) ≠ 0 ∧ (4 : Nat) ≠ 15 by decide), bgs_st _ _ (show (4 : Nat) ≠ 0 ∧ (4 : Nat) ≠ 15 by decide)]); refine ⟨?_, ?_⟩; (· simp [mkR, mkL, bgs, h_12, h_31, h_52]); (· simp [mkR, mkL, bgs, h_12, h_31, h_52, bgs_1, bgs_0])⟩
    · refine j_aload_n M dX7_markOf_34 rfl ?_
      refine j_bipush (v := 22) M dX7_markOf_35 rfl ?_
      refine j_inv1 M lk_X7_280 (c_X7_begin (hT)) rv_X7 dX7_markOf_37 (Nat.le_of_ble_eq_true rfl) ⟨(Nat.le_of_ble_eq_true rfl), (Nat.le_of_ble_eq_true rfl)⟩ (kV fun σ_37 q_37 => ?_)
      subst q_37
      refine j_aload_n M dX7_markOf_40 rfl ?_
      refine j_iload_n M dX7_markOf_41 rfl ?_
      refine j_inv1 M lk_X7_289 (c_X7_readerMark (f0) (f5) ((bgn_pos hT))) rv_X7 dX7_markOf_42 (Nat.le_of_ble_eq_true rfl) ⟨(Nat.le_of_ble_eq_true rfl), (Nat.le_of_ble_eq_true rfl)⟩ (kI fun r_42 σ_42 q_42 => ?_)
      obtain ⟨e42, rfl⟩ := q_42
      rw [e42]
      refine j_sipush (v := 1000) M dX7_markOf_45 rfl ?_
      refine j_isub M dX7_markOf_48 ?_
      exact j_iret M dX7_markOf_49 ⟨_, rfl, by (try dsimp only); (try simp only [bgn_st _ _ (show (4 : Nat) ≠ 0 ∧ (4 : Nat) ≠ 15 by decide), bgs_st _ _ (show (4 : Nat) ≠ 0 ∧ (4 : Nat) ≠ 15 by decide)]); refine ⟨?_, ?_⟩; (· simp [mkR, mkL, bgs, h_12, h_31]); (· simp [mkR, mkL, bgs, h_12, h_31, bgs_1, bgs_0])⟩
  · refine j_aload_n M dX7_markOf_15 rfl ?_
    refine j_bipush (v := 24) M dX7_markOf_16 rfl ?_
    refine j_inv1 M lk_X7_280 (c_X7_begin (hT)) rv_X7 dX7_markOf_18 (Nat.le_of_ble_eq_true rfl) ⟨(Nat.le_of_ble_eq_true rfl), (Nat.le_of_ble_eq_true rfl)⟩ (kV fun σ_18 q_18 => ?_)
    subst q_18
    refine j_iconst (v := 2) M dX7_markOf_21 rfl ?_
    refine j_aload_n M dX7_markOf_22 rfl ?_
    refine j_iload_n M dX7_markOf_23 rfl ?_
    refine j_inv1 M lk_X7_289 (c_X7_readerMark (f0) (f5) ((bgn_pos hT))) rv_X7 dX7_markOf_24 (Nat.le_of_ble_eq_true rfl) ⟨(Nat.le_of_ble_eq_true rfl), (Nat.le_of_ble_eq_true rfl)⟩ (kI fun r_24 σ_24 q_24 => ?_)
    obtain ⟨e24, rfl⟩ := q_24
    rw [e24]
    refine j_imul M dX7_markOf_27 ?_
    exact j_iret M dX7_markOf_28 ⟨_, rfl, by (try dsimp only); (try simp only [bgn_st _ _ (show (4 : Nat) ≠ 0 ∧ (4 : Nat) ≠ 15 by decide), bgs_st _ _ (show (4 : Nat) ≠ 0 ∧ (4 : Nat) ≠ 15 by decide)]); refine ⟨?_, ?_⟩; (· simp [mkR, mkL, bgs, h_12]); (· simp [mkR, mkL, bgs, h_12, bgs_1, bgs_0])⟩
set_option maxRecDepth 100000 in
theorem c_X7_readerSize {l : Launch} {G : Gw} {σ : Sg} {w : Int32}  (f0 : 0 ≤ w) (f5 : w < 5) (hT : 0 ≤ σ 40 0 25) : Mt l G yX7_readerSize cX7_readerSize 3 (some .int) 5 108 [.ref (ad G 40 0), .int w] σ (pI fun r τ => r = rsR (σ 40 4) w ∧ τ = bgs σ (rsL (σ 40 4) w)) := by
  refine mt_intro (by decide +kernel) (Nat.le_of_ble_eq_true rfl) (fun Φ M => ?_)
  show Φ 0 [some (.ref (ad G 40 0)), some (.int w), none] [] σ
  obtain ⟨⟨⟨_, _⟩, ⟨_, _⟩⟩, ⟨_, _⟩⟩ := ixT f0 f5
  refine j_aload_n M dX7_readerSize_0 rfl ?_
  refine j_bipush (v := 11) M dX7_readerSize_1 rfl ?_
  refine j_inv1 M lk_X7_280 (c_X7_begin (hT)) rv_X7 dX7_readerSize_3 (Nat.le_of_ble_eq_true rfl) ⟨(Nat.le_of_ble_eq_true rfl), (Nat.le_of_ble_eq_true rfl)⟩ (kV fun σ_3 q_3 => ?_)
  subst q_3
  refine j_aload_n M dX7_readerSize_6 rfl ?_
  refine j_iload_n M dX7_readerSize_7 rfl ?_
  refine j_bipush (v := 10) M dX7_readerSize_8 rfl ?_
  refine j_inv2 M lk_X7_283 (c_X7_lent (f0) (f5) ((bgn_pos hT))) rv_X7 dX7_readerSize_10 (Nat.le_of_ble_eq_true rfl) ⟨(Nat.le_of_ble_eq_true rfl), (Nat.le_of_ble_eq_true rfl)⟩ (kI fun r_10 σ_10 q_10 => ?_)
  obtain ⟨e10, rfl⟩ := q_10
  rw [e10]
  refine j_istore_2 M dX7_readerSize_13 (by exact (by first | trivial | rfl)) ?_
  refine j_iload_n M dX7_readerSize_14 rfl ?_
  refine j_aload_n M dX7_readerSize_15 rfl ?_
  refine j_iload_n M dX7_readerSize_16 rfl ?_
  refine j_inv1 M lk_X7_295 (c_X7_markOf (f0) (f5) ((bgs_pos (bgn_pos hT)))) rv_X7 dX7_readerSize_17 (Nat.le_of_ble_eq_true rfl) ⟨(Nat.le_of_ble_eq_true rfl), (Nat.le_of_ble_eq_true rfl)⟩ (kI fun r_17 σ_17 q_17 => ?_)
  obtain ⟨e17, rfl⟩ := q_17
  rw [e17]
  refine j_iadd M dX7_readerSize_20 ?_
  exact j_iret M dX7_readerSize_21 ⟨_, rfl, by (try dsimp only); (try simp only [bgn_st _ _ (show (4 : Nat) ≠ 0 ∧ (4 : Nat) ≠ 15 by decide), bgs_st _ _ (show (4 : Nat) ≠ 0 ∧ (4 : Nat) ≠ 15 by decide)]); refine ⟨?_, ?_⟩; (· simp [rsR, rsL, bgs]); (· simp [rsR, rsL, bgs, bgs_1, bgs_0])⟩
set_option maxRecDepth 100000 in
theorem c_X7_sizeOf {l : Launch} {G : Gw} {σ : Sg} {w : Int32}  (f0 : 0 ≤ w) (f5 : w < 5) (hT : 0 ≤ σ 40 0 25) : Mt l G yX7_sizeOf cX7_sizeOf 3 (some .int) 6 130 [.ref (ad G 40 0), .int w] σ (pI fun r τ => r = szR (σ 40 4) w ∧ τ = bgs σ (szL (σ 40 4) w)) := by
  refine mt_intro (by decide +kernel) (Nat.le_of_ble_eq_true rfl) (fun Φ M => ?_)
  show Φ 0 [some (.ref (ad G 40 0)), some (.int w), none] [] σ
  obtain ⟨⟨⟨_, _⟩, ⟨_, _⟩⟩, ⟨_, _⟩⟩ := ixT f0 f5
  refine j_aload_n M dX7_sizeOf_0 rfl ?_
  refine gf_X7_19 M dX7_sizeOf_1 ?_
  refine j_bipush (v := 26) M dX7_sizeOf_4 rfl ?_
  refine j_iload_n M dX7_sizeOf_6 rfl ?_
  refine j_iadd M dX7_sizeOf_7 ?_
  refine al_40_4 M dX7_sizeOf_8 (by first | assumption | decide) (by first | assumption | decide) ?_
  refine j_istore_2 M dX7_sizeOf_9 (by exact (by first | trivial | rfl)) ?_
  refine j_iload_n M dX7_sizeOf_10 rfl ?_
  refine j_iconst (v := 2) M dX7_sizeOf_11 rfl ?_
  refine j_icmp_ne (tgt := 28) M dX7_sizeOf_12 (by decide) (fun h_12 => ?_) (fun h_12 => ?_)
  · refine j_iload_n M dX7_sizeOf_28 rfl ?_
    refine j_iconst (v := 4) M dX7_sizeOf_29 rfl ?_
    refine j_icmp_lt (tgt := 41) M dX7_sizeOf_30 (by decide) (fun h_30 => ?_) (fun h_30 => ?_)
    · refine j_aload_n M dX7_sizeOf_41 rfl ?_
      refine j_iload_n M dX7_sizeOf_42 rfl ?_
      refine j_inv1 M lk_X7_298 (c_X7_readerSize (f0) (f5) (hT)) rv_X7 dX7_sizeOf_43 (Nat.le_of_ble_eq_true rfl) ⟨(Nat.le_of_ble_eq_true rfl), (Nat.le_of_ble_eq_true rfl)⟩ (kI fun r_43 σ_43 q_43 => ?_)
      obtain ⟨e43, rfl⟩ := q_43
      rw [e43]
      exact j_iret M dX7_sizeOf_46 ⟨_, rfl, by (try dsimp only); (try simp only [bgn_st _ _ (show (4 : Nat) ≠ 0 ∧ (4 : Nat) ≠ 15 by decide), bgs_st _ _ (show (4 : Nat) ≠ 0 ∧ (4 : Nat) ≠ 15 by decide)]); refine ⟨?_, ?_⟩; (· simp [szR, szL, bgs, h_12, h_30]); (· simp [szR, szL, bgs, h_12, h_30, bgs_1, bgs_0])⟩
    · refine j_aload_n M dX7_sizeOf_33 rfl ?_
      refine j_iload_n M dX7_sizeOf_34 rfl ?_
      refine j_inv1 M lk_X7_292 (c_X7_sizeOfWanderer (f0) (f5) (hT)) rv_X7 dX7_sizeOf_35 (Nat.le_of_ble_eq_true rfl) ⟨(Nat.le_of_ble_eq_true rfl), (Nat.le_of_ble_eq_true rfl)⟩ (kI fun r_35 σ_35 q_35 => ?_)
      obtain ⟨e35, rfl⟩ := q_35
      rw [e35]
      refine j_goto (tgt := 46) M dX7_sizeOf_38 (by decide) ?_
      exact j_iret M dX7_sizeOf_46 ⟨_, rfl, by (try dsimp only); (try simp only [bgn_st _ _ (show (4 : Nat) ≠ 0 ∧ (4 : Nat) ≠ 15 by decide), bgs_st _ _ (show (4 : Nat) ≠ 0 ∧ (4 : Nat) ≠ 15 by decide)]); refine ⟨?_, ?_⟩; (· simp [szR, szL, bgs, h_12, h_30]); (· simp [szR, szL, bgs, h_12, h_30, bgs_1, bgs_0])⟩
  · refine j_aload_n M dX7_sizeOf_15 rfl ?_
    refine j_bipush (v := 12) M dX7_sizeOf_16 rfl ?_
    refine j_inv1 M lk_X7_280 (c_X7_begin (hT)) rv_X7 dX7_sizeOf_18 (Nat.le_of_ble_eq_true rfl) ⟨(Nat.le_of_ble_eq_true rfl), (Nat.le_of_ble_eq_true rfl)⟩ (kV fun σ_18 q_18 => ?_)
    subst q_18
    refine j_aload_n M dX7_sizeOf_21 rfl ?_
    refine j_iload_n M dX7_sizeOf_22 rfl ?_
    refine j_inv1 M lk_X7_298 (c_X7_readerSize (f0) (f5) ((bgn_pos hT))) rv_X7 dX7_sizeOf_23 (Nat.le_of_ble_eq_true rfl) ⟨(Nat.le_of_ble_eq_true rfl), (Nat.le_of_ble_eq_true rfl)⟩ (kI fun r_23 σ_23 q_23 => ?_)
    obtain ⟨e23, rfl⟩ := q_23
    rw [e23]
    refine j_ineg M dX7_sizeOf_26 ?_
    exact j_iret M dX7_sizeOf_27 ⟨_, rfl, by (try dsimp only); (try simp only [bgn_st _ _ (show (4 : Nat) ≠ 0 ∧ (4 : Nat) ≠ 15 by decide), bgs_st _ _ (show (4 : Nat) ≠ 0 ∧ (4 : Nat) ≠ 15 by decide)]); refine ⟨?_, ?_⟩; (· simp [szR, szL, bgs, h_12]); (· simp [szR, szL, bgs, h_12, bgs_1, bgs_0])⟩
set_option maxRecDepth 100000 in
theorem c_X7_ask {l : Launch} {G : Gw} {σ : Sg} {f : Int32} {v : Int32}  (hS : SW (σ 40 4)) : Mt l G yX7_ask cX7_ask 3 (some .int) 7 152 [.ref (ad G 40 0), .int f, .int v] σ (pI fun r τ => if ¬ (isF (σ 40 4) f ∧ inR 0 v 1) then r = -1000001 ∧ τ = σ else if v = 0 then r = szR (σ 40 4) f ∧ τ = bgs (up σ 40 0 (upI (σ 40 0) 25 0)) (szL (σ 40 4) f) else r = mkR (σ 40 4) f ∧ τ = bgs (up σ 40 0 (upI (σ 40 0) 25 0)) (mkL (σ 40 4) f)) := by
  refine mt_intro (by decide +kernel) (Nat.le_of_ble_eq_true rfl) (fun Φ M => ?_)
  show Φ 0 [some (.ref (ad G 40 0)), some (.int f), some (.int v)] [] σ
  refine j_aload_n M dX7_ask_0 rfl ?_
  refine j_iload_n M dX7_ask_1 rfl ?_
  refine j_inv1 M lk_X7_200 (c_X7_isFish) rv_X7 dX7_ask_2 (Nat.le_of_ble_eq_true rfl) ⟨(Nat.le_of_ble_eq_true rfl), (Nat.le_of_ble_eq_true rfl)⟩ (kP fun r_2 k_2 => ?_)
  refine j_if_eq (tgt := 18) M dX7_ask_5 (by decide) (fun h_5 => ?_) (fun h_5 => ?_)
  · have b_2 := ifF k_2 h_5
    refine j_ldc M k_X7_73 dX7_ask_18 ?_
    exact j_iret M dX7_ask_20 ⟨_, rfl, by (try dsimp only); first | (simp [b_2]; done) | (rw [if_neg (fun q => q ⟨b_2, b_12⟩)]; first | (rw [if_pos h_27]; exact ⟨by rw [up_ne _ _ (by decide)], by rw [up_ne _ _ (by decide)]⟩) | (rw [if_neg h_27]; exact ⟨by rw [up_ne _ _ (by decide)], by rw [up_ne _ _ (by decide)]⟩))⟩
  · have b_2 := ifT k_2 h_5
    refine j_iload_n M dX7_ask_8 rfl ?_
    refine j_i2l M dX7_ask_9 ?_
    refine j_lconst (v := 0) M dX7_ask_10 rfl ?_
    refine j_lconst (v := 1) M dX7_ask_11 rfl ?_
    refine j_invs3 M lk_X7_63 (c_X7_inI (a := 0) (b := 1) rfl (by decide) (by decide)) dX7_ask_12 (Nat.le_of_ble_eq_true rfl) ⟨(Nat.le_of_ble_eq_true rfl), (Nat.le_of_ble_eq_true rfl)⟩ (kP fun r_12 k_12 => ?_)
    refine j_if_ne (tgt := 21) M dX7_ask_15 (by decide) (fun h_15 => ?_) (fun h_15 => ?_)
    · have b_12 := ifT k_12 h_15
      have hB := hS.f b_2
      have z0 : (0 : Int32) ≤ (up σ 40 0 (upI (σ 40 0) 25 0)) 40 0 25 := by rw [up_same, upI_same]; decide
      refine j_aload_n M dX7_ask_21 rfl ?_
      refine j_iconst (v := 0) M dX7_ask_22 rfl ?_
      refine pf_X7_277 M dX7_ask_23 ?_
      refine j_iload_n M dX7_ask_26 rfl ?_
      refine j_if_ne (tgt := 38) M dX7_ask_27 (by decide) (fun h_27 => ?_) (fun h_27 => ?_)
      · refine j_aload_n M dX7_ask_38 rfl ?_
        refine j_iload_n M dX7_ask_39 rfl ?_
        refine j_inv1 M lk_X7_295 (c_X7_markOf (b_2.1) (hB.2.2) (z0)) rv_X7 dX7_ask_40 (Nat.le_of_ble_eq_true rfl) ⟨(Nat.le_of_ble_eq_true rfl), (Nat.le_of_ble_eq_true rfl)⟩ (kI fun r_40 σ_40 q_40 => ?_)
        obtain ⟨e40, rfl⟩ := q_40
        rw [e40]
        exact j_iret M dX7_ask_43 ⟨_, rfl, by (try dsimp only); first | (simp [b_2, b_12, h_27]; done) | (rw [if_neg (fun q => q ⟨b_2, b_12⟩)]; first | (rw [if_pos h_27]; exact ⟨by rw [up_ne _ _ (by decide)], by rw [up_ne _ _ (by decide)]⟩) | (rw [if_neg h_27]; exact ⟨by rw [up_ne _ _ (by decide)], by rw [up_ne _ _ (by decide)]⟩))⟩
      · refine j_aload_n M dX7_ask_30 rfl ?_
        refine j_iload_n M dX7_ask_31 rfl ?_
        refine j_inv1 M lk_X7_301 (c_X7_sizeOf (b_2.1) (hB.2.2) (z0)) rv_X7 dX7_ask_32 (Nat.le_of_ble_eq_true rfl) ⟨(Nat.le_of_ble_eq_true rfl), (Nat.le_of_ble_eq_true rfl)⟩ (kI fun r_32 σ_32 q_32 => ?_)
        obtain ⟨e32, rfl⟩ := q_32
        rw [e32]
        refine j_goto (tgt := 43) M dX7_ask_35 (by decide) ?_
        exact j_iret M dX7_ask_43 ⟨_, rfl, by (try dsimp only); first | (simp [b_2, b_12, h_27]; done) | (rw [if_neg (fun q => q ⟨b_2, b_12⟩)]; first | (rw [if_pos h_27]; exact ⟨by rw [up_ne _ _ (by decide)], by rw [up_ne _ _ (by decide)]⟩) | (rw [if_neg h_27]; exact ⟨by rw [up_ne _ _ (by decide)], by rw [up_ne _ _ (by decide)]⟩))⟩
    · have b_12 := ifF k_12 h_15
      refine j_ldc M k_X7_73 dX7_ask_18 ?_
      exact j_iret M dX7_ask_20 ⟨_, rfl, by (try dsimp only); first | (simp [b_2, b_12]; done) | (rw [if_neg (fun q => q ⟨b_2, b_12⟩)]; first | (rw [if_pos h_27]; exact ⟨by rw [up_ne _ _ (by decide)], by rw [up_ne _ _ (by decide)]⟩) | (rw [if_neg h_27]; exact ⟨by rw [up_ne _ _ (by decide)], by rw [up_ne _ _ (by decide)]⟩))⟩
