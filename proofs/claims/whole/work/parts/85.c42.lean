set_option maxRecDepth 100000 in
theorem c_X1_begin {l : Launch} {G : Gw} {σ : Sg} {f : Int32} {k : Int32} {p : Int32} {d : Int32}   : Mt l G yX1_begin cX1_begin 5 none 0 0 [.ref (ad G 4 0), .int f, .int k, .int p, .int d] σ (pV fun τ => τ = up σ 4 0 (upI (upI (upI (upI (upI (σ 4 0) 1 0) 2 f) 3 k) 4 p) 5 d)) := by
  refine mt_intro (by decide +kernel) (Nat.le_of_ble_eq_true rfl) (fun Φ M => ?_)
  show Φ 0 [some (.ref (ad G 4 0)), some (.int f), some (.int k), some (.int p), some (.int d)] [] σ
  refine j_aload_n M dX1_begin_0 rfl ?_
  refine j_iconst (v := 0) M dX1_begin_1 rfl ?_
  refine pf_X1_15 M dX1_begin_2 ?_
  refine j_aload_n M dX1_begin_5 rfl ?_
  refine j_iload_n M dX1_begin_6 rfl ?_
  refine pf_X1_19 M dX1_begin_7 ?_
  refine j_aload_n M dX1_begin_10 rfl ?_
  refine j_iload_n M dX1_begin_11 rfl ?_
  refine pf_X1_22 M dX1_begin_12 ?_
  refine j_aload_n M dX1_begin_15 rfl ?_
  refine j_iload_n M dX1_begin_16 rfl ?_
  refine pf_X1_25 M dX1_begin_17 ?_
  refine j_aload_n M dX1_begin_20 rfl ?_
  refine j_iload M dX1_begin_21 rfl ?_
  refine pf_X1_28 M dX1_begin_23 ?_
  exact j_vret M dX1_begin_26 ⟨rfl, by simp only [up_up, up_same]⟩
set_option maxRecDepth 100000 in
theorem c_X1_left {l : Launch} {G : Gw} {σ : Sg} {i : Int32}   : Mt l G yX1_left cX1_left 2 (some .int) 0 0 [.ref (ad G 4 0), .int i] σ (pI fun r τ => τ = σ ∧ r = if 0 ≤ i ∧ i < σ 4 0 1 ∧ i < 16 then σ 4 1 i else -1000000) := by
  refine mt_intro (by decide +kernel) (Nat.le_of_ble_eq_true rfl) (fun Φ M => ?_)
  show Φ 0 [some (.ref (ad G 4 0)), some (.int i)] [] σ
  refine j_iload_n M dX1_left_0 rfl ?_
  refine j_if_lt (tgt := 27) M dX1_left_1 (by decide) (fun h_1 => ?_) (fun h_1 => ?_)
  · refine j_ldc M k_X1_31 dX1_left_27 ?_
    exact j_iret M dX1_left_29 ⟨_, rfl, by (try dsimp only); exact ⟨rfl, by rw [if_neg (fun q => absurd h_1 (Int32.not_lt.mpr q.1))]⟩⟩
  · refine j_iload_n M dX1_left_4 rfl ?_
    refine j_aload_n M dX1_left_5 rfl ?_
    refine gf_X1_15 M dX1_left_6 ?_
    refine j_icmp_ge (tgt := 27) M dX1_left_9 (by decide) (fun h_9 => ?_) (fun h_9 => ?_)
    · refine j_ldc M k_X1_31 dX1_left_27 ?_
      exact j_iret M dX1_left_29 ⟨_, rfl, by (try dsimp only); exact ⟨rfl, by rw [if_neg (fun q => h_9 q.2.1)]⟩⟩
    · refine j_iload_n M dX1_left_12 rfl ?_
      refine j_bipush (v := 16) M dX1_left_13 rfl ?_
      refine j_icmp_ge (tgt := 27) M dX1_left_15 (by decide) (fun h_15 => ?_) (fun h_15 => ?_)
      · refine j_ldc M k_X1_31 dX1_left_27 ?_
        exact j_iret M dX1_left_29 ⟨_, rfl, by (try dsimp only); exact ⟨rfl, by rw [if_neg (fun q => h_15 q.2.2)]⟩⟩
      · refine j_aload_n M dX1_left_18 rfl ?_
        refine gf_X1_11 M dX1_left_19 ?_
        refine j_iload_n M dX1_left_22 rfl ?_
        refine al_4_1 M dX1_left_23 (by first | exact Int32.not_lt.mp h_1 | assumption) (by first | exact Int32.not_lt.mp h_1 | assumption) ?_
        refine j_goto (tgt := 29) M dX1_left_24 (by decide) ?_
        exact j_iret M dX1_left_29 ⟨_, rfl, by (try dsimp only); exact ⟨rfl, by rw [if_pos ⟨Int32.not_lt.mp h_1, h_9, h_15⟩]⟩⟩
set_option maxRecDepth 100000 in
theorem c_X1_leave {l : Launch} {G : Gw} {σ : Sg} {b : Int32}   : Mt l G yX1_leave cX1_leave 2 none 0 0 [.ref (ad G 4 0), .int b] σ (pV fun τ => τ = lev σ b) := by
  refine mt_intro (by decide +kernel) (Nat.le_of_ble_eq_true rfl) (fun Φ M => ?_)
  show Φ 0 [some (.ref (ad G 4 0)), some (.int b)] [] σ
  refine j_aload_n M dX1_leave_0 rfl ?_
  refine gf_X1_15 M dX1_leave_1 ?_
  refine j_if_lt (tgt := 36) M dX1_leave_4 (by decide) (fun h_4 => ?_) (fun h_4 => ?_)
  · exact j_vret M dX1_leave_36 ⟨rfl, by unfold lev; rw [if_neg (fun q => q.1 h_4)]⟩
  · refine j_aload_n M dX1_leave_7 rfl ?_
    refine gf_X1_15 M dX1_leave_8 ?_
    refine j_bipush (v := 16) M dX1_leave_11 rfl ?_
    refine j_icmp_ge (tgt := 36) M dX1_leave_13 (by decide) (fun h_13 => ?_) (fun h_13 => ?_)
    · exact j_vret M dX1_leave_36 ⟨rfl, by unfold lev; rw [if_neg (fun q => h_13 q.2)]⟩
    · refine j_aload_n M dX1_leave_16 rfl ?_
      refine gf_X1_11 M dX1_leave_17 ?_
      refine j_aload_n M dX1_leave_20 rfl ?_
      refine gf_X1_15 M dX1_leave_21 ?_
      refine j_iload_n M dX1_leave_24 rfl ?_
      refine as_4_1 M dX1_leave_25 (by first | exact Int32.not_lt.mp h_4 | assumption) (by first | exact Int32.not_lt.mp h_4 | assumption) ?_
      refine j_aload_n M dX1_leave_26 rfl ?_
      refine j_dup M dX1_leave_27 rfl ?_
      refine gf_X1_15 M dX1_leave_28 ?_
      refine j_iconst (v := 1) M dX1_leave_31 rfl ?_
      refine j_iadd M dX1_leave_32 ?_
      refine pf_X1_15 M dX1_leave_33 ?_
      exact j_vret M dX1_leave_36 ⟨rfl, by unfold lev; rw [if_pos ⟨h_4, h_13⟩, up_ne _ _ (by decide)]⟩
set_option maxRecDepth 100000 in
theorem c_X1_sizeOfWanderer {l : Launch} {G : Gw} {σ : Sg}    : Mt l G yX1_sizeOfWanderer cX1_sizeOfWanderer 3 (some .int) 1 21 [.ref (ad G 4 0)] σ (pI fun r τ => r = swC (σ 4 0 3) (σ 4 0 5) ∧ τ = levs σ (swCl (σ 4 0 3))) := by
  refine mt_intro (by decide +kernel) (Nat.le_of_ble_eq_true rfl) (fun Φ M => ?_)
  show Φ 0 [some (.ref (ad G 4 0)), none, none] [] σ
  refine j_aload_n M dX1_sizeOfWanderer_0 rfl ?_
  refine gf_X1_22 M dX1_sizeOfWanderer_1 ?_
  refine j_iconst (v := 5) M dX1_sizeOfWanderer_4 rfl ?_
  refine j_icmp_ne (tgt := 12) M dX1_sizeOfWanderer_5 (by decide) (fun h_5 => ?_) (fun h_5 => ?_)
  · refine j_iconst (v := 0) M dX1_sizeOfWanderer_12 rfl ?_
    refine j_istore_1 M dX1_sizeOfWanderer_13 (by exact (by first | trivial | rfl)) ?_
    refine j_iload_n M dX1_sizeOfWanderer_14 rfl ?_
    refine j_if_eq (tgt := 24) M dX1_sizeOfWanderer_15 (by decide) (fun h_15 => ?_) (fun h_15 => ?_)
    · refine j_aload_n M dX1_sizeOfWanderer_24 rfl ?_
      refine j_bipush (v := 13) M dX1_sizeOfWanderer_25 rfl ?_
      refine j_inv1 M lk_X1_49 (c_X1_leave) rv_X1 dX1_sizeOfWanderer_27 (Nat.le_of_ble_eq_true rfl) ⟨(Nat.le_of_ble_eq_true rfl), (Nat.le_of_ble_eq_true rfl)⟩ (kV fun σ_27 q_27 => ?_)
      subst q_27
      refine j_aload_n M dX1_sizeOfWanderer_30 rfl ?_
      refine j_bipush (v := 10) M dX1_sizeOfWanderer_31 rfl ?_
      refine j_inv1 M lk_X1_49 (c_X1_leave) rv_X1 dX1_sizeOfWanderer_33 (Nat.le_of_ble_eq_true rfl) ⟨(Nat.le_of_ble_eq_true rfl), (Nat.le_of_ble_eq_true rfl)⟩ (kV fun σ_33 q_33 => ?_)
      subst q_33
      refine j_aload_n M dX1_sizeOfWanderer_36 rfl ?_
      refine gf_X1_28 M dX1_sizeOfWanderer_37 ?_
      refine j_bipush (v := 100) M dX1_sizeOfWanderer_40 rfl ?_
      refine j_isub M dX1_sizeOfWanderer_42 ?_
      refine j_istore_2 M dX1_sizeOfWanderer_43 (by exact (by first | trivial | rfl)) ?_
      refine j_iload_n M dX1_sizeOfWanderer_44 rfl ?_
      refine j_if_eq (tgt := 54) M dX1_sizeOfWanderer_45 (by decide) (fun h_45 => ?_) (fun h_45 => ?_)
      · refine j_iload_n M dX1_sizeOfWanderer_54 rfl ?_
        exact j_iret M dX1_sizeOfWanderer_55 ⟨_, rfl, by (try dsimp only); simp only [lev_f _ _ (show (2 : Int32) ≠ 1 by decide), lev_f _ _ (show (4 : Int32) ≠ 1 by decide), lev_f _ _ (show (5 : Int32) ≠ 1 by decide), levs_f _ _ (show (2 : Int32) ≠ 1 by decide), levs_f _ _ (show (3 : Int32) ≠ 1 by decide), levs_f _ _ (show (4 : Int32) ≠ 1 by decide), levs_f _ _ (show (5 : Int32) ≠ 1 by decide), lev_f _ _ (show (3 : Int32) ≠ 1 by decide)]; exact ⟨by unfold swC; rw [if_neg h_5], by unfold swCl; rw [if_neg h_5]; rfl⟩⟩
      · exact absurd rfl h_45
    · exact absurd rfl h_15
  · refine j_iconst (v := 1) M dX1_sizeOfWanderer_8 rfl ?_
    refine j_goto (tgt := 13) M dX1_sizeOfWanderer_9 (by decide) ?_
    refine j_istore_1 M dX1_sizeOfWanderer_13 (by exact (by first | trivial | rfl)) ?_
    refine j_iload_n M dX1_sizeOfWanderer_14 rfl ?_
    refine j_if_eq (tgt := 24) M dX1_sizeOfWanderer_15 (by decide) (fun h_15 => ?_) (fun h_15 => ?_)
    · exact absurd h_15 (by decide)
    · refine j_aload_n M dX1_sizeOfWanderer_18 rfl ?_
      refine j_bipush (v := 14) M dX1_sizeOfWanderer_19 rfl ?_
      refine j_inv1 M lk_X1_49 (c_X1_leave) rv_X1 dX1_sizeOfWanderer_21 (Nat.le_of_ble_eq_true rfl) ⟨(Nat.le_of_ble_eq_true rfl), (Nat.le_of_ble_eq_true rfl)⟩ (kV fun σ_21 q_21 => ?_)
      subst q_21
      refine j_aload_n M dX1_sizeOfWanderer_24 rfl ?_
      refine j_bipush (v := 13) M dX1_sizeOfWanderer_25 rfl ?_
      refine j_inv1 M lk_X1_49 (c_X1_leave) rv_X1 dX1_sizeOfWanderer_27 (Nat.le_of_ble_eq_true rfl) ⟨(Nat.le_of_ble_eq_true rfl), (Nat.le_of_ble_eq_true rfl)⟩ (kV fun σ_27 q_27 => ?_)
      subst q_27
      refine j_aload_n M dX1_sizeOfWanderer_30 rfl ?_
      refine j_bipush (v := 10) M dX1_sizeOfWanderer_31 rfl ?_
      refine j_inv1 M lk_X1_49 (c_X1_leave) rv_X1 dX1_sizeOfWanderer_33 (Nat.le_of_ble_eq_true rfl) ⟨(Nat.le_of_ble_eq_true rfl), (Nat.le_of_ble_eq_true rfl)⟩ (kV fun σ_33 q_33 => ?_)
      subst q_33
      refine j_aload_n M dX1_sizeOfWanderer_36 rfl ?_
      refine gf_X1_28 M dX1_sizeOfWanderer_37 ?_
      refine j_bipush (v := 100) M dX1_sizeOfWanderer_40 rfl ?_
      refine j_isub M dX1_sizeOfWanderer_42 ?_
      refine j_istore_2 M dX1_sizeOfWanderer_43 (by exact (by first | trivial | rfl)) ?_
      refine j_iload_n M dX1_sizeOfWanderer_44 rfl ?_
      refine j_if_eq (tgt := 54) M dX1_sizeOfWanderer_45 (by decide) (fun h_45 => ?_) (fun h_45 => ?_)
      · exact absurd h_45 (by decide)
      · refine j_iconst (v := 2) M dX1_sizeOfWanderer_48 rfl ?_
        refine j_iload_n M dX1_sizeOfWanderer_49 rfl ?_
        refine j_imul M dX1_sizeOfWanderer_50 ?_
        refine j_goto (tgt := 55) M dX1_sizeOfWanderer_51 (by decide) ?_
        exact j_iret M dX1_sizeOfWanderer_55 ⟨_, rfl, by (try dsimp only); simp only [lev_f _ _ (show (2 : Int32) ≠ 1 by decide), lev_f _ _ (show (4 : Int32) ≠ 1 by decide), lev_f _ _ (show (5 : Int32) ≠ 1 by decide), levs_f _ _ (show (2 : Int32) ≠ 1 by decide), levs_f _ _ (show (3 : Int32) ≠ 1 by decide), levs_f _ _ (show (4 : Int32) ≠ 1 by decide), levs_f _ _ (show (5 : Int32) ≠ 1 by decide), lev_f _ _ (show (3 : Int32) ≠ 1 by decide)]; exact ⟨by unfold swC; rw [if_pos h_5], by unfold swCl; rw [if_pos h_5]; rfl⟩⟩
set_option maxRecDepth 100000 in
theorem c_X1_markOfReader {l : Launch} {G : Gw} {σ : Sg}    : Mt l G yX1_markOfReader cX1_markOfReader 4 (some .int) 1 21 [.ref (ad G 4 0)] σ (pI fun r τ => r = mkC (σ 4 0 3) (σ 4 0 2) (σ 4 0 4) ∧ τ = levs σ (mkCl (σ 4 0 3))) := by
  refine mt_intro (by decide +kernel) (Nat.le_of_ble_eq_true rfl) (fun Φ M => ?_)
  show Φ 0 [some (.ref (ad G 4 0)), none, none, none] [] σ
  refine j_aload_n M dX1_markOfReader_0 rfl ?_
  refine gf_X1_22 M dX1_markOfReader_1 ?_
  refine j_iconst (v := 2) M dX1_markOfReader_4 rfl ?_
  refine j_icmp_ne (tgt := 12) M dX1_markOfReader_5 (by decide) (fun h_5 => ?_) (fun h_5 => ?_)
  · refine j_iconst (v := 0) M dX1_markOfReader_12 rfl ?_
    refine j_istore_1 M dX1_markOfReader_13 (by exact (by first | trivial | rfl)) ?_
    refine j_aload_n M dX1_markOfReader_14 rfl ?_
    refine gf_X1_22 M dX1_markOfReader_15 ?_
    refine j_iconst (v := 3) M dX1_markOfReader_18 rfl ?_
    refine j_icmp_ne (tgt := 26) M dX1_markOfReader_19 (by decide) (fun h_19 => ?_) (fun h_19 => ?_)
    · refine j_iconst (v := 0) M dX1_markOfReader_26 rfl ?_
      refine j_istore_2 M dX1_markOfReader_27 (by exact (by first | trivial | rfl)) ?_
      refine j_iload_n M dX1_markOfReader_28 rfl ?_
      refine j_if_eq (tgt := 38) M dX1_markOfReader_29 (by decide) (fun h_29 => ?_) (fun h_29 => ?_)
      · refine j_iload_n M dX1_markOfReader_38 rfl ?_
        refine j_if_eq (tgt := 48) M dX1_markOfReader_39 (by decide) (fun h_39 => ?_) (fun h_39 => ?_)
        · refine j_aload_n M dX1_markOfReader_48 rfl ?_
          refine j_bipush (v := 21) M dX1_markOfReader_49 rfl ?_
          refine j_inv1 M lk_X1_49 (c_X1_leave) rv_X1 dX1_markOfReader_51 (Nat.le_of_ble_eq_true rfl) ⟨(Nat.le_of_ble_eq_true rfl), (Nat.le_of_ble_eq_true rfl)⟩ (kV fun σ_51 q_51 => ?_)
          subst q_51
          refine j_aload_n M dX1_markOfReader_54 rfl ?_
          refine j_bipush (v := 20) M dX1_markOfReader_55 rfl ?_
          refine j_inv1 M lk_X1_49 (c_X1_leave) rv_X1 dX1_markOfReader_57 (Nat.le_of_ble_eq_true rfl) ⟨(Nat.le_of_ble_eq_true rfl), (Nat.le_of_ble_eq_true rfl)⟩ (kV fun σ_57 q_57 => ?_)
          subst q_57
          refine j_aload_n M dX1_markOfReader_60 rfl ?_
          refine gf_X1_19 M dX1_markOfReader_61 ?_
          refine j_aload_n M dX1_markOfReader_64 rfl ?_
          refine gf_X1_25 M dX1_markOfReader_65 ?_
          refine j_iadd M dX1_markOfReader_68 ?_
          refine j_istore_3 M dX1_markOfReader_69 (by exact (by first | trivial | rfl)) ?_
          refine j_iload_n M dX1_markOfReader_70 rfl ?_
          refine j_if_eq (tgt := 78) M dX1_markOfReader_71 (by decide) (fun h_71 => ?_) (fun h_71 => ?_)
          · refine j_iload_n M dX1_markOfReader_78 rfl ?_
            refine j_if_eq (tgt := 90) M dX1_markOfReader_79 (by decide) (fun h_79 => ?_) (fun h_79 => ?_)
            · refine j_iload_n M dX1_markOfReader_90 rfl ?_
              exact j_iret M dX1_markOfReader_91 ⟨_, rfl, by (try dsimp only); simp only [lev_f _ _ (show (2 : Int32) ≠ 1 by decide), lev_f _ _ (show (4 : Int32) ≠ 1 by decide), lev_f _ _ (show (5 : Int32) ≠ 1 by decide), levs_f _ _ (show (2 : Int32) ≠ 1 by decide), levs_f _ _ (show (3 : Int32) ≠ 1 by decide), levs_f _ _ (show (4 : Int32) ≠ 1 by decide), levs_f _ _ (show (5 : Int32) ≠ 1 by decide), lev_f _ _ (show (3 : Int32) ≠ 1 by decide)]; exact ⟨by unfold mkC; rw [if_neg h_5, if_neg h_19], by unfold mkCl; rw [if_neg h_5, if_neg h_19]; rfl⟩⟩
            · exact absurd rfl h_79
          · exact absurd rfl h_71
        · exact absurd rfl h_39
      · exact absurd rfl h_29
    · refine j_iconst (v := 1) M dX1_markOfReader_22 rfl ?_
      refine j_goto (tgt := 27) M dX1_markOfReader_23 (by decide) ?_
      refine j_istore_2 M dX1_markOfReader_27 (by exact (by first | trivial | rfl)) ?_
      refine j_iload_n M dX1_markOfReader_28 rfl ?_
      refine j_if_eq (tgt := 38) M dX1_markOfReader_29 (by decide) (fun h_29 => ?_) (fun h_29 => ?_)
      · refine j_iload_n M dX1_markOfReader_38 rfl ?_
        refine j_if_eq (tgt := 48) M dX1_markOfReader_39 (by decide) (fun h_39 => ?_) (fun h_39 => ?_)
        · exact absurd h_39 (by decide)
        · refine j_aload_n M dX1_markOfReader_42 rfl ?_
          refine j_bipush (v := 22) M dX1_markOfReader_43 rfl ?_
          refine j_inv1 M lk_X1_49 (c_X1_leave) rv_X1 dX1_markOfReader_45 (Nat.le_of_ble_eq_true rfl) ⟨(Nat.le_of_ble_eq_true rfl), (Nat.le_of_ble_eq_true rfl)⟩ (kV fun σ_45 q_45 => ?_)
          subst q_45
          refine j_aload_n M dX1_markOfReader_48 rfl ?_
          refine j_bipush (v := 21) M dX1_markOfReader_49 rfl ?_
          refine j_inv1 M lk_X1_49 (c_X1_leave) rv_X1 dX1_markOfReader_51 (Nat.le_of_ble_eq_true rfl) ⟨(Nat.le_of_ble_eq_true rfl), (Nat.le_of_ble_eq_true rfl)⟩ (kV fun σ_51 q_51 => ?_)
          subst q_51
          refine j_aload_n M dX1_markOfReader_54 rfl ?_
          refine j_bipush (v := 20) M dX1_markOfReader_55 rfl ?_
          refine j_inv1 M lk_X1_49 (c_X1_leave) rv_X1 dX1_markOfReader_57 (Nat.le_of_ble_eq_true rfl) ⟨(Nat.le_of_ble_eq_true rfl), (Nat.le_of_ble_eq_true rfl)⟩ (kV fun σ_57 q_57 => ?_)
          subst q_57
          refine j_aload_n M dX1_markOfReader_60 rfl ?_
          refine gf_X1_19 M dX1_markOfReader_61 ?_
          refine j_aload_n M dX1_markOfReader_64 rfl ?_
          refine gf_X1_25 M dX1_markOfReader_65 ?_
          refine j_iadd M dX1_markOfReader_68 ?_
          refine j_istore_3 M dX1_markOfReader_69 (by exact (by first | trivial | rfl)) ?_
          refine j_iload_n M dX1_markOfReader_70 rfl ?_
          refine j_if_eq (tgt := 78) M dX1_markOfReader_71 (by decide) (fun h_71 => ?_) (fun h_71 => ?_)
          · refine j_iload_n M dX1_markOfReader_78 rfl ?_
            refine j_if_eq (tgt := 90) M dX1_markOfReader_79 (by decide) (fun h_79 => ?_) (fun h_79 => ?_)
            · exact absurd h_79 (by decide)
            · refine j_iload_n M dX1_markOfReader_82 rfl ?_
              refine j_sipush (v := 1000) M dX1_markOfReader_83 rfl ?_
              refine j_isub M dX1_markOfReader_86 ?_
              refine j_goto (tgt := 91) M dX1_markOfReader_87 (by decide) ?_
              exact j_iret M dX1_markOfReader_91 ⟨_, rfl, by (try dsimp only); simp only [lev_f _ _ (show (2 : Int32) ≠ 1 by decide), lev_f _ _ (show (4 : Int32) ≠ 1 by decide), lev_f _ _ (show (5 : Int32) ≠ 1 by decide), levs_f _ _ (show (2 : Int32) ≠ 1 by decide), levs_f _ _ (show (3 : Int32) ≠ 1 by decide), levs_f _ _ (show (4 : Int32) ≠ 1 by decide), levs_f _ _ (show (5 : Int32) ≠ 1 by decide), lev_f _ _ (show (3 : Int32) ≠ 1 by decide)]; exact ⟨by unfold mkC; rw [if_neg h_5, if_pos h_19], by unfold mkCl; rw [if_neg h_5, if_pos h_19]; rfl⟩⟩
          · exact absurd rfl h_71
      · exact absurd rfl h_29
  · refine j_iconst (v := 1) M dX1_markOfReader_8 rfl ?_
    refine j_goto (tgt := 13) M dX1_markOfReader_9 (by decide) ?_
    refine j_istore_1 M dX1_markOfReader_13 (by exact (by first | trivial | rfl)) ?_
    refine j_aload_n M dX1_markOfReader_14 rfl ?_
    refine gf_X1_22 M dX1_markOfReader_15 ?_
    refine j_iconst (v := 3) M dX1_markOfReader_18 rfl ?_
    refine j_icmp_ne (tgt := 26) M dX1_markOfReader_19 (by decide) (fun h_19 => ?_) (fun h_19 => ?_)
    · refine j_iconst (v := 0) M dX1_markOfReader_26 rfl ?_
      refine j_istore_2 M dX1_markOfReader_27 (by exact (by first | trivial | rfl)) ?_
      refine j_iload_n M dX1_markOfReader_28 rfl ?_
      refine j_if_eq (tgt := 38) M dX1_markOfReader_29 (by decide) (fun h_29 => ?_) (fun h_29 => ?_)
      · exact absurd h_29 (by decide)
      · refine j_aload_n M dX1_markOfReader_32 rfl ?_
        refine j_bipush (v := 24) M dX1_markOfReader_33 rfl ?_
        refine j_inv1 M lk_X1_49 (c_X1_leave) rv_X1 dX1_markOfReader_35 (Nat.le_of_ble_eq_true rfl) ⟨(Nat.le_of_ble_eq_true rfl), (Nat.le_of_ble_eq_true rfl)⟩ (kV fun σ_35 q_35 => ?_)
        subst q_35
        refine j_iload_n M dX1_markOfReader_38 rfl ?_
        refine j_if_eq (tgt := 48) M dX1_markOfReader_39 (by decide) (fun h_39 => ?_) (fun h_39 => ?_)
        · refine j_aload_n M dX1_markOfReader_48 rfl ?_
          refine j_bipush (v := 21) M dX1_markOfReader_49 rfl ?_
          refine j_inv1 M lk_X1_49 (c_X1_leave) rv_X1 dX1_markOfReader_51 (Nat.le_of_ble_eq_true rfl) ⟨(Nat.le_of_ble_eq_true rfl), (Nat.le_of_ble_eq_true rfl)⟩ (kV fun σ_51 q_51 => ?_)
          subst q_51
          refine j_aload_n M dX1_markOfReader_54 rfl ?_
          refine j_bipush (v := 20) M dX1_markOfReader_55 rfl ?_
          refine j_inv1 M lk_X1_49 (c_X1_leave) rv_X1 dX1_markOfReader_57 (Nat.le_of_ble_eq_true rfl) ⟨(Nat.le_of_ble_eq_true rfl), (Nat.le_of_ble_eq_true rfl)⟩ (kV fun σ_57 q_57 => ?_)
          subst q_57
          refine j_aload_n M dX1_markOfReader_60 rfl ?_
          refine gf_X1_19 M dX1_markOfReader_61 ?_
          refine j_aload_n M dX1_markOfReader_64 rfl ?_
          refine gf_X1_25 M dX1_markOfReader_65 ?_
          refine j_iadd M dX1_markOfReader_68 ?_
          refine j_istore_3 M dX1_markOfReader_69 (by exact (by first | trivial | rfl)) ?_
          refine j_iload_n M dX1_markOfReader_70 rfl ?_
          refine j_if_eq (tgt := 78) M dX1_markOfReader_71 (by decide) (fun h_71 => ?_) (fun h_71 => ?_)
          · exact absurd h_71 (by decide)
          · refine j_iconst (v := 2) M dX1_markOfReader_74 rfl ?_
            refine j_iload_n M dX1_markOfReader_75 rfl ?_
            refine j_imul M dX1_markOfReader_76 ?_
            exact j_iret M dX1_markOfReader_77 ⟨_, rfl, by (try dsimp only); simp only [lev_f _ _ (show (2 : Int32) ≠ 1 by decide), lev_f _ _ (show (4 : Int32) ≠ 1 by decide), lev_f _ _ (show (5 : Int32) ≠ 1 by decide), levs_f _ _ (show (2 : Int32) ≠ 1 by decide), levs_f _ _ (show (3 : Int32) ≠ 1 by decide), levs_f _ _ (show (4 : Int32) ≠ 1 by decide), levs_f _ _ (show (5 : Int32) ≠ 1 by decide), lev_f _ _ (show (3 : Int32) ≠ 1 by decide)]; exact ⟨by unfold mkC; rw [if_pos h_5], by unfold mkCl; rw [if_pos h_5]; rfl⟩⟩
        · exact absurd rfl h_39
    · refine j_iconst (v := 1) M dX1_markOfReader_22 rfl ?_
      refine j_goto (tgt := 27) M dX1_markOfReader_23 (by decide) ?_
      refine j_istore_2 M dX1_markOfReader_27 (by exact (by first | trivial | rfl)) ?_
      exact absurd (h_5.symm.trans h_19) (by decide)
set_option maxRecDepth 100000 in
theorem c_X1_markOfWanderer {l : Launch} {G : Gw} {σ : Sg}    : Mt l G yX1_markOfWanderer cX1_markOfWanderer 1 (some .int) 2 43 [.ref (ad G 4 0)] σ (pI fun r τ => r = (σ 4 0 2) - swC (σ 4 0 3) (σ 4 0 5) ∧ τ = levs σ ([23, 20] ++ swCl (σ 4 0 3))) := by
  refine mt_intro (by decide +kernel) (Nat.le_of_ble_eq_true rfl) (fun Φ M => ?_)
  show Φ 0 [some (.ref (ad G 4 0))] [] σ
  refine j_aload_n M dX1_markOfWanderer_0 rfl ?_
  refine j_bipush (v := 23) M dX1_markOfWanderer_1 rfl ?_
  refine j_inv1 M lk_X1_49 (c_X1_leave) rv_X1 dX1_markOfWanderer_3 (Nat.le_of_ble_eq_true rfl) ⟨(Nat.le_of_ble_eq_true rfl), (Nat.le_of_ble_eq_true rfl)⟩ (kV fun σ_3 q_3 => ?_)
  subst q_3
  refine j_aload_n M dX1_markOfWanderer_6 rfl ?_
  refine j_bipush (v := 20) M dX1_markOfWanderer_7 rfl ?_
  refine j_inv1 M lk_X1_49 (c_X1_leave) rv_X1 dX1_markOfWanderer_9 (Nat.le_of_ble_eq_true rfl) ⟨(Nat.le_of_ble_eq_true rfl), (Nat.le_of_ble_eq_true rfl)⟩ (kV fun σ_9 q_9 => ?_)
  subst q_9
  refine j_aload_n M dX1_markOfWanderer_12 rfl ?_
  refine gf_X1_19 M dX1_markOfWanderer_13 ?_
  refine j_aload_n M dX1_markOfWanderer_16 rfl ?_
  refine j_inv0 M lk_X1_36 (c_X1_sizeOfWanderer) rv_X1 dX1_markOfWanderer_17 (Nat.le_of_ble_eq_true rfl) ⟨(Nat.le_of_ble_eq_true rfl), (Nat.le_of_ble_eq_true rfl)⟩ (kI fun r_17 σ_17 q_17 => ?_)
  obtain ⟨e17, rfl⟩ := q_17
  rw [e17]
  refine j_isub M dX1_markOfWanderer_20 ?_
  exact j_iret M dX1_markOfWanderer_21 ⟨_, rfl, by (try dsimp only); simp only [lev_f _ _ (show (2 : Int32) ≠ 1 by decide), lev_f _ _ (show (4 : Int32) ≠ 1 by decide), lev_f _ _ (show (5 : Int32) ≠ 1 by decide), levs_f _ _ (show (2 : Int32) ≠ 1 by decide), levs_f _ _ (show (3 : Int32) ≠ 1 by decide), levs_f _ _ (show (4 : Int32) ≠ 1 by decide), levs_f _ _ (show (5 : Int32) ≠ 1 by decide), lev_f _ _ (show (3 : Int32) ≠ 1 by decide)]; exact ⟨by first | rfl | trivial, by rw [levs_1, levs_1, levs_a, levs_a]; rfl⟩⟩
set_option maxRecDepth 100000 in
theorem c_X1_sizeOfReader {l : Launch} {G : Gw} {σ : Sg}    : Mt l G yX1_sizeOfReader cX1_sizeOfReader 3 (some .int) 2 44 [.ref (ad G 4 0)] σ (pI fun r τ => r = rsC (σ 4 0 3) (σ 4 0 2) (σ 4 0 4) (σ 4 0 5) ∧ τ = levs σ (rsCl (σ 4 0 3))) := by
  refine mt_intro (by decide +kernel) (Nat.le_of_ble_eq_true rfl) (fun Φ M => ?_)
  show Φ 0 [some (.ref (ad G 4 0)), none, none] [] σ
  refine j_aload_n M dX1_sizeOfReader_0 rfl ?_
  refine gf_X1_22 M dX1_sizeOfReader_1 ?_
  refine j_iconst (v := 2) M dX1_sizeOfReader_4 rfl ?_
  refine j_icmp_ne (tgt := 12) M dX1_sizeOfReader_5 (by decide) (fun h_5 => ?_) (fun h_5 => ?_)
  · refine j_iconst (v := 0) M dX1_sizeOfReader_12 rfl ?_
    refine j_istore_1 M dX1_sizeOfReader_13 (by exact (by first | trivial | rfl)) ?_
    refine j_iload_n M dX1_sizeOfReader_14 rfl ?_
    refine j_if_eq (tgt := 24) M dX1_sizeOfReader_15 (by decide) (fun h_15 => ?_) (fun h_15 => ?_)
    · refine j_aload_n M dX1_sizeOfReader_24 rfl ?_
      refine j_bipush (v := 11) M dX1_sizeOfReader_25 rfl ?_
      refine j_inv1 M lk_X1_49 (c_X1_leave) rv_X1 dX1_sizeOfReader_27 (Nat.le_of_ble_eq_true rfl) ⟨(Nat.le_of_ble_eq_true rfl), (Nat.le_of_ble_eq_true rfl)⟩ (kV fun σ_27 q_27 => ?_)
      subst q_27
      refine j_aload_n M dX1_sizeOfReader_30 rfl ?_
      refine j_bipush (v := 10) M dX1_sizeOfReader_31 rfl ?_
      refine j_inv1 M lk_X1_49 (c_X1_leave) rv_X1 dX1_sizeOfReader_33 (Nat.le_of_ble_eq_true rfl) ⟨(Nat.le_of_ble_eq_true rfl), (Nat.le_of_ble_eq_true rfl)⟩ (kV fun σ_33 q_33 => ?_)
      subst q_33
      refine j_aload_n M dX1_sizeOfReader_36 rfl ?_
      refine gf_X1_28 M dX1_sizeOfReader_37 ?_
      refine j_aload_n M dX1_sizeOfReader_40 rfl ?_
      refine j_inv0 M lk_X1_46 (c_X1_markOfReader) rv_X1 dX1_sizeOfReader_41 (Nat.le_of_ble_eq_true rfl) ⟨(Nat.le_of_ble_eq_true rfl), (Nat.le_of_ble_eq_true rfl)⟩ (kI fun r_41 σ_41 q_41 => ?_)
      obtain ⟨e41, rfl⟩ := q_41
      rw [e41]
      refine j_iadd M dX1_sizeOfReader_44 ?_
      refine j_istore_2 M dX1_sizeOfReader_45 (by exact (by first | trivial | rfl)) ?_
      refine j_iload_n M dX1_sizeOfReader_46 rfl ?_
      refine j_if_eq (tgt := 55) M dX1_sizeOfReader_47 (by decide) (fun h_47 => ?_) (fun h_47 => ?_)
      · refine j_iload_n M dX1_sizeOfReader_55 rfl ?_
        exact j_iret M dX1_sizeOfReader_56 ⟨_, rfl, by (try dsimp only); simp only [lev_f _ _ (show (2 : Int32) ≠ 1 by decide), lev_f _ _ (show (4 : Int32) ≠ 1 by decide), lev_f _ _ (show (5 : Int32) ≠ 1 by decide), levs_f _ _ (show (2 : Int32) ≠ 1 by decide), levs_f _ _ (show (3 : Int32) ≠ 1 by decide), levs_f _ _ (show (4 : Int32) ≠ 1 by decide), levs_f _ _ (show (5 : Int32) ≠ 1 by decide), lev_f _ _ (show (3 : Int32) ≠ 1 by decide)]; exact ⟨by unfold rsC; rw [if_neg h_5], by unfold rsCl; rw [if_neg h_5, levs_1, levs_1, levs_a, levs_a]; rfl⟩⟩
      · exact absurd rfl h_47
    · exact absurd rfl h_15
  · refine j_iconst (v := 1) M dX1_sizeOfReader_8 rfl ?_
    refine j_goto (tgt := 13) M dX1_sizeOfReader_9 (by decide) ?_
    refine j_istore_1 M dX1_sizeOfReader_13 (by exact (by first | trivial | rfl)) ?_
    refine j_iload_n M dX1_sizeOfReader_14 rfl ?_
    refine j_if_eq (tgt := 24) M dX1_sizeOfReader_15 (by decide) (fun h_15 => ?_) (fun h_15 => ?_)
    · exact absurd h_15 (by decide)
    · refine j_aload_n M dX1_sizeOfReader_18 rfl ?_
      refine j_bipush (v := 12) M dX1_sizeOfReader_19 rfl ?_
      refine j_inv1 M lk_X1_49 (c_X1_leave) rv_X1 dX1_sizeOfReader_21 (Nat.le_of_ble_eq_true rfl) ⟨(Nat.le_of_ble_eq_true rfl), (Nat.le_of_ble_eq_true rfl)⟩ (kV fun σ_21 q_21 => ?_)
      subst q_21
      refine j_aload_n M dX1_sizeOfReader_24 rfl ?_
      refine j_bipush (v := 11) M dX1_sizeOfReader_25 rfl ?_
      refine j_inv1 M lk_X1_49 (c_X1_leave) rv_X1 dX1_sizeOfReader_27 (Nat.le_of_ble_eq_true rfl) ⟨(Nat.le_of_ble_eq_true rfl), (Nat.le_of_ble_eq_true rfl)⟩ (kV fun σ_27 q_27 => ?_)
      subst q_27
      refine j_aload_n M dX1_sizeOfReader_30 rfl ?_
      refine j_bipush (v := 10) M dX1_sizeOfReader_31 rfl ?_
      refine j_inv1 M lk_X1_49 (c_X1_leave) rv_X1 dX1_sizeOfReader_33 (Nat.le_of_ble_eq_true rfl) ⟨(Nat.le_of_ble_eq_true rfl), (Nat.le_of_ble_eq_true rfl)⟩ (kV fun σ_33 q_33 => ?_)
      subst q_33
      refine j_aload_n M dX1_sizeOfReader_36 rfl ?_
      refine gf_X1_28 M dX1_sizeOfReader_37 ?_
      refine j_aload_n M dX1_sizeOfReader_40 rfl ?_
      refine j_inv0 M lk_X1_46 (c_X1_markOfReader) rv_X1 dX1_sizeOfReader_41 (Nat.le_of_ble_eq_true rfl) ⟨(Nat.le_of_ble_eq_true rfl), (Nat.le_of_ble_eq_true rfl)⟩ (kI fun r_41 σ_41 q_41 => ?_)
      obtain ⟨e41, rfl⟩ := q_41
      rw [e41]
      refine j_iadd M dX1_sizeOfReader_44 ?_
      refine j_istore_2 M dX1_sizeOfReader_45 (by exact (by first | trivial | rfl)) ?_
      refine j_iload_n M dX1_sizeOfReader_46 rfl ?_
      refine j_if_eq (tgt := 55) M dX1_sizeOfReader_47 (by decide) (fun h_47 => ?_) (fun h_47 => ?_)
      · exact absurd h_47 (by decide)
      · refine j_iload_n M dX1_sizeOfReader_50 rfl ?_
        refine j_ineg M dX1_sizeOfReader_51 ?_
        refine j_goto (tgt := 56) M dX1_sizeOfReader_52 (by decide) ?_
        exact j_iret M dX1_sizeOfReader_56 ⟨_, rfl, by (try dsimp only); simp only [lev_f _ _ (show (2 : Int32) ≠ 1 by decide), lev_f _ _ (show (4 : Int32) ≠ 1 by decide), lev_f _ _ (show (5 : Int32) ≠ 1 by decide), levs_f _ _ (show (2 : Int32) ≠ 1 by decide), levs_f _ _ (show (3 : Int32) ≠ 1 by decide), levs_f _ _ (show (4 : Int32) ≠ 1 by decide), levs_f _ _ (show (5 : Int32) ≠ 1 by decide), lev_f _ _ (show (3 : Int32) ≠ 1 by decide)]; exact ⟨by unfold rsC; rw [if_pos h_5], by unfold rsCl; rw [if_pos h_5, levs_1, levs_1, levs_1, levs_a, levs_a, levs_a]; rfl⟩⟩
set_option maxRecDepth 100000 in
theorem c_X1_sizeAsked {l : Launch} {G : Gw} {σ : Sg}    : Mt l G yX1_sizeAsked cX1_sizeAsked 1 (some .int) 3 66 [.ref (ad G 4 0)] σ (pI fun r τ => r = szC (σ 4 0 3) (σ 4 0 2) (σ 4 0 4) (σ 4 0 5) ∧ τ = levs σ (szCl (σ 4 0 3))) := by
  refine mt_intro (by decide +kernel) (Nat.le_of_ble_eq_true rfl) (fun Φ M => ?_)
  show Φ 0 [some (.ref (ad G 4 0))] [] σ
  refine j_aload_n M dX1_sizeAsked_0 rfl ?_
  refine gf_X1_22 M dX1_sizeAsked_1 ?_
  refine j_iconst (v := 4) M dX1_sizeAsked_4 rfl ?_
  refine j_invn2 M lk_X1_32 (c_X6_isKind) dX1_sizeAsked_5 (Nat.le_of_ble_eq_true rfl) ⟨(Nat.le_of_ble_eq_true rfl), (Nat.le_of_ble_eq_true rfl)⟩ (kE ?_)
  refine j_if_eq (tgt := 18) M dX1_sizeAsked_8 (by decide) (fun h_8 => ?_) (fun h_8 => ?_)
  · refine j_aload_n M dX1_sizeAsked_18 rfl ?_
    refine j_inv0 M lk_X1_40 (c_X1_sizeOfReader) rv_X1 dX1_sizeAsked_19 (Nat.le_of_ble_eq_true rfl) ⟨(Nat.le_of_ble_eq_true rfl), (Nat.le_of_ble_eq_true rfl)⟩ (kI fun r_19 σ_19 q_19 => ?_)
    obtain ⟨e19, rfl⟩ := q_19
    rw [e19]
    exact j_iret M dX1_sizeAsked_22 ⟨_, rfl, by (try dsimp only); exact ⟨by unfold szC; rw [if_pos h_8], by unfold szCl; rw [if_pos h_8]⟩⟩
  · refine j_aload_n M dX1_sizeAsked_11 rfl ?_
    refine j_inv0 M lk_X1_36 (c_X1_sizeOfWanderer) rv_X1 dX1_sizeAsked_12 (Nat.le_of_ble_eq_true rfl) ⟨(Nat.le_of_ble_eq_true rfl), (Nat.le_of_ble_eq_true rfl)⟩ (kI fun r_12 σ_12 q_12 => ?_)
    obtain ⟨e12, rfl⟩ := q_12
    rw [e12]
    refine j_goto (tgt := 22) M dX1_sizeAsked_15 (by decide) ?_
    exact j_iret M dX1_sizeAsked_22 ⟨_, rfl, by (try dsimp only); exact ⟨by unfold szC; rw [if_neg h_8], by unfold szCl; rw [if_neg h_8]⟩⟩
set_option maxRecDepth 100000 in
theorem c_X1_markAsked {l : Launch} {G : Gw} {σ : Sg}    : Mt l G yX1_markAsked cX1_markAsked 1 (some .int) 3 63 [.ref (ad G 4 0)] σ (pI fun r τ => r = mrC (σ 4 0 3) (σ 4 0 2) (σ 4 0 4) (σ 4 0 5) ∧ τ = levs σ (mrCl (σ 4 0 3))) := by
  refine mt_intro (by decide +kernel) (Nat.le_of_ble_eq_true rfl) (fun Φ M => ?_)
  show Φ 0 [some (.ref (ad G 4 0))] [] σ
  refine j_aload_n M dX1_markAsked_0 rfl ?_
  refine gf_X1_22 M dX1_markAsked_1 ?_
  refine j_iconst (v := 4) M dX1_markAsked_4 rfl ?_
  refine j_invn2 M lk_X1_32 (c_X6_isKind) dX1_markAsked_5 (Nat.le_of_ble_eq_true rfl) ⟨(Nat.le_of_ble_eq_true rfl), (Nat.le_of_ble_eq_true rfl)⟩ (kE ?_)
  refine j_if_eq (tgt := 18) M dX1_markAsked_8 (by decide) (fun h_8 => ?_) (fun h_8 => ?_)
  · refine j_aload_n M dX1_markAsked_18 rfl ?_
    refine j_inv0 M lk_X1_46 (c_X1_markOfReader) rv_X1 dX1_markAsked_19 (Nat.le_of_ble_eq_true rfl) ⟨(Nat.le_of_ble_eq_true rfl), (Nat.le_of_ble_eq_true rfl)⟩ (kI fun r_19 σ_19 q_19 => ?_)
    obtain ⟨e19, rfl⟩ := q_19
    rw [e19]
    exact j_iret M dX1_markAsked_22 ⟨_, rfl, by (try dsimp only); exact ⟨by unfold mrC; rw [if_pos h_8], by unfold mrCl; rw [if_pos h_8]⟩⟩
  · refine j_aload_n M dX1_markAsked_11 rfl ?_
    refine j_inv0 M lk_X1_43 (c_X1_markOfWanderer) rv_X1 dX1_markAsked_12 (Nat.le_of_ble_eq_true rfl) ⟨(Nat.le_of_ble_eq_true rfl), (Nat.le_of_ble_eq_true rfl)⟩ (kI fun r_12 σ_12 q_12 => ?_)
    obtain ⟨e12, rfl⟩ := q_12
    rw [e12]
    refine j_goto (tgt := 22) M dX1_markAsked_15 (by decide) ?_
    exact j_iret M dX1_markAsked_22 ⟨_, rfl, by (try dsimp only); exact ⟨by unfold mrC; rw [if_neg h_8], by unfold mrCl; rw [if_neg h_8]⟩⟩
