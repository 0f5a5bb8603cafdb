theorem it40 {i z : Int32} (h : i ≤ z - 1) (z1 : z ≤ 40) (z0 : 0 ≤ z) : i < 40 := by grind
set_option maxRecDepth 100000 in
theorem c_X4_findingOfCopy {l : Launch} {G : Gw} {σ : Sg} {a : Int32} {i : Int32} {b : Int32} {j : Int32} {n : Int32}   : Mt l G yX4_findingOfCopy cX4_findingOfCopy 7 (some .int) 3 65 [.ref (ad G 1 0), .int a, .int i, .int b, .int j, .int n] σ (pI fun r τ => τ = σ ∧ r = fdC (σ 1 1) (σ 1 2) a i b j n) := by
  refine mt_intro (by decide +kernel) (Nat.le_of_ble_eq_true rfl) (fun Φ M => ?_)
  show Φ 0 [some (.ref (ad G 1 0)), some (.int a), some (.int i), some (.int b), some (.int j), some (.int n), none] [] σ
  refine j_aload_n M dX4_findingOfCopy_0 rfl ?_
  refine j_iload_n M dX4_findingOfCopy_1 rfl ?_
  refine j_inv1 M lk_X4_32 (c_X4_isMissing) rv_X4 dX4_findingOfCopy_2 (Nat.le_of_ble_eq_true rfl) ⟨(Nat.le_of_ble_eq_true rfl), (Nat.le_of_ble_eq_true rfl)⟩ (kP fun r_2 k_2 => ?_)
  refine j_if_ne (tgt := 16) M dX4_findingOfCopy_5 (by decide) (fun h_5 => ?_) (fun h_5 => ?_)
  · have b_2 := ifT k_2 h_5
    refine j_iconst (v := 1) M dX4_findingOfCopy_16 rfl ?_
    exact j_iret M dX4_findingOfCopy_17 ⟨_, rfl, by (try dsimp only); exact ⟨rfl, by unfold fdC; rw [if_pos (by first | exact Or.inl b_2 | exact Or.inr b_10)]⟩⟩
  · have b_2 := ifF k_2 h_5
    refine j_aload_n M dX4_findingOfCopy_8 rfl ?_
    refine j_iload_n M dX4_findingOfCopy_9 rfl ?_
    refine j_inv1 M lk_X4_32 (c_X4_isMissing) rv_X4 dX4_findingOfCopy_10 (Nat.le_of_ble_eq_true rfl) ⟨(Nat.le_of_ble_eq_true rfl), (Nat.le_of_ble_eq_true rfl)⟩ (kP fun r_10 k_10 => ?_)
    refine j_if_eq (tgt := 18) M dX4_findingOfCopy_13 (by decide) (fun h_13 => ?_) (fun h_13 => ?_)
    · have b_10 := ifF k_10 h_13
      have wa := fd_rng b_2
      have wb := fd_rng b_10
      refine j_aload_n M dX4_findingOfCopy_18 rfl ?_
      refine gf_X4_11 M dX4_findingOfCopy_19 ?_
      refine j_iload_n M dX4_findingOfCopy_22 rfl ?_
      refine al_1_1 M dX4_findingOfCopy_23 (by first | assumption | decide | exact wa.1 | exact wa.2 | exact wb.1 | exact wb.2) (by first | assumption | decide | exact wa.1 | exact wa.2 | exact wb.1 | exact wb.2) ?_
      refine j_aload_n M dX4_findingOfCopy_24 rfl ?_
      refine gf_X4_11 M dX4_findingOfCopy_25 ?_
      refine j_iload_n M dX4_findingOfCopy_28 rfl ?_
      refine al_1_1 M dX4_findingOfCopy_29 (by first | assumption | decide | exact wa.1 | exact wa.2 | exact wb.1 | exact wb.2) (by first | assumption | decide | exact wa.1 | exact wa.2 | exact wb.1 | exact wb.2) ?_
      refine j_icmp_eq (tgt := 35) M dX4_findingOfCopy_30 (by decide) (fun h_30 => ?_) (fun h_30 => ?_)
      · refine j_aload_n M dX4_findingOfCopy_35 rfl ?_
        refine j_iload_n M dX4_findingOfCopy_36 rfl ?_
        refine j_iload_n M dX4_findingOfCopy_37 rfl ?_
        refine j_iload M dX4_findingOfCopy_38 rfl ?_
        refine j_inv3 M lk_X4_35 (c_X4_findingAt) rv_X4 dX4_findingOfCopy_40 (Nat.le_of_ble_eq_true rfl) ⟨(Nat.le_of_ble_eq_true rfl), (Nat.le_of_ble_eq_true rfl)⟩ (kE ?_)
        refine j_istore_6 M dX4_findingOfCopy_43 (by exact (by first | trivial | rfl)) ?_
        refine j_iload M dX4_findingOfCopy_45 rfl ?_
        refine j_if_eq (tgt := 55) M dX4_findingOfCopy_47 (by decide) (fun h_47 => ?_) (fun h_47 => ?_)
        · refine j_aload_n M dX4_findingOfCopy_55 rfl ?_
          refine j_iload_n M dX4_findingOfCopy_56 rfl ?_
          refine j_iload M dX4_findingOfCopy_57 rfl ?_
          refine j_iload M dX4_findingOfCopy_59 rfl ?_
          refine j_inv3 M lk_X4_35 (c_X4_findingAt) rv_X4 dX4_findingOfCopy_61 (Nat.le_of_ble_eq_true rfl) ⟨(Nat.le_of_ble_eq_true rfl), (Nat.le_of_ble_eq_true rfl)⟩ (kE ?_)
          exact j_iret M dX4_findingOfCopy_64 ⟨_, rfl, by (try dsimp only); exact ⟨rfl, by unfold fdC; rw [if_neg (fun q => q.elim b_2 b_10), if_neg (fun q => q h_30), if_neg (fun q => q h_47)]⟩⟩
        · refine j_iload M dX4_findingOfCopy_50 rfl ?_
          refine j_goto (tgt := 64) M dX4_findingOfCopy_52 (by decide) ?_
          exact j_iret M dX4_findingOfCopy_64 ⟨_, rfl, by (try dsimp only); exact ⟨rfl, by unfold fdC; rw [if_neg (fun q => q.elim b_2 b_10), if_neg (fun q => q h_30), if_pos h_47]⟩⟩
      · refine j_iconst (v := 5) M dX4_findingOfCopy_33 rfl ?_
        exact j_iret M dX4_findingOfCopy_34 ⟨_, rfl, by (try dsimp only); exact ⟨rfl, by unfold fdC; rw [if_neg (fun q => q.elim b_2 b_10), if_pos h_30]⟩⟩
    · have b_10 := ifT k_10 h_13
      refine j_iconst (v := 1) M dX4_findingOfCopy_16 rfl ?_
      exact j_iret M dX4_findingOfCopy_17 ⟨_, rfl, by (try dsimp only); exact ⟨rfl, by unfold fdC; rw [if_pos (by first | exact Or.inl b_2 | exact Or.inr b_10)]⟩⟩
set_option maxRecDepth 100000 in
theorem c_X4_howManyTold {l : Launch} {G : Gw} {σ : Sg}    : Mt l G yX4_howManyTold cX4_howManyTold 1 (some .int) 0 0 [.ref (ad G 1 0)] σ (pI fun r τ => τ = σ ∧ r = σ 1 0 4) := by
  refine mt_intro (by decide +kernel) (Nat.le_of_ble_eq_true rfl) (fun Φ M => ?_)
  show Φ 0 [some (.ref (ad G 1 0))] [] σ
  refine j_aload_n M dX4_howManyTold_0 rfl ?_
  refine gf_X4_25 M dX4_howManyTold_1 ?_
  exact j_iret M dX4_howManyTold_4 ⟨_, rfl, by (try dsimp only); exact ⟨rfl, rfl⟩⟩
set_option maxRecDepth 100000 in
theorem c_X4_told {l : Launch} {G : Gw} {σ : Sg} {k : Int32}  (hP : ∀ k, 0 ≤ k → k < σ 1 0 4 → 0 ≤ σ 1 0 3 + k ∧ σ 1 0 3 + k < 320) : Mt l G yX4_told cX4_told 2 (some .int) 0 0 [.ref (ad G 1 0), .int k] σ (pI fun r τ => τ = σ ∧ r = if 0 ≤ k ∧ k < σ 1 0 4 then σ 1 3 (σ 1 0 3 + k) else -1000000) := by
  refine mt_intro (by decide +kernel) (Nat.le_of_ble_eq_true rfl) (fun Φ M => ?_)
  show Φ 0 [some (.ref (ad G 1 0)), some (.int k)] [] σ
  refine j_iload_n M dX4_told_0 rfl ?_
  refine j_if_lt (tgt := 26) M dX4_told_1 (by decide) (fun h_1 => ?_) (fun h_1 => ?_)
  · refine j_ldc M k_X4_49 dX4_told_26 ?_
    exact j_iret M dX4_told_28 ⟨_, rfl, by (try dsimp only); exact ⟨rfl, by rw [if_neg (fun q => absurd h_1 (Int32.not_lt.mpr q.1))]⟩⟩
  · refine j_iload_n M dX4_told_4 rfl ?_
    refine j_aload_n M dX4_told_5 rfl ?_
    refine gf_X4_25 M dX4_told_6 ?_
    refine j_icmp_ge (tgt := 26) M dX4_told_9 (by decide) (fun h_9 => ?_) (fun h_9 => ?_)
    · refine j_ldc M k_X4_49 dX4_told_26 ?_
      exact j_iret M dX4_told_28 ⟨_, rfl, by (try dsimp only); exact ⟨rfl, by rw [if_neg (fun q => h_9 q.2)]⟩⟩
    · refine j_aload_n M dX4_told_12 rfl ?_
      refine gf_X4_18 M dX4_told_13 ?_
      refine j_aload_n M dX4_told_16 rfl ?_
      refine gf_X4_21 M dX4_told_17 ?_
      refine j_iload_n M dX4_told_20 rfl ?_
      refine j_iadd M dX4_told_21 ?_
      refine al_1_3 M dX4_told_22 (by first | exact (hP k (Int32.not_lt.mp h_1) h_9).1 | exact (hP k (Int32.not_lt.mp h_1) h_9).2) (by first | exact (hP k (Int32.not_lt.mp h_1) h_9).1 | exact (hP k (Int32.not_lt.mp h_1) h_9).2) ?_
      refine j_goto (tgt := 28) M dX4_told_23 (by decide) ?_
      exact j_iret M dX4_told_28 ⟨_, rfl, by (try dsimp only); exact ⟨rfl, by rw [if_pos ⟨Int32.not_lt.mp h_1, h_9⟩]⟩⟩
set_option maxRecDepth 100000 in
theorem c_X4_pick {l : Launch} {G : Gw} {σ : Sg} {w : Int32} {i : Int32} {n : Int32}   : Mt l G yX4_pick cX4_pick 5 none 3 65 [.ref (ad G 1 0), .int w, .int i, .int n] σ (pV fun τ => τ = pickS σ w i n) := by
  refine mt_intro (by decide +kernel) (Nat.le_of_ble_eq_true rfl) (fun Φ M => ?_)
  show Φ 0 [some (.ref (ad G 1 0)), some (.int w), some (.int i), some (.int n), none] [] σ
  refine j_aload_n M dX4_pick_0 rfl ?_
  refine j_iload_n M dX4_pick_1 rfl ?_
  refine j_iload_n M dX4_pick_2 rfl ?_
  refine j_iload_n M dX4_pick_3 rfl ?_
  refine j_inv3 M lk_X4_35 (c_X4_findingAt) rv_X4 dX4_pick_4 (Nat.le_of_ble_eq_true rfl) ⟨(Nat.le_of_ble_eq_true rfl), (Nat.le_of_ble_eq_true rfl)⟩ (kE ?_)
  refine j_if_ne (tgt := 14) M dX4_pick_7 (by decide) (fun h_7 => ?_) (fun h_7 => ?_)
  · refine j_iconst (v := 0) M dX4_pick_14 rfl ?_
    refine j_istore_4 M dX4_pick_15 (by exact (by first | trivial | rfl)) ?_
    refine j_aload_n M dX4_pick_17 rfl ?_
    refine j_iload M dX4_pick_18 rfl ?_
    refine j_if_eq (tgt := 32) M dX4_pick_20 (by decide) (fun h_20 => ?_) (fun h_20 => ?_)
    · refine j_iconst (v := 0) M dX4_pick_32 rfl ?_
      refine pf_X4_21 M dX4_pick_33 ?_
      refine j_aload_n M dX4_pick_36 rfl ?_
      refine j_iload M dX4_pick_37 rfl ?_
      refine j_if_eq (tgt := 46) M dX4_pick_39 (by decide) (fun h_39 => ?_) (fun h_39 => ?_)
      · refine j_iconst (v := 0) M dX4_pick_46 rfl ?_
        refine pf_X4_25 M dX4_pick_47 ?_
        exact j_vret M dX4_pick_50 ⟨rfl, by first | exact absurd rfl h_20 | exact absurd h_20 (by decide) | exact absurd rfl h_39 | exact absurd h_39 (by decide) | (unfold pickS; simp [h_7, h_20, h_39, up_up, up_same])⟩
      · refine j_iload_n M dX4_pick_42 rfl ?_
        refine j_goto (tgt := 47) M dX4_pick_43 (by decide) ?_
        refine pf_X4_25 M dX4_pick_47 ?_
        exact j_vret M dX4_pick_50 ⟨rfl, by first | exact absurd rfl h_20 | exact absurd h_20 (by decide) | exact absurd rfl h_39 | exact absurd h_39 (by decide) | (unfold pickS; simp [h_7, h_20, h_39, up_up, up_same])⟩
    · refine j_iload_n M dX4_pick_23 rfl ?_
      refine j_bipush (v := 40) M dX4_pick_24 rfl ?_
      refine j_imul M dX4_pick_26 ?_
      refine j_iload_n M dX4_pick_27 rfl ?_
      refine j_iadd M dX4_pick_28 ?_
      refine j_goto (tgt := 33) M dX4_pick_29 (by decide) ?_
      refine pf_X4_21 M dX4_pick_33 ?_
      refine j_aload_n M dX4_pick_36 rfl ?_
      refine j_iload M dX4_pick_37 rfl ?_
      refine j_if_eq (tgt := 46) M dX4_pick_39 (by decide) (fun h_39 => ?_) (fun h_39 => ?_)
      · refine j_iconst (v := 0) M dX4_pick_46 rfl ?_
        refine pf_X4_25 M dX4_pick_47 ?_
        exact j_vret M dX4_pick_50 ⟨rfl, by first | exact absurd rfl h_20 | exact absurd h_20 (by decide) | exact absurd rfl h_39 | exact absurd h_39 (by decide) | (unfold pickS; simp [h_7, h_20, h_39, up_up, up_same])⟩
      · refine j_iload_n M dX4_pick_42 rfl ?_
        refine j_goto (tgt := 47) M dX4_pick_43 (by decide) ?_
        refine pf_X4_25 M dX4_pick_47 ?_
        exact j_vret M dX4_pick_50 ⟨rfl, by first | exact absurd rfl h_20 | exact absurd h_20 (by decide) | exact absurd rfl h_39 | exact absurd h_39 (by decide) | (unfold pickS; simp [h_7, h_20, h_39, up_up, up_same])⟩
  · refine j_iconst (v := 1) M dX4_pick_10 rfl ?_
    refine j_goto (tgt := 15) M dX4_pick_11 (by decide) ?_
    refine j_istore_4 M dX4_pick_15 (by exact (by first | trivial | rfl)) ?_
    refine j_aload_n M dX4_pick_17 rfl ?_
    refine j_iload M dX4_pick_18 rfl ?_
    refine j_if_eq (tgt := 32) M dX4_pick_20 (by decide) (fun h_20 => ?_) (fun h_20 => ?_)
    · refine j_iconst (v := 0) M dX4_pick_32 rfl ?_
      refine pf_X4_21 M dX4_pick_33 ?_
      refine j_aload_n M dX4_pick_36 rfl ?_
      refine j_iload M dX4_pick_37 rfl ?_
      refine j_if_eq (tgt := 46) M dX4_pick_39 (by decide) (fun h_39 => ?_) (fun h_39 => ?_)
      · refine j_iconst (v := 0) M dX4_pick_46 rfl ?_
        refine pf_X4_25 M dX4_pick_47 ?_
        exact j_vret M dX4_pick_50 ⟨rfl, by first | exact absurd rfl h_20 | exact absurd h_20 (by decide) | exact absurd rfl h_39 | exact absurd h_39 (by decide) | (unfold pickS; simp [h_7, h_20, h_39, up_up, up_same])⟩
      · refine j_iload_n M dX4_pick_42 rfl ?_
        refine j_goto (tgt := 47) M dX4_pick_43 (by decide) ?_
        refine pf_X4_25 M dX4_pick_47 ?_
        exact j_vret M dX4_pick_50 ⟨rfl, by first | exact absurd rfl h_20 | exact absurd h_20 (by decide) | exact absurd rfl h_39 | exact absurd h_39 (by decide) | (unfold pickS; simp [h_7, h_20, h_39, up_up, up_same])⟩
    · refine j_iload_n M dX4_pick_23 rfl ?_
      refine j_bipush (v := 40) M dX4_pick_24 rfl ?_
      refine j_imul M dX4_pick_26 ?_
      refine j_iload_n M dX4_pick_27 rfl ?_
      refine j_iadd M dX4_pick_28 ?_
      refine j_goto (tgt := 33) M dX4_pick_29 (by decide) ?_
      refine pf_X4_21 M dX4_pick_33 ?_
      refine j_aload_n M dX4_pick_36 rfl ?_
      refine j_iload M dX4_pick_37 rfl ?_
      refine j_if_eq (tgt := 46) M dX4_pick_39 (by decide) (fun h_39 => ?_) (fun h_39 => ?_)
      · refine j_iconst (v := 0) M dX4_pick_46 rfl ?_
        refine pf_X4_25 M dX4_pick_47 ?_
        exact j_vret M dX4_pick_50 ⟨rfl, by first | exact absurd rfl h_20 | exact absurd h_20 (by decide) | exact absurd rfl h_39 | exact absurd h_39 (by decide) | (unfold pickS; simp [h_7, h_20, h_39, up_up, up_same])⟩
      · refine j_iload_n M dX4_pick_42 rfl ?_
        refine j_goto (tgt := 47) M dX4_pick_43 (by decide) ?_
        refine pf_X4_25 M dX4_pick_47 ?_
        exact j_vret M dX4_pick_50 ⟨rfl, by first | exact absurd rfl h_20 | exact absurd h_20 (by decide) | exact absurd rfl h_39 | exact absurd h_39 (by decide) | (unfold pickS; simp [h_7, h_20, h_39, up_up, up_same])⟩
set_option maxRecDepth 100000 in
theorem c_X4_make {l : Launch} {G : Gw} {σ : Sg} {w : Int32} {q : Int32} {n : Int32}   : Mt l G yX4_make cX4_make 5 none 1 20 [.ref (ad G 1 0), .int w, .int q, .int n] σ (pV fun τ => if 0 ≤ w ∧ w < 8 then τ 1 1 = upI (σ 1 1) w q ∧ τ 1 2 = upI (σ 1 2) w n ∧ τ 1 3 = rowZ (σ 1 3) w ∧ frm σ τ 1 [1, 2, 3] else τ = σ) := by
  refine mt_intro (by decide +kernel) (Nat.le_of_ble_eq_true rfl) (fun Φ M => ?_)
  show Φ 0 [some (.ref (ad G 1 0)), some (.int w), some (.int q), some (.int n), none] [] σ
  have lp : ∀ i : Int32, 0 ≤ i → ∀ τ : Sg, 0 ≤ w ∧ w < 8 → i ≤ 40 → (∀ j, 0 ≤ j → j < 320 → τ 1 3 j = blkS (σ 1 3) (fun _ => 0) (40 * w) i j) → τ 1 1 = upI (σ 1 1) w q → τ 1 2 = upI (σ 1 2) w n → frm σ τ 1 [1, 2, 3] → Φ 25 [some (.ref (ad G 1 0)), some (.int w), some (.int q), some (.int n), some (.int i)] [] τ := by
    refine loop_up 40 (fun i hi ih τ b_1 hle hc e1 e2 hfr => ?_)
    refine j_iload M dX4_make_25 rfl ?_
    refine j_bipush (v := 40) M dX4_make_27 rfl ?_
    refine j_icmp_ge (tgt := 51) M dX4_make_29 (by decide) (fun h_29 => ?_) (fun h_29 => ?_)
    · refine j_extA M (c := 1) (k := 3) (n := 320) (n' := 320) (f := rowZ (σ 1 3) w) (fun _ => rfl) rfl (by decide) (fun j j0 j1 => ?_) ?_
      · have ei : i = 40 := Int32.le_antisymm hle (Int32.not_lt.mp h_29)
        rw [hc j j0 j1, ei]; rfl
      exact j_vret M dX4_make_51 ⟨rfl, by dsimp only; rw [if_pos b_1]; exact ⟨by simp [up, e1], by simp [up, e2], by simp [up], frm_up hfr (by decide)⟩⟩
    · have ii := ix_row b_1.1 b_1.2 hi h_29
      have i4 := ix40 b_1.1 (show w ≤ 7 by grind) hi h_29
      refine j_aload_n M dX4_make_32 rfl ?_
      refine gf_X4_18 M dX4_make_33 ?_
      refine j_iload_n M dX4_make_36 rfl ?_
      refine j_bipush (v := 40) M dX4_make_37 rfl ?_
      refine j_imul M dX4_make_39 ?_
      refine j_iload M dX4_make_40 rfl ?_
      refine j_iadd M dX4_make_42 ?_
      refine j_iconst (v := 0) M dX4_make_43 rfl ?_
      refine as_1_3 M dX4_make_44 (by first | assumption | decide | exact ii.1 | exact ii.2) (by first | assumption | decide | exact ii.1 | exact ii.2) ?_
      refine j_iinc_4 M dX4_make_45 (show _ + Int32.ofInt 1 = _ + 1 from rfl) (by exact (by first | trivial | rfl)) ?_
      refine j_goto (tgt := 25) M dX4_make_48 (by decide) ?_
      exact ih h_29 _ b_1 (inc_lt hi h_29).2.1 (by rw [up_same, Int32.mul_comm w 40]; exact blk_step i4.2.1 (le280 i4.2.2) hi (li40 h_29) rfl hc) (by rw [up_ne _ _ (by decide)]; exact e1) (by rw [up_ne _ _ (by decide)]; exact e2) (frm_up hfr (by decide))
  refine j_iload_n M dX4_make_0 rfl ?_
  refine j_invs1 M lk_X4_28 (c_X4_isRow) dX4_make_1 (Nat.le_of_ble_eq_true rfl) ⟨(Nat.le_of_ble_eq_true rfl), (Nat.le_of_ble_eq_true rfl)⟩ (kP fun r_1 k_1 => ?_)
  refine j_if_ne (tgt := 8) M dX4_make_4 (by decide) (fun h_4 => ?_) (fun h_4 => ?_)
  · have b_1 := ifT k_1 h_4
    refine j_aload_n M dX4_make_8 rfl ?_
    refine gf_X4_11 M dX4_make_9 ?_
    refine j_iload_n M dX4_make_12 rfl ?_
    refine j_iload_n M dX4_make_13 rfl ?_
    refine as_1_1 M dX4_make_14 (by first | assumption | decide | exact b_1.1 | exact b_1.2) (by first | assumption | decide | exact b_1.1 | exact b_1.2) ?_
    refine j_aload_n M dX4_make_15 rfl ?_
    refine gf_X4_15 M dX4_make_16 ?_
    refine j_iload_n M dX4_make_19 rfl ?_
    refine j_iload_n M dX4_make_20 rfl ?_
    refine as_1_2 M dX4_make_21 (by first | assumption | decide | exact b_1.1 | exact b_1.2) (by first | assumption | decide | exact b_1.1 | exact b_1.2) ?_
    refine j_iconst (v := 0) M dX4_make_22 rfl ?_
    refine j_istore_4 M dX4_make_23 (by exact (by first | trivial | rfl)) ?_
    exact lp 0 (by decide) _ b_1 (by decide) (fun j j0 j1 => by rw [up_ne _ _ (by decide), up_ne _ _ (by decide)]; exact blk_0 _ _ _ _) (by simp [up]) (by simp [up]) (frm_up (frm_up (frm_refl _ _ _) (by decide)) (by decide))
  · have b_1 := ifF k_1 h_4
    exact j_vret M dX4_make_7 ⟨rfl, by dsimp only; rw [if_neg b_1]⟩
set_option maxRecDepth 100000 in
theorem c_X4_put {l : Launch} {G : Gw} {σ : Sg} {w : Int32} {i : Int32} {v : Int32}  (hB : RowB (σ 1 1) (σ 1 2)) : Mt l G yX4_put cX4_put 5 (some .int) 3 65 [.ref (ad G 1 0), .int w, .int i, .int v] σ (pI fun r τ => if fdR (σ 1 1) (σ 1 2) w i 1 = 0 then r = lanV (σ 1 1 w) v ∧ τ = up σ 1 3 (upI (σ 1 3) (w * 40 + i) (lanV (σ 1 1 w) v)) else r = 0 ∧ τ = σ) := by
  refine mt_intro (by decide +kernel) (Nat.le_of_ble_eq_true rfl) (fun Φ M => ?_)
  show Φ 0 [some (.ref (ad G 1 0)), some (.int w), some (.int i), some (.int v), none] [] σ
  refine j_aload_n M dX4_put_0 rfl ?_
  refine j_iload_n M dX4_put_1 rfl ?_
  refine j_iload_n M dX4_put_2 rfl ?_
  refine j_iconst (v := 1) M dX4_put_3 rfl ?_
  refine j_inv3 M lk_X4_35 (c_X4_findingAt) rv_X4 dX4_put_4 (Nat.le_of_ble_eq_true rfl) ⟨(Nat.le_of_ble_eq_true rfl), (Nat.le_of_ble_eq_true rfl)⟩ (kE ?_)
  refine j_if_eq (tgt := 12) M dX4_put_7 (by decide) (fun h_7 => ?_) (fun h_7 => ?_)
  · have z := fd_0 h_7
    have zz := hB w z.1.1 z.1.2 z.2.1
    have ii := ix_row z.1.1 z.1.2 z.2.2.1 (it40 z.2.2.2.2.2 zz.2 zz.1)
    refine j_aload_n M dX4_put_12 rfl ?_
    refine gf_X4_11 M dX4_put_13 ?_
    refine j_iload_n M dX4_put_16 rfl ?_
    refine al_1_1 M dX4_put_17 (by first | assumption | decide | exact z.1.1 | exact z.1.2 | exact ii.1 | exact ii.2) (by first | assumption | decide | exact z.1.1 | exact z.1.2 | exact ii.1 | exact ii.2) ?_
    refine j_if_ne (tgt := 26) M dX4_put_18 (by decide) (fun h_18 => ?_) (fun h_18 => ?_)
    · refine j_aload_n M dX4_put_26 rfl ?_
      refine gf_X4_11 M dX4_put_27 ?_
      refine j_iload_n M dX4_put_30 rfl ?_
      refine al_1_1 M dX4_put_31 (by first | assumption | decide | exact z.1.1 | exact z.1.2 | exact ii.1 | exact ii.2) (by first | assumption | decide | exact z.1.1 | exact z.1.2 | exact ii.1 | exact ii.2) ?_
      refine j_iconst (v := 1) M dX4_put_32 rfl ?_
      refine j_icmp_ne (tgt := 41) M dX4_put_33 (by decide) (fun h_33 => ?_) (fun h_33 => ?_)
      · refine j_iload_n M dX4_put_41 rfl ?_
        refine j_istore_4 M dX4_put_42 (by exact (by first | trivial | rfl)) ?_
        refine j_aload_n M dX4_put_44 rfl ?_
        refine gf_X4_18 M dX4_put_45 ?_
        refine j_iload_n M dX4_put_48 rfl ?_
        refine j_bipush (v := 40) M dX4_put_49 rfl ?_
        refine j_imul M dX4_put_51 ?_
        refine j_iload_n M dX4_put_52 rfl ?_
        refine j_iadd M dX4_put_53 ?_
        refine j_iload M dX4_put_54 rfl ?_
        refine as_1_3 M dX4_put_56 (by first | assumption | decide | exact z.1.1 | exact z.1.2 | exact ii.1 | exact ii.2) (by first | assumption | decide | exact z.1.1 | exact z.1.2 | exact ii.1 | exact ii.2) ?_
        refine j_iload M dX4_put_57 rfl ?_
        exact j_iret M dX4_put_59 ⟨_, rfl, by (try dsimp only); first | (rw [if_neg h_7]; exact ⟨rfl, rfl⟩) | (rw [if_pos h_7]; unfold lanV; simp [h_7, h_18, h_33])⟩
      · refine j_iload_n M dX4_put_36 rfl ?_
        refine j_i2s M dX4_put_37 ?_
        refine j_goto (tgt := 42) M dX4_put_38 (by decide) ?_
        refine j_istore_4 M dX4_put_42 (by exact (by first | trivial | rfl)) ?_
        refine j_aload_n M dX4_put_44 rfl ?_
        refine gf_X4_18 M dX4_put_45 ?_
        refine j_iload_n M dX4_put_48 rfl ?_
        refine j_bipush (v := 40) M dX4_put_49 rfl ?_
        refine j_imul M dX4_put_51 ?_
        refine j_iload_n M dX4_put_52 rfl ?_
        refine j_iadd M dX4_put_53 ?_
        refine j_iload M dX4_put_54 rfl ?_
        refine as_1_3 M dX4_put_56 (by first | assumption | decide | exact z.1.1 | exact z.1.2 | exact ii.1 | exact ii.2) (by first | assumption | decide | exact z.1.1 | exact z.1.2 | exact ii.1 | exact ii.2) ?_
        refine j_iload M dX4_put_57 rfl ?_
        exact j_iret M dX4_put_59 ⟨_, rfl, by (try dsimp only); first | (rw [if_neg h_7]; exact ⟨rfl, rfl⟩) | (rw [if_pos h_7]; unfold lanV; simp [h_7, h_18, h_33])⟩
    · refine j_iload_n M dX4_put_21 rfl ?_
      refine j_i2b M dX4_put_22 ?_
      refine j_goto (tgt := 42) M dX4_put_23 (by decide) ?_
      refine j_istore_4 M dX4_put_42 (by exact (by first | trivial | rfl)) ?_
      refine j_aload_n M dX4_put_44 rfl ?_
      refine gf_X4_18 M dX4_put_45 ?_
      refine j_iload_n M dX4_put_48 rfl ?_
      refine j_bipush (v := 40) M dX4_put_49 rfl ?_
      refine j_imul M dX4_put_51 ?_
      refine j_iload_n M dX4_put_52 rfl ?_
      refine j_iadd M dX4_put_53 ?_
      refine j_iload M dX4_put_54 rfl ?_
      refine as_1_3 M dX4_put_56 (by first | assumption | decide | exact z.1.1 | exact z.1.2 | exact ii.1 | exact ii.2) (by first | assumption | decide | exact z.1.1 | exact z.1.2 | exact ii.1 | exact ii.2) ?_
      refine j_iload M dX4_put_57 rfl ?_
      exact j_iret M dX4_put_59 ⟨_, rfl, by (try dsimp only); first | (rw [if_neg h_7]; exact ⟨rfl, rfl⟩) | (rw [if_pos h_7]; unfold lanV; simp [h_7, h_18])⟩
  · refine j_iconst (v := 0) M dX4_put_10 rfl ?_
    exact j_iret M dX4_put_11 ⟨_, rfl, by (try dsimp only); first | (rw [if_neg h_7]; exact ⟨rfl, rfl⟩) | (rw [if_pos h_7]; unfold lanV; simp [h_7])⟩
set_option maxRecDepth 100000 in
theorem c_X4_remove {l : Launch} {G : Gw} {σ : Sg} {w : Int32}   : Mt l G yX4_remove cX4_remove 2 (some .int) 2 41 [.ref (ad G 1 0), .int w] σ (pI fun r τ => if ¬ (0 ≤ w ∧ w < 8) ∨ σ 1 1 w = -1 then r = 0 ∧ τ = σ else r = σ 1 2 w ∧ τ = up σ 1 1 (upI (σ 1 1) w (-1))) := by
  refine mt_intro (by decide +kernel) (Nat.le_of_ble_eq_true rfl) (fun Φ M => ?_)
  show Φ 0 [some (.ref (ad G 1 0)), some (.int w)] [] σ
  refine j_aload_n M dX4_remove_0 rfl ?_
  refine j_iload_n M dX4_remove_1 rfl ?_
  refine j_inv1 M lk_X4_32 (c_X4_isMissing) rv_X4 dX4_remove_2 (Nat.le_of_ble_eq_true rfl) ⟨(Nat.le_of_ble_eq_true rfl), (Nat.le_of_ble_eq_true rfl)⟩ (kP fun r_2 k_2 => ?_)
  refine j_if_eq (tgt := 10) M dX4_remove_5 (by decide) (fun h_5 => ?_) (fun h_5 => ?_)
  · have b_2 := ifF k_2 h_5
    have wr := fd_rng b_2
    refine j_aload_n M dX4_remove_10 rfl ?_
    refine gf_X4_11 M dX4_remove_11 ?_
    refine j_iload_n M dX4_remove_14 rfl ?_
    refine j_iconst (v := (-1)) M dX4_remove_15 rfl ?_
    refine as_1_1 M dX4_remove_16 (by first | assumption | decide | exact wr.1 | exact wr.2) (by first | assumption | decide | exact wr.1 | exact wr.2) ?_
    refine j_aload_n M dX4_remove_17 rfl ?_
    refine gf_X4_15 M dX4_remove_18 ?_
    refine j_iload_n M dX4_remove_21 rfl ?_
    refine al_1_2 M dX4_remove_22 (by first | assumption | decide | exact wr.1 | exact wr.2) (by first | assumption | decide | exact wr.1 | exact wr.2) ?_
    exact j_iret M dX4_remove_23 ⟨_, rfl, by (try dsimp only); first | (rw [if_pos b_2]; exact ⟨rfl, rfl⟩) | (rw [if_neg b_2]; exact ⟨by simp [up], rfl⟩)⟩
  · have b_2 := ifT k_2 h_5
    refine j_iconst (v := 0) M dX4_remove_8 rfl ?_
    exact j_iret M dX4_remove_9 ⟨_, rfl, by (try dsimp only); first | (rw [if_pos b_2]; exact ⟨rfl, rfl⟩) | (rw [if_neg b_2]; exact ⟨by simp [up], rfl⟩)⟩
set_option maxRecDepth 100000 in
theorem c_X4_standing {l : Launch} {G : Gw} {σ : Sg}    : Mt l G yX4_standing cX4_standing 3 (some .int) 0 0 [.ref (ad G 1 0)] σ (pI fun r τ => τ = σ ∧ r = rowsL (σ 1 1) 8) := by
  refine mt_intro (by decide +kernel) (Nat.le_of_ble_eq_true rfl) (fun Φ M => ?_)
  show Φ 0 [some (.ref (ad G 1 0)), none, none] [] σ
  have lp : ∀ i : Int32, 0 ≤ i → ∀ z : Int32, i ≤ 8 → z = rowsL (σ 1 1) i → Φ 4 [some (.ref (ad G 1 0)), some (.int z), some (.int i)] [] σ := by
    refine loop_up 8 (fun i hi ih z hle hz => ?_)
    refine j_iload_n M dX4_standing_4 rfl ?_
    refine j_bipush (v := 8) M dX4_standing_5 rfl ?_
    refine j_icmp_ge (tgt := 34) M dX4_standing_7 (by decide) (fun h_7 => ?_) (fun h_7 => ?_)
    · refine j_iload_n M dX4_standing_34 rfl ?_
      exact j_iret M dX4_standing_35 ⟨_, rfl, by (try dsimp only); have ei : i = 8 := Int32.le_antisymm hle (Int32.not_lt.mp h_7); rw [ei] at hz; exact ⟨rfl, hz⟩⟩
    · refine j_iload_n M dX4_standing_10 rfl ?_
      refine j_aload_n M dX4_standing_11 rfl ?_
      refine gf_X4_11 M dX4_standing_12 ?_
      refine j_iload_n M dX4_standing_15 rfl ?_
      refine al_1_1 M dX4_standing_16 (by first | assumption | decide) (by first | assumption | decide) ?_
      refine j_iconst (v := (-1)) M dX4_standing_17 rfl ?_
      refine j_icmp_ne (tgt := 25) M dX4_standing_18 (by decide) (fun h_18 => ?_) (fun h_18 => ?_)
      · refine j_iconst (v := 1) M dX4_standing_25 rfl ?_
        refine j_iadd M dX4_standing_26 ?_
        refine j_istore_1 M dX4_standing_27 (by exact (by first | trivial | rfl)) ?_
        refine j_iinc_2 M dX4_standing_28 (show _ + Int32.ofInt 1 = _ + 1 from rfl) (by exact (by first | trivial | rfl)) ?_
        refine j_goto (tgt := 4) M dX4_standing_31 (by decide) ?_
        exact ih h_7 _ (inc_lt hi h_7).2.1 (by unfold rowsL at hz ⊢; rw [foldI_s _ _ hi h_7, ← hz]; simp [h_7, h_18])
      · refine j_iconst (v := 0) M dX4_standing_21 rfl ?_
        refine j_goto (tgt := 26) M dX4_standing_22 (by decide) ?_
        refine j_iadd M dX4_standing_26 ?_
        refine j_istore_1 M dX4_standing_27 (by exact (by first | trivial | rfl)) ?_
        refine j_iinc_2 M dX4_standing_28 (show _ + Int32.ofInt 1 = _ + 1 from rfl) (by exact (by first | trivial | rfl)) ?_
        refine j_goto (tgt := 4) M dX4_standing_31 (by decide) ?_
        exact ih h_7 _ (inc_lt hi h_7).2.1 (by unfold rowsL at hz ⊢; rw [foldI_s _ _ hi h_7, ← hz]; simp [h_7, h_18])
  refine j_iconst (v := 0) M dX4_standing_0 rfl ?_
  refine j_istore_1 M dX4_standing_1 (by exact (by first | trivial | rfl)) ?_
  refine j_iconst (v := 0) M dX4_standing_2 rfl ?_
  refine j_istore_2 M dX4_standing_3 (by exact (by first | trivial | rfl)) ?_
  exact lp 0 (by decide) _ (by decide) rfl
set_option maxRecDepth 100000 in
theorem c_X4_shift {l : Launch} {G : Gw} {σ : Sg} {a : Int32} {i : Int32} {b : Int32} {j : Int32} {n : Int32}  (hB : RowB (σ 1 1) (σ 1 2)) : Mt l G yX4_shift cX4_shift 6 none 4 91 [.ref (ad G 1 0), .int a, .int i, .int b, .int j, .int n] σ (pV fun τ => if fdC (σ 1 1) (σ 1 2) a i b j n = 0 then τ = up σ 1 3 (blkS (σ 1 3) (fun t => σ 1 3 (a * 40 + i + t)) (b * 40 + j) n) else τ = σ) := by
  refine mt_intro (by decide +kernel) (Nat.le_of_ble_eq_true rfl) (fun Φ M => ?_)
  show Φ 0 [some (.ref (ad G 1 0)), some (.int a), some (.int i), some (.int b), some (.int j), some (.int n)] [] σ
  refine j_aload_n M dX4_shift_0 rfl ?_
  refine j_iload_n M dX4_shift_1 rfl ?_
  refine j_iload_n M dX4_shift_2 rfl ?_
  refine j_iload_n M dX4_shift_3 rfl ?_
  refine j_iload M dX4_shift_4 rfl ?_
  refine j_iload M dX4_shift_6 rfl ?_
  refine j_inv5 M lk_X4_39 (c_X4_findingOfCopy) rv_X4 dX4_shift_8 (Nat.le_of_ble_eq_true rfl) ⟨(Nat.le_of_ble_eq_true rfl), (Nat.le_of_ble_eq_true rfl)⟩ (kE ?_)
  refine j_if_ne (tgt := 40) M dX4_shift_11 (by decide) (fun h_11 => ?_) (fun h_11 => ?_)
  · exact j_vret M dX4_shift_40 ⟨rfl, by dsimp only; first | (rw [if_neg h_11]; done) | (rw [if_pos h_11])⟩
  · refine j_aload_n M dX4_shift_14 rfl ?_
    refine gf_X4_18 M dX4_shift_15 ?_
    refine j_iload_n M dX4_shift_18 rfl ?_
    refine j_bipush (v := 40) M dX4_shift_19 rfl ?_
    refine j_imul M dX4_shift_21 ?_
    refine j_iload_n M dX4_shift_22 rfl ?_
    refine j_iadd M dX4_shift_23 ?_
    refine j_aload_n M dX4_shift_24 rfl ?_
    refine gf_X4_18 M dX4_shift_25 ?_
    refine j_iload_n M dX4_shift_28 rfl ?_
    refine j_bipush (v := 40) M dX4_shift_29 rfl ?_
    refine j_imul M dX4_shift_31 ?_
    refine j_iload M dX4_shift_32 rfl ?_
    refine j_iadd M dX4_shift_34 ?_
    refine j_iload M dX4_shift_35 rfl ?_
    have z := fdC_0 h_11
    have za := fd_0 z.2.1
    have zb := fd_0 z.2.2
    have ba := hB a za.1.1 za.1.2 za.2.1
    have bb := hB b zb.1.1 zb.1.2 zb.2.1
    have ra := acp_rng za.1.1 za.1.2 za.2.2.1 za.2.2.2.1 za.2.2.2.2.1 za.2.2.2.2.2 ba.2
    have rb := acp_rng zb.1.1 zb.1.2 zb.2.2.1 zb.2.2.2.1 zb.2.2.2.2.1 zb.2.2.2.2.2 bb.2
    refine j_acopy M (by decide) (by decide) rfl (fun _ => rfl) (by decide) (by decide) mm_X4_43 nt_acopy sm_acopy in_J10 (Nat.le_of_ble_eq_true rfl) (Nat.le_of_ble_eq_true rfl) dX4_shift_37 (ra.1) (rb.1) (za.2.2.2.1) (ra.2) (rb.2) ?_
    exact j_vret M dX4_shift_40 ⟨rfl, by dsimp only; first | (rw [if_neg h_11]; done) | (rw [if_pos h_11])⟩
