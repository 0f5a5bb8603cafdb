/-- what the class's library() comes to -/
def libC (σ τ : Sg) (r : Int32) (L : PR) : Prop := (L.1 = false → r = -1000100 - nI L.2.1 ∧ τ 2 0 1 = 0 ∧ τ 2 0 2 = L.2.2.1 ∧ (∀ c k, c ≠ 7 → ¬ (c = 2 ∧ k = 0) → τ c k = σ c k)) ∧ (L.1 = true → τ 2 0 1 = 0 ∧ τ 2 0 2 = σ 2 0 2 ∧ (WF0 L.2.2.2 → LibF (τ 6) L.2.2.2 ∧ r = L.2.2.2 1) ∧ τ 3 0 1 = σ 3 0 1 ∧ τ 3 0 2 = 0 ∧ (∀ c k, c ≠ 7 → c ≠ 6 → ¬ (c = 2 ∧ k = 0) → ¬ (c = 3 ∧ k = 0) → τ c k = σ c k))
theorem lib_no {σ τ : Sg} {r : Int32} {L : PR} (q : riQ σ τ 7 r L) (h : ¬ r = -1000000) : libC σ τ (-1000100 - r) L := by
  obtain ⟨q1, q2, q3, q4, q5⟩ := q
  refine ⟨fun e => ?_, fun e => absurd (q1 e).1 h⟩
  have z := q2 e
  exact ⟨by rw [z.1], q3, z.2, fun c k a b => q5 c k a b⟩
theorem lib_yes {σ τ υ : Sg} {r : Int32} {L : PR} (q : riQ σ τ 7 r L) (h : r = -1000000) (t : Tk τ υ 6 7) : libC σ (up υ 3 0 (upI (υ 3 0) 2 0)) ((up υ 3 0 (upI (υ 3 0) 2 0)) 6 0 1) L := by
  obtain ⟨q1, q2, q3, q4, q5⟩ := q
  refine ⟨fun e => absurd (h.symm.trans (q2 e).1).symm (nI_NONE q4), fun e => ?_⟩
  obtain ⟨z1, z2, z3⟩ := q1 e
  obtain ⟨t1, t2, t3⟩ := t
  have e2 : υ 2 0 = τ 2 0 := t3 2 0 (by decide)
  have e3 : υ 3 0 = σ 3 0 := (t3 3 0 (by decide)).trans (q5 3 0 (by decide) (by decide))
  have e6 : (up υ 3 0 (upI (υ 3 0) 2 0)) 6 = υ 6 := funext (fun k => up_ne _ _ (by omega))
  refine ⟨?_, ?_, fun hw => ?_, ?_, ?_, fun c k a b d f => ?_⟩
  · rw [up_ne _ _ (by decide), e2]; exact q3
  · rw [up_ne _ _ (by decide), e2]; exact z2
  · rw [e6]
    have l := t1 _ hw z3
    exact ⟨l, l.1.2.1⟩
  · rw [up_same, upI_ne _ _ (by decide), e3]
  · rw [up_same, upI_same]
  · rw [up_ne _ _ f, t3 c k (fun e => b e.1)]
    exact q5 c k a d
set_option maxRecDepth 100000 in
theorem c_X6_row {l : Launch} {G : Gw} {σ : Sg} {w : Int32} {q : Int32} {n : Int32}   : Mt l G yX6_row cX6_row 4 (some .int) 2 44 [.ref (ad G 0 0), .int w, .int q, .int n] σ (pI fun r τ => if ¬ ((0 ≤ w ∧ w < 8) ∧ (0 ≤ q ∧ q ≤ 2) ∧ ¬ 40 < n) then r = -1000001 ∧ τ = σ else if n < 0 then r = -1000014 ∧ τ = up σ 0 0 (upI (σ 0 0) 9 (4)) else r = n ∧ τ 1 1 = upI (σ 1 1) w q ∧ τ 1 2 = upI (σ 1 2) w n ∧ τ 1 3 = rowZ (σ 1 3) w ∧ τ 0 0 = upI (σ 0 0) 9 0 ∧ frs σ τ [(0, 0), (1, 1), (1, 2), (1, 3)]) := by
  refine mt_intro (by decide +kernel) (Nat.le_of_ble_eq_true rfl) (fun Φ M => ?_)
  show Φ 0 [some (.ref (ad G 0 0)), some (.int w), some (.int q), some (.int n)] [] σ
  refine j_iload_n M dX6_row_0 rfl ?_
  refine j_invs1 M lk_X6_64 (c_X4_isRow) dX6_row_1 (Nat.le_of_ble_eq_true rfl) ⟨(Nat.le_of_ble_eq_true rfl), (Nat.le_of_ble_eq_true rfl)⟩ (kP fun r_1 k_1 => ?_)
  refine j_if_eq (tgt := 20) M dX6_row_4 (by decide) (fun h_4 => ?_) (fun h_4 => ?_)
  · have b_1 := ifF k_1 h_4
    refine j_ldc M k_X6_71 dX6_row_20 ?_
    exact j_iret M dX6_row_22 ⟨_, rfl, by (try dsimp only); rw [if_pos (fun q => b_1 q.1)]; exact ⟨rfl, rfl⟩⟩
  · have b_1 := ifT k_1 h_4
    refine j_iload_n M dX6_row_7 rfl ?_
    refine j_invs1 M lk_X6_68 (c_X4_isLane) dX6_row_8 (Nat.le_of_ble_eq_true rfl) ⟨(Nat.le_of_ble_eq_true rfl), (Nat.le_of_ble_eq_true rfl)⟩ (kP fun r_8 k_8 => ?_)
    refine j_if_eq (tgt := 20) M dX6_row_11 (by decide) (fun h_11 => ?_) (fun h_11 => ?_)
    · have b_8 := ifF k_8 h_11
      refine j_ldc M k_X6_71 dX6_row_20 ?_
      exact j_iret M dX6_row_22 ⟨_, rfl, by (try dsimp only); rw [if_pos (fun q => b_8 q.2.1)]; exact ⟨rfl, rfl⟩⟩
    · have b_8 := ifT k_8 h_11
      refine j_iload_n M dX6_row_14 rfl ?_
      refine j_bipush (v := 40) M dX6_row_15 rfl ?_
      refine j_icmp_le (tgt := 23) M dX6_row_17 (by decide) (fun h_17 => ?_) (fun h_17 => ?_)
      · refine j_iload_n M dX6_row_23 rfl ?_
        refine j_if_ge (tgt := 33) M dX6_row_24 (by decide) (fun h_24 => ?_) (fun h_24 => ?_)
        · refine j_aload_n M dX6_row_33 rfl ?_
          refine gf_X6_10 M dX6_row_34 ?_
          refine j_iload_n M dX6_row_37 rfl ?_
          refine j_iload_n M dX6_row_38 rfl ?_
          refine j_iload_n M dX6_row_39 rfl ?_
          refine j_inv3 M lk_X6_76 (c_X4_make) rv_X4 dX6_row_40 (Nat.le_of_ble_eq_true rfl) ⟨(Nat.le_of_ble_eq_true rfl), (Nat.le_of_ble_eq_true rfl)⟩ (kV fun σ_40 q_40 => ?_)
          refine j_aload_n M dX6_row_43 rfl ?_
          refine j_iload_n M dX6_row_44 rfl ?_
          refine j_inv1 M lk_X6_80 (c_X6_foundNothing) rv_X6 dX6_row_45 (Nat.le_of_ble_eq_true rfl) ⟨(Nat.le_of_ble_eq_true rfl), (Nat.le_of_ble_eq_true rfl)⟩ (kI fun r_45 σ_45 q_45 => ?_)
          obtain ⟨rfl, rfl⟩ := q_45
          exact j_iret M dX6_row_48 ⟨_, rfl, by (try dsimp only); rw [if_neg (fun q => q ⟨b_1, b_8, h_17⟩), if_neg h_24]; rw [if_pos b_1] at q_40; obtain ⟨m1, m2, m3, m4⟩ := q_40; exact ⟨rfl, by rw [up_ne _ _ (by decide)]; exact m1, by rw [up_ne _ _ (by decide)]; exact m2, by rw [up_ne _ _ (by decide)]; exact m3, by rw [up_same, m4 0 0 (by decide)], frs_u (frs_f m4 (by decide)) (by decide)⟩⟩
        · refine j_aload_n M dX6_row_27 rfl ?_
          refine j_iconst (v := 4) M dX6_row_28 rfl ?_
          refine j_inv1 M lk_X6_72 (c_X6_found) rv_X6 dX6_row_29 (Nat.le_of_ble_eq_true rfl) ⟨(Nat.le_of_ble_eq_true rfl), (Nat.le_of_ble_eq_true rfl)⟩ (kI fun r_29 σ_29 q_29 => ?_)
          obtain ⟨rfl, rfl⟩ := q_29
          exact j_iret M dX6_row_32 ⟨_, rfl, by (try dsimp only); rw [if_neg (fun q => q ⟨b_1, b_8, h_17⟩), if_pos h_24]; exact ⟨rfl, rfl⟩⟩
      · refine j_ldc M k_X6_71 dX6_row_20 ?_
        exact j_iret M dX6_row_22 ⟨_, rfl, by (try dsimp only); rw [if_pos (fun q => q.2.2 h_17)]; exact ⟨rfl, rfl⟩⟩
set_option maxRecDepth 100000 in
theorem c_X6_set {l : Launch} {G : Gw} {σ : Sg} {w : Int32} {i : Int32} {v : Int32}  (hB : RowB (σ 1 1) (σ 1 2)) : Mt l G yX6_set cX6_set 5 (some .int) 4 89 [.ref (ad G 0 0), .int w, .int i, .int v] σ (pI fun r τ => if ¬ (0 ≤ w ∧ w < 8) then r = -1000001 ∧ τ = σ else if ¬ (fdR (σ 1 1) (σ 1 2) w i 1) = 0 then r = -1000010 - (fdR (σ 1 1) (σ 1 2) w i 1) ∧ τ = up σ 0 0 (upI (σ 0 0) 9 ((fdR (σ 1 1) (σ 1 2) w i 1))) else r = lanV (σ 1 1 w) v ∧ τ 1 3 = upI (σ 1 3) (w * 40 + i) (lanV (σ 1 1 w) v) ∧ τ 0 0 = upI (σ 0 0) 9 0 ∧ frs σ τ [(0, 0), (1, 3)]) := by
  refine mt_intro (by decide +kernel) (Nat.le_of_ble_eq_true rfl) (fun Φ M => ?_)
  show Φ 0 [some (.ref (ad G 0 0)), some (.int w), some (.int i), some (.int v), none] [] σ
  refine j_iload_n M dX6_set_0 rfl ?_
  refine j_invs1 M lk_X6_64 (c_X4_isRow) dX6_set_1 (Nat.le_of_ble_eq_true rfl) ⟨(Nat.le_of_ble_eq_true rfl), (Nat.le_of_ble_eq_true rfl)⟩ (kP fun r_1 k_1 => ?_)
  refine j_if_ne (tgt := 10) M dX6_set_4 (by decide) (fun h_4 => ?_) (fun h_4 => ?_)
  · have b_1 := ifT k_1 h_4
    refine j_aload_n M dX6_set_10 rfl ?_
    refine gf_X6_10 M dX6_set_11 ?_
    refine j_iload_n M dX6_set_14 rfl ?_
    refine j_iload_n M dX6_set_15 rfl ?_
    refine j_iconst (v := 1) M dX6_set_16 rfl ?_
    refine j_inv3 M lk_X6_83 (c_X4_findingAt) rv_X4 dX6_set_17 (Nat.le_of_ble_eq_true rfl) ⟨(Nat.le_of_ble_eq_true rfl), (Nat.le_of_ble_eq_true rfl)⟩ (kE ?_)
    refine j_istore_4 M dX6_set_20 (by exact (by first | trivial | rfl)) ?_
    refine j_iload M dX6_set_22 rfl ?_
    refine j_if_eq (tgt := 34) M dX6_set_24 (by decide) (fun h_24 => ?_) (fun h_24 => ?_)
    · refine j_aload_n M dX6_set_34 rfl ?_
      refine j_aload_n M dX6_set_35 rfl ?_
      refine gf_X6_10 M dX6_set_36 ?_
      refine j_iload_n M dX6_set_39 rfl ?_
      refine j_iload_n M dX6_set_40 rfl ?_
      refine j_iload_n M dX6_set_41 rfl ?_
      refine j_inv3 M lk_X6_87 (c_X4_put (hB)) rv_X4 dX6_set_42 (Nat.le_of_ble_eq_true rfl) ⟨(Nat.le_of_ble_eq_true rfl), (Nat.le_of_ble_eq_true rfl)⟩ (kI fun r_42 σ_42 q_42 => ?_)
      refine j_inv1 M lk_X6_80 (c_X6_foundNothing) rv_X6 dX6_set_45 (Nat.le_of_ble_eq_true rfl) ⟨(Nat.le_of_ble_eq_true rfl), (Nat.le_of_ble_eq_true rfl)⟩ (kI fun r_45 σ_45 q_45 => ?_)
      obtain ⟨rfl, rfl⟩ := q_45
      exact j_iret M dX6_set_48 ⟨_, rfl, by (try dsimp only); rw [if_neg (fun q => q b_1), if_neg (fun q => q h_24)]; rw [if_pos h_24] at q_42; obtain ⟨m1, m2⟩ := q_42; rw [m1, m2]; exact ⟨rfl, by rw [up_ne _ _ (by decide), up_same], by rw [up_same, up_ne _ _ (by decide)], frs_u (frs_u (frs_r _ _) (by decide)) (by decide)⟩⟩
    · refine j_aload_n M dX6_set_27 rfl ?_
      refine j_iload M dX6_set_28 rfl ?_
      refine j_inv1 M lk_X6_72 (c_X6_found) rv_X6 dX6_set_30 (Nat.le_of_ble_eq_true rfl) ⟨(Nat.le_of_ble_eq_true rfl), (Nat.le_of_ble_eq_true rfl)⟩ (kI fun r_30 σ_30 q_30 => ?_)
      obtain ⟨rfl, rfl⟩ := q_30
      exact j_iret M dX6_set_33 ⟨_, rfl, by (try dsimp only); rw [if_neg (fun q => q b_1), if_pos h_24]; exact ⟨rfl, rfl⟩⟩
  · have b_1 := ifF k_1 h_4
    refine j_ldc M k_X6_71 dX6_set_7 ?_
    exact j_iret M dX6_set_9 ⟨_, rfl, by (try dsimp only); rw [if_pos b_1]; exact ⟨rfl, rfl⟩⟩
set_option maxRecDepth 100000 in
theorem c_X6_copy {l : Launch} {G : Gw} {σ : Sg} {a : Int32} {i : Int32} {b : Int32} {j : Int32} {n : Int32}  (hB : RowB (σ 1 1) (σ 1 2)) : Mt l G yX6_copy cX6_copy 7 (some .int) 5 116 [.ref (ad G 0 0), .int a, .int i, .int b, .int j, .int n] σ (pI fun r τ => if ¬ ((0 ≤ a ∧ a < 8) ∧ (0 ≤ b ∧ b < 8)) then r = -1000001 ∧ τ = σ else if ¬ (fdC (σ 1 1) (σ 1 2) a i b j n) = 0 then r = -1000010 - (fdC (σ 1 1) (σ 1 2) a i b j n) ∧ τ = up σ 0 0 (upI (σ 0 0) 9 ((fdC (σ 1 1) (σ 1 2) a i b j n))) else r = n ∧ τ 1 3 = blkS (σ 1 3) (fun x => σ 1 3 (a * 40 + i + x)) (b * 40 + j) n ∧ τ 0 0 = upI (σ 0 0) 9 0 ∧ frs σ τ [(0, 0), (1, 3)]) := by
  refine mt_intro (by decide +kernel) (Nat.le_of_ble_eq_true rfl) (fun Φ M => ?_)
  show Φ 0 [some (.ref (ad G 0 0)), some (.int a), some (.int i), some (.int b), some (.int j), some (.int n), none] [] σ
  refine j_iload_n M dX6_copy_0 rfl ?_
  refine j_invs1 M lk_X6_64 (c_X4_isRow) dX6_copy_1 (Nat.le_of_ble_eq_true rfl) ⟨(Nat.le_of_ble_eq_true rfl), (Nat.le_of_ble_eq_true rfl)⟩ (kP fun r_1 k_1 => ?_)
  refine j_if_eq (tgt := 14) M dX6_copy_4 (by decide) (fun h_4 => ?_) (fun h_4 => ?_)
  · have b_1 := ifF k_1 h_4
    refine j_ldc M k_X6_71 dX6_copy_14 ?_
    exact j_iret M dX6_copy_16 ⟨_, rfl, by (try dsimp only); rw [if_pos (fun q => b_1 q.1)]; exact ⟨rfl, rfl⟩⟩
  · have b_1 := ifT k_1 h_4
    refine j_iload_n M dX6_copy_7 rfl ?_
    refine j_invs1 M lk_X6_64 (c_X4_isRow) dX6_copy_8 (Nat.le_of_ble_eq_true rfl) ⟨(Nat.le_of_ble_eq_true rfl), (Nat.le_of_ble_eq_true rfl)⟩ (kP fun r_8 k_8 => ?_)
    refine j_if_ne (tgt := 17) M dX6_copy_11 (by decide) (fun h_11 => ?_) (fun h_11 => ?_)
    · have b_8 := ifT k_8 h_11
      refine j_aload_n M dX6_copy_17 rfl ?_
      refine gf_X6_10 M dX6_copy_18 ?_
      refine j_iload_n M dX6_copy_21 rfl ?_
      refine j_iload_n M dX6_copy_22 rfl ?_
      refine j_iload_n M dX6_copy_23 rfl ?_
      refine j_iload M dX6_copy_24 rfl ?_
      refine j_iload M dX6_copy_26 rfl ?_
      refine j_inv5 M lk_X6_90 (c_X4_findingOfCopy) rv_X4 dX6_copy_28 (Nat.le_of_ble_eq_true rfl) ⟨(Nat.le_of_ble_eq_true rfl), (Nat.le_of_ble_eq_true rfl)⟩ (kE ?_)
      refine j_istore_6 M dX6_copy_31 (by exact (by first | trivial | rfl)) ?_
      refine j_iload M dX6_copy_33 rfl ?_
      refine j_if_eq (tgt := 45) M dX6_copy_35 (by decide) (fun h_35 => ?_) (fun h_35 => ?_)
      · refine j_aload_n M dX6_copy_45 rfl ?_
        refine gf_X6_10 M dX6_copy_46 ?_
        refine j_iload_n M dX6_copy_49 rfl ?_
        refine j_iload_n M dX6_copy_50 rfl ?_
        refine j_iload_n M dX6_copy_51 rfl ?_
        refine j_iload M dX6_copy_52 rfl ?_
        refine j_iload M dX6_copy_54 rfl ?_
        refine j_inv5 M lk_X6_94 (c_X4_shift (hB)) rv_X4 dX6_copy_56 (Nat.le_of_ble_eq_true rfl) ⟨(Nat.le_of_ble_eq_true rfl), (Nat.le_of_ble_eq_true rfl)⟩ (kV fun σ_56 q_56 => ?_)
        refine j_aload_n M dX6_copy_59 rfl ?_
        refine j_iload M dX6_copy_60 rfl ?_
        refine j_inv1 M lk_X6_80 (c_X6_foundNothing) rv_X6 dX6_copy_62 (Nat.le_of_ble_eq_true rfl) ⟨(Nat.le_of_ble_eq_true rfl), (Nat.le_of_ble_eq_true rfl)⟩ (kI fun r_62 σ_62 q_62 => ?_)
        obtain ⟨rfl, rfl⟩ := q_62
        exact j_iret M dX6_copy_65 ⟨_, rfl, by (try dsimp only); rw [if_neg (fun q => q ⟨b_1, b_8⟩), if_neg (fun q => q h_35)]; rw [if_pos h_35] at q_56; rw [q_56]; exact ⟨rfl, by rw [up_ne _ _ (by decide), up_same], by rw [up_same, up_ne _ _ (by decide)], frs_u (frs_u (frs_r _ _) (by decide)) (by decide)⟩⟩
      · refine j_aload_n M dX6_copy_38 rfl ?_
        refine j_iload M dX6_copy_39 rfl ?_
        refine j_inv1 M lk_X6_72 (c_X6_found) rv_X6 dX6_copy_41 (Nat.le_of_ble_eq_true rfl) ⟨(Nat.le_of_ble_eq_true rfl), (Nat.le_of_ble_eq_true rfl)⟩ (kI fun r_41 σ_41 q_41 => ?_)
        obtain ⟨rfl, rfl⟩ := q_41
        exact j_iret M dX6_copy_44 ⟨_, rfl, by (try dsimp only); rw [if_neg (fun q => q ⟨b_1, b_8⟩), if_pos h_35]; exact ⟨rfl, rfl⟩⟩
    · have b_8 := ifF k_8 h_11
      refine j_ldc M k_X6_71 dX6_copy_14 ?_
      exact j_iret M dX6_copy_16 ⟨_, rfl, by (try dsimp only); rw [if_pos (fun q => b_8 q.2)]; exact ⟨rfl, rfl⟩⟩
set_option maxRecDepth 100000 in
theorem c_X6_drop {l : Launch} {G : Gw} {σ : Sg} {w : Int32}   : Mt l G yX6_drop cX6_drop 2 (some .int) 3 62 [.ref (ad G 0 0), .int w] σ (pI fun r τ => if ¬ (0 ≤ w ∧ w < 8) then r = -1000001 ∧ τ = σ else if σ 1 1 w = -1 then r = -1000011 ∧ τ = up σ 0 0 (upI (σ 0 0) 9 (1)) else r = σ 1 2 w ∧ τ 1 1 = upI (σ 1 1) w (-1) ∧ τ 0 0 = upI (σ 0 0) 9 0 ∧ frs σ τ [(0, 0), (1, 1)]) := by
  refine mt_intro (by decide +kernel) (Nat.le_of_ble_eq_true rfl) (fun Φ M => ?_)
  show Φ 0 [some (.ref (ad G 0 0)), some (.int w)] [] σ
  refine j_iload_n M dX6_drop_0 rfl ?_
  refine j_invs1 M lk_X6_64 (c_X4_isRow) dX6_drop_1 (Nat.le_of_ble_eq_true rfl) ⟨(Nat.le_of_ble_eq_true rfl), (Nat.le_of_ble_eq_true rfl)⟩ (kP fun r_1 k_1 => ?_)
  refine j_if_ne (tgt := 10) M dX6_drop_4 (by decide) (fun h_4 => ?_) (fun h_4 => ?_)
  · have b_1 := ifT k_1 h_4
    refine j_aload_n M dX6_drop_10 rfl ?_
    refine gf_X6_10 M dX6_drop_11 ?_
    refine j_iload_n M dX6_drop_14 rfl ?_
    refine j_inv1 M lk_X6_98 (c_X4_isMissing) rv_X4 dX6_drop_15 (Nat.le_of_ble_eq_true rfl) ⟨(Nat.le_of_ble_eq_true rfl), (Nat.le_of_ble_eq_true rfl)⟩ (kP fun r_15 k_15 => ?_)
    refine j_if_eq (tgt := 27) M dX6_drop_18 (by decide) (fun h_18 => ?_) (fun h_18 => ?_)
    · have b_15 := ifF k_15 h_18
      refine j_aload_n M dX6_drop_27 rfl ?_
      refine j_aload_n M dX6_drop_28 rfl ?_
      refine gf_X6_10 M dX6_drop_29 ?_
      refine j_iload_n M dX6_drop_32 rfl ?_
      refine j_inv1 M lk_X6_101 (c_X4_remove) rv_X4 dX6_drop_33 (Nat.le_of_ble_eq_true rfl) ⟨(Nat.le_of_ble_eq_true rfl), (Nat.le_of_ble_eq_true rfl)⟩ (kI fun r_33 σ_33 q_33 => ?_)
      refine j_inv1 M lk_X6_80 (c_X6_foundNothing) rv_X6 dX6_drop_36 (Nat.le_of_ble_eq_true rfl) ⟨(Nat.le_of_ble_eq_true rfl), (Nat.le_of_ble_eq_true rfl)⟩ (kI fun r_36 σ_36 q_36 => ?_)
      obtain ⟨rfl, rfl⟩ := q_36
      exact j_iret M dX6_drop_39 ⟨_, rfl, by (try dsimp only); rw [if_neg (fun q => q b_1), if_neg (fun q => b_15 (Or.inr q))]; rw [if_neg b_15] at q_33; obtain ⟨m1, m2⟩ := q_33; rw [m1, m2]; exact ⟨rfl, by rw [up_ne _ _ (by decide), up_same], by rw [up_same, up_ne _ _ (by decide)], frs_u (frs_u (frs_r _ _) (by decide)) (by decide)⟩⟩
    · have b_15 := ifT k_15 h_18
      refine j_aload_n M dX6_drop_21 rfl ?_
      refine j_iconst (v := 1) M dX6_drop_22 rfl ?_
      refine j_inv1 M lk_X6_72 (c_X6_found) rv_X6 dX6_drop_23 (Nat.le_of_ble_eq_true rfl) ⟨(Nat.le_of_ble_eq_true rfl), (Nat.le_of_ble_eq_true rfl)⟩ (kI fun r_23 σ_23 q_23 => ?_)
      obtain ⟨rfl, rfl⟩ := q_23
      exact j_iret M dX6_drop_26 ⟨_, rfl, by (try dsimp only); rw [if_neg (fun q => q b_1), if_pos (b_15.resolve_left (fun q => q b_1))]; exact ⟨rfl, rfl⟩⟩
  · have b_1 := ifF k_1 h_4
    refine j_ldc M k_X6_71 dX6_drop_7 ?_
    exact j_iret M dX6_drop_9 ⟨_, rfl, by (try dsimp only); rw [if_pos b_1]; exact ⟨rfl, rfl⟩⟩
set_option maxRecDepth 100000 in
theorem c_X6_feed {l : Launch} {G : Gw} {σ : Sg} {c : Int32}  (h0 : 0 ≤ σ 2 0 1) : Mt l G yX6_feed cX6_feed 2 (some .int) 1 22 [.ref (ad G 0 0), .int c] σ (pI fun r τ => if ¬ (0 ≤ c ∧ c ≤ 255) then r = -1000001 ∧ τ = σ else if ¬ σ 2 0 1 < 120 then r = -1000003 ∧ τ = σ else r = σ 2 0 1 + 1 ∧ τ 2 1 = upI (σ 2 1) (σ 2 0 1) c ∧ τ 2 0 = upI (σ 2 0) 1 (σ 2 0 1 + 1) ∧ frm σ τ 2 [0, 1]) := by
  refine mt_intro (by decide +kernel) (Nat.le_of_ble_eq_true rfl) (fun Φ M => ?_)
  show Φ 0 [some (.ref (ad G 0 0)), some (.int c)] [] σ
  refine j_iload_n M dX6_feed_0 rfl ?_
  refine j_iconst (v := 0) M dX6_feed_1 rfl ?_
  refine j_sipush (v := 255) M dX6_feed_2 rfl ?_
  refine j_invs3 M lk_X6_104 (c_X6_isWithin) dX6_feed_5 (Nat.le_of_ble_eq_true rfl) ⟨(Nat.le_of_ble_eq_true rfl), (Nat.le_of_ble_eq_true rfl)⟩ (kP fun r_5 k_5 => ?_)
  refine j_if_ne (tgt := 14) M dX6_feed_8 (by decide) (fun h_8 => ?_) (fun h_8 => ?_)
  · have b_5 := ifT k_5 h_8
    refine j_aload_n M dX6_feed_14 rfl ?_
    refine gf_X6_19 M dX6_feed_15 ?_
    refine j_iload_n M dX6_feed_18 rfl ?_
    refine j_inv1 M lk_X6_108 (c_X5_add (h0)) rv_X5 dX6_feed_19 (Nat.le_of_ble_eq_true rfl) ⟨(Nat.le_of_ble_eq_true rfl), (Nat.le_of_ble_eq_true rfl)⟩ (kI fun r_19 σ_19 q_19 => ?_)
    refine j_if_eq (tgt := 35) M dX6_feed_22 (by decide) (fun h_22 => ?_) (fun h_22 => ?_)
    · refine j_ldc M k_X6_114 dX6_feed_35 ?_
      exact j_iret M dX6_feed_37 ⟨_, rfl, by (try dsimp only); rw [if_neg (fun q => q b_5)]; by_cases hl : σ 2 0 1 < 120; (· rw [if_pos hl] at q_19; rw [q_19.1] at h_22; exact absurd h_22 (by decide)); (· rw [if_neg hl] at q_19; rw [if_pos hl]; exact ⟨rfl, q_19.2⟩)⟩
    · refine j_aload_n M dX6_feed_25 rfl ?_
      refine gf_X6_19 M dX6_feed_26 ?_
      refine gf_X6_111 M dX6_feed_29 ?_
      refine j_goto (tgt := 37) M dX6_feed_32 (by decide) ?_
      exact j_iret M dX6_feed_37 ⟨_, rfl, by (try dsimp only); rw [if_neg (fun q => q b_5)]; by_cases hl : σ 2 0 1 < 120; (· rw [if_pos hl] at q_19; obtain ⟨m1, m2, m3, m4⟩ := q_19; rw [if_neg (fun q => q hl), m3]; exact ⟨by rw [upI_same], m2, rfl, m4⟩); (· rw [if_neg hl] at q_19; exact absurd q_19.1 h_22)⟩
  · have b_5 := ifF k_5 h_8
    refine j_ldc M k_X6_71 dX6_feed_11 ?_
    exact j_iret M dX6_feed_13 ⟨_, rfl, by (try dsimp only); rw [if_pos b_5]; exact ⟨rfl, rfl⟩⟩
set_option maxRecDepth 100000 in
theorem c_X6_library {l : Launch} {G : Gw} {σ : Sg}  {N : Nat} {T : St} (hN : N ≤ 120) (h1 : σ 2 0 1 = nI N) (hT : σ 2 1 = T) (hb : ∀ k, k < N → 0 ≤ T (nI k)) : Mt l G yX6_library cX6_library 2 (some .int) 5 112 [.ref (ad G 0 0)] σ (pI fun r τ => libC σ τ r (libP T N)) := by
  refine mt_intro (by decide +kernel) (Nat.le_of_ble_eq_true rfl) (fun Φ M => ?_)
  show Φ 0 [some (.ref (ad G 0 0)), none] [] σ
  refine j_aload_n M dX6_library_0 rfl ?_
  refine gf_X6_19 M dX6_library_1 ?_
  refine j_aload_n M dX6_library_4 rfl ?_
  refine gf_X6_30 M dX6_library_5 ?_
  refine j_inv1 M lk_X6_115 (c_X5_readInto lib_draft (hN) (h1) (hT) (hb)) rv_X5 dX6_library_8 (Nat.le_of_ble_eq_true rfl) ⟨(Nat.le_of_ble_eq_true rfl), (Nat.le_of_ble_eq_true rfl)⟩ (kI fun r_8 σ_8 q_8 => ?_)
  refine j_istore_1 M dX6_library_11 (by exact (by first | trivial | rfl)) ?_
  refine j_iload_n M dX6_library_12 rfl ?_
  refine j_ldc M k_X6_119 dX6_library_13 ?_
  refine j_icmp_eq (tgt := 23) M dX6_library_15 (by decide) (fun h_15 => ?_) (fun h_15 => ?_)
  · refine j_aload_n M dX6_library_23 rfl ?_
    refine gf_X6_26 M dX6_library_24 ?_
    refine j_aload_n M dX6_library_27 rfl ?_
    refine gf_X6_30 M dX6_library_28 ?_
    refine j_inv1 M lk_X6_121 (c_X3_take lib_now lib_draft ((by decide))) (rv_X3 lib_now) dX6_library_31 (Nat.le_of_ble_eq_true rfl) ⟨(Nat.le_of_ble_eq_true rfl), (Nat.le_of_ble_eq_true rfl)⟩ (kV fun σ_31 q_31 => ?_)
    refine j_aload_n M dX6_library_34 rfl ?_
    refine gf_X6_42 M dX6_library_35 ?_
    refine j_inv0 M lk_X6_125 (c_X0_forget) rv_X0 dX6_library_38 (Nat.le_of_ble_eq_true rfl) ⟨(Nat.le_of_ble_eq_true rfl), (Nat.le_of_ble_eq_true rfl)⟩ (kV fun σ_38 q_38 => ?_)
    subst q_38
    refine j_aload_n M dX6_library_41 rfl ?_
    refine gf_X6_26 M dX6_library_42 ?_
    refine gf_X6_128 M lib_now dX6_library_45 ?_
    exact j_iret M dX6_library_48 ⟨_, rfl, by (try dsimp only); exact lib_yes q_8 h_15 q_31⟩
  · refine j_ldc M k_X6_120 dX6_library_18 ?_
    refine j_iload_n M dX6_library_20 rfl ?_
    refine j_isub M dX6_library_21 ?_
    exact j_iret M dX6_library_22 ⟨_, rfl, by (try dsimp only); exact lib_no q_8 h_15⟩
