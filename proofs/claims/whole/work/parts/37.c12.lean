set_option maxRecDepth 100000 in
theorem c_X7_isKind {l : Launch} {G : Gw} {σ : Sg} {k : Int32} {a : Int32}   : Mt l G yX7_isKind cX7_isKind 2 (some .boolean) 0 0 [.int k, .int a] σ (pI fun r τ => τ = σ ∧ r = if (a = 0 ∨ k = a ∨ (a = 1 ∧ k < 4) ∨ (a = 4 ∧ k = 5)) then 1 else 0) := by
  refine mt_intro (by decide +kernel) (Nat.le_of_ble_eq_true rfl) (fun Φ M => ?_)
  show Φ 0 [some (.int k), some (.int a)] [] σ
  refine j_iload_n M dX7_isKind_0 rfl ?_
  refine j_if_eq (tgt := 29) M dX7_isKind_1 (by decide) (fun h_1 => ?_) (fun h_1 => ?_)
  · refine j_iconst (v := 1) M dX7_isKind_29 rfl ?_
    refine j_goto (tgt := 34) M dX7_isKind_30 (by decide) ?_
    exact j_zret M dX7_isKind_34 (by first | exact Or.inl rfl | exact Or.inr rfl | exact bitv_01 _ _ | assumption | grind) ⟨_, rfl, by (try dsimp only); first | (simp [h_1]; done) | (simp_all; done)⟩
  · refine j_iload_n M dX7_isKind_4 rfl ?_
    refine j_iload_n M dX7_isKind_5 rfl ?_
    refine j_icmp_eq (tgt := 29) M dX7_isKind_6 (by decide) (fun h_6 => ?_) (fun h_6 => ?_)
    · refine j_iconst (v := 1) M dX7_isKind_29 rfl ?_
      refine j_goto (tgt := 34) M dX7_isKind_30 (by decide) ?_
      exact j_zret M dX7_isKind_34 (by first | exact Or.inl rfl | exact Or.inr rfl | exact bitv_01 _ _ | assumption | grind) ⟨_, rfl, by (try dsimp only); first | (simp [h_1, h_6]; done) | (simp_all; done)⟩
    · refine j_iload_n M dX7_isKind_9 rfl ?_
      refine j_iconst (v := 1) M dX7_isKind_10 rfl ?_
      refine j_icmp_ne (tgt := 19) M dX7_isKind_11 (by decide) (fun h_11 => ?_) (fun h_11 => ?_)
      · refine j_iload_n M dX7_isKind_19 rfl ?_
        refine j_iconst (v := 4) M dX7_isKind_20 rfl ?_
        refine j_icmp_ne (tgt := 33) M dX7_isKind_21 (by decide) (fun h_21 => ?_) (fun h_21 => ?_)
        · refine j_iconst (v := 0) M dX7_isKind_33 rfl ?_
          exact j_zret M dX7_isKind_34 (by first | exact Or.inl rfl | exact Or.inr rfl | exact bitv_01 _ _ | assumption | grind) ⟨_, rfl, by (try dsimp only); first | (simp [h_1, h_6, h_11, h_21]; done) | (simp_all; done)⟩
        · refine j_iload_n M dX7_isKind_24 rfl ?_
          refine j_iconst (v := 5) M dX7_isKind_25 rfl ?_
          refine j_icmp_ne (tgt := 33) M dX7_isKind_26 (by decide) (fun h_26 => ?_) (fun h_26 => ?_)
          · refine j_iconst (v := 0) M dX7_isKind_33 rfl ?_
            exact j_zret M dX7_isKind_34 (by first | exact Or.inl rfl | exact Or.inr rfl | exact bitv_01 _ _ | assumption | grind) ⟨_, rfl, by (try dsimp only); first | (simp [h_1, h_6, h_11, h_21, h_26]; done) | (simp_all; done)⟩
          · refine j_iconst (v := 1) M dX7_isKind_29 rfl ?_
            refine j_goto (tgt := 34) M dX7_isKind_30 (by decide) ?_
            exact j_zret M dX7_isKind_34 (by first | exact Or.inl rfl | exact Or.inr rfl | exact bitv_01 _ _ | assumption | grind) ⟨_, rfl, by (try dsimp only); first | (simp [h_1, h_6, h_11, h_21, h_26]; done) | (simp_all; done)⟩
      · refine j_iload_n M dX7_isKind_14 rfl ?_
        refine j_iconst (v := 4) M dX7_isKind_15 rfl ?_
        refine j_icmp_lt (tgt := 29) M dX7_isKind_16 (by decide) (fun h_16 => ?_) (fun h_16 => ?_)
        · refine j_iconst (v := 1) M dX7_isKind_29 rfl ?_
          refine j_goto (tgt := 34) M dX7_isKind_30 (by decide) ?_
          exact j_zret M dX7_isKind_34 (by first | exact Or.inl rfl | exact Or.inr rfl | exact bitv_01 _ _ | assumption | grind) ⟨_, rfl, by (try dsimp only); first | (simp [h_1, h_6, h_11, h_16]; done) | (simp_all; done)⟩
        · refine j_iload_n M dX7_isKind_19 rfl ?_
          refine j_iconst (v := 4) M dX7_isKind_20 rfl ?_
          refine j_icmp_ne (tgt := 33) M dX7_isKind_21 (by decide) (fun h_21 => ?_) (fun h_21 => ?_)
          · refine j_iconst (v := 0) M dX7_isKind_33 rfl ?_
            exact j_zret M dX7_isKind_34 (by first | exact Or.inl rfl | exact Or.inr rfl | exact bitv_01 _ _ | assumption | grind) ⟨_, rfl, by (try dsimp only); first | (simp [h_1, h_6, h_11, h_16, h_21]; done) | (simp_all; done)⟩
          · refine j_iload_n M dX7_isKind_24 rfl ?_
            refine j_iconst (v := 5) M dX7_isKind_25 rfl ?_
            refine j_icmp_ne (tgt := 33) M dX7_isKind_26 (by decide) (fun h_26 => ?_) (fun h_26 => ?_)
            · refine j_iconst (v := 0) M dX7_isKind_33 rfl ?_
              exact j_zret M dX7_isKind_34 (by first | exact Or.inl rfl | exact Or.inr rfl | exact bitv_01 _ _ | assumption | grind) ⟨_, rfl, by (try dsimp only); first | (simp [h_1, h_6, h_11, h_16, h_21, h_26]; done) | (simp_all; done)⟩
            · refine j_iconst (v := 1) M dX7_isKind_29 rfl ?_
              refine j_goto (tgt := 34) M dX7_isKind_30 (by decide) ?_
              exact j_zret M dX7_isKind_34 (by first | exact Or.inl rfl | exact Or.inr rfl | exact bitv_01 _ _ | assumption | grind) ⟨_, rfl, by (try dsimp only); first | (simp [h_1, h_6, h_11, h_16, h_21, h_26]; done) | (simp_all; done)⟩
set_option maxRecDepth 100000 in
theorem c_X7_kind {l : Launch} {G : Gw} {σ : Sg} {f : Int32}  (hS : SW (σ 40 4)) : Mt l G yX7_kind cX7_kind 2 (some .int) 2 46 [.ref (ad G 40 0), .int f] σ (pI fun r τ => τ = σ ∧ r = if isF (σ 40 4) f then σ 40 4 (26 + f) else -1000001) := by
  refine mt_intro (by decide +kernel) (Nat.le_of_ble_eq_true rfl) (fun Φ M => ?_)
  show Φ 0 [some (.ref (ad G 40 0)), some (.int f)] [] σ
  refine j_aload_n M dX7_kind_0 rfl ?_
  refine j_iload_n M dX7_kind_1 rfl ?_
  refine j_inv1 M lk_X7_200 (c_X7_isFish) rv_X7 dX7_kind_2 (Nat.le_of_ble_eq_true rfl) ⟨(Nat.le_of_ble_eq_true rfl), (Nat.le_of_ble_eq_true rfl)⟩ (kP fun r_2 k_2 => ?_)
  refine j_if_eq (tgt := 20) M dX7_kind_5 (by decide) (fun h_5 => ?_) (fun h_5 => ?_)
  · have b_2 := ifF k_2 h_5
    refine j_ldc M k_X7_73 dX7_kind_20 ?_
    exact j_iret M dX7_kind_22 ⟨_, rfl, by (try dsimp only); exact ⟨rfl, by simp [b_2]⟩⟩
  · have b_2 := ifT k_2 h_5
    have hB := hS.f b_2
    obtain ⟨⟨⟨_, _⟩, ⟨_, _⟩⟩, ⟨_, _⟩⟩ := ixT b_2.1 hB.2.2
    refine j_aload_n M dX7_kind_8 rfl ?_
    refine gf_X7_19 M dX7_kind_9 ?_
    refine j_bipush (v := 26) M dX7_kind_12 rfl ?_
    refine j_iload_n M dX7_kind_14 rfl ?_
    refine j_iadd M dX7_kind_15 ?_
    refine al_40_4 M dX7_kind_16 (by first | assumption | decide) (by first | assumption | decide) ?_
    refine j_goto (tgt := 22) M dX7_kind_17 (by decide) ?_
    exact j_iret M dX7_kind_22 ⟨_, rfl, by (try dsimp only); exact ⟨rfl, by simp [b_2]⟩⟩
set_option maxRecDepth 100000 in
theorem c_X7_as {l : Launch} {G : Gw} {σ : Sg} {f : Int32} {k : Int32}  (hS : SW (σ 40 4)) : Mt l G yX7_as cX7_as 3 (some .int) 2 46 [.ref (ad G 40 0), .int f, .int k] σ (pI fun r τ => if ¬ (isF (σ 40 4) f ∧ inR 0 k 5) then r = -1000001 ∧ τ = σ else if kindB (σ 40 4 (26 + f)) k then r = f ∧ τ = up σ 40 0 (upI (σ 40 0) 3 0) else r = -1000013 ∧ τ = up σ 40 0 (upI (σ 40 0) 3 3)) := by
  refine mt_intro (by decide +kernel) (Nat.le_of_ble_eq_true rfl) (fun Φ M => ?_)
  show Φ 0 [some (.ref (ad G 40 0)), some (.int f), some (.int k)] [] σ
  refine j_aload_n M dX7_as_0 rfl ?_
  refine j_iload_n M dX7_as_1 rfl ?_
  refine j_inv1 M lk_X7_200 (c_X7_isFish) rv_X7 dX7_as_2 (Nat.le_of_ble_eq_true rfl) ⟨(Nat.le_of_ble_eq_true rfl), (Nat.le_of_ble_eq_true rfl)⟩ (kP fun r_2 k_2 => ?_)
  refine j_if_eq (tgt := 20) M dX7_as_5 (by decide) (fun h_5 => ?_) (fun h_5 => ?_)
  · have b_2 := ifF k_2 h_5
    refine j_ldc M k_X7_73 dX7_as_20 ?_
    exact j_iret M dX7_as_22 ⟨_, rfl, by (try dsimp only); first | (simp [b_2]; done) | (rw [if_neg (fun q => q ⟨b_2, b_14⟩)]; first | (rw [if_pos (show kindB _ _ from b_33)]; exact ⟨rfl, rfl⟩) | (rw [if_neg (show ¬ kindB _ _ from b_33)]; exact ⟨rfl, rfl⟩))⟩
  · have b_2 := ifT k_2 h_5
    refine j_iload_n M dX7_as_8 rfl ?_
    refine j_i2l M dX7_as_9 ?_
    refine j_lconst (v := 0) M dX7_as_10 rfl ?_
    refine j_ldc2 M kl_X7_272 dX7_as_11 ?_
    refine j_invs3 M lk_X7_63 (c_X7_inI (a := 0) (b := 5) rfl (by decide) (by decide)) dX7_as_14 (Nat.le_of_ble_eq_true rfl) ⟨(Nat.le_of_ble_eq_true rfl), (Nat.le_of_ble_eq_true rfl)⟩ (kP fun r_14 k_14 => ?_)
    refine j_if_ne (tgt := 23) M dX7_as_17 (by decide) (fun h_17 => ?_) (fun h_17 => ?_)
    · have b_14 := ifT k_14 h_17
      have hB := hS.f b_2
      obtain ⟨⟨⟨_, _⟩, ⟨_, _⟩⟩, ⟨_, _⟩⟩ := ixT b_2.1 hB.2.2
      refine j_aload_n M dX7_as_23 rfl ?_
      refine gf_X7_19 M dX7_as_24 ?_
      refine j_bipush (v := 26) M dX7_as_27 rfl ?_
      refine j_iload_n M dX7_as_29 rfl ?_
      refine j_iadd M dX7_as_30 ?_
      refine al_40_4 M dX7_as_31 (by first | assumption | decide) (by first | assumption | decide) ?_
      refine j_iload_n M dX7_as_32 rfl ?_
      refine j_invs2 M lk_X7_274 (c_X7_isKind) dX7_as_33 (Nat.le_of_ble_eq_true rfl) ⟨(Nat.le_of_ble_eq_true rfl), (Nat.le_of_ble_eq_true rfl)⟩ (kP fun r_33 k_33 => ?_)
      refine j_if_eq (tgt := 47) M dX7_as_36 (by decide) (fun h_36 => ?_) (fun h_36 => ?_)
      · have b_33 := ifF k_33 h_36
        refine j_aload_n M dX7_as_47 rfl ?_
        refine j_iconst (v := 3) M dX7_as_48 rfl ?_
        refine j_inv1 M lk_X7_74 (c_X7_find) rv_X7 dX7_as_49 (Nat.le_of_ble_eq_true rfl) ⟨(Nat.le_of_ble_eq_true rfl), (Nat.le_of_ble_eq_true rfl)⟩ (kI fun r_49 σ_49 q_49 => ?_)
        obtain ⟨rfl, e49⟩ := q_49
        rw [e49]
        exact j_iret M dX7_as_52 ⟨_, rfl, by (try dsimp only); first | (simp [b_2, b_14, b_33]; done) | (rw [if_neg (fun q => q ⟨b_2, b_14⟩)]; first | (rw [if_pos (show kindB _ _ from b_33)]; exact ⟨rfl, rfl⟩) | (rw [if_neg (show ¬ kindB _ _ from b_33)]; exact ⟨rfl, rfl⟩))⟩
      · have b_33 := ifT k_33 h_36
        refine j_aload_n M dX7_as_39 rfl ?_
        refine j_iload_n M dX7_as_40 rfl ?_
        refine j_inv1 M lk_X7_78 (c_X7_well) rv_X7 dX7_as_41 (Nat.le_of_ble_eq_true rfl) ⟨(Nat.le_of_ble_eq_true rfl), (Nat.le_of_ble_eq_true rfl)⟩ (kI fun r_41 σ_41 q_41 => ?_)
        obtain ⟨rfl, e41⟩ := q_41
        rw [e41]
        refine j_goto (tgt := 52) M dX7_as_44 (by decide) ?_
        exact j_iret M dX7_as_52 ⟨_, rfl, by (try dsimp only); first | (simp [b_2, b_14, b_33]; done) | (rw [if_neg (fun q => q ⟨b_2, b_14⟩)]; first | (rw [if_pos (show kindB _ _ from b_33)]; exact ⟨rfl, rfl⟩) | (rw [if_neg (show ¬ kindB _ _ from b_33)]; exact ⟨rfl, rfl⟩))⟩
    · have b_14 := ifF k_14 h_17
      refine j_ldc M k_X7_73 dX7_as_20 ?_
      exact j_iret M dX7_as_22 ⟨_, rfl, by (try dsimp only); first | (simp [b_2, b_14]; done) | (rw [if_neg (fun q => q ⟨b_2, b_14⟩)]; first | (rw [if_pos (show kindB _ _ from b_33)]; exact ⟨rfl, rfl⟩) | (rw [if_neg (show ¬ kindB _ _ from b_33)]; exact ⟨rfl, rfl⟩))⟩
set_option maxRecDepth 100000 in
theorem c_X7_status {l : Launch} {G : Gw} {σ : Sg}    : Mt l G yX7_status cX7_status 1 (some .int) 0 0 [.ref (ad G 40 0)] σ (pI fun r τ => τ = σ ∧ r = σ 40 0 3) := by
  refine mt_intro (by decide +kernel) (Nat.le_of_ble_eq_true rfl) (fun Φ M => ?_)
  show Φ 0 [some (.ref (ad G 40 0))] [] σ
  refine j_aload_n M dX7_status_0 rfl ?_
  refine gf_X7_56 M dX7_status_1 ?_
  exact j_iret M dX7_status_4 ⟨_, rfl, by (try dsimp only); exact ⟨rfl, rfl⟩⟩
set_option maxRecDepth 100000 in
theorem c_X7_fault {l : Launch} {G : Gw} {σ : Sg}    : Mt l G yX7_fault cX7_fault 1 (some .int) 0 0 [.ref (ad G 40 0)] σ (pI fun r τ => τ = σ ∧ r = σ 40 0 9) := by
  refine mt_intro (by decide +kernel) (Nat.le_of_ble_eq_true rfl) (fun Φ M => ?_)
  show Φ 0 [some (.ref (ad G 40 0))] [] σ
  refine j_aload_n M dX7_fault_0 rfl ?_
  refine gf_X7_143 M dX7_fault_1 ?_
  exact j_iret M dX7_fault_4 ⟨_, rfl, by (try dsimp only); exact ⟨rfl, rfl⟩⟩
set_option maxRecDepth 100000 in
theorem c_X7_trace {l : Launch} {G : Gw} {σ : Sg} {i : Int32}  (hT : 0 ≤ σ 40 0 25 ∧ σ 40 0 25 ≤ 16) : Mt l G yX7_trace cX7_trace 2 (some .int) 1 25 [.ref (ad G 40 0), .int i] σ (pI fun r τ => τ = σ ∧ r = if inR 0 i (σ 40 0 25 - 1) then σ 40 15 i else -1000000) := by
  refine mt_intro (by decide +kernel) (Nat.le_of_ble_eq_true rfl) (fun Φ M => ?_)
  show Φ 0 [some (.ref (ad G 40 0)), some (.int i)] [] σ
  refine j_iload_n M dX7_trace_0 rfl ?_
  refine j_i2l M dX7_trace_1 ?_
  refine j_lconst (v := 0) M dX7_trace_2 rfl ?_
  refine j_aload_n M dX7_trace_3 rfl ?_
  refine gf_X7_277 M dX7_trace_4 ?_
  refine j_iconst (v := 1) M dX7_trace_7 rfl ?_
  refine j_isub M dX7_trace_8 ?_
  refine j_i2l M dX7_trace_9 ?_
  refine j_invs3 M lk_X7_63 (c_X7_inI (a := 0) rfl (by decide) rfl) dX7_trace_10 (Nat.le_of_ble_eq_true rfl) ⟨(Nat.le_of_ble_eq_true rfl), (Nat.le_of_ble_eq_true rfl)⟩ (kP fun r_10 k_10 => ?_)
  refine j_if_eq (tgt := 25) M dX7_trace_13 (by decide) (fun h_13 => ?_) (fun h_13 => ?_)
  · have b_10 := ifF k_10 h_13
    refine j_ldc M k_X7_158 dX7_trace_25 ?_
    exact j_iret M dX7_trace_27 ⟨_, rfl, by (try dsimp only); exact ⟨rfl, by simp [b_10]⟩⟩
  · have b_10 := ifT k_10 h_13
    have i16 : i < 16 := Int32.lt_of_lt_of_le (le_pred b_10.1 hT.1 b_10.2) hT.2
    refine j_aload_n M dX7_trace_16 rfl ?_
    refine gf_X7_53 M dX7_trace_17 ?_
    refine j_iload_n M dX7_trace_20 rfl ?_
    refine al_40_15 M dX7_trace_21 (by first | assumption | decide | exact b_10.1 | exact i16) (by first | assumption | decide | exact b_10.1 | exact i16) ?_
    refine j_goto (tgt := 27) M dX7_trace_22 (by decide) ?_
    exact j_iret M dX7_trace_27 ⟨_, rfl, by (try dsimp only); exact ⟨rfl, by simp [b_10]⟩⟩
set_option maxRecDepth 100000 in
theorem c_X7_feed {l : Launch} {G : Gw} {σ : Sg} {c : Int32}  (hB : 0 ≤ σ 40 0 8 ∧ σ 40 0 8 ≤ 120) : Mt l G yX7_feed cX7_feed 2 (some .int) 1 25 [.ref (ad G 40 0), .int c] σ (pI fun r τ => if ¬ inR 0 c 255 then r = -1000001 ∧ τ = σ else if σ 40 0 8 = 120 then r = -1000003 ∧ τ = σ else r = σ 40 0 8 + 1 ∧ τ 40 6 = upI (σ 40 6) (σ 40 0 8) c ∧ τ 40 0 = upI (σ 40 0) 8 (σ 40 0 8 + 1) ∧ frm σ τ 40 [0, 6]) := by
  refine mt_intro (by decide +kernel) (Nat.le_of_ble_eq_true rfl) (fun Φ M => ?_)
  show Φ 0 [some (.ref (ad G 40 0)), some (.int c)] [] σ
  refine j_iload_n M dX7_feed_0 rfl ?_
  refine j_i2l M dX7_feed_1 ?_
  refine j_lconst (v := 0) M dX7_feed_2 rfl ?_
  refine j_ldc2 M kl_X7_85 dX7_feed_3 ?_
  refine j_invs3 M lk_X7_63 (c_X7_inI (a := 0) (b := 255) rfl (by decide) (by decide)) dX7_feed_6 (Nat.le_of_ble_eq_true rfl) ⟨(Nat.le_of_ble_eq_true rfl), (Nat.le_of_ble_eq_true rfl)⟩ (kP fun r_6 k_6 => ?_)
  refine j_if_ne (tgt := 15) M dX7_feed_9 (by decide) (fun h_9 => ?_) (fun h_9 => ?_)
  · have b_6 := ifT k_6 h_9
    refine j_aload_n M dX7_feed_15 rfl ?_
    refine gf_X7_87 M dX7_feed_16 ?_
    refine j_bipush (v := 120) M dX7_feed_19 rfl ?_
    refine j_icmp_ne (tgt := 27) M dX7_feed_21 (by decide) (fun h_21 => ?_) (fun h_21 => ?_)
    · have h120 : σ 40 0 8 < 120 := by rcases Int32.lt_or_eq_of_le hB.2 with q | q; exact q; exact absurd q h_21
      refine j_aload_n M dX7_feed_27 rfl ?_
      refine gf_X7_25 M dX7_feed_28 ?_
      refine j_aload_n M dX7_feed_31 rfl ?_
      refine gf_X7_87 M dX7_feed_32 ?_
      refine j_iload_n M dX7_feed_35 rfl ?_
      refine as_40_6 M dX7_feed_36 (by first | assumption | decide | exact hB.1) (by first | assumption | decide | exact hB.1) ?_
      refine j_aload_n M dX7_feed_37 rfl ?_
      refine j_dup M dX7_feed_38 rfl ?_
      refine gf_X7_87 M dX7_feed_39 ?_
      refine j_iconst (v := 1) M dX7_feed_42 rfl ?_
      refine j_iadd M dX7_feed_43 ?_
      refine pf_X7_87 M dX7_feed_44 ?_
      refine j_aload_n M dX7_feed_47 rfl ?_
      refine gf_X7_87 M dX7_feed_48 ?_
      exact j_iret M dX7_feed_51 ⟨_, rfl, by (try dsimp only); first | (simp [b_6, h_21]; done) | (rw [if_neg (fun q => q b_6), if_neg h_21]; exact ⟨by simp [up, upI], by simp [up], by simp [up], frm_up (frm_up (frm_refl _ _ _) (by decide)) (by decide)⟩)⟩
    · refine j_ldc M k_X7_90 dX7_feed_24 ?_
      exact j_iret M dX7_feed_26 ⟨_, rfl, by (try dsimp only); first | (simp [b_6, h_21]; done) | (rw [if_neg (fun q => q b_6), if_neg h_21]; exact ⟨by simp [up, upI], by simp [up], by simp [up], frm_up (frm_up (frm_refl _ _ _) (by decide)) (by decide)⟩)⟩
  · have b_6 := ifF k_6 h_9
    refine j_ldc M k_X7_73 dX7_feed_12 ?_
    exact j_iret M dX7_feed_14 ⟨_, rfl, by (try dsimp only); first | (simp [b_6]; done) | (rw [if_neg (fun q => q b_6), if_neg h_21]; exact ⟨by simp [up, upI], by simp [up], by simp [up], frm_up (frm_up (frm_refl _ _ _) (by decide)) (by decide)⟩)⟩
set_option maxRecDepth 100000 in
theorem c_X7_drop {l : Launch} {G : Gw} {σ : Sg} {w : Int32}   : Mt l G yX7_drop cX7_drop 3 (some .int) 2 45 [.ref (ad G 40 0), .int w] σ (pI fun r τ => if ¬ inR 0 w 7 then r = -1000001 ∧ τ = σ else if σ 40 2 w < 0 then r = -1000011 ∧ τ = up σ 40 0 (upI (σ 40 0) 3 1) else r = σ 40 2 w ∧ τ 40 2 = upI (σ 40 2) w (-1) ∧ τ 40 0 = upI (σ 40 0) 3 0 ∧ frm σ τ 40 [0, 2]) := by
  refine mt_intro (by decide +kernel) (Nat.le_of_ble_eq_true rfl) (fun Φ M => ?_)
  show Φ 0 [some (.ref (ad G 40 0)), some (.int w), none] [] σ
  refine j_iload_n M dX7_drop_0 rfl ?_
  refine j_invs1 M lk_X7_67 (c_X7_isRow) dX7_drop_1 (Nat.le_of_ble_eq_true rfl) ⟨(Nat.le_of_ble_eq_true rfl), (Nat.le_of_ble_eq_true rfl)⟩ (kP fun r_1 k_1 => ?_)
  refine j_if_ne (tgt := 10) M dX7_drop_4 (by decide) (fun h_4 => ?_) (fun h_4 => ?_)
  · have b_1 := ifT k_1 h_4
    refine j_aload_n M dX7_drop_10 rfl ?_
    refine gf_X7_13 M dX7_drop_11 ?_
    refine j_iload_n M dX7_drop_14 rfl ?_
    refine al_40_2 M dX7_drop_15 (by first | assumption | decide | exact b_1.1 | exact le7 b_1.2) (by first | assumption | decide | exact b_1.1 | exact le7 b_1.2) ?_
    refine j_if_ge (tgt := 25) M dX7_drop_16 (by decide) (fun h_16 => ?_) (fun h_16 => ?_)
    · refine j_aload_n M dX7_drop_25 rfl ?_
      refine gf_X7_13 M dX7_drop_26 ?_
      refine j_iload_n M dX7_drop_29 rfl ?_
      refine al_40_2 M dX7_drop_30 (by first | assumption | decide | exact b_1.1 | exact le7 b_1.2) (by first | assumption | decide | exact b_1.1 | exact le7 b_1.2) ?_
      refine j_istore_2 M dX7_drop_31 (by exact (by first | trivial | rfl)) ?_
      refine j_aload_n M dX7_drop_32 rfl ?_
      refine gf_X7_13 M dX7_drop_33 ?_
      refine j_iload_n M dX7_drop_36 rfl ?_
      refine j_iconst (v := (-1)) M dX7_drop_37 rfl ?_
      refine as_40_2 M dX7_drop_38 (by first | assumption | decide | exact b_1.1 | exact le7 b_1.2) (by first | assumption | decide | exact b_1.1 | exact le7 b_1.2) ?_
      refine j_aload_n M dX7_drop_39 rfl ?_
      refine j_iload_n M dX7_drop_40 rfl ?_
      refine j_inv1 M lk_X7_78 (c_X7_well) rv_X7 dX7_drop_41 (Nat.le_of_ble_eq_true rfl) ⟨(Nat.le_of_ble_eq_true rfl), (Nat.le_of_ble_eq_true rfl)⟩ (kI fun r_41 σ_41 q_41 => ?_)
      obtain ⟨rfl, e41⟩ := q_41
      rw [e41]
      exact j_iret M dX7_drop_44 ⟨_, rfl, by (try dsimp only); first | (simp [b_1, h_16]; done) | (rw [if_neg (fun q => q b_1), if_pos h_16]; exact ⟨rfl, rfl⟩) | (rw [if_neg (fun q => q b_1), if_neg h_16]; exact ⟨rfl, by simp [up], by simp [up], frm_up (frm_up (frm_refl _ _ _) (by decide)) (by decide)⟩)⟩
    · refine j_aload_n M dX7_drop_19 rfl ?_
      refine j_iconst (v := 1) M dX7_drop_20 rfl ?_
      refine j_inv1 M lk_X7_74 (c_X7_find) rv_X7 dX7_drop_21 (Nat.le_of_ble_eq_true rfl) ⟨(Nat.le_of_ble_eq_true rfl), (Nat.le_of_ble_eq_true rfl)⟩ (kI fun r_21 σ_21 q_21 => ?_)
      obtain ⟨rfl, e21⟩ := q_21
      rw [e21]
      exact j_iret M dX7_drop_24 ⟨_, rfl, by (try dsimp only); first | (simp [b_1, h_16]; done) | (rw [if_neg (fun q => q b_1), if_pos h_16]; exact ⟨rfl, rfl⟩) | (rw [if_neg (fun q => q b_1), if_neg h_16]; exact ⟨rfl, by simp [up], by simp [up], frm_up (frm_up (frm_refl _ _ _) (by decide)) (by decide)⟩)⟩
  · have b_1 := ifF k_1 h_4
    refine j_ldc M k_X7_73 dX7_drop_7 ?_
    exact j_iret M dX7_drop_9 ⟨_, rfl, by (try dsimp only); first | (simp [b_1]; done) | (rw [if_neg (fun q => q b_1), if_pos h_16]; exact ⟨rfl, rfl⟩) | (rw [if_neg (fun q => q b_1), if_neg h_16]; exact ⟨rfl, by simp [up], by simp [up], frm_up (frm_up (frm_refl _ _ _) (by decide)) (by decide)⟩)⟩
set_option maxRecDepth 100000 in
theorem c_X7_row {l : Launch} {G : Gw} {σ : Sg} {w : Int32} {q : Int32} {n : Int32}   : Mt l G yX7_row cX7_row 5 (some .int) 2 45 [.ref (ad G 40 0), .int w, .int q, .int n] σ (pI fun r τ => if ¬ (inR 0 w 7 ∧ inR 0 q 2 ∧ ¬ 40 < n) then r = -1000001 ∧ τ = σ else if n < 0 then r = -1000014 ∧ τ = up σ 40 0 (upI (σ 40 0) 3 4) else r = n ∧ τ 40 1 = upI (σ 40 1) w q ∧ τ 40 2 = upI (σ 40 2) w n ∧ τ 40 3 = rowZ (σ 40 3) w ∧ τ 40 0 = upI (σ 40 0) 3 0 ∧ frm σ τ 40 [0, 1, 2, 3]) := by
  refine mt_intro (by decide +kernel) (Nat.le_of_ble_eq_true rfl) (fun Φ M => ?_)
  show Φ 0 [some (.ref (ad G 40 0)), some (.int w), some (.int q), some (.int n), none] [] σ
  have lp : ∀ i : Int32, 0 ≤ i → ∀ τ : Sg, ¬ 40 < n → ¬ n < 0 → inR 0 w 7 → inR 0 q 2 → i ≤ 40 → (∀ j, 0 ≤ j → j < 320 → τ 40 3 j = blkS (σ 40 3) (fun _ => 0) (40 * w) i j) → τ 40 1 = upI (σ 40 1) w q → τ 40 2 = upI (σ 40 2) w n → frm σ τ 40 [1, 2, 3] → Φ 55 [some (.ref (ad G 40 0)), some (.int w), some (.int q), some (.int n), some (.int i)] [] τ := by
    refine loop_up 40 (fun i hi ih τ h_22 h_29 b_1 b_13 hle hc e1 e2 hfr => ?_)
    refine j_iload M dX7_row_55 rfl ?_
    refine j_bipush (v := 40) M dX7_row_57 rfl ?_
    refine j_icmp_ge (tgt := 81) M dX7_row_59 (by decide) (fun h_59 => ?_) (fun h_59 => ?_)
    · refine j_extA M (c := 40) (k := 3) (n := 320) (n' := 320) (f := rowZ (σ 40 3) w) (fun _ => rfl) rfl (by decide) (fun j j0 j1 => ?_) ?_
      · have ei : i = 40 := Int32.le_antisymm hle (Int32.not_lt.mp h_59)
        rw [hc j j0 j1, ei]; rfl
      refine j_aload_n M dX7_row_81 rfl ?_
      refine j_iload_n M dX7_row_82 rfl ?_
      refine j_inv1 M lk_X7_78 (c_X7_well) rv_X7 dX7_row_83 (Nat.le_of_ble_eq_true rfl) ⟨(Nat.le_of_ble_eq_true rfl), (Nat.le_of_ble_eq_true rfl)⟩ (kI fun r_83 σ_83 q_83 => ?_)
      obtain ⟨rfl, e83⟩ := q_83
      rw [e83]
      exact j_iret M dX7_row_86 ⟨_, rfl, by (try dsimp only); have e0 : τ 40 0 = σ 40 0 := hfr 40 0 (by decide); rw [if_neg (fun q => q ⟨b_1, b_13, h_22⟩), if_neg h_29]; exact ⟨rfl, by simp [up, e1], by simp [up, e2], by simp [up], by simp [up, e0], frm_up (frm_up (frm_mono hfr (by decide)) (by decide)) (by decide)⟩⟩
    · have ii := ix40 b_1.1 b_1.2 hi h_59
      refine j_aload_n M dX7_row_62 rfl ?_
      refine gf_X7_16 M dX7_row_63 ?_
      refine j_bipush (v := 40) M dX7_row_66 rfl ?_
      refine j_iload_n M dX7_row_68 rfl ?_
      refine j_imul M dX7_row_69 ?_
      refine j_iload M dX7_row_70 rfl ?_
      refine j_iadd M dX7_row_72 ?_
      refine j_iconst (v := 0) M dX7_row_73 rfl ?_
      refine as_40_3 M dX7_row_74 (by first | assumption | decide | exact ii.1.1 | exact ii.1.2) (by first | assumption | decide | exact ii.1.1 | exact ii.1.2) ?_
      refine j_iinc_4 M dX7_row_75 (show _ + Int32.ofInt 1 = _ + 1 from rfl) (by exact (by first | trivial | rfl)) ?_
      refine j_goto (tgt := 55) M dX7_row_78 (by decide) ?_
      exact ih h_59 _ h_22 h_29 b_1 b_13 (inc_lt hi h_59).2.1 (by rw [up_same]; exact blk_step ii.2.1 (le280 ii.2.2) hi (li40 h_59) rfl hc) (by rw [up_ne _ _ (by decide)]; exact e1) (by rw [up_ne _ _ (by decide)]; exact e2) (frm_up hfr (by decide))
  refine j_iload_n M dX7_row_0 rfl ?_
  refine j_invs1 M lk_X7_67 (c_X7_isRow) dX7_row_1 (Nat.le_of_ble_eq_true rfl) ⟨(Nat.le_of_ble_eq_true rfl), (Nat.le_of_ble_eq_true rfl)⟩ (kP fun r_1 k_1 => ?_)
  refine j_if_eq (tgt := 25) M dX7_row_4 (by decide) (fun h_4 => ?_) (fun h_4 => ?_)
  · have b_1 := ifF k_1 h_4
    refine j_ldc M k_X7_73 dX7_row_25 ?_
    exact j_iret M dX7_row_27 ⟨_, rfl, by (try dsimp only); first | (simp [b_1]; done) | (rw [if_neg (fun q => q ⟨b_1, b_13, h_22⟩), if_pos h_29]; exact ⟨rfl, rfl⟩)⟩
  · have b_1 := ifT k_1 h_4
    refine j_iload_n M dX7_row_7 rfl ?_
    refine j_i2l M dX7_row_8 ?_
    refine j_lconst (v := 0) M dX7_row_9 rfl ?_
    refine j_ldc2 M kl_X7_71 dX7_row_10 ?_
    refine j_invs3 M lk_X7_63 (c_X7_inI (a := 0) (b := 2) rfl (by decide) (by decide)) dX7_row_13 (Nat.le_of_ble_eq_true rfl) ⟨(Nat.le_of_ble_eq_true rfl), (Nat.le_of_ble_eq_true rfl)⟩ (kP fun r_13 k_13 => ?_)
    refine j_if_eq (tgt := 25) M dX7_row_16 (by decide) (fun h_16 => ?_) (fun h_16 => ?_)
    · have b_13 := ifF k_13 h_16
      refine j_ldc M k_X7_73 dX7_row_25 ?_
      exact j_iret M dX7_row_27 ⟨_, rfl, by (try dsimp only); first | (simp [b_1, b_13]; done) | (rw [if_neg (fun q => q ⟨b_1, b_13, h_22⟩), if_pos h_29]; exact ⟨rfl, rfl⟩)⟩
    · have b_13 := ifT k_13 h_16
      refine j_iload_n M dX7_row_19 rfl ?_
      refine j_bipush (v := 40) M dX7_row_20 rfl ?_
      refine j_icmp_le (tgt := 28) M dX7_row_22 (by decide) (fun h_22 => ?_) (fun h_22 => ?_)
      · refine j_iload_n M dX7_row_28 rfl ?_
        refine j_if_ge (tgt := 38) M dX7_row_29 (by decide) (fun h_29 => ?_) (fun h_29 => ?_)
        · refine j_aload_n M dX7_row_38 rfl ?_
          refine gf_X7_7 M dX7_row_39 ?_
          refine j_iload_n M dX7_row_42 rfl ?_
          refine j_iload_n M dX7_row_43 rfl ?_
          refine as_40_1 M dX7_row_44 (by first | assumption | decide | exact b_1.1 | exact le7 b_1.2) (by first | assumption | decide | exact b_1.1 | exact le7 b_1.2) ?_
          refine j_aload_n M dX7_row_45 rfl ?_
          refine gf_X7_13 M dX7_row_46 ?_
          refine j_iload_n M dX7_row_49 rfl ?_
          refine j_iload_n M dX7_row_50 rfl ?_
          refine as_40_2 M dX7_row_51 (by first | assumption | decide | exact b_1.1 | exact le7 b_1.2) (by first | assumption | decide | exact b_1.1 | exact le7 b_1.2) ?_
          refine j_iconst (v := 0) M dX7_row_52 rfl ?_
          refine j_istore_4 M dX7_row_53 (by exact (by first | trivial | rfl)) ?_
          exact lp 0 (by decide) _ h_22 h_29 b_1 b_13 (by decide) (fun j j0 j1 => by rw [up_ne _ _ (by decide), up_ne _ _ (by decide)]; exact blk_0 _ _ _ _) (by simp [up]) (by simp [up]) (frm_up (frm_up (frm_refl _ _ _) (by decide)) (by decide))
        · refine j_aload_n M dX7_row_32 rfl ?_
          refine j_iconst (v := 4) M dX7_row_33 rfl ?_
          refine j_inv1 M lk_X7_74 (c_X7_find) rv_X7 dX7_row_34 (Nat.le_of_ble_eq_true rfl) ⟨(Nat.le_of_ble_eq_true rfl), (Nat.le_of_ble_eq_true rfl)⟩ (kI fun r_34 σ_34 q_34 => ?_)
          obtain ⟨rfl, e34⟩ := q_34
          rw [e34]
          exact j_iret M dX7_row_37 ⟨_, rfl, by (try dsimp only); first | (simp [b_1, b_13, h_22, h_29]; done) | (rw [if_neg (fun q => q ⟨b_1, b_13, h_22⟩), if_pos h_29]; exact ⟨rfl, rfl⟩)⟩
      · refine j_ldc M k_X7_73 dX7_row_25 ?_
        exact j_iret M dX7_row_27 ⟨_, rfl, by (try dsimp only); first | (simp [b_1, b_13, h_22]; done) | (rw [if_neg (fun q => q ⟨b_1, b_13, h_22⟩), if_pos h_29]; exact ⟨rfl, rfl⟩)⟩
set_option maxRecDepth 100000 in
theorem c_X7_set {l : Launch} {G : Gw} {σ : Sg} {w : Int32} {i : Int32} {v : Int32}  (hR : RW (σ 40 2)) : Mt l G yX7_set cX7_set 4 (some .int) 2 45 [.ref (ad G 40 0), .int w, .int i, .int v] σ (pI fun r τ => if ¬ inR 0 w 7 then r = -1000001 ∧ τ = σ else if σ 40 2 w < 0 then r = -1000011 ∧ τ = up σ 40 0 (upI (σ 40 0) 3 1) else if ¬ inR 0 i (σ 40 2 w - 1) then r = -1000012 ∧ τ = up σ 40 0 (upI (σ 40 0) 3 2) else r = (if σ 40 1 w = 0 then shr32 (shl32 v 24) 24 else if σ 40 1 w = 1 then shr32 (shl32 v 16) 16 else v) ∧ τ 40 3 = upI (σ 40 3) (40 * w + i) (if σ 40 1 w = 0 then shr32 (shl32 v 24) 24 else if σ 40 1 w = 1 then shr32 (shl32 v 16) 16 else v) ∧ τ 40 0 = upI (σ 40 0) 3 0 ∧ frm σ τ 40 [0, 3]) := by
  refine mt_intro (by decide +kernel) (Nat.le_of_ble_eq_true rfl) (fun Φ M => ?_)
  show Φ 0 [some (.ref (ad G 40 0)), some (.int w), some (.int i), some (.int v)] [] σ
  refine j_iload_n M dX7_set_0 rfl ?_
  refine j_invs1 M lk_X7_67 (c_X7_isRow) dX7_set_1 (Nat.le_of_ble_eq_true rfl) ⟨(Nat.le_of_ble_eq_true rfl), (Nat.le_of_ble_eq_true rfl)⟩ (kP fun r_1 k_1 => ?_)
  refine j_if_ne (tgt := 10) M dX7_set_4 (by decide) (fun h_4 => ?_) (fun h_4 => ?_)
  · have b_1 := ifT k_1 h_4
    refine j_aload_n M dX7_set_10 rfl ?_
    refine gf_X7_13 M dX7_set_11 ?_
    refine j_iload_n M dX7_set_14 rfl ?_
    refine al_40_2 M dX7_set_15 (by first | assumption | decide | exact b_1.1 | exact le7 b_1.2 | exact ii.1.1 | exact ii.1.2) (by first | assumption | decide | exact b_1.1 | exact le7 b_1.2 | exact ii.1.1 | exact ii.1.2) ?_
    refine j_if_ge (tgt := 25) M dX7_set_16 (by decide) (fun h_16 => ?_) (fun h_16 => ?_)
    · refine j_iload_n M dX7_set_25 rfl ?_
      refine j_i2l M dX7_set_26 ?_
      refine j_lconst (v := 0) M dX7_set_27 rfl ?_
      refine j_aload_n M dX7_set_28 rfl ?_
      refine gf_X7_13 M dX7_set_29 ?_
      refine j_iload_n M dX7_set_32 rfl ?_
      refine al_40_2 M dX7_set_33 (by first | assumption | decide | exact b_1.1 | exact le7 b_1.2 | exact ii.1.1 | exact ii.1.2) (by first | assumption | decide | exact b_1.1 | exact le7 b_1.2 | exact ii.1.1 | exact ii.1.2) ?_
      refine j_iconst (v := 1) M dX7_set_34 rfl ?_
      refine j_isub M dX7_set_35 ?_
      refine j_i2l M dX7_set_36 ?_
      refine j_invs3 M lk_X7_63 (c_X7_inI (a := 0) rfl (by decide) rfl) dX7_set_37 (Nat.le_of_ble_eq_true rfl) ⟨(Nat.le_of_ble_eq_true rfl), (Nat.le_of_ble_eq_true rfl)⟩ (kP fun r_37 k_37 => ?_)
      refine j_if_ne (tgt := 49) M dX7_set_40 (by decide) (fun h_40 => ?_) (fun h_40 => ?_)
      · have b_37 := ifT k_37 h_40
        have hz := hR w b_1.1 b_1.2
        have i40 := sz40 b_37.1 hz.2 hz.1 b_37.2
        have ii := ix40 b_1.1 b_1.2 b_37.1 i40
        refine j_aload_n M dX7_set_49 rfl ?_
        refine gf_X7_16 M dX7_set_50 ?_
        refine j_bipush (v := 40) M dX7_set_53 rfl ?_
        refine j_iload_n M dX7_set_55 rfl ?_
        refine j_imul M dX7_set_56 ?_
        refine j_iload_n M dX7_set_57 rfl ?_
        refine j_iadd M dX7_set_58 ?_
        refine j_aload_n M dX7_set_59 rfl ?_
        refine gf_X7_7 M dX7_set_60 ?_
        refine j_iload_n M dX7_set_63 rfl ?_
        refine al_40_1 M dX7_set_64 (by first | assumption | decide | exact b_1.1 | exact le7 b_1.2 | exact ii.1.1 | exact ii.1.2) (by first | assumption | decide | exact b_1.1 | exact le7 b_1.2 | exact ii.1.1 | exact ii.1.2) ?_
        refine j_iload_n M dX7_set_65 rfl ?_
        refine j_invs2 M lk_X7_81 (c_X7_asLane) dX7_set_66 (Nat.le_of_ble_eq_true rfl) ⟨(Nat.le_of_ble_eq_true rfl), (Nat.le_of_ble_eq_true rfl)⟩ (kE ?_)
        refine as_40_3 M dX7_set_69 (by first | assumption | decide | exact b_1.1 | exact le7 b_1.2 | exact ii.1.1 | exact ii.1.2) (by first | assumption | decide | exact b_1.1 | exact le7 b_1.2 | exact ii.1.1 | exact ii.1.2) ?_
        refine j_aload_n M dX7_set_70 rfl ?_
        refine j_aload_n M dX7_set_71 rfl ?_
        refine gf_X7_16 M dX7_set_72 ?_
        refine j_bipush (v := 40) M dX7_set_75 rfl ?_
        refine j_iload_n M dX7_set_77 rfl ?_
        refine j_imul M dX7_set_78 ?_
        refine j_iload_n M dX7_set_79 rfl ?_
        refine j_iadd M dX7_set_80 ?_
        refine al_40_3 M dX7_set_81 (by first | assumption | decide | exact b_1.1 | exact le7 b_1.2 | exact ii.1.1 | exact ii.1.2) (by first | assumption | decide | exact b_1.1 | exact le7 b_1.2 | exact ii.1.1 | exact ii.1.2) ?_
        refine j_inv1 M lk_X7_78 (c_X7_well) rv_X7 dX7_set_82 (Nat.le_of_ble_eq_true rfl) ⟨(Nat.le_of_ble_eq_true rfl), (Nat.le_of_ble_eq_true rfl)⟩ (kI fun r_82 σ_82 q_82 => ?_)
        obtain ⟨rfl, e82⟩ := q_82
        rw [e82]
        exact j_iret M dX7_set_85 ⟨_, rfl, by (try dsimp only); first | (simp [b_1, h_16, b_37]; done) | (rw [if_neg (fun q => q b_1), if_pos h_16]; exact ⟨rfl, rfl⟩) | (rw [if_neg (fun q => q b_1), if_neg h_16, if_pos b_37]; exact ⟨rfl, rfl⟩) | (rw [if_neg (fun q => q b_1), if_neg h_16, if_neg (fun q => q b_37)]; exact ⟨by simp [up, upI], by simp [up], by simp [up], frm_up (frm_up (frm_refl _ _ _) (by decide)) (by decide)⟩)⟩
      · have b_37 := ifF k_37 h_40
        refine j_aload_n M dX7_set_43 rfl ?_
        refine j_iconst (v := 2) M dX7_set_44 rfl ?_
        refine j_inv1 M lk_X7_74 (c_X7_find) rv_X7 dX7_set_45 (Nat.le_of_ble_eq_true rfl) ⟨(Nat.le_of_ble_eq_true rfl), (Nat.le_of_ble_eq_true rfl)⟩ (kI fun r_45 σ_45 q_45 => ?_)
        obtain ⟨rfl, e45⟩ := q_45
        rw [e45]
        exact j_iret M dX7_set_48 ⟨_, rfl, by (try dsimp only); first | (simp [b_1, h_16, b_37]; done) | (rw [if_neg (fun q => q b_1), if_pos h_16]; exact ⟨rfl, rfl⟩) | (rw [if_neg (fun q => q b_1), if_neg h_16, if_pos b_37]; exact ⟨rfl, rfl⟩) | (rw [if_neg (fun q => q b_1), if_neg h_16, if_neg (fun q => q b_37)]; exact ⟨by simp [up, upI], by simp [up], by simp [up], frm_up (frm_up (frm_refl _ _ _) (by decide)) (by decide)⟩)⟩
    · refine j_aload_n M dX7_set_19 rfl ?_
      refine j_iconst (v := 1) M dX7_set_20 rfl ?_
      refine j_inv1 M lk_X7_74 (c_X7_find) rv_X7 dX7_set_21 (Nat.le_of_ble_eq_true rfl) ⟨(Nat.le_of_ble_eq_true rfl), (Nat.le_of_ble_eq_true rfl)⟩ (kI fun r_21 σ_21 q_21 => ?_)
      obtain ⟨rfl, e21⟩ := q_21
      rw [e21]
      exact j_iret M dX7_set_24 ⟨_, rfl, by (try dsimp only); first | (simp [b_1, h_16]; done) | (rw [if_neg (fun q => q b_1), if_pos h_16]; exact ⟨rfl, rfl⟩) | (rw [if_neg (fun q => q b_1), if_neg h_16, if_pos b_37]; exact ⟨rfl, rfl⟩) | (rw [if_neg (fun q => q b_1), if_neg h_16, if_neg (fun q => q b_37)]; exact ⟨by simp [up, upI], by simp [up], by simp [up], frm_up (frm_up (frm_refl _ _ _) (by decide)) (by decide)⟩)⟩
  · have b_1 := ifF k_1 h_4
    refine j_ldc M k_X7_73 dX7_set_7 ?_
    exact j_iret M dX7_set_9 ⟨_, rfl, by (try dsimp only); first | (simp [b_1]; done) | (rw [if_neg (fun q => q b_1), if_pos h_16]; exact ⟨rfl, rfl⟩) | (rw [if_neg (fun q => q b_1), if_neg h_16, if_pos b_37]; exact ⟨rfl, rfl⟩) | (rw [if_neg (fun q => q b_1), if_neg h_16, if_neg (fun q => q b_37)]; exact ⟨by simp [up, upI], by simp [up], by simp [up], frm_up (frm_up (frm_refl _ _ _) (by decide)) (by decide)⟩)⟩
