set_option maxRecDepth 100000 in
theorem c_X7_in {l : Launch} {G : Gw} {σ : Sg} {v : Int64} {a : Int64} {b : Int64}   : Mt l G yX7_in cX7_in 6 (some .boolean) 0 0 [.long v, .long a, .long b] σ (pI fun r τ => τ = σ ∧ r = if a ≤ v ∧ v ≤ b then 1 else 0) := by
  refine mt_intro (by decide +kernel) (Nat.le_of_ble_eq_true rfl) (fun Φ M => ?_)
  show Φ 0 [some (.long v), none, some (.long a), none, some (.long b), none] [] σ
  refine j_lload_n M dX7_in_0 rfl ?_
  refine j_lload_n M dX7_in_1 rfl ?_
  refine j_lcmp M dX7_in_2 ?_
  refine j_if_lt (tgt := 17) M dX7_in_3 (by decide) (fun h_3 => ?_) (fun h_3 => ?_)
  · refine j_iconst (v := 0) M dX7_in_17 rfl ?_
    exact j_zret M dX7_in_18 (by first | exact Or.inl rfl | exact Or.inr rfl | exact bitv_01 _ _ | grind) ⟨_, rfl, by have e1 := lg_lt v a; have e2 := lg_le v b; grind⟩
  · refine j_lload_n M dX7_in_6 rfl ?_
    refine j_lload M dX7_in_7 rfl ?_
    refine j_lcmp M dX7_in_9 ?_
    refine j_if_gt (tgt := 17) M dX7_in_10 (by decide) (fun h_10 => ?_) (fun h_10 => ?_)
    · refine j_iconst (v := 0) M dX7_in_17 rfl ?_
      exact j_zret M dX7_in_18 (by first | exact Or.inl rfl | exact Or.inr rfl | exact bitv_01 _ _ | grind) ⟨_, rfl, by have e1 := lg_lt v a; have e2 := lg_le v b; grind⟩
    · refine j_iconst (v := 1) M dX7_in_13 rfl ?_
      refine j_goto (tgt := 18) M dX7_in_14 (by decide) ?_
      exact j_zret M dX7_in_18 (by first | exact Or.inl rfl | exact Or.inr rfl | exact bitv_01 _ _ | grind) ⟨_, rfl, by have e1 := lg_lt v a; have e2 := lg_le v b; grind⟩
set_option maxRecDepth 100000 in
theorem c_X7_has {l : Launch} {G : Gw} {σ : Sg} {s : Int32} {k : Int32}   : Mt l G yX7_has cX7_has 2 (some .boolean) 0 0 [.int s, .int k] σ (pI fun r τ => τ = σ ∧ r = bitv s k) := by
  refine mt_intro (by decide +kernel) (Nat.le_of_ble_eq_true rfl) (fun Φ M => ?_)
  show Φ 0 [some (.int s), some (.int k)] [] σ
  refine j_iload_n M dX7_has_0 rfl ?_
  refine j_iload_n M dX7_has_1 rfl ?_
  refine j_ishr M dX7_has_2 ?_
  refine j_iconst (v := 1) M dX7_has_3 rfl ?_
  refine j_iand M dX7_has_4 ?_
  refine j_iconst (v := 1) M dX7_has_5 rfl ?_
  refine j_icmp_ne (tgt := 13) M dX7_has_6 (by decide) (fun h_6 => ?_) (fun h_6 => ?_)
  · refine j_iconst (v := 0) M dX7_has_13 rfl ?_
    exact j_zret M dX7_has_14 (by first | exact Or.inl rfl | exact Or.inr rfl | exact bitv_01 _ _ | grind) ⟨_, rfl, by have := bitv_01 s k; grind [bitv_def]⟩
  · refine j_iconst (v := 1) M dX7_has_9 rfl ?_
    refine j_goto (tgt := 14) M dX7_has_10 (by decide) ?_
    exact j_zret M dX7_has_14 (by first | exact Or.inl rfl | exact Or.inr rfl | exact bitv_01 _ _ | grind) ⟨_, rfl, by have := bitv_01 s k; grind [bitv_def]⟩
set_option maxRecDepth 100000 in
theorem c_X7_find {l : Launch} {G : Gw} {σ : Sg} {f : Int32}   : Mt l G yX7_find cX7_find 2 (some .int) 0 0 [.ref (ad G 40 0), .int f] σ (pI fun r τ => τ = up σ 40 0 (upI (σ 40 0) 3 f) ∧ r = -1000010 - f) := by
  refine mt_intro (by decide +kernel) (Nat.le_of_ble_eq_true rfl) (fun Φ M => ?_)
  show Φ 0 [some (.ref (ad G 40 0)), some (.int f)] [] σ
  refine j_aload_n M dX7_find_0 rfl ?_
  refine j_iload_n M dX7_find_1 rfl ?_
  refine pf_X7_56 M dX7_find_2 ?_
  refine j_ldc M k_X7_60 dX7_find_5 ?_
  refine j_iload_n M dX7_find_7 rfl ?_
  refine j_isub M dX7_find_8 ?_
  exact j_iret M dX7_find_9 ⟨_, rfl, by grind⟩
set_option maxRecDepth 100000 in
theorem c_X7_well {l : Launch} {G : Gw} {σ : Sg} {v : Int32}   : Mt l G yX7_well cX7_well 2 (some .int) 0 0 [.ref (ad G 40 0), .int v] σ (pI fun r τ => τ = up σ 40 0 (upI (σ 40 0) 3 0) ∧ r = v) := by
  refine mt_intro (by decide +kernel) (Nat.le_of_ble_eq_true rfl) (fun Φ M => ?_)
  show Φ 0 [some (.ref (ad G 40 0)), some (.int v)] [] σ
  refine j_aload_n M dX7_well_0 rfl ?_
  refine j_iconst (v := 0) M dX7_well_1 rfl ?_
  refine pf_X7_56 M dX7_well_2 ?_
  refine j_iload_n M dX7_well_5 rfl ?_
  exact j_iret M dX7_well_6 ⟨_, rfl, by grind⟩
set_option maxRecDepth 100000 in
theorem c_X7_asLane {l : Launch} {G : Gw} {σ : Sg} {a : Int32} {v : Int32}   : Mt l G yX7_asLane cX7_asLane 2 (some .int) 0 0 [.int a, .int v] σ (pI fun r τ => τ = σ ∧ r = if a = 0 then shr32 (shl32 v 24) 24 else if a = 1 then shr32 (shl32 v 16) 16 else v) := by
  refine mt_intro (by decide +kernel) (Nat.le_of_ble_eq_true rfl) (fun Φ M => ?_)
  show Φ 0 [some (.int a), some (.int v)] [] σ
  refine j_iload_n M dX7_asLane_0 rfl ?_
  refine j_if_ne (tgt := 14) M dX7_asLane_1 (by decide) (fun h_1 => ?_) (fun h_1 => ?_)
  · refine j_iload_n M dX7_asLane_14 rfl ?_
    refine j_iconst (v := 1) M dX7_asLane_15 rfl ?_
    refine j_icmp_ne (tgt := 29) M dX7_asLane_16 (by decide) (fun h_16 => ?_) (fun h_16 => ?_)
    · refine j_iload_n M dX7_asLane_29 rfl ?_
      exact j_iret M dX7_asLane_30 ⟨_, rfl, by grind⟩
    · refine j_iload_n M dX7_asLane_19 rfl ?_
      refine j_bipush (v := 16) M dX7_asLane_20 rfl ?_
      refine j_ishl M dX7_asLane_22 ?_
      refine j_bipush (v := 16) M dX7_asLane_23 rfl ?_
      refine j_ishr M dX7_asLane_25 ?_
      refine j_goto (tgt := 30) M dX7_asLane_26 (by decide) ?_
      exact j_iret M dX7_asLane_30 ⟨_, rfl, by grind⟩
  · refine j_iload_n M dX7_asLane_4 rfl ?_
    refine j_bipush (v := 24) M dX7_asLane_5 rfl ?_
    refine j_ishl M dX7_asLane_7 ?_
    refine j_bipush (v := 24) M dX7_asLane_8 rfl ?_
    refine j_ishr M dX7_asLane_10 ?_
    refine j_goto (tgt := 30) M dX7_asLane_11 (by decide) ?_
    exact j_iret M dX7_asLane_30 ⟨_, rfl, by grind⟩
