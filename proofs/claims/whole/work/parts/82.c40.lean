set_option maxRecDepth 100000 in
theorem c_X6_power {l : Launch} {G : Gw} {σ : Sg} {b : Int32} {k : Int32}  (k0 : 0 ≤ k) : Mt l G yX6_power cX6_power 5 (some .long) 0 0 [.int b, .int k] σ (pL fun r τ => τ = σ ∧ r = pwZ b.toInt64 k) := by
  refine mt_intro (by decide +kernel) (Nat.le_of_ble_eq_true rfl) (fun Φ M => ?_)
  show Φ 0 [some (.int b), some (.int k), none, none, none] [] σ
  have lp : ∀ i : Int32, 0 ≤ i → ∀ z : Int64, i ≤ k → z = pwZ b.toInt64 i → Φ 5 [some (.int b), some (.int k), some (.long z), none, some (.int i)] [] σ := by
    refine loop_up k (fun i hi ih z hle hz => ?_)
    refine j_iload M dX6_power_5 rfl ?_
    refine j_iload_n M dX6_power_7 rfl ?_
    refine j_icmp_ge (tgt := 22) M dX6_power_8 (by decide) (fun h_8 => ?_) (fun h_8 => ?_)
    · refine j_lload_n M dX6_power_22 rfl ?_
      exact j_lret M dX6_power_23 ⟨_, rfl, by (try dsimp only); have ei : i = k := Int32.le_antisymm hle (Int32.not_lt.mp h_8); rw [ei] at hz; exact ⟨rfl, hz⟩⟩
    · refine j_lload_n M dX6_power_11 rfl ?_
      refine j_iload_n M dX6_power_12 rfl ?_
      refine j_i2l M dX6_power_13 ?_
      refine j_lmul M dX6_power_14 ?_
      refine j_lstore_2 M dX6_power_15 (by exact (by first | trivial | rfl)) ?_
      refine j_iinc_4 M dX6_power_16 (show _ + Int32.ofInt 1 = _ + 1 from rfl) (by exact (by first | trivial | rfl)) ?_
      refine j_goto (tgt := 5) M dX6_power_19 (by decide) ?_
      exact ih h_8 _ (inc_lt hi h_8).2.1 (by unfold pwZ at hz ⊢; rw [foldI_s _ _ hi h_8, ← hz])
  refine j_lconst (v := 1) M dX6_power_0 rfl ?_
  refine j_lstore_2 M dX6_power_1 (by exact (by first | trivial | rfl)) ?_
  refine j_iconst (v := 0) M dX6_power_2 rfl ?_
  refine j_istore_4 M dX6_power_3 (by exact (by first | trivial | rfl)) ?_
  exact lp 0 (by decide) _ k0 rfl
set_option maxRecDepth 100000 in
theorem c_X6_commonDivisor {l : Launch} {G : Gw} {σ : Sg} {a : Int64} {b : Int64}   : Mt l G yX6_commonDivisor cX6_commonDivisor 11 (some .long) 0 0 [.long a, .long b] σ (pL fun r τ => τ = σ ∧ r = gl 1000 a b) := by
  refine mt_intro (by decide +kernel) (Nat.le_of_ble_eq_true rfl) (fun Φ M => ?_)
  show Φ 0 [some (.long a), none, some (.long b), none, none, none, none, none, none, none, none] [] σ
  have lp : ∀ m, m ≤ 1000 → ∀ x y : Int64, gl m x y = gl 1000 a b → Φ 9 [some (.long a), none, some (.long b), none, some (.long x), none, some (.long y), none, some (.int (nI (1000 - m))), none, none] [] σ := by
    intro m
    induction m with
    | zero =>
      intro hm x y hg
      refine j_iload M dX6_commonDivisor_9 rfl ?_
      refine j_sipush (v := 1000) M dX6_commonDivisor_11 rfl ?_
      refine j_icmp_ge (tgt := 45) M dX6_commonDivisor_14 (by decide) (fun h_14 => ?_) (fun h_14 => ?_)
      · refine j_lload M dX6_commonDivisor_45 rfl ?_
        exact j_lret M dX6_commonDivisor_47 ⟨_, rfl, by (try dsimp only); exact ⟨rfl, hg⟩⟩
      · exact absurd h_14 (by decide)
    | succ m ih =>
      intro hm x y hg
      have lt : nI (1000 - (m + 1)) < 1000 := (nI_ltI (b := 1000) (by omega) (by decide)).mpr (by omega)
      refine j_iload M dX6_commonDivisor_9 rfl ?_
      refine j_sipush (v := 1000) M dX6_commonDivisor_11 rfl ?_
      refine j_icmp_ge (tgt := 45) M dX6_commonDivisor_14 (by decide) (fun h_14 => ?_) (fun h_14 => ?_)
      · exact absurd lt h_14
      · refine j_lload M dX6_commonDivisor_17 rfl ?_
        refine j_lconst (v := 0) M dX6_commonDivisor_19 rfl ?_
        refine j_lcmp M dX6_commonDivisor_20 ?_
        refine j_if_eq (tgt := 45) M dX6_commonDivisor_21 (by decide) (fun h_21 => ?_) (fun h_21 => ?_)
        · refine j_lload M dX6_commonDivisor_45 rfl ?_
          exact j_lret M dX6_commonDivisor_47 ⟨_, rfl, by (try dsimp only); rw [lg_eq] at h_21; exact ⟨rfl, by rw [gl_z _ h_21] at hg; exact hg⟩⟩
        · rw [lg_eq] at h_21
          rw [gl_s, if_neg h_21] at hg
          refine j_lload M dX6_commonDivisor_24 rfl ?_
          refine j_lload M dX6_commonDivisor_26 rfl ?_
          refine j_lrem M dX6_commonDivisor_28 (by first | decide | assumption | grind) ?_
          refine j_lstore_9 M dX6_commonDivisor_29 (by exact (by first | trivial | rfl)) ?_
          refine j_lload M dX6_commonDivisor_31 rfl ?_
          refine j_lstore_4 M dX6_commonDivisor_33 (by exact (by first | trivial | rfl)) ?_
          refine j_lload M dX6_commonDivisor_35 rfl ?_
          refine j_lstore_6 M dX6_commonDivisor_37 (by exact (by first | trivial | rfl)) ?_
          refine j_iinc_8 M dX6_commonDivisor_39 (show _ + Int32.ofInt 1 = _ + 1 from rfl) (by exact (by first | trivial | rfl)) ?_
          refine j_goto (tgt := 9) M dX6_commonDivisor_42 (by decide) ?_
          refine j_forget M (L' := [some (.long a), none, some (.long b), none, some (.long _), none, some (.long _), none, some (.int _), none, none]) (by repeat' (first | exact True.intro | refine ⟨rfl, ?_⟩)) ?_
          have q := ih (by omega) _ _ hg
          rw [show 1000 - m = 1000 - (m + 1) + 1 by omega, nI_succ] at q
          exact q
  refine j_lload_n M dX6_commonDivisor_0 rfl ?_
  refine j_lstore_4 M dX6_commonDivisor_1 (by exact (by first | trivial | rfl)) ?_
  refine j_lload_n M dX6_commonDivisor_3 rfl ?_
  refine j_lstore_6 M dX6_commonDivisor_4 (by exact (by first | trivial | rfl)) ?_
  refine j_iconst (v := 0) M dX6_commonDivisor_6 rfl ?_
  refine j_istore_8 M dX6_commonDivisor_7 (by exact (by first | trivial | rfl)) ?_
  exact lp 1000 (by omega) _ _ rfl
set_option maxRecDepth 100000 in
theorem c_X6_isWithin {l : Launch} {G : Gw} {σ : Sg} {v : Int32} {a : Int32} {b : Int32}   : Mt l G yX6_isWithin cX6_isWithin 3 (some .boolean) 0 0 [.int v, .int a, .int b] σ (pI fun r τ => τ = σ ∧ r = if a ≤ v ∧ v ≤ b then 1 else 0) := by
  refine mt_intro (by decide +kernel) (Nat.le_of_ble_eq_true rfl) (fun Φ M => ?_)
  show Φ 0 [some (.int v), some (.int a), some (.int b)] [] σ
  refine j_iload_n M dX6_isWithin_0 rfl ?_
  refine j_iload_n M dX6_isWithin_1 rfl ?_
  refine j_icmp_lt (tgt := 14) M dX6_isWithin_2 (by decide) (fun h_2 => ?_) (fun h_2 => ?_)
  · refine j_iconst (v := 0) M dX6_isWithin_14 rfl ?_
    exact j_zret M dX6_isWithin_15 (by first | exact Or.inl rfl | exact Or.inr rfl | exact bitv_01 _ _ | assumption | (exact res_01 (by assumption)) | grind) ⟨_, rfl, by (try dsimp only); first | (simp [h_2]; done) | (refine ⟨rfl, ?_⟩; grind)⟩
  · refine j_iload_n M dX6_isWithin_5 rfl ?_
    refine j_iload_n M dX6_isWithin_6 rfl ?_
    refine j_icmp_gt (tgt := 14) M dX6_isWithin_7 (by decide) (fun h_7 => ?_) (fun h_7 => ?_)
    · refine j_iconst (v := 0) M dX6_isWithin_14 rfl ?_
      exact j_zret M dX6_isWithin_15 (by first | exact Or.inl rfl | exact Or.inr rfl | exact bitv_01 _ _ | assumption | (exact res_01 (by assumption)) | grind) ⟨_, rfl, by (try dsimp only); first | (simp [h_2, h_7]; done) | (refine ⟨rfl, ?_⟩; grind)⟩
    · refine j_iconst (v := 1) M dX6_isWithin_10 rfl ?_
      refine j_goto (tgt := 15) M dX6_isWithin_11 (by decide) ?_
      exact j_zret M dX6_isWithin_15 (by first | exact Or.inl rfl | exact Or.inr rfl | exact bitv_01 _ _ | assumption | (exact res_01 (by assumption)) | grind) ⟨_, rfl, by (try dsimp only); first | (simp [h_2, h_7]; done) | (refine ⟨rfl, ?_⟩; grind)⟩
set_option maxRecDepth 100000 in
theorem c_X6_bitOf {l : Launch} {G : Gw} {σ : Sg} {m : Int32} {b : Int32}   : Mt l G yX6_bitOf cX6_bitOf 2 (some .int) 0 0 [.int m, .int b] σ (pI fun r τ => τ = σ ∧ r = bitv m b) := by
  refine mt_intro (by decide +kernel) (Nat.le_of_ble_eq_true rfl) (fun Φ M => ?_)
  show Φ 0 [some (.int m), some (.int b)] [] σ
  refine j_iload_n M dX6_bitOf_0 rfl ?_
  refine j_iload_n M dX6_bitOf_1 rfl ?_
  refine j_ishr M dX6_bitOf_2 ?_
  refine j_iconst (v := 1) M dX6_bitOf_3 rfl ?_
  refine j_iand M dX6_bitOf_4 ?_
  exact j_iret M dX6_bitOf_5 ⟨_, rfl, by (try dsimp only); exact ⟨rfl, rfl⟩⟩
set_option maxRecDepth 100000 in
theorem c_X6_isKind {l : Launch} {G : Gw} {σ : Sg} {k : Int32} {a : Int32}   : Mt l G yX6_isKind cX6_isKind 4 (some .boolean) 1 22 [.int k, .int a] σ (pI fun r τ => τ = σ ∧ r = ikF 6 k a) := by
  refine mt_intro (by decide +kernel) (Nat.le_of_ble_eq_true rfl) (fun Φ M => ?_)
  show Φ 0 [some (.int k), some (.int a), none, none] [] σ
  have lp : ∀ m, m ≤ 6 → ∀ e : Int32, ikF m e a = ikF 6 k a → Φ 4 [some (.int k), some (.int a), some (.int e), some (.int (nI (6 - m)))] [] σ := by
    intro m
    induction m with
    | zero =>
      intro hm e hg
      refine j_iload_n M dX6_isKind_4 rfl ?_
      refine j_bkget M fl_X6_326 dX6_isKind_5 ?_
      refine j_bklen M dX6_isKind_8 ?_
      refine j_icmp_ge (tgt := 42) M dX6_isKind_9 (by decide) (fun h_9 => ?_) (fun h_9 => ?_)
      · refine j_iconst (v := 0) M dX6_isKind_42 rfl ?_
        exact j_zret M dX6_isKind_43 (by first | exact Or.inl rfl | exact Or.inr rfl | exact bitv_01 _ _ | assumption | (exact res_01 (by assumption)) | grind) ⟨_, rfl, by (try dsimp only); exact ⟨rfl, hg⟩⟩
      · exact absurd h_9 (by decide)
    | succ m ih =>
      intro hm e hg
      have lt : nI (6 - (m + 1)) < 6 := (nI_ltI (b := 6) (by omega) (by decide)).mpr (by omega)
      have hs : ikF (m + 1) e a = if e = a then 1 else if 0 ≤ e ∧ e ≤ 5 then ikF m (ikF.bkI e) a else 0 := rfl
      rw [hs] at hg
      refine j_iload_n M dX6_isKind_4 rfl ?_
      refine j_bkget M fl_X6_326 dX6_isKind_5 ?_
      refine j_bklen M dX6_isKind_8 ?_
      refine j_icmp_ge (tgt := 42) M dX6_isKind_9 (by decide) (fun h_9 => ?_) (fun h_9 => ?_)
      · exact absurd lt h_9
      · refine j_iload_n M dX6_isKind_12 rfl ?_
        refine j_iload_n M dX6_isKind_13 rfl ?_
        refine j_icmp_ne (tgt := 19) M dX6_isKind_14 (by decide) (fun h_14 => ?_) (fun h_14 => ?_)
        · refine j_iload_n M dX6_isKind_19 rfl ?_
          refine j_iconst (v := 0) M dX6_isKind_20 rfl ?_
          refine j_iconst (v := 5) M dX6_isKind_21 rfl ?_
          refine j_invs3 M lk_X6_104 (c_X6_isWithin) dX6_isKind_22 (Nat.le_of_ble_eq_true rfl) ⟨(Nat.le_of_ble_eq_true rfl), (Nat.le_of_ble_eq_true rfl)⟩ (kP fun r_22 k_22 => ?_)
          refine j_if_ne (tgt := 30) M dX6_isKind_25 (by decide) (fun h_25 => ?_) (fun h_25 => ?_)
          · have b_22 := ifT k_22 h_25
            rw [if_neg h_14, if_pos b_22] at hg
            refine j_bkget M fl_X6_326 dX6_isKind_30 ?_
            refine j_iload_n M dX6_isKind_33 rfl ?_
            refine j_bkld M (bk_val b_22) dX6_isKind_34 (by first | exact b_22.1 | exact Int32.lt_of_le_of_lt b_22.2 (by decide)) (by first | exact b_22.1 | exact Int32.lt_of_le_of_lt b_22.2 (by decide)) ?_
            refine j_istore_2 M dX6_isKind_35 (by exact (by first | trivial | rfl)) ?_
            refine j_iinc_3 M dX6_isKind_36 (show _ + Int32.ofInt 1 = _ + 1 from rfl) (by exact (by first | trivial | rfl)) ?_
            refine j_goto (tgt := 4) M dX6_isKind_39 (by decide) ?_
            have q := ih (by omega) _ hg
            rw [show 6 - m = 6 - (m + 1) + 1 by omega, nI_succ] at q
            exact q
          · have b_22 := ifF k_22 h_25
            refine j_iconst (v := 0) M dX6_isKind_28 rfl ?_
            exact j_zret M dX6_isKind_29 (by first | exact Or.inl rfl | exact Or.inr rfl | exact bitv_01 _ _ | assumption | (exact res_01 (by assumption)) | grind) ⟨_, rfl, by (try dsimp only); exact ⟨rfl, by rw [if_neg h_14, if_neg b_22] at hg; exact hg⟩⟩
        · refine j_iconst (v := 1) M dX6_isKind_17 rfl ?_
          exact j_zret M dX6_isKind_18 (by first | exact Or.inl rfl | exact Or.inr rfl | exact bitv_01 _ _ | assumption | (exact res_01 (by assumption)) | grind) ⟨_, rfl, by (try dsimp only); exact ⟨rfl, by rw [if_pos h_14] at hg; exact hg⟩⟩
  refine j_iload_n M dX6_isKind_0 rfl ?_
  refine j_istore_2 M dX6_isKind_1 (by exact (by first | trivial | rfl)) ?_
  refine j_iconst (v := 0) M dX6_isKind_2 rfl ?_
  refine j_istore_3 M dX6_isKind_3 (by exact (by first | trivial | rfl)) ?_
  exact lp 6 (by omega) _ rfl
