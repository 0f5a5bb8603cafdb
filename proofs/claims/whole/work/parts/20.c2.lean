theorem c_X7_inI {l : Launch} {G : Gw} {σ : Sg} {v lo hi : Int64} {x a b : Int32} (hv : v = x.toInt64) (ha : lo = a.toInt64) (hb : hi = b.toInt64) : Mt l G yX7_in cX7_in 6 (some .boolean) 0 0 [.long v, .long lo, .long hi] σ (pI fun r τ => τ = σ ∧ r = if a ≤ x ∧ x ≤ b then 1 else 0) := by
  have e : (pI fun r τ => τ = σ ∧ r = if a ≤ x ∧ x ≤ b then (1 : Int32) else 0) = (pI fun r (τ : Sg) => τ = σ ∧ r = if lo ≤ v ∧ v ≤ hi then (1 : Int32) else 0) := by
    subst hv ha hb
    funext q τ
    simp only [pI, toL_le]
  rw [e]
  exact c_X7_in
theorem ixb (A m N : Nat) {x : Int32} (x0 : 0 ≤ x) (x1 : x < nI m) (h : A + m ≤ N ∧ N < 100000) : 0 ≤ nI A + x ∧ nI A + x < nI N := by
  obtain ⟨a, ha, rfl⟩ := nI_of (Int32.not_lt.mpr x0)
  have h1 := (nI_ltI ha (by omega)).mp x1
  rw [nI_add]
  exact ⟨nI_pos' (by omega), (nI_ltI (by omega) (by omega)).mpr (by omega)⟩
set_option maxRecDepth 100000 in
theorem c_X7_isRow {l : Launch} {G : Gw} {σ : Sg} {b : Int32}   : Mt l G yX7_isRow cX7_isRow 1 (some .boolean) 1 25 [.int b] σ (pI fun r τ => τ = σ ∧ r = if 0 ≤ b ∧ b ≤ 7 then 1 else 0) := by
  refine mt_intro (by decide +kernel) (Nat.le_of_ble_eq_true rfl) (fun Φ M => ?_)
  show Φ 0 [some (.int b)] [] σ
  refine j_iload_n M dX7_isRow_0 rfl ?_
  refine j_i2l M dX7_isRow_1 ?_
  refine j_lconst (v := 0) M dX7_isRow_2 rfl ?_
  refine j_ldc2 M kl_X7_61 dX7_isRow_3 ?_
  refine j_invs3 M lk_X7_63 (c_X7_inI (a := 0) (b := 7) rfl (by decide) (by decide)) dX7_isRow_6 (Nat.le_of_ble_eq_true rfl) ⟨(Nat.le_of_ble_eq_true rfl), (Nat.le_of_ble_eq_true rfl)⟩ (kP fun r_6 k_6 => ?_)
  exact j_zret M dX7_isRow_9 (by first | exact Or.inl rfl | exact Or.inr rfl | exact bitv_01 _ _ | grind) ⟨_, rfl, by grind⟩
set_option maxRecDepth 100000 in
theorem c_X7_isBook {l : Launch} {G : Gw} {σ : Sg} {b : Int32}   : Mt l G yX7_isBook cX7_isBook 2 (some .boolean) 1 25 [.ref (ad G 40 0), .int b] σ (pI fun r τ => τ = σ ∧ r = if 0 ≤ b ∧ b ≤ σ 40 4 0 - 1 then 1 else 0) := by
  refine mt_intro (by decide +kernel) (Nat.le_of_ble_eq_true rfl) (fun Φ M => ?_)
  show Φ 0 [some (.ref (ad G 40 0)), some (.int b)] [] σ
  refine j_iload_n M dX7_isBook_0 rfl ?_
  refine j_i2l M dX7_isBook_1 ?_
  refine j_lconst (v := 0) M dX7_isBook_2 rfl ?_
  refine j_aload_n M dX7_isBook_3 rfl ?_
  refine gf_X7_19 M dX7_isBook_4 ?_
  refine j_iconst (v := 0) M dX7_isBook_7 rfl ?_
  refine al_40_4 M dX7_isBook_8 (by first | assumption | decide | grind) (by first | assumption | decide | grind) ?_
  refine j_iconst (v := 1) M dX7_isBook_9 rfl ?_
  refine j_isub M dX7_isBook_10 ?_
  refine j_i2l M dX7_isBook_11 ?_
  refine j_invs3 M lk_X7_63 (c_X7_inI (a := 0) rfl (by decide) rfl) dX7_isBook_12 (Nat.le_of_ble_eq_true rfl) ⟨(Nat.le_of_ble_eq_true rfl), (Nat.le_of_ble_eq_true rfl)⟩ (kP fun r_12 k_12 => ?_)
  exact j_zret M dX7_isBook_15 (by first | exact Or.inl rfl | exact Or.inr rfl | exact bitv_01 _ _ | grind) ⟨_, rfl, by grind⟩
set_option maxRecDepth 100000 in
theorem c_X7_isFish {l : Launch} {G : Gw} {σ : Sg} {b : Int32}   : Mt l G yX7_isFish cX7_isFish 2 (some .boolean) 1 25 [.ref (ad G 40 0), .int b] σ (pI fun r τ => τ = σ ∧ r = if 0 ≤ b ∧ b ≤ σ 40 4 1 - 1 then 1 else 0) := by
  refine mt_intro (by decide +kernel) (Nat.le_of_ble_eq_true rfl) (fun Φ M => ?_)
  show Φ 0 [some (.ref (ad G 40 0)), some (.int b)] [] σ
  refine j_iload_n M dX7_isFish_0 rfl ?_
  refine j_i2l M dX7_isFish_1 ?_
  refine j_lconst (v := 0) M dX7_isFish_2 rfl ?_
  refine j_aload_n M dX7_isFish_3 rfl ?_
  refine gf_X7_19 M dX7_isFish_4 ?_
  refine j_iconst (v := 1) M dX7_isFish_7 rfl ?_
  refine al_40_4 M dX7_isFish_8 (by first | assumption | decide | grind) (by first | assumption | decide | grind) ?_
  refine j_iconst (v := 1) M dX7_isFish_9 rfl ?_
  refine j_isub M dX7_isFish_10 ?_
  refine j_i2l M dX7_isFish_11 ?_
  refine j_invs3 M lk_X7_63 (c_X7_inI (a := 0) rfl (by decide) rfl) dX7_isFish_12 (Nat.le_of_ble_eq_true rfl) ⟨(Nat.le_of_ble_eq_true rfl), (Nat.le_of_ble_eq_true rfl)⟩ (kP fun r_12 k_12 => ?_)
  exact j_zret M dX7_isFish_15 (by first | exact Or.inl rfl | exact Or.inr rfl | exact bitv_01 _ _ | grind) ⟨_, rfl, by grind⟩
set_option maxRecDepth 100000 in
theorem c_X7_isWhat {l : Launch} {G : Gw} {σ : Sg} {b : Int32}   : Mt l G yX7_isWhat cX7_isWhat 1 (some .boolean) 1 25 [.int b] σ (pI fun r τ => τ = σ ∧ r = if 0 ≤ b ∧ b ≤ 1 then 1 else 0) := by
  refine mt_intro (by decide +kernel) (Nat.le_of_ble_eq_true rfl) (fun Φ M => ?_)
  show Φ 0 [some (.int b)] [] σ
  refine j_iload_n M dX7_isWhat_0 rfl ?_
  refine j_i2l M dX7_isWhat_1 ?_
  refine j_lconst (v := 0) M dX7_isWhat_2 rfl ?_
  refine j_lconst (v := 1) M dX7_isWhat_3 rfl ?_
  refine j_invs3 M lk_X7_63 (c_X7_inI (a := 0) (b := 1) rfl (by decide) (by decide)) dX7_isWhat_4 (Nat.le_of_ble_eq_true rfl) ⟨(Nat.le_of_ble_eq_true rfl), (Nat.le_of_ble_eq_true rfl)⟩ (kP fun r_4 k_4 => ?_)
  exact j_zret M dX7_isWhat_7 (by first | exact Or.inl rfl | exact Or.inr rfl | exact bitv_01 _ _ | grind) ⟨_, rfl, by grind⟩
set_option maxRecDepth 100000 in
theorem c_X7_isCaught {l : Launch} {G : Gw} {σ : Sg} {f : Int32}   : Mt l G yX7_isCaught cX7_isCaught 2 (some .boolean) 1 21 [.ref (ad G 40 0), .int f] σ (pI fun r τ => τ = σ ∧ r = bitv (σ 40 4 7) f) := by
  refine mt_intro (by decide +kernel) (Nat.le_of_ble_eq_true rfl) (fun Φ M => ?_)
  show Φ 0 [some (.ref (ad G 40 0)), some (.int f)] [] σ
  refine j_aload_n M dX7_isCaught_0 rfl ?_
  refine gf_X7_19 M dX7_isCaught_1 ?_
  refine j_bipush (v := 7) M dX7_isCaught_4 rfl ?_
  refine al_40_4 M dX7_isCaught_6 (by decide) (by decide) ?_
  refine j_iload_n M dX7_isCaught_7 rfl ?_
  refine j_invs2 M lk_X7_154 (c_X7_has) dX7_isCaught_8 (Nat.le_of_ble_eq_true rfl) ⟨(Nat.le_of_ble_eq_true rfl), (Nat.le_of_ble_eq_true rfl)⟩ (kE ?_)
  exact j_zret M dX7_isCaught_11 (by first | exact Or.inl rfl | exact Or.inr rfl | exact bitv_01 _ _ | grind) ⟨_, rfl, by exact ⟨rfl, rfl⟩⟩
set_option maxRecDepth 100000 in
theorem c_X7_isShut {l : Launch} {G : Gw} {σ : Sg} {b : Int32}   : Mt l G yX7_isShut cX7_isShut 2 (some .boolean) 1 21 [.ref (ad G 40 0), .int b] σ (pI fun r τ => τ = σ ∧ r = bitv (σ 40 4 5 ||| σ 40 4 6) b) := by
  refine mt_intro (by decide +kernel) (Nat.le_of_ble_eq_true rfl) (fun Φ M => ?_)
  show Φ 0 [some (.ref (ad G 40 0)), some (.int b)] [] σ
  refine j_aload_n M dX7_isShut_0 rfl ?_
  refine gf_X7_19 M dX7_isShut_1 ?_
  refine j_iconst (v := 5) M dX7_isShut_4 rfl ?_
  refine al_40_4 M dX7_isShut_5 (by decide) (by decide) ?_
  refine j_aload_n M dX7_isShut_6 rfl ?_
  refine gf_X7_19 M dX7_isShut_7 ?_
  refine j_bipush (v := 6) M dX7_isShut_10 rfl ?_
  refine al_40_4 M dX7_isShut_12 (by decide) (by decide) ?_
  refine j_ior M dX7_isShut_13 ?_
  refine j_iload_n M dX7_isShut_14 rfl ?_
  refine j_invs2 M lk_X7_154 (c_X7_has) dX7_isShut_15 (Nat.le_of_ble_eq_true rfl) ⟨(Nat.le_of_ble_eq_true rfl), (Nat.le_of_ble_eq_true rfl)⟩ (kE ?_)
  exact j_zret M dX7_isShut_18 (by first | exact Or.inl rfl | exact Or.inr rfl | exact bitv_01 _ _ | grind) ⟨_, rfl, by exact ⟨rfl, rfl⟩⟩
set_option maxRecDepth 100000 in
theorem c_X7_bookAt {l : Launch} {G : Gw} {σ : Sg} {v : Int32}  (hw : bkAt (σ 40 4) v < 6) : Mt l G yX7_bookAt cX7_bookAt 3 (some .int) 0 0 [.ref (ad G 40 0), .int v] σ (pI fun r τ => τ = σ ∧ r = bkAt (σ 40 4) v) := by
  refine mt_intro (by decide +kernel) (Nat.le_of_ble_eq_true rfl) (fun Φ M => ?_)
  show Φ 0 [some (.ref (ad G 40 0)), some (.int v), none] [] σ
  have lp : ∀ b : Int32, 0 ≤ b → b ≤ bkAt (σ 40 4) v → Φ 2 [some (.ref (ad G 40 0)), some (.int v), some (.int b)] [] σ := by
    refine loop_up 6 (fun b hb ih hle => ?_)
    have b6 : b < 6 := Int32.lt_of_le_of_lt hle hw
    have hx := ixb 20 6 41 hb b6 ⟨by decide, by decide⟩
    refine j_aload_n M dX7_bookAt_2 rfl ?_
    refine gf_X7_19 M dX7_bookAt_3 ?_
    refine j_bipush (v := 20) M dX7_bookAt_6 rfl ?_
    refine j_iload_n M dX7_bookAt_8 rfl ?_
    refine j_iadd M dX7_bookAt_9 ?_
    refine al_40_4 M dX7_bookAt_10 (by first | exact hx.1 | exact hx.2) (by first | exact hx.1 | exact hx.2) ?_
    refine j_iload_n M dX7_bookAt_11 rfl ?_
    refine j_icmp_eq (tgt := 21) M dX7_bookAt_12 (by decide) (fun h_12 => ?_) (fun h_12 => ?_)
    · refine j_iload_n M dX7_bookAt_21 rfl ?_
      exact j_iret M dX7_bookAt_22 ⟨_, rfl, by exact ⟨rfl, bk_here hb b6 hle h_12⟩⟩
    · refine j_iinc_2 M dX7_bookAt_15 (show _ + Int32.ofInt 1 = _ + 1 from rfl) (by exact (by first | trivial | rfl)) ?_
      refine j_goto (tgt := 2) M dX7_bookAt_18 (by decide) ?_
      exact ih b6 (bk_step hb b6 hle h_12)
  refine j_iconst (v := 0) M dX7_bookAt_0 rfl ?_
  refine j_istore_2 M dX7_bookAt_1 (by exact (by first | trivial | rfl)) ?_
  exact lp 0 (by decide) (bk_rng _ _).1
