set_option maxRecDepth 100000 in
theorem c_X3_isTold {l : Launch} {G : Gw} {σ : Sg} {c : Nat} (hc : isLib c)   : Mt l G yX3_isTold cX3_isTold 1 (some .boolean) 0 0 [.ref (ad G c 0)] σ (pI fun r τ => τ = σ ∧ r = if 0 < σ c 0 0 then 1 else 0) := by
  refine mt_intro (by decide +kernel) (Nat.le_of_ble_eq_true rfl) (fun Φ M => ?_)
  show Φ 0 [some (.ref (ad G c 0))] [] σ
  refine j_aload_n M dX3_isTold_0 rfl ?_
  refine gf_X3_9 M hc dX3_isTold_1 ?_
  refine j_if_le (tgt := 11) M dX3_isTold_4 (by decide) (fun h_4 => ?_) (fun h_4 => ?_)
  · refine j_iconst (v := 0) M dX3_isTold_11 rfl ?_
    exact j_zret M dX3_isTold_12 (by first | exact Or.inl rfl | exact Or.inr rfl | exact bitv_01 _ _ | assumption | (exact res_01 (by assumption)) | grind) ⟨_, rfl, by (try dsimp only); first | (simp [h_4]; done) | (simp_all; done)⟩
  · refine j_iconst (v := 1) M dX3_isTold_7 rfl ?_
    refine j_goto (tgt := 12) M dX3_isTold_8 (by decide) ?_
    exact j_zret M dX3_isTold_12 (by first | exact Or.inl rfl | exact Or.inr rfl | exact bitv_01 _ _ | assumption | (exact res_01 (by assumption)) | grind) ⟨_, rfl, by (try dsimp only); first | (simp [h_4]; done) | (simp_all; done)⟩
set_option maxRecDepth 100000 in
theorem c_X3_isBook {l : Launch} {G : Gw} {σ : Sg} {c : Nat} (hc : isLib c) {b : Int32}   : Mt l G yX3_isBook cX3_isBook 2 (some .boolean) 0 0 [.ref (ad G c 0), .int b] σ (pI fun r τ => τ = σ ∧ r = if 0 ≤ b ∧ b < σ c 0 0 ∧ b < 6 then 1 else 0) := by
  refine mt_intro (by decide +kernel) (Nat.le_of_ble_eq_true rfl) (fun Φ M => ?_)
  show Φ 0 [some (.ref (ad G c 0)), some (.int b)] [] σ
  refine j_iload_n M dX3_isBook_0 rfl ?_
  refine j_if_lt (tgt := 22) M dX3_isBook_1 (by decide) (fun h_1 => ?_) (fun h_1 => ?_)
  · refine j_iconst (v := 0) M dX3_isBook_22 rfl ?_
    exact j_zret M dX3_isBook_23 (by first | exact Or.inl rfl | exact Or.inr rfl | exact bitv_01 _ _ | assumption | (exact res_01 (by assumption)) | grind) ⟨_, rfl, by (try dsimp only); first | (simp [h_1]; done) | (refine ⟨rfl, ?_⟩; grind)⟩
  · refine j_iload_n M dX3_isBook_4 rfl ?_
    refine j_aload_n M dX3_isBook_5 rfl ?_
    refine gf_X3_9 M hc dX3_isBook_6 ?_
    refine j_icmp_ge (tgt := 22) M dX3_isBook_9 (by decide) (fun h_9 => ?_) (fun h_9 => ?_)
    · refine j_iconst (v := 0) M dX3_isBook_22 rfl ?_
      exact j_zret M dX3_isBook_23 (by first | exact Or.inl rfl | exact Or.inr rfl | exact bitv_01 _ _ | assumption | (exact res_01 (by assumption)) | grind) ⟨_, rfl, by (try dsimp only); first | (simp [h_1, h_9]; done) | (refine ⟨rfl, ?_⟩; grind)⟩
    · refine j_iload_n M dX3_isBook_12 rfl ?_
      refine j_bipush (v := 6) M dX3_isBook_13 rfl ?_
      refine j_icmp_ge (tgt := 22) M dX3_isBook_15 (by decide) (fun h_15 => ?_) (fun h_15 => ?_)
      · refine j_iconst (v := 0) M dX3_isBook_22 rfl ?_
        exact j_zret M dX3_isBook_23 (by first | exact Or.inl rfl | exact Or.inr rfl | exact bitv_01 _ _ | assumption | (exact res_01 (by assumption)) | grind) ⟨_, rfl, by (try dsimp only); first | (simp [h_1, h_9, h_15]; done) | (refine ⟨rfl, ?_⟩; grind)⟩
      · refine j_iconst (v := 1) M dX3_isBook_18 rfl ?_
        refine j_goto (tgt := 23) M dX3_isBook_19 (by decide) ?_
        exact j_zret M dX3_isBook_23 (by first | exact Or.inl rfl | exact Or.inr rfl | exact bitv_01 _ _ | assumption | (exact res_01 (by assumption)) | grind) ⟨_, rfl, by (try dsimp only); first | (simp [h_1, h_9, h_15]; done) | (refine ⟨rfl, ?_⟩; grind)⟩
set_option maxRecDepth 100000 in
theorem c_X3_isPlace {l : Launch} {G : Gw} {σ : Sg} {c : Nat} (hc : isLib c) {b : Int32}   : Mt l G yX3_isPlace cX3_isPlace 2 (some .boolean) 1 21 [.ref (ad G c 0), .int b] σ (pI fun r τ => τ = σ ∧ r = if 0 ≤ b ∧ b < σ c 0 0 ∧ b < 6 then 1 else 0) := by
  refine mt_intro (by decide +kernel) (Nat.le_of_ble_eq_true rfl) (fun Φ M => ?_)
  show Φ 0 [some (.ref (ad G c 0)), some (.int b)] [] σ
  refine j_aload_n M dX3_isPlace_0 rfl ?_
  refine j_iload_n M dX3_isPlace_1 rfl ?_
  refine j_inv1 M lk_X3_61 (c_X3_isBook hc) (rv_X3 hc) dX3_isPlace_2 (Nat.le_of_ble_eq_true rfl) ⟨(Nat.le_of_ble_eq_true rfl), (Nat.le_of_ble_eq_true rfl)⟩ (kP fun r_2 k_2 => ?_)
  exact j_zret M dX3_isPlace_5 (by first | exact Or.inl rfl | exact Or.inr rfl | exact bitv_01 _ _ | assumption | (exact res_01 (by assumption)) | grind) ⟨_, rfl, by (try dsimp only); exact ⟨rfl, by assumption⟩⟩
set_option maxRecDepth 100000 in
theorem c_X3_isFish {l : Launch} {G : Gw} {σ : Sg} {c : Nat} (hc : isLib c) {b : Int32}   : Mt l G yX3_isFish cX3_isFish 2 (some .boolean) 0 0 [.ref (ad G c 0), .int b] σ (pI fun r τ => τ = σ ∧ r = if 0 ≤ b ∧ b < σ c 0 1 ∧ b < 5 then 1 else 0) := by
  refine mt_intro (by decide +kernel) (Nat.le_of_ble_eq_true rfl) (fun Φ M => ?_)
  show Φ 0 [some (.ref (ad G c 0)), some (.int b)] [] σ
  refine j_iload_n M dX3_isFish_0 rfl ?_
  refine j_if_lt (tgt := 21) M dX3_isFish_1 (by decide) (fun h_1 => ?_) (fun h_1 => ?_)
  · refine j_iconst (v := 0) M dX3_isFish_21 rfl ?_
    exact j_zret M dX3_isFish_22 (by first | exact Or.inl rfl | exact Or.inr rfl | exact bitv_01 _ _ | assumption | (exact res_01 (by assumption)) | grind) ⟨_, rfl, by (try dsimp only); first | (simp [h_1]; done) | (refine ⟨rfl, ?_⟩; grind)⟩
  · refine j_iload_n M dX3_isFish_4 rfl ?_
    refine j_aload_n M dX3_isFish_5 rfl ?_
    refine gf_X3_15 M hc dX3_isFish_6 ?_
    refine j_icmp_ge (tgt := 21) M dX3_isFish_9 (by decide) (fun h_9 => ?_) (fun h_9 => ?_)
    · refine j_iconst (v := 0) M dX3_isFish_21 rfl ?_
      exact j_zret M dX3_isFish_22 (by first | exact Or.inl rfl | exact Or.inr rfl | exact bitv_01 _ _ | assumption | (exact res_01 (by assumption)) | grind) ⟨_, rfl, by (try dsimp only); first | (simp [h_1, h_9]; done) | (refine ⟨rfl, ?_⟩; grind)⟩
    · refine j_iload_n M dX3_isFish_12 rfl ?_
      refine j_iconst (v := 5) M dX3_isFish_13 rfl ?_
      refine j_icmp_ge (tgt := 21) M dX3_isFish_14 (by decide) (fun h_14 => ?_) (fun h_14 => ?_)
      · refine j_iconst (v := 0) M dX3_isFish_21 rfl ?_
        exact j_zret M dX3_isFish_22 (by first | exact Or.inl rfl | exact Or.inr rfl | exact bitv_01 _ _ | assumption | (exact res_01 (by assumption)) | grind) ⟨_, rfl, by (try dsimp only); first | (simp [h_1, h_9, h_14]; done) | (refine ⟨rfl, ?_⟩; grind)⟩
      · refine j_iconst (v := 1) M dX3_isFish_17 rfl ?_
        refine j_goto (tgt := 22) M dX3_isFish_18 (by decide) ?_
        exact j_zret M dX3_isFish_22 (by first | exact Or.inl rfl | exact Or.inr rfl | exact bitv_01 _ _ | assumption | (exact res_01 (by assumption)) | grind) ⟨_, rfl, by (try dsimp only); first | (simp [h_1, h_9, h_14]; done) | (refine ⟨rfl, ?_⟩; grind)⟩
set_option maxRecDepth 100000 in
theorem c_X3_isCaught {l : Launch} {G : Gw} {σ : Sg} {c : Nat} (hc : isLib c) {f : Int32}   : Mt l G yX3_isCaught cX3_isCaught 2 (some .boolean) 0 0 [.ref (ad G c 0), .int f] σ (pI fun r τ => τ = σ ∧ r = bitv (σ c 0 7) f) := by
  refine mt_intro (by decide +kernel) (Nat.le_of_ble_eq_true rfl) (fun Φ M => ?_)
  show Φ 0 [some (.ref (ad G c 0)), some (.int f)] [] σ
  refine j_aload_n M dX3_isCaught_0 rfl ?_
  refine gf_X3_33 M hc dX3_isCaught_1 ?_
  refine j_iload_n M dX3_isCaught_4 rfl ?_
  refine j_ishr M dX3_isCaught_5 ?_
  refine j_iconst (v := 1) M dX3_isCaught_6 rfl ?_
  refine j_iand M dX3_isCaught_7 ?_
  refine j_if_eq (tgt := 15) M dX3_isCaught_8 (by decide) (fun h_8 => ?_) (fun h_8 => ?_)
  · refine j_iconst (v := 0) M dX3_isCaught_15 rfl ?_
    exact j_zret M dX3_isCaught_16 (by first | exact Or.inl rfl | exact Or.inr rfl | exact bitv_01 _ _ | assumption | (exact res_01 (by assumption)) | grind) ⟨_, rfl, by (try dsimp only); exact ⟨rfl, by have q := bitv_01 (σ c 0 7) f; rw [← bitv_def] at h_8; first | exact q.resolve_left (by assumption) | (symm; assumption) | grind⟩⟩
  · refine j_iconst (v := 1) M dX3_isCaught_11 rfl ?_
    refine j_goto (tgt := 16) M dX3_isCaught_12 (by decide) ?_
    exact j_zret M dX3_isCaught_16 (by first | exact Or.inl rfl | exact Or.inr rfl | exact bitv_01 _ _ | assumption | (exact res_01 (by assumption)) | grind) ⟨_, rfl, by (try dsimp only); exact ⟨rfl, by have q := bitv_01 (σ c 0 7) f; rw [← bitv_def] at h_8; first | exact q.resolve_left (by assumption) | (symm; assumption) | grind⟩⟩
set_option maxRecDepth 100000 in
theorem c_X3_bookIn {l : Launch} {G : Gw} {σ : Sg} {c : Nat} (hc : isLib c) {p : Int32}   : Mt l G yX3_bookIn cX3_bookIn 2 (some .int) 1 21 [.ref (ad G c 0), .int p] σ (pI fun r τ => τ = σ ∧ r = if 0 ≤ p ∧ p < σ c 0 0 ∧ p < 6 then σ c 4 p else -1000000) := by
  refine mt_intro (by decide +kernel) (Nat.le_of_ble_eq_true rfl) (fun Φ M => ?_)
  show Φ 0 [some (.ref (ad G c 0)), some (.int p)] [] σ
  refine j_aload_n M dX3_bookIn_0 rfl ?_
  refine j_iload_n M dX3_bookIn_1 rfl ?_
  refine j_inv1 M lk_X3_61 (c_X3_isBook hc) (rv_X3 hc) dX3_bookIn_2 (Nat.le_of_ble_eq_true rfl) ⟨(Nat.le_of_ble_eq_true rfl), (Nat.le_of_ble_eq_true rfl)⟩ (kP fun r_2 k_2 => ?_)
  refine j_if_eq (tgt := 17) M dX3_bookIn_5 (by decide) (fun h_5 => ?_) (fun h_5 => ?_)
  · have b_2 := ifF k_2 h_5
    refine j_ldc M k_X3_65 dX3_bookIn_17 ?_
    exact j_iret M dX3_bookIn_19 ⟨_, rfl, by (try dsimp only); exact ⟨rfl, by simp [b_2]⟩⟩
  · have b_2 := ifT k_2 h_5
    refine j_aload_n M dX3_bookIn_8 rfl ?_
    refine gf_X3_46 M hc dX3_bookIn_9 ?_
    refine j_iload_n M dX3_bookIn_12 rfl ?_
    refine al_L_4 M hc dX3_bookIn_13 (by first | exact b_2.1 | exact b_2.2.2) (by first | exact b_2.1 | exact b_2.2.2) ?_
    refine j_goto (tgt := 19) M dX3_bookIn_14 (by decide) ?_
    exact j_iret M dX3_bookIn_19 ⟨_, rfl, by (try dsimp only); exact ⟨rfl, by simp [b_2]⟩⟩
set_option maxRecDepth 100000 in
theorem c_X3_put {l : Launch} {G : Gw} {σ : Sg} {c : Nat} (hc : isLib c) {b : Int32} {p : Int32}   : Mt l G yX3_put cX3_put 3 none 2 42 [.ref (ad G c 0), .int b, .int p] σ (pV fun τ => τ = if (0 ≤ b ∧ b < σ c 0 0 ∧ b < 6) ∧ (0 ≤ p ∧ p < σ c 0 0 ∧ p < 6) then up (up σ c 3 (upI (σ c 3) b p)) c 4 (upI (σ c 4) p b) else σ) := by
  refine mt_intro (by decide +kernel) (Nat.le_of_ble_eq_true rfl) (fun Φ M => ?_)
  show Φ 0 [some (.ref (ad G c 0)), some (.int b), some (.int p)] [] σ
  refine j_aload_n M dX3_put_0 rfl ?_
  refine j_iload_n M dX3_put_1 rfl ?_
  refine j_inv1 M lk_X3_61 (c_X3_isBook hc) (rv_X3 hc) dX3_put_2 (Nat.le_of_ble_eq_true rfl) ⟨(Nat.le_of_ble_eq_true rfl), (Nat.le_of_ble_eq_true rfl)⟩ (kP fun r_2 k_2 => ?_)
  refine j_if_eq (tgt := 30) M dX3_put_5 (by decide) (fun h_5 => ?_) (fun h_5 => ?_)
  · have b_2 := ifF k_2 h_5
    exact j_vret M dX3_put_30 ⟨rfl, by simp [b_2, up]⟩
  · have b_2 := ifT k_2 h_5
    refine j_aload_n M dX3_put_8 rfl ?_
    refine j_iload_n M dX3_put_9 rfl ?_
    refine j_inv1 M lk_X3_66 (c_X3_isPlace hc) (rv_X3 hc) dX3_put_10 (Nat.le_of_ble_eq_true rfl) ⟨(Nat.le_of_ble_eq_true rfl), (Nat.le_of_ble_eq_true rfl)⟩ (kP fun r_10 k_10 => ?_)
    refine j_if_eq (tgt := 30) M dX3_put_13 (by decide) (fun h_13 => ?_) (fun h_13 => ?_)
    · have b_10 := ifF k_10 h_13
      exact j_vret M dX3_put_30 ⟨rfl, by simp [b_2, b_10, up]⟩
    · have b_10 := ifT k_10 h_13
      refine j_aload_n M dX3_put_16 rfl ?_
      refine gf_X3_43 M hc dX3_put_17 ?_
      refine j_iload_n M dX3_put_20 rfl ?_
      refine j_iload_n M dX3_put_21 rfl ?_
      refine as_L_3 M hc dX3_put_22 (by first | exact b_2.1 | exact b_2.2.2 | exact b_10.1 | exact b_10.2.2) (by first | exact b_2.1 | exact b_2.2.2 | exact b_10.1 | exact b_10.2.2) ?_
      refine j_aload_n M dX3_put_23 rfl ?_
      refine gf_X3_46 M hc dX3_put_24 ?_
      refine j_iload_n M dX3_put_27 rfl ?_
      refine j_iload_n M dX3_put_28 rfl ?_
      refine as_L_4 M hc dX3_put_29 (by first | exact b_2.1 | exact b_2.2.2 | exact b_10.1 | exact b_10.2.2) (by first | exact b_2.1 | exact b_2.2.2 | exact b_10.1 | exact b_10.2.2) ?_
      exact j_vret M dX3_put_30 ⟨rfl, by simp [b_2, b_10, up]⟩
set_option maxRecDepth 100000 in
theorem c_X3_allBooks {l : Launch} {G : Gw} {σ : Sg} {c : Nat} (hc : isLib c)   : Mt l G yX3_allBooks cX3_allBooks 1 (some .int) 0 0 [.ref (ad G c 0)] σ (pI fun r τ => τ = σ ∧ r = shl32 1 (σ c 0 0) - 1) := by
  refine mt_intro (by decide +kernel) (Nat.le_of_ble_eq_true rfl) (fun Φ M => ?_)
  show Φ 0 [some (.ref (ad G c 0))] [] σ
  refine j_iconst (v := 1) M dX3_allBooks_0 rfl ?_
  refine j_aload_n M dX3_allBooks_1 rfl ?_
  refine gf_X3_9 M hc dX3_allBooks_2 ?_
  refine j_ishl M dX3_allBooks_5 ?_
  refine j_iconst (v := 1) M dX3_allBooks_6 rfl ?_
  refine j_isub M dX3_allBooks_7 ?_
  exact j_iret M dX3_allBooks_8 ⟨_, rfl, by (try dsimp only); exact ⟨rfl, rfl⟩⟩
set_option maxRecDepth 100000 in
theorem c_X3_isClosed {l : Launch} {G : Gw} {σ : Sg} {c : Nat} (hc : isLib c) {b : Int32}   : Mt l G yX3_isClosed cX3_isClosed 2 (some .boolean) 0 0 [.ref (ad G c 0), .int b] σ (pI fun r τ => τ = σ ∧ r = bitv (σ c 0 5 ||| σ c 0 6) b) := by
  refine mt_intro (by decide +kernel) (Nat.le_of_ble_eq_true rfl) (fun Φ M => ?_)
  show Φ 0 [some (.ref (ad G c 0)), some (.int b)] [] σ
  refine j_aload_n M dX3_isClosed_0 rfl ?_
  refine gf_X3_27 M hc dX3_isClosed_1 ?_
  refine j_aload_n M dX3_isClosed_4 rfl ?_
  refine gf_X3_30 M hc dX3_isClosed_5 ?_
  refine j_ior M dX3_isClosed_8 ?_
  refine j_iload_n M dX3_isClosed_9 rfl ?_
  refine j_ishr M dX3_isClosed_10 ?_
  refine j_iconst (v := 1) M dX3_isClosed_11 rfl ?_
  refine j_iand M dX3_isClosed_12 ?_
  refine j_if_eq (tgt := 20) M dX3_isClosed_13 (by decide) (fun h_13 => ?_) (fun h_13 => ?_)
  · refine j_iconst (v := 0) M dX3_isClosed_20 rfl ?_
    exact j_zret M dX3_isClosed_21 (by first | exact Or.inl rfl | exact Or.inr rfl | exact bitv_01 _ _ | assumption | (exact res_01 (by assumption)) | grind) ⟨_, rfl, by (try dsimp only); exact ⟨rfl, by have q := bitv_01 (σ c 0 5 ||| σ c 0 6) b; rw [← bitv_def] at h_13; first | exact q.resolve_left (by assumption) | (symm; assumption) | grind⟩⟩
  · refine j_iconst (v := 1) M dX3_isClosed_16 rfl ?_
    refine j_goto (tgt := 21) M dX3_isClosed_17 (by decide) ?_
    exact j_zret M dX3_isClosed_21 (by first | exact Or.inl rfl | exact Or.inr rfl | exact bitv_01 _ _ | assumption | (exact res_01 (by assumption)) | grind) ⟨_, rfl, by (try dsimp only); exact ⟨rfl, by have q := bitv_01 (σ c 0 5 ||| σ c 0 6) b; rw [← bitv_def] at h_13; first | exact q.resolve_left (by assumption) | (symm; assumption) | grind⟩⟩
set_option maxRecDepth 100000 in
theorem c_X3_upFrom {l : Launch} {G : Gw} {σ : Sg} {c : Nat} (hc : isLib c) {p : Int32} {k : Int32}   : Mt l G yX3_upFrom cX3_upFrom 3 (some .int) 0 0 [.ref (ad G c 0), .int p, .int k] σ (pI fun r τ => τ = σ ∧ r = if 0 < σ c 0 0 then rem32 (p + k) (σ c 0 0) else p) := by
  refine mt_intro (by decide +kernel) (Nat.le_of_ble_eq_true rfl) (fun Φ M => ?_)
  show Φ 0 [some (.ref (ad G c 0)), some (.int p), some (.int k)] [] σ
  refine j_aload_n M dX3_upFrom_0 rfl ?_
  refine gf_X3_9 M hc dX3_upFrom_1 ?_
  refine j_if_le (tgt := 18) M dX3_upFrom_4 (by decide) (fun h_4 => ?_) (fun h_4 => ?_)
  · refine j_iload_n M dX3_upFrom_18 rfl ?_
    exact j_iret M dX3_upFrom_19 ⟨_, rfl, by (try dsimp only); exact ⟨rfl, by simp [h_4]⟩⟩
  · refine j_iload_n M dX3_upFrom_7 rfl ?_
    refine j_iload_n M dX3_upFrom_8 rfl ?_
    refine j_iadd M dX3_upFrom_9 ?_
    refine j_aload_n M dX3_upFrom_10 rfl ?_
    refine gf_X3_9 M hc dX3_upFrom_11 ?_
    refine j_irem M dX3_upFrom_14 (by first | decide | assumption | grind) ?_
    refine j_goto (tgt := 19) M dX3_upFrom_15 (by decide) ?_
    exact j_iret M dX3_upFrom_19 ⟨_, rfl, by (try dsimp only); exact ⟨rfl, by simp [h_4]⟩⟩
set_option maxRecDepth 100000 in
theorem c_X3_towards {l : Launch} {G : Gw} {σ : Sg} {p : Int32} {q : Int32}   : Mt l G yX3_towards cX3_towards 2 (some .int) 0 0 [.int p, .int q] σ (pI fun r τ => τ = σ ∧ r = if q = -1000000 ∨ q = p then p else if p < q then p + 1 else p - 1) := by
  refine mt_intro (by decide +kernel) (Nat.le_of_ble_eq_true rfl) (fun Φ M => ?_)
  show Φ 0 [some (.int p), some (.int q)] [] σ
  refine j_iload_n M dX3_towards_0 rfl ?_
  refine j_ldc M k_X3_65 dX3_towards_1 ?_
  refine j_icmp_eq (tgt := 11) M dX3_towards_3 (by decide) (fun h_3 => ?_) (fun h_3 => ?_)
  · refine j_iload_n M dX3_towards_11 rfl ?_
    exact j_iret M dX3_towards_12 ⟨_, rfl, by (try dsimp only); exact ⟨rfl, by simp [h_3]⟩⟩
  · refine j_iload_n M dX3_towards_6 rfl ?_
    refine j_iload_n M dX3_towards_7 rfl ?_
    refine j_icmp_ne (tgt := 13) M dX3_towards_8 (by decide) (fun h_8 => ?_) (fun h_8 => ?_)
    · refine j_iload_n M dX3_towards_13 rfl ?_
      refine j_iload_n M dX3_towards_14 rfl ?_
      refine j_icmp_le (tgt := 24) M dX3_towards_15 (by decide) (fun h_15 => ?_) (fun h_15 => ?_)
      · refine j_iload_n M dX3_towards_24 rfl ?_
        refine j_iconst (v := 1) M dX3_towards_25 rfl ?_
        refine j_isub M dX3_towards_26 ?_
        exact j_iret M dX3_towards_27 ⟨_, rfl, by (try dsimp only); exact ⟨rfl, by simp [h_3, h_8, h_15]⟩⟩
      · refine j_iload_n M dX3_towards_18 rfl ?_
        refine j_iconst (v := 1) M dX3_towards_19 rfl ?_
        refine j_iadd M dX3_towards_20 ?_
        refine j_goto (tgt := 27) M dX3_towards_21 (by decide) ?_
        exact j_iret M dX3_towards_27 ⟨_, rfl, by (try dsimp only); exact ⟨rfl, by simp [h_3, h_8, h_15]⟩⟩
    · refine j_iload_n M dX3_towards_11 rfl ?_
      exact j_iret M dX3_towards_12 ⟨_, rfl, by (try dsimp only); exact ⟨rfl, by simp [h_3, h_8]⟩⟩
set_option maxRecDepth 100000 in
theorem c_X3_fishIn {l : Launch} {G : Gw} {σ : Sg} {c : Nat} (hc : isLib c) {v : Int32} {s : St} (hL : LibF (σ c) s) (hW : WF0 s) : Mt l G yX3_fishIn cX3_fishIn 4 (some .int) 1 21 [.ref (ad G c 0), .int v] σ (pI fun r τ => τ = σ ∧ r = fishAtM s v (s 1)) := by
  refine mt_intro (by decide +kernel) (Nat.le_of_ble_eq_true rfl) (fun Φ M => ?_)
  show Φ 0 [some (.ref (ad G c 0)), some (.int v), none, none] [] σ
  have lp : ∀ i : Int32, 0 ≤ i → ∀ a : Int32, i ≤ s 1 → a = fishAtM s v i → Φ 4 [some (.ref (ad G c 0)), some (.int v), some (.int a), some (.int i)] [] σ := by
    refine loop_up (s 1) (fun i hi ih a hle ea => ?_)
    refine j_iload_n M dX3_fishIn_4 rfl ?_
    refine j_aload_n M dX3_fishIn_5 rfl ?_
    refine gf_X3_15 M hc dX3_fishIn_6 ?_
    refine j_icmp_ge (tgt := 47) M dX3_fishIn_9 (by decide) (fun h_9 => ?_) (fun h_9 => ?_)
    · refine j_iload_n M dX3_fishIn_47 rfl ?_
      exact j_iret M dX3_fishIn_48 ⟨_, rfl, by (try dsimp only); have e : i = s 1 := Int32.le_antisymm hle (by rw [hL.1.2.1] at h_9; exact Int32.not_lt.mp h_9); rw [← e]; exact ⟨rfl, ea⟩⟩
    · rw [hL.1.2.1] at h_9
      have em := hL.2.2 i hi h_9
      obtain ⟨em1, em2, em3⟩ := em
      refine j_iload_n M dX3_fishIn_12 rfl ?_
      refine j_iconst (v := 5) M dX3_fishIn_13 rfl ?_
      refine j_icmp_ge (tgt := 47) M dX3_fishIn_14 (by decide) (fun h_14 => ?_) (fun h_14 => ?_)
      · exact absurd (Int32.lt_of_lt_of_le h_9 hW.2.2.2) h_14
      · refine j_aload_n M dX3_fishIn_17 rfl ?_
        refine gf_X3_52 M hc dX3_fishIn_18 ?_
        refine j_iload_n M dX3_fishIn_21 rfl ?_
        refine al_L_6 M hc dX3_fishIn_22 (by first | assumption | decide) (by first | assumption | decide) ?_
        refine j_iload_n M dX3_fishIn_23 rfl ?_
        refine j_icmp_ne (tgt := 41) M dX3_fishIn_24 (by decide) (fun h_24 => ?_) (fun h_24 => ?_)
        · refine j_iinc_3 M dX3_fishIn_41 (show _ + Int32.ofInt 1 = _ + 1 from rfl) (by exact (by first | trivial | rfl)) ?_
          refine j_goto (tgt := 4) M dX3_fishIn_44 (by decide) ?_
          exact ih h_9 _ (inc_lt hi h_9).2.1 (by unfold fishAtM at ea ⊢; rw [foldI_s _ _ hi h_9, ← ea]; have e7 := hL.1.2.2.2.2.2.2.2; simp [← em2, ← e7, h_9, h_14, h_24])
        · refine j_aload_n M dX3_fishIn_27 rfl ?_
          refine j_iload_n M dX3_fishIn_28 rfl ?_
          refine j_inv1 M lk_X3_69 (c_X3_isCaught hc) (rv_X3 hc) dX3_fishIn_29 (Nat.le_of_ble_eq_true rfl) ⟨(Nat.le_of_ble_eq_true rfl), (Nat.le_of_ble_eq_true rfl)⟩ (kE ?_)
          refine j_if_ne (tgt := 41) M dX3_fishIn_32 (by decide) (fun h_32 => ?_) (fun h_32 => ?_)
          · refine j_iinc_3 M dX3_fishIn_41 (show _ + Int32.ofInt 1 = _ + 1 from rfl) (by exact (by first | trivial | rfl)) ?_
            refine j_goto (tgt := 4) M dX3_fishIn_44 (by decide) ?_
            exact ih h_9 _ (inc_lt hi h_9).2.1 (by unfold fishAtM at ea ⊢; rw [foldI_s _ _ hi h_9, ← ea]; have e7 := hL.1.2.2.2.2.2.2.2; simp [← em2, ← e7, h_9, h_14, h_24, h_32])
          · refine j_iload_n M dX3_fishIn_35 rfl ?_
            refine j_iconst (v := 1) M dX3_fishIn_36 rfl ?_
            refine j_iload_n M dX3_fishIn_37 rfl ?_
            refine j_ishl M dX3_fishIn_38 ?_
            refine j_ior M dX3_fishIn_39 ?_
            refine j_istore_2 M dX3_fishIn_40 (by exact (by first | trivial | rfl)) ?_
            refine j_iinc_3 M dX3_fishIn_41 (show _ + Int32.ofInt 1 = _ + 1 from rfl) (by exact (by first | trivial | rfl)) ?_
            refine j_goto (tgt := 4) M dX3_fishIn_44 (by decide) ?_
            exact ih h_9 _ (inc_lt hi h_9).2.1 (by unfold fishAtM at ea ⊢; rw [foldI_s _ _ hi h_9, ← ea]; have e7 := hL.1.2.2.2.2.2.2.2; simp [← em2, ← e7, h_9, h_14, h_24, h_32])
  refine j_iconst (v := 0) M dX3_fishIn_0 rfl ?_
  refine j_istore_2 M dX3_fishIn_1 (by exact (by first | trivial | rfl)) ?_
  refine j_iconst (v := 0) M dX3_fishIn_2 rfl ?_
  refine j_istore_3 M dX3_fishIn_3 (by exact (by first | trivial | rfl)) ?_
  exact lp 0 (by decide) _ hW.2.2.1 rfl
set_option maxRecDepth 100000 in
theorem c_X3_pagesOf {l : Launch} {G : Gw} {σ : Sg} {c : Nat} (hc : isLib c) {m : Int32} {s : St} (hL : LibF (σ c) s) (hW : WF0 s) : Mt l G yX3_pagesOf cX3_pagesOf 4 (some .int) 0 0 [.ref (ad G c 0), .int m] σ (pI fun r τ => τ = σ ∧ r = sumSet s m (s 0)) := by
  refine mt_intro (by decide +kernel) (Nat.le_of_ble_eq_true rfl) (fun Φ M => ?_)
  show Φ 0 [some (.ref (ad G c 0)), some (.int m), none, none] [] σ
  have lp : ∀ i : Int32, 0 ≤ i → ∀ a : Int32, i ≤ s 0 → a = sumSet s m i → Φ 4 [some (.ref (ad G c 0)), some (.int m), some (.int a), some (.int i)] [] σ := by
    refine loop_up (s 0) (fun i hi ih a hle ea => ?_)
    refine j_iload_n M dX3_pagesOf_4 rfl ?_
    refine j_aload_n M dX3_pagesOf_5 rfl ?_
    refine gf_X3_9 M hc dX3_pagesOf_6 ?_
    refine j_icmp_ge (tgt := 45) M dX3_pagesOf_9 (by decide) (fun h_9 => ?_) (fun h_9 => ?_)
    · refine j_iload_n M dX3_pagesOf_45 rfl ?_
      exact j_iret M dX3_pagesOf_46 ⟨_, rfl, by (try dsimp only); have e : i = s 0 := Int32.le_antisymm hle (by rw [hL.1.1] at h_9; exact Int32.not_lt.mp h_9); rw [← e]; exact ⟨rfl, ea⟩⟩
    · rw [hL.1.1] at h_9
      have em := hL.2.1 i hi h_9
      obtain ⟨em1, em2, em3, em4⟩ := em
      refine j_iload_n M dX3_pagesOf_12 rfl ?_
      refine j_bipush (v := 6) M dX3_pagesOf_13 rfl ?_
      refine j_icmp_ge (tgt := 45) M dX3_pagesOf_15 (by decide) (fun h_15 => ?_) (fun h_15 => ?_)
      · exact absurd (Int32.lt_of_lt_of_le h_9 hW.2.1) h_15
      · refine j_iload_n M dX3_pagesOf_18 rfl ?_
        refine j_iload_n M dX3_pagesOf_19 rfl ?_
        refine j_iload_n M dX3_pagesOf_20 rfl ?_
        refine j_ishr M dX3_pagesOf_21 ?_
        refine j_iconst (v := 1) M dX3_pagesOf_22 rfl ?_
        refine j_iand M dX3_pagesOf_23 ?_
        refine j_if_eq (tgt := 36) M dX3_pagesOf_24 (by decide) (fun h_24 => ?_) (fun h_24 => ?_)
        · refine j_iconst (v := 0) M dX3_pagesOf_36 rfl ?_
          refine j_iadd M dX3_pagesOf_37 ?_
          refine j_istore_2 M dX3_pagesOf_38 (by exact (by first | trivial | rfl)) ?_
          refine j_iinc_3 M dX3_pagesOf_39 (show _ + Int32.ofInt 1 = _ + 1 from rfl) (by exact (by first | trivial | rfl)) ?_
          refine j_goto (tgt := 4) M dX3_pagesOf_42 (by decide) ?_
          exact ih h_9 _ (inc_lt hi h_9).2.1 (by unfold sumSet at ea ⊢; rw [foldI_s _ _ hi h_9, ← ea]; rw [← bitv_def] at h_24; simp [bt1, ← em1, h_9, h_15, h_24])
        · refine j_aload_n M dX3_pagesOf_27 rfl ?_
          refine gf_X3_36 M hc dX3_pagesOf_28 ?_
          refine j_iload_n M dX3_pagesOf_31 rfl ?_
          refine al_L_1 M hc dX3_pagesOf_32 (by first | assumption | decide) (by first | assumption | decide) ?_
          refine j_goto (tgt := 37) M dX3_pagesOf_33 (by decide) ?_
          refine j_iadd M dX3_pagesOf_37 ?_
          refine j_istore_2 M dX3_pagesOf_38 (by exact (by first | trivial | rfl)) ?_
          refine j_iinc_3 M dX3_pagesOf_39 (show _ + Int32.ofInt 1 = _ + 1 from rfl) (by exact (by first | trivial | rfl)) ?_
          refine j_goto (tgt := 4) M dX3_pagesOf_42 (by decide) ?_
          exact ih h_9 _ (inc_lt hi h_9).2.1 (by unfold sumSet at ea ⊢; rw [foldI_s _ _ hi h_9, ← ea]; rw [← bitv_def] at h_24; simp [bt1, ← em1, h_9, h_15, h_24])
  refine j_iconst (v := 0) M dX3_pagesOf_0 rfl ?_
  refine j_istore_2 M dX3_pagesOf_1 (by exact (by first | trivial | rfl)) ?_
  refine j_iconst (v := 0) M dX3_pagesOf_2 rfl ?_
  refine j_istore_3 M dX3_pagesOf_3 (by exact (by first | trivial | rfl)) ?_
  exact lp 0 (by decide) _ hW.1 rfl
set_option maxRecDepth 100000 in
theorem c_X3_booksWithPages {l : Launch} {G : Gw} {σ : Sg} {c : Nat} (hc : isLib c) {s : St} (hL : LibF (σ c) s) (hW : WF0 s) : Mt l G yX3_booksWithPages cX3_booksWithPages 3 (some .int) 0 0 [.ref (ad G c 0)] σ (pI fun r τ => τ = σ ∧ r = fullM s (s 0)) := by
  refine mt_intro (by decide +kernel) (Nat.le_of_ble_eq_true rfl) (fun Φ M => ?_)
  show Φ 0 [some (.ref (ad G c 0)), none, none] [] σ
  have lp : ∀ i : Int32, 0 ≤ i → ∀ a : Int32, i ≤ s 0 → a = fullM s i → Φ 4 [some (.ref (ad G c 0)), some (.int a), some (.int i)] [] σ := by
    refine loop_up (s 0) (fun i hi ih a hle ea => ?_)
    refine j_iload_n M dX3_booksWithPages_4 rfl ?_
    refine j_aload_n M dX3_booksWithPages_5 rfl ?_
    refine gf_X3_9 M hc dX3_booksWithPages_6 ?_
    refine j_icmp_ge (tgt := 43) M dX3_booksWithPages_9 (by decide) (fun h_9 => ?_) (fun h_9 => ?_)
    · refine j_iload_n M dX3_booksWithPages_43 rfl ?_
      exact j_iret M dX3_booksWithPages_44 ⟨_, rfl, by (try dsimp only); have e : i = s 0 := Int32.le_antisymm hle (by rw [hL.1.1] at h_9; exact Int32.not_lt.mp h_9); rw [← e]; exact ⟨rfl, ea⟩⟩
    · rw [hL.1.1] at h_9
      have em := hL.2.1 i hi h_9
      obtain ⟨em1, em2, em3, em4⟩ := em
      refine j_iload_n M dX3_booksWithPages_12 rfl ?_
      refine j_bipush (v := 6) M dX3_booksWithPages_13 rfl ?_
      refine j_icmp_ge (tgt := 43) M dX3_booksWithPages_15 (by decide) (fun h_15 => ?_) (fun h_15 => ?_)
      · exact absurd (Int32.lt_of_lt_of_le h_9 hW.2.1) h_15
      · refine j_iload_n M dX3_booksWithPages_18 rfl ?_
        refine j_aload_n M dX3_booksWithPages_19 rfl ?_
        refine gf_X3_36 M hc dX3_booksWithPages_20 ?_
        refine j_iload_n M dX3_booksWithPages_23 rfl ?_
        refine al_L_1 M hc dX3_booksWithPages_24 (by first | assumption | decide) (by first | assumption | decide) ?_
        refine j_if_le (tgt := 34) M dX3_booksWithPages_25 (by decide) (fun h_25 => ?_) (fun h_25 => ?_)
        · refine j_iconst (v := 0) M dX3_booksWithPages_34 rfl ?_
          refine j_ior M dX3_booksWithPages_35 ?_
          refine j_istore_1 M dX3_booksWithPages_36 (by exact (by first | trivial | rfl)) ?_
          refine j_iinc_2 M dX3_booksWithPages_37 (show _ + Int32.ofInt 1 = _ + 1 from rfl) (by exact (by first | trivial | rfl)) ?_
          refine j_goto (tgt := 4) M dX3_booksWithPages_40 (by decide) ?_
          exact ih h_9 _ (inc_lt hi h_9).2.1 (by unfold fullM at ea ⊢; rw [foldI_s _ _ hi h_9, ← ea]; simp [← em1, h_9, h_15, h_25])
        · refine j_iconst (v := 1) M dX3_booksWithPages_28 rfl ?_
          refine j_iload_n M dX3_booksWithPages_29 rfl ?_
          refine j_ishl M dX3_booksWithPages_30 ?_
          refine j_goto (tgt := 35) M dX3_booksWithPages_31 (by decide) ?_
          refine j_ior M dX3_booksWithPages_35 ?_
          refine j_istore_1 M dX3_booksWithPages_36 (by exact (by first | trivial | rfl)) ?_
          refine j_iinc_2 M dX3_booksWithPages_37 (show _ + Int32.ofInt 1 = _ + 1 from rfl) (by exact (by first | trivial | rfl)) ?_
          refine j_goto (tgt := 4) M dX3_booksWithPages_40 (by decide) ?_
          exact ih h_9 _ (inc_lt hi h_9).2.1 (by unfold fullM at ea ⊢; rw [foldI_s _ _ hi h_9, ← ea]; simp [← em1, h_9, h_15, h_25])
  refine j_iconst (v := 0) M dX3_booksWithPages_0 rfl ?_
  refine j_istore_1 M dX3_booksWithPages_1 (by exact (by first | trivial | rfl)) ?_
  refine j_iconst (v := 0) M dX3_booksWithPages_2 rfl ?_
  refine j_istore_2 M dX3_booksWithPages_3 (by exact (by first | trivial | rfl)) ?_
  exact lp 0 (by decide) _ hW.1 rfl
set_option maxRecDepth 100000 in
theorem c_X3_dustOf {l : Launch} {G : Gw} {σ : Sg} {c : Nat} (hc : isLib c) {m : Int32} {s : St} (hL : LibF (σ c) s) (hW : WF0 s) : Mt l G yX3_dustOf cX3_dustOf 4 (some .int) 0 0 [.ref (ad G c 0), .int m] σ (pI fun r τ => τ = σ ∧ r = dustS s m (s 1)) := by
  refine mt_intro (by decide +kernel) (Nat.le_of_ble_eq_true rfl) (fun Φ M => ?_)
  show Φ 0 [some (.ref (ad G c 0)), some (.int m), none, none] [] σ
  have lp : ∀ i : Int32, 0 ≤ i → ∀ a : Int32, i ≤ s 1 → a = dustS s m i → Φ 4 [some (.ref (ad G c 0)), some (.int m), some (.int a), some (.int i)] [] σ := by
    refine loop_up (s 1) (fun i hi ih a hle ea => ?_)
    refine j_iload_n M dX3_dustOf_4 rfl ?_
    refine j_aload_n M dX3_dustOf_5 rfl ?_
    refine gf_X3_15 M hc dX3_dustOf_6 ?_
    refine j_icmp_ge (tgt := 44) M dX3_dustOf_9 (by decide) (fun h_9 => ?_) (fun h_9 => ?_)
    · refine j_iload_n M dX3_dustOf_44 rfl ?_
      exact j_iret M dX3_dustOf_45 ⟨_, rfl, by (try dsimp only); have e : i = s 1 := Int32.le_antisymm hle (by rw [hL.1.2.1] at h_9; exact Int32.not_lt.mp h_9); rw [← e]; exact ⟨rfl, ea⟩⟩
    · rw [hL.1.2.1] at h_9
      have em := hL.2.2 i hi h_9
      obtain ⟨em1, em2, em3⟩ := em
      refine j_iload_n M dX3_dustOf_12 rfl ?_
      refine j_iconst (v := 5) M dX3_dustOf_13 rfl ?_
      refine j_icmp_ge (tgt := 44) M dX3_dustOf_14 (by decide) (fun h_14 => ?_) (fun h_14 => ?_)
      · exact absurd (Int32.lt_of_lt_of_le h_9 hW.2.2.2) h_14
      · refine j_iload_n M dX3_dustOf_17 rfl ?_
        refine j_iload_n M dX3_dustOf_18 rfl ?_
        refine j_iload_n M dX3_dustOf_19 rfl ?_
        refine j_ishr M dX3_dustOf_20 ?_
        refine j_iconst (v := 1) M dX3_dustOf_21 rfl ?_
        refine j_iand M dX3_dustOf_22 ?_
        refine j_if_eq (tgt := 30) M dX3_dustOf_23 (by decide) (fun h_23 => ?_) (fun h_23 => ?_)
        · refine j_aload_n M dX3_dustOf_30 rfl ?_
          refine gf_X3_55 M hc dX3_dustOf_31 ?_
          refine j_iload_n M dX3_dustOf_34 rfl ?_
          refine al_L_7 M hc dX3_dustOf_35 (by first | assumption | decide) (by first | assumption | decide) ?_
          refine j_iadd M dX3_dustOf_36 ?_
          refine j_istore_2 M dX3_dustOf_37 (by exact (by first | trivial | rfl)) ?_
          refine j_iinc_3 M dX3_dustOf_38 (show _ + Int32.ofInt 1 = _ + 1 from rfl) (by exact (by first | trivial | rfl)) ?_
          refine j_goto (tgt := 4) M dX3_dustOf_41 (by decide) ?_
          exact ih h_9 _ (inc_lt hi h_9).2.1 (by unfold dustS at ea ⊢; rw [foldI_s _ _ hi h_9, ← ea]; rw [← bitv_def] at h_23; simp [← em3, h_9, h_14, h_23])
        · refine j_iconst (v := 0) M dX3_dustOf_26 rfl ?_
          refine j_goto (tgt := 36) M dX3_dustOf_27 (by decide) ?_
          refine j_iadd M dX3_dustOf_36 ?_
          refine j_istore_2 M dX3_dustOf_37 (by exact (by first | trivial | rfl)) ?_
          refine j_iinc_3 M dX3_dustOf_38 (show _ + Int32.ofInt 1 = _ + 1 from rfl) (by exact (by first | trivial | rfl)) ?_
          refine j_goto (tgt := 4) M dX3_dustOf_41 (by decide) ?_
          exact ih h_9 _ (inc_lt hi h_9).2.1 (by unfold dustS at ea ⊢; rw [foldI_s _ _ hi h_9, ← ea]; rw [← bitv_def] at h_23; simp [← em3, h_9, h_14, h_23])
  refine j_iconst (v := 0) M dX3_dustOf_0 rfl ?_
  refine j_istore_2 M dX3_dustOf_1 (by exact (by first | trivial | rfl)) ?_
  refine j_iconst (v := 0) M dX3_dustOf_2 rfl ?_
  refine j_istore_3 M dX3_dustOf_3 (by exact (by first | trivial | rfl)) ?_
  exact lp 0 (by decide) _ hW.2.2.1 rfl
set_option maxRecDepth 100000 in
theorem c_X3_pagesOfAll {l : Launch} {G : Gw} {σ : Sg} {c : Nat} (hc : isLib c) {s : St} (hL : LibF (σ c) s) (hW : WF0 s) : Mt l G yX3_pagesOfAll cX3_pagesOfAll 1 (some .int) 1 23 [.ref (ad G c 0)] σ (pI fun r τ => τ = σ ∧ r = sumSet s (shl32 1 (s 0) - 1) (s 0)) := by
  refine mt_intro (by decide +kernel) (Nat.le_of_ble_eq_true rfl) (fun Φ M => ?_)
  show Φ 0 [some (.ref (ad G c 0))] [] σ
  refine j_aload_n M dX3_pagesOfAll_0 rfl ?_
  refine j_aload_n M dX3_pagesOfAll_1 rfl ?_
  refine j_inv0 M lk_X3_72 (c_X3_allBooks hc) (rv_X3 hc) dX3_pagesOfAll_2 (Nat.le_of_ble_eq_true rfl) ⟨(Nat.le_of_ble_eq_true rfl), (Nat.le_of_ble_eq_true rfl)⟩ (kE ?_)
  refine j_inv1 M lk_X3_76 (c_X3_pagesOf hc (by first | assumption | grind) (by first | assumption | grind)) (rv_X3 hc) dX3_pagesOfAll_5 (Nat.le_of_ble_eq_true rfl) ⟨(Nat.le_of_ble_eq_true rfl), (Nat.le_of_ble_eq_true rfl)⟩ (kE ?_)
  exact j_iret M dX3_pagesOfAll_8 ⟨_, rfl, by (try dsimp only); exact ⟨rfl, by rw [hL.1.1]⟩⟩
