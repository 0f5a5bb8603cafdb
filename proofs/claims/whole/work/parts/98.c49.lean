theorem ones0F : ∀ x : Fin 64, 0 ≤ ones (nI x.val) := by decide +kernel
theorem ones_p {x : Int32} (h0 : 0 ≤ x) (h1 : x < 64) : 0 ≤ ones x := by
  obtain ⟨j, rfl⟩ := as64 h0 h1
  exact ones0F j
set_option maxRecDepth 100000 in
theorem c_X6_found {l : Launch} {G : Gw} {σ : Sg} {k : Int32}   : Mt l G yX6_found cX6_found 2 (some .int) 0 0 [.ref (ad G 0 0), .int k] σ (pI fun r τ => τ = up σ 0 0 (upI (σ 0 0) 9 (k)) ∧ r = -1000010 - k) := by
  refine mt_intro (by decide +kernel) (Nat.le_of_ble_eq_true rfl) (fun Φ M => ?_)
  show Φ 0 [some (.ref (ad G 0 0)), some (.int k)] [] σ
  refine j_aload_n M dX6_found_0 rfl ?_
  refine j_iload_n M dX6_found_1 rfl ?_
  refine pf_X6_60 M dX6_found_2 ?_
  refine j_ldcw M k_X6_325 dX6_found_5 ?_
  refine j_iload_n M dX6_found_8 rfl ?_
  refine j_isub M dX6_found_9 ?_
  exact j_iret M dX6_found_10 ⟨_, rfl, by (try dsimp only); exact ⟨rfl, rfl⟩⟩
set_option maxRecDepth 100000 in
theorem c_X6_foundNothing {l : Launch} {G : Gw} {σ : Sg} {v : Int32}   : Mt l G yX6_foundNothing cX6_foundNothing 2 (some .int) 0 0 [.ref (ad G 0 0), .int v] σ (pI fun r τ => τ = up σ 0 0 (upI (σ 0 0) 9 (0)) ∧ r = v) := by
  refine mt_intro (by decide +kernel) (Nat.le_of_ble_eq_true rfl) (fun Φ M => ?_)
  show Φ 0 [some (.ref (ad G 0 0)), some (.int v)] [] σ
  refine j_aload_n M dX6_foundNothing_0 rfl ?_
  refine j_iconst (v := 0) M dX6_foundNothing_1 rfl ?_
  refine pf_X6_60 M dX6_foundNothing_2 ?_
  refine j_iload_n M dX6_foundNothing_5 rfl ?_
  exact j_iret M dX6_foundNothing_6 ⟨_, rfl, by (try dsimp only); exact ⟨rfl, rfl⟩⟩
set_option maxRecDepth 100000 in
theorem c_X6_fault {l : Launch} {G : Gw} {σ : Sg}    : Mt l G yX6_fault cX6_fault 1 (some .int) 0 0 [.ref (ad G 0 0)] σ (pI fun r τ => τ = σ ∧ r = σ 2 0 2) := by
  refine mt_intro (by decide +kernel) (Nat.le_of_ble_eq_true rfl) (fun Φ M => ?_)
  show Φ 0 [some (.ref (ad G 0 0))] [] σ
  refine j_aload_n M dX6_fault_0 rfl ?_
  refine gf_X6_19 M dX6_fault_1 ?_
  refine gf_X6_131 M dX6_fault_4 ?_
  exact j_iret M dX6_fault_7 ⟨_, rfl, by (try dsimp only); exact ⟨rfl, rfl⟩⟩
set_option maxRecDepth 100000 in
theorem c_X6_status {l : Launch} {G : Gw} {σ : Sg}    : Mt l G yX6_status cX6_status 1 (some .int) 0 0 [.ref (ad G 0 0)] σ (pI fun r τ => τ = σ ∧ r = σ 0 0 9) := by
  refine mt_intro (by decide +kernel) (Nat.le_of_ble_eq_true rfl) (fun Φ M => ?_)
  show Φ 0 [some (.ref (ad G 0 0))] [] σ
  refine j_aload_n M dX6_status_0 rfl ?_
  refine gf_X6_60 M dX6_status_1 ?_
  exact j_iret M dX6_status_4 ⟨_, rfl, by (try dsimp only); exact ⟨rfl, rfl⟩⟩
set_option maxRecDepth 100000 in
theorem c_X6_trace {l : Launch} {G : Gw} {σ : Sg} {i : Int32}   : Mt l G yX6_trace cX6_trace 2 (some .int) 1 21 [.ref (ad G 0 0), .int i] σ (pI fun r τ => τ = σ ∧ r = if 0 ≤ i ∧ i < σ 4 0 1 ∧ i < 16 then σ 4 1 i else -1000000) := by
  refine mt_intro (by decide +kernel) (Nat.le_of_ble_eq_true rfl) (fun Φ M => ?_)
  show Φ 0 [some (.ref (ad G 0 0)), some (.int i)] [] σ
  refine j_aload_n M dX6_trace_0 rfl ?_
  refine gf_X6_56 M dX6_trace_1 ?_
  refine j_iload_n M dX6_trace_4 rfl ?_
  refine j_inv1 M lk_X6_316 (c_X1_left) rv_X1 dX6_trace_5 (Nat.le_of_ble_eq_true rfl) ⟨(Nat.le_of_ble_eq_true rfl), (Nat.le_of_ble_eq_true rfl)⟩ (kE ?_)
  exact j_iret M dX6_trace_8 ⟨_, rfl, by (try dsimp only); exact ⟨rfl, rfl⟩⟩
set_option maxRecDepth 100000 in
theorem c_X6_kind {l : Launch} {G : Gw} {σ : Sg} {f : Int32} {s : St} {t : Int32} (hS : SO t s) (hL : LibF (σ 6) s) : Mt l G yX6_kind cX6_kind 2 (some .int) 1 21 [.ref (ad G 0 0), .int f] σ (pI fun r τ => τ = σ ∧ r = if isF s f then s (26 + f) else -1000001) := by
  refine mt_intro (by decide +kernel) (Nat.le_of_ble_eq_true rfl) (fun Φ M => ?_)
  show Φ 0 [some (.ref (ad G 0 0)), some (.int f)] [] σ
  refine j_aload_n M dX6_kind_0 rfl ?_
  refine gf_X6_26 M dX6_kind_1 ?_
  refine j_iload_n M dX6_kind_4 rfl ?_
  refine j_inv1 M lk_X6_184 (n_isFish hS hL) (rv_X3 lib_now) dX6_kind_5 (Nat.le_of_ble_eq_true rfl) ⟨(Nat.le_of_ble_eq_true rfl), (Nat.le_of_ble_eq_true rfl)⟩ (kP fun r_5 k_5 => ?_)
  refine j_if_eq (tgt := 23) M dX6_kind_8 (by decide) (fun h_8 => ?_) (fun h_8 => ?_)
  · have b_5 := ifF k_5 h_8
    refine j_ldc M k_X6_71 dX6_kind_23 ?_
    exact j_iret M dX6_kind_25 ⟨_, rfl, by (try dsimp only); exact ⟨rfl, by rw [if_neg b_5]⟩⟩
  · have b_5 := ifT k_5 h_8
    have hF := hS.w.f b_5
    have f0 := b_5.1
    have f1 := hF.2.1
    have f5 := hF.2.2
    have fe := hL.2.2 f f0 f1
    refine j_aload_n M dX6_kind_11 rfl ?_
    refine gf_X6_26 M dX6_kind_12 ?_
    refine gf_X6_299 M lib_now dX6_kind_15 ?_
    refine j_iload_n M dX6_kind_18 rfl ?_
    refine al_L_5 M lib_now dX6_kind_19 (by first | assumption | decide) (by first | assumption | decide) ?_
    refine j_goto (tgt := 25) M dX6_kind_20 (by decide) ?_
    exact j_iret M dX6_kind_25 ⟨_, rfl, by (try dsimp only); exact ⟨rfl, by rw [if_pos b_5]; exact fe.1⟩⟩
set_option maxRecDepth 100000 in
theorem c_X6_as {l : Launch} {G : Gw} {σ : Sg} {f : Int32} {k : Int32} {s : St} {t : Int32} (hS : SO t s) (hL : LibF (σ 6) s) : Mt l G yX6_as cX6_as 3 (some .int) 2 45 [.ref (ad G 0 0), .int f, .int k] σ (pI fun r τ => if ¬ (isF s f ∧ inR 0 k 5) then r = -1000001 ∧ τ = σ else if kindB (s (26 + f)) k then r = f ∧ τ = up σ 0 0 (upI (σ 0 0) 9 (0)) else r = -1000013 ∧ τ = up σ 0 0 (upI (σ 0 0) 9 (3))) := by
  refine mt_intro (by decide +kernel) (Nat.le_of_ble_eq_true rfl) (fun Φ M => ?_)
  show Φ 0 [some (.ref (ad G 0 0)), some (.int f), some (.int k)] [] σ
  refine j_aload_n M dX6_as_0 rfl ?_
  refine gf_X6_26 M dX6_as_1 ?_
  refine j_iload_n M dX6_as_4 rfl ?_
  refine j_inv1 M lk_X6_184 (n_isFish hS hL) (rv_X3 lib_now) dX6_as_5 (Nat.le_of_ble_eq_true rfl) ⟨(Nat.le_of_ble_eq_true rfl), (Nat.le_of_ble_eq_true rfl)⟩ (kP fun r_5 k_5 => ?_)
  refine j_if_eq (tgt := 20) M dX6_as_8 (by decide) (fun h_8 => ?_) (fun h_8 => ?_)
  · have b_5 := ifF k_5 h_8
    refine j_ldc M k_X6_71 dX6_as_20 ?_
    exact j_iret M dX6_as_22 ⟨_, rfl, by (try dsimp only); rw [if_pos (fun q => b_5 q.1)]; exact ⟨rfl, rfl⟩⟩
  · have b_5 := ifT k_5 h_8
    refine j_iload_n M dX6_as_11 rfl ?_
    refine j_iconst (v := 0) M dX6_as_12 rfl ?_
    refine j_iconst (v := 5) M dX6_as_13 rfl ?_
    refine j_invs3 M lk_X6_104 (c_X6_isWithin) dX6_as_14 (Nat.le_of_ble_eq_true rfl) ⟨(Nat.le_of_ble_eq_true rfl), (Nat.le_of_ble_eq_true rfl)⟩ (kP fun r_14 k_14 => ?_)
    refine j_if_ne (tgt := 23) M dX6_as_17 (by decide) (fun h_17 => ?_) (fun h_17 => ?_)
    · have b_14 := ifT k_14 h_17
      have hF := hS.w.f b_5
      have f0 := b_5.1
      have f1 := hF.2.1
      have f5 := hF.2.2
      have fe := hL.2.2 f f0 f1
      have kr := (hF.1.2.2.2 f f0 f1).1
      refine j_aload_n M dX6_as_23 rfl ?_
      refine gf_X6_26 M dX6_as_24 ?_
      refine gf_X6_299 M lib_now dX6_as_27 ?_
      refine j_iload_n M dX6_as_30 rfl ?_
      refine al_L_5 M lib_now dX6_as_31 (by first | assumption | decide) (by first | assumption | decide) ?_
      rw [fe.1]
      refine j_iload_n M dX6_as_32 rfl ?_
      refine j_invs2 M lk_X6_302 (c_X6_isKind) dX6_as_33 (Nat.le_of_ble_eq_true rfl) ⟨(Nat.le_of_ble_eq_true rfl), (Nat.le_of_ble_eq_true rfl)⟩ (kE ?_)
      have ik := ik_all kr.1 kr.2 b_14.1 b_14.2
      refine j_if_eq (tgt := 47) M dX6_as_36 (by decide) (fun h_36 => ?_) (fun h_36 => ?_)
      · refine j_aload_n M dX6_as_47 rfl ?_
        refine j_iconst (v := 3) M dX6_as_48 rfl ?_
        refine j_inv1 M lk_X6_72 (c_X6_found) rv_X6 dX6_as_49 (Nat.le_of_ble_eq_true rfl) ⟨(Nat.le_of_ble_eq_true rfl), (Nat.le_of_ble_eq_true rfl)⟩ (kI fun r_49 σ_49 q_49 => ?_)
        obtain ⟨rfl, rfl⟩ := q_49
        exact j_iret M dX6_as_52 ⟨_, rfl, by (try dsimp only); rw [if_neg (fun q => q ⟨b_5, b_14⟩), if_neg (fun q => by rw [ik.1.mpr q] at h_36; exact absurd h_36 (by decide))]; exact ⟨rfl, rfl⟩⟩
      · refine j_aload_n M dX6_as_39 rfl ?_
        refine j_iload_n M dX6_as_40 rfl ?_
        refine j_inv1 M lk_X6_80 (c_X6_foundNothing) rv_X6 dX6_as_41 (Nat.le_of_ble_eq_true rfl) ⟨(Nat.le_of_ble_eq_true rfl), (Nat.le_of_ble_eq_true rfl)⟩ (kI fun r_41 σ_41 q_41 => ?_)
        obtain ⟨rfl, rfl⟩ := q_41
        refine j_goto (tgt := 52) M dX6_as_44 (by decide) ?_
        exact j_iret M dX6_as_52 ⟨_, rfl, by (try dsimp only); rw [if_neg (fun q => q ⟨b_5, b_14⟩), if_pos (ik.1.mp (ik.2.resolve_left h_36))]; exact ⟨rfl, rfl⟩⟩
    · have b_14 := ifF k_14 h_17
      refine j_ldc M k_X6_71 dX6_as_20 ?_
      exact j_iret M dX6_as_22 ⟨_, rfl, by (try dsimp only); rw [if_pos (fun q => b_14 q.2)]; exact ⟨rfl, rfl⟩⟩
set_option maxRecDepth 100000 in
theorem c_X6_count {l : Launch} {G : Gw} {σ : Sg} {w : Int32} {s : St} {t : Int32} (hS : SO t s) (hL : LibF (σ 6) s) : Mt l G yX6_count cX6_count 2 (some .int) 2 43 [.ref (ad G 0 0), .int w] σ (pI fun r τ => τ = σ ∧ r = cntX (rowsL (σ 1 1) 8) s (σ 3 0 2) (σ 2 0 1) w) := by
  refine mt_intro (by decide +kernel) (Nat.le_of_ble_eq_true rfl) (fun Φ M => ?_)
  show Φ 0 [some (.ref (ad G 0 0)), some (.int w)] [] σ
  refine j_iload_n M dX6_count_0 rfl ?_
  refine j_tab8 (t0 := 48) (t1 := 56) (t2 := 64) (t3 := 72) (t4 := 80) (t5 := 88) (t6 := 97) (t7 := 105) (td := 113) M dX6_count_1 (by decide) (by decide) (by decide) (by decide) (by decide) (by decide) (by decide) (by decide) (by decide) (fun h_1 => ?_) (fun h_1 => ?_) (fun h_1 => ?_) (fun h_1 => ?_) (fun h_1 => ?_) (fun h_1 => ?_) (fun h_1 => ?_) (fun h_1 => ?_) (fun h_1 => ?_)
  · refine j_aload_n M dX6_count_48 rfl ?_
    refine gf_X6_10 M dX6_count_49 ?_
    refine j_inv0 M lk_X6_319 (c_X4_standing) rv_X4 dX6_count_52 (Nat.le_of_ble_eq_true rfl) ⟨(Nat.le_of_ble_eq_true rfl), (Nat.le_of_ble_eq_true rfl)⟩ (kE ?_)
    exact j_iret M dX6_count_55 ⟨_, rfl, by (try dsimp only); exact ⟨rfl, by subst h_1; exact rfl⟩⟩
  · refine j_aload_n M dX6_count_56 rfl ?_
    refine gf_X6_26 M dX6_count_57 ?_
    refine gf_X6_296 M lib_now dX6_count_60 ?_
    exact j_iret M dX6_count_63 ⟨_, rfl, by (try dsimp only); exact ⟨rfl, by subst h_1; exact hL.1.1⟩⟩
  · refine j_aload_n M dX6_count_64 rfl ?_
    refine gf_X6_26 M dX6_count_65 ?_
    refine gf_X6_128 M lib_now dX6_count_68 ?_
    exact j_iret M dX6_count_71 ⟨_, rfl, by (try dsimp only); exact ⟨rfl, by subst h_1; exact hL.1.2.1⟩⟩
  · refine j_aload_n M dX6_count_72 rfl ?_
    refine gf_X6_26 M dX6_count_73 ?_
    refine gf_X6_145 M lib_now dX6_count_76 ?_
    exact j_iret M dX6_count_79 ⟨_, rfl, by (try dsimp only); exact ⟨rfl, by subst h_1; exact hL.1.2.2.2.2.1⟩⟩
  · refine j_aload_n M dX6_count_80 rfl ?_
    refine gf_X6_26 M dX6_count_81 ?_
    refine j_inv0 M lk_X6_154 (c_X3_pagesOfAll lib_now (hL) (hS.w.z)) (rv_X3 lib_now) dX6_count_84 (Nat.le_of_ble_eq_true rfl) ⟨(Nat.le_of_ble_eq_true rfl), (Nat.le_of_ble_eq_true rfl)⟩ (kE ?_)
    exact j_iret M dX6_count_87 ⟨_, rfl, by (try dsimp only); exact ⟨rfl, by subst h_1; exact sumAll hS.w.z.1 hS.w.z.2.1⟩⟩
  · refine j_aload_n M dX6_count_88 rfl ?_
    refine gf_X6_26 M dX6_count_89 ?_
    refine j_iconst (v := 0) M dX6_count_92 rfl ?_
    refine j_inv1 M lk_X6_322 (c_X3_dustOf lib_now (hL) (hS.w.z)) (rv_X3 lib_now) dX6_count_93 (Nat.le_of_ble_eq_true rfl) ⟨(Nat.le_of_ble_eq_true rfl), (Nat.le_of_ble_eq_true rfl)⟩ (kE ?_)
    exact j_iret M dX6_count_96 ⟨_, rfl, by (try dsimp only); exact ⟨rfl, by subst h_1; exact dustAll hS.w.z.2.2.1 hS.w.z.2.2.2⟩⟩
  · refine j_aload_n M dX6_count_97 rfl ?_
    refine gf_X6_42 M dX6_count_98 ?_
    refine gf_X6_134 M dX6_count_101 ?_
    exact j_iret M dX6_count_104 ⟨_, rfl, by (try dsimp only); exact ⟨rfl, by subst h_1; exact rfl⟩⟩
  · refine j_aload_n M dX6_count_105 rfl ?_
    refine gf_X6_19 M dX6_count_106 ?_
    refine gf_X6_111 M dX6_count_109 ?_
    exact j_iret M dX6_count_112 ⟨_, rfl, by (try dsimp only); exact ⟨rfl, by subst h_1; exact rfl⟩⟩
  · refine j_ldc M k_X6_71 dX6_count_113 ?_
    exact j_iret M dX6_count_115 ⟨_, rfl, by (try dsimp only); exact ⟨rfl, by have m := nt8 h_1; unfold cntX; simp [m]⟩⟩
set_option maxRecDepth 100000 in
theorem c_X6_book {l : Launch} {G : Gw} {σ : Sg} {b : Int32} {w : Int32} {s : St} {t : Int32} (hS : SO t s) (hL : LibF (σ 6) s) : Mt l G yX6_book cX6_book 3 (some .int) 2 44 [.ref (ad G 0 0), .int b, .int w] σ (pI fun r τ => τ = σ ∧ r = bookR s b w) := by
  refine mt_intro (by decide +kernel) (Nat.le_of_ble_eq_true rfl) (fun Φ M => ?_)
  show Φ 0 [some (.ref (ad G 0 0)), some (.int b), some (.int w)] [] σ
  refine j_aload_n M dX6_book_0 rfl ?_
  refine gf_X6_26 M dX6_book_1 ?_
  refine j_iload_n M dX6_book_4 rfl ?_
  refine j_inv1 M lk_X6_158 (n_isBook hS hL) (rv_X3 lib_now) dX6_book_5 (Nat.le_of_ble_eq_true rfl) ⟨(Nat.le_of_ble_eq_true rfl), (Nat.le_of_ble_eq_true rfl)⟩ (kP fun r_5 k_5 => ?_)
  refine j_if_ne (tgt := 14) M dX6_book_8 (by decide) (fun h_8 => ?_) (fun h_8 => ?_)
  · have b_5 := ifT k_5 h_8
    have hB := hS.w.b b_5
    have b0 := b_5.1
    have b1 := hB.2.1
    have b6 := hB.2.2
    have be := hL.2.1 b b0 b1
    refine j_iload_n M dX6_book_14 rfl ?_
    refine j_tab6 (t0 := 52) (t1 := 62) (t2 := 72) (t3 := 82) (t4 := 94) (t5 := 106) (td := 123) M dX6_book_15 (by decide) (by decide) (by decide) (by decide) (by decide) (by decide) (by decide) (fun h_15 => ?_) (fun h_15 => ?_) (fun h_15 => ?_) (fun h_15 => ?_) (fun h_15 => ?_) (fun h_15 => ?_) (fun h_15 => ?_)
    · refine j_aload_n M dX6_book_52 rfl ?_
      refine gf_X6_26 M dX6_book_53 ?_
      refine gf_X6_199 M lib_now dX6_book_56 ?_
      refine j_iload_n M dX6_book_59 rfl ?_
      refine al_L_1 M lib_now dX6_book_60 (by first | assumption | decide) (by first | assumption | decide) ?_
      exact j_iret M dX6_book_61 ⟨_, rfl, by (try dsimp only); exact ⟨rfl, by unfold bookR; rw [if_pos b_5]; subst h_15; exact be.1⟩⟩
    · refine j_aload_n M dX6_book_62 rfl ?_
      refine gf_X6_26 M dX6_book_63 ?_
      refine gf_X6_202 M lib_now dX6_book_66 ?_
      refine j_iload_n M dX6_book_69 rfl ?_
      refine al_L_2 M lib_now dX6_book_70 (by first | assumption | decide) (by first | assumption | decide) ?_
      exact j_iret M dX6_book_71 ⟨_, rfl, by (try dsimp only); exact ⟨rfl, by unfold bookR; rw [if_pos b_5]; subst h_15; exact be.2.1⟩⟩
    · refine j_aload_n M dX6_book_72 rfl ?_
      refine gf_X6_26 M dX6_book_73 ?_
      refine gf_X6_177 M lib_now dX6_book_76 ?_
      refine j_iload_n M dX6_book_79 rfl ?_
      refine al_L_3 M lib_now dX6_book_80 (by first | assumption | decide) (by first | assumption | decide) ?_
      exact j_iret M dX6_book_81 ⟨_, rfl, by (try dsimp only); exact ⟨rfl, by unfold bookR; rw [if_pos b_5]; subst h_15; exact be.2.2.1⟩⟩
    · refine j_aload_n M dX6_book_82 rfl ?_
      refine gf_X6_26 M dX6_book_83 ?_
      refine gf_X6_161 M lib_now dX6_book_86 ?_
      rw [hL.1.2.2.2.2.2.1]
      refine j_iload_n M dX6_book_89 rfl ?_
      refine j_invs2 M lk_X6_164 (c_X6_bitOf) dX6_book_90 (Nat.le_of_ble_eq_true rfl) ⟨(Nat.le_of_ble_eq_true rfl), (Nat.le_of_ble_eq_true rfl)⟩ (kE ?_)
      exact j_iret M dX6_book_93 ⟨_, rfl, by (try dsimp only); exact ⟨rfl, by unfold bookR; rw [if_pos b_5]; subst h_15; exact rfl⟩⟩
    · refine j_aload_n M dX6_book_94 rfl ?_
      refine gf_X6_26 M dX6_book_95 ?_
      refine gf_X6_176 M lib_now dX6_book_98 ?_
      rw [hL.1.2.2.2.2.2.2.1]
      refine j_iload_n M dX6_book_101 rfl ?_
      refine j_invs2 M lk_X6_164 (c_X6_bitOf) dX6_book_102 (Nat.le_of_ble_eq_true rfl) ⟨(Nat.le_of_ble_eq_true rfl), (Nat.le_of_ble_eq_true rfl)⟩ (kE ?_)
      exact j_iret M dX6_book_105 ⟨_, rfl, by (try dsimp only); exact ⟨rfl, by unfold bookR; rw [if_pos b_5]; subst h_15; exact rfl⟩⟩
    · refine j_aload_n M dX6_book_106 rfl ?_
      refine gf_X6_26 M dX6_book_107 ?_
      refine j_aload_n M dX6_book_110 rfl ?_
      refine gf_X6_26 M dX6_book_111 ?_
      refine gf_X6_177 M lib_now dX6_book_114 ?_
      refine j_iload_n M dX6_book_117 rfl ?_
      refine al_L_3 M lib_now dX6_book_118 (by first | assumption | decide) (by first | assumption | decide) ?_
      rw [be.2.2.1]
      refine j_inv1 M lk_X6_205 (c_X3_fishIn lib_now (hL) (hB.1.z)) (rv_X3 lib_now) dX6_book_119 (Nat.le_of_ble_eq_true rfl) ⟨(Nat.le_of_ble_eq_true rfl), (Nat.le_of_ble_eq_true rfl)⟩ (kE ?_)
      exact j_iret M dX6_book_122 ⟨_, rfl, by (try dsimp only); exact ⟨rfl, by unfold bookR; rw [if_pos b_5]; subst h_15; exact rfl⟩⟩
    · refine j_ldc M k_X6_71 dX6_book_123 ?_
      exact j_iret M dX6_book_125 ⟨_, rfl, by (try dsimp only); exact ⟨rfl, by have m := nt6 h_15; unfold bookR; rw [if_pos b_5]; simp [m]⟩⟩
  · have b_5 := ifF k_5 h_8
    refine j_ldc M k_X6_71 dX6_book_11 ?_
    exact j_iret M dX6_book_13 ⟨_, rfl, by (try dsimp only); exact ⟨rfl, by unfold bookR; rw [if_neg b_5]⟩⟩
set_option maxRecDepth 100000 in
theorem c_X6_fish {l : Launch} {G : Gw} {σ : Sg} {f : Int32} {w : Int32} {s : St} {t : Int32} (hS : SO t s) (hL : LibF (σ 6) s) : Mt l G yX6_fish cX6_fish 4 (some .int) 2 49 [.ref (ad G 0 0), .int f, .int w] σ (pI fun r τ => τ = σ ∧ r = fishR s f w) := by
  refine mt_intro (by decide +kernel) (Nat.le_of_ble_eq_true rfl) (fun Φ M => ?_)
  show Φ 0 [some (.ref (ad G 0 0)), some (.int f), some (.int w), none] [] σ
  refine j_aload_n M dX6_fish_0 rfl ?_
  refine gf_X6_26 M dX6_fish_1 ?_
  refine j_iload_n M dX6_fish_4 rfl ?_
  refine j_inv1 M lk_X6_184 (n_isFish hS hL) (rv_X3 lib_now) dX6_fish_5 (Nat.le_of_ble_eq_true rfl) ⟨(Nat.le_of_ble_eq_true rfl), (Nat.le_of_ble_eq_true rfl)⟩ (kP fun r_5 k_5 => ?_)
  refine j_if_ne (tgt := 14) M dX6_fish_8 (by decide) (fun h_8 => ?_) (fun h_8 => ?_)
  · have b_5 := ifT k_5 h_8
    have hF := hS.w.f b_5
    have f0 := b_5.1
    have f1 := hF.2.1
    have f5 := hF.2.2
    have fe := hL.2.2 f f0 f1
    have ar := (hF.1.2.2.2 f f0 f1).2.1
    refine j_aload_n M dX6_fish_14 rfl ?_
    refine gf_X6_26 M dX6_fish_15 ?_
    refine j_iload_n M dX6_fish_18 rfl ?_
    refine j_inv1 M lk_X6_193 (n_isCaught hS hL) (rv_X3 lib_now) dX6_fish_19 (Nat.le_of_ble_eq_true rfl) ⟨(Nat.le_of_ble_eq_true rfl), (Nat.le_of_ble_eq_true rfl)⟩ (kE ?_)
    refine j_istore_3 M dX6_fish_22 (by exact (by first | trivial | rfl)) ?_
    refine j_iload_n M dX6_fish_23 rfl ?_
    refine j_tab4 (t0 := 56) (t1 := 75) (t2 := 85) (t3 := 103) (td := 129) M dX6_fish_24 (by decide) (by decide) (by decide) (by decide) (by decide) (fun h_24 => ?_) (fun h_24 => ?_) (fun h_24 => ?_) (fun h_24 => ?_) (fun h_24 => ?_)
    · refine j_iload_n M dX6_fish_56 rfl ?_
      refine j_if_eq (tgt := 65) M dX6_fish_57 (by decide) (fun h_57 => ?_) (fun h_57 => ?_)
      · refine j_aload_n M dX6_fish_65 rfl ?_
        refine gf_X6_26 M dX6_fish_66 ?_
        refine gf_X6_190 M lib_now dX6_fish_69 ?_
        refine j_iload_n M dX6_fish_72 rfl ?_
        refine al_L_6 M lib_now dX6_fish_73 (by first | assumption | decide) (by first | assumption | decide) ?_
        exact j_iret M dX6_fish_74 ⟨_, rfl, by (try dsimp only); exact ⟨rfl, by subst h_24; unfold fishR; rw [if_pos ⟨b_5, by decide⟩]; rw [if_neg (by decide), if_neg (fun q => by rw [h_57] at q; exact absurd q (by decide))]; exact fe.2.1⟩⟩
      · refine j_ldc M k_X6_119 dX6_fish_60 ?_
        refine j_goto (tgt := 74) M dX6_fish_62 (by decide) ?_
        exact j_iret M dX6_fish_74 ⟨_, rfl, by (try dsimp only); exact ⟨rfl, by subst h_24; unfold fishR; rw [if_pos ⟨b_5, by decide⟩]; rw [if_neg (by decide), if_pos ((bt1 _ _).mpr h_57)]⟩⟩
    · refine j_aload_n M dX6_fish_75 rfl ?_
      refine gf_X6_26 M dX6_fish_76 ?_
      refine gf_X6_208 M lib_now dX6_fish_79 ?_
      refine j_iload_n M dX6_fish_82 rfl ?_
      refine al_L_7 M lib_now dX6_fish_83 (by first | assumption | decide) (by first | assumption | decide) ?_
      exact j_iret M dX6_fish_84 ⟨_, rfl, by (try dsimp only); exact ⟨rfl, by subst h_24; unfold fishR; rw [if_pos ⟨b_5, by decide⟩]; exact fe.2.2⟩⟩
    · refine j_iload_n M dX6_fish_85 rfl ?_
      refine j_if_eq (tgt := 94) M dX6_fish_86 (by decide) (fun h_86 => ?_) (fun h_86 => ?_)
      · refine j_aload_n M dX6_fish_94 rfl ?_
        refine gf_X6_26 M dX6_fish_95 ?_
        refine j_iload_n M dX6_fish_98 rfl ?_
        refine j_inv1 M lk_X6_211 (c_X3_likedPlace lib_now (hL) (hF.1) (f0) (f1)) (rv_X3 lib_now) dX6_fish_99 (Nat.le_of_ble_eq_true rfl) ⟨(Nat.le_of_ble_eq_true rfl), (Nat.le_of_ble_eq_true rfl)⟩ (kE ?_)
        exact j_iret M dX6_fish_102 ⟨_, rfl, by (try dsimp only); exact ⟨rfl, by subst h_24; unfold fishR; rw [if_pos ⟨b_5, by decide⟩]; rw [if_neg (by decide), if_neg (fun q => by rw [h_86] at q; exact absurd q (by decide))]; rfl⟩⟩
      · refine j_ldc M k_X6_119 dX6_fish_89 ?_
        refine j_goto (tgt := 102) M dX6_fish_91 (by decide) ?_
        exact j_iret M dX6_fish_102 ⟨_, rfl, by (try dsimp only); exact ⟨rfl, by subst h_24; unfold fishR; rw [if_pos ⟨b_5, by decide⟩]; rw [if_neg (by decide), if_pos ((bt1 _ _).mpr h_86)]⟩⟩
    · refine j_iload_n M dX6_fish_103 rfl ?_
      refine j_if_eq (tgt := 112) M dX6_fish_104 (by decide) (fun h_104 => ?_) (fun h_104 => ?_)
      · refine j_aload_n M dX6_fish_112 rfl ?_
        refine gf_X6_26 M dX6_fish_113 ?_
        refine j_aload_n M dX6_fish_116 rfl ?_
        refine gf_X6_26 M dX6_fish_117 ?_
        refine gf_X6_190 M lib_now dX6_fish_120 ?_
        refine j_iload_n M dX6_fish_123 rfl ?_
        refine al_L_6 M lib_now dX6_fish_124 (by first | assumption | decide) (by first | assumption | decide) ?_
        rw [fe.2.1]
        refine j_inv1 M lk_X6_214 (c_X3_bookIn lib_now) (rv_X3 lib_now) dX6_fish_125 (Nat.le_of_ble_eq_true rfl) ⟨(Nat.le_of_ble_eq_true rfl), (Nat.le_of_ble_eq_true rfl)⟩ (kE ?_)
        rw [if_pos (show 0 ≤ s (31 + f) ∧ s (31 + f) < σ 6 0 0 ∧ s (31 + f) < 6 from ⟨ar.1, by rw [hL.1.1]; exact ar.2, hF.1.b6 ar.2⟩), (hL.2.1 _ ar.1 ar.2).2.2.2]
        exact j_iret M dX6_fish_128 ⟨_, rfl, by (try dsimp only); exact ⟨rfl, by subst h_24; unfold fishR; rw [if_pos ⟨b_5, by decide⟩]; rw [if_neg (by decide), if_neg (fun q => by rw [h_104] at q; exact absurd q (by decide))]; rfl⟩⟩
      · refine j_ldc M k_X6_119 dX6_fish_107 ?_
        refine j_goto (tgt := 128) M dX6_fish_109 (by decide) ?_
        exact j_iret M dX6_fish_128 ⟨_, rfl, by (try dsimp only); exact ⟨rfl, by subst h_24; unfold fishR; rw [if_pos ⟨b_5, by decide⟩]; rw [if_neg (by decide), if_pos ((bt1 _ _).mpr h_104)]⟩⟩
    · refine j_ldc M k_X6_71 dX6_fish_129 ?_
      exact j_iret M dX6_fish_131 ⟨_, rfl, by (try dsimp only); exact ⟨rfl, by have m := h_24; unfold fishR; rw [if_neg (fun q => m q.2)]⟩⟩
  · have b_5 := ifF k_5 h_8
    refine j_ldc M k_X6_71 dX6_fish_11 ?_
    exact j_iret M dX6_fish_13 ⟨_, rfl, by (try dsimp only); exact ⟨rfl, by unfold fishR; rw [if_neg (fun q => b_5 q.1)]⟩⟩
set_option maxRecDepth 100000 in
theorem c_X6_stand {l : Launch} {G : Gw} {σ : Sg} {w : Int32} {s : St} {t : Int32} (hS : SO t s) (hL : LibF (σ 6) s) : Mt l G yX6_stand cX6_stand 2 (some .int) 2 43 [.ref (ad G 0 0), .int w] σ (pI fun r τ => τ = σ ∧ r = standR s t w) := by
  refine mt_intro (by decide +kernel) (Nat.le_of_ble_eq_true rfl) (fun Φ M => ?_)
  show Φ 0 [some (.ref (ad G 0 0)), some (.int w)] [] σ
  refine j_aload_n M dX6_stand_0 rfl ?_
  refine gf_X6_26 M dX6_stand_1 ?_
  refine j_inv0 M lk_X6_141 (n_isTold hS hL) (rv_X3 lib_now) dX6_stand_4 (Nat.le_of_ble_eq_true rfl) ⟨(Nat.le_of_ble_eq_true rfl), (Nat.le_of_ble_eq_true rfl)⟩ (kP fun r_4 k_4 => ?_)
  refine j_if_ne (tgt := 13) M dX6_stand_7 (by decide) (fun h_7 => ?_) (fun h_7 => ?_)
  · have b_4 := ifT k_4 h_7
    refine j_iload_n M dX6_stand_13 rfl ?_
    refine j_tab6 (t0 := 52) (t1 := 60) (t2 := 68) (t3 := 76) (t4 := 84) (t5 := 92) (td := 100) M dX6_stand_14 (by decide) (by decide) (by decide) (by decide) (by decide) (by decide) (by decide) (fun h_14 => ?_) (fun h_14 => ?_) (fun h_14 => ?_) (fun h_14 => ?_) (fun h_14 => ?_) (fun h_14 => ?_) (fun h_14 => ?_)
    · refine j_aload_n M dX6_stand_52 rfl ?_
      refine gf_X6_26 M dX6_stand_53 ?_
      refine gf_X6_161 M lib_now dX6_stand_56 ?_
      exact j_iret M dX6_stand_59 ⟨_, rfl, by (try dsimp only); exact ⟨rfl, by unfold standR; rw [if_neg b_4]; subst h_14; exact hL.1.2.2.2.2.2.1⟩⟩
    · refine j_aload_n M dX6_stand_60 rfl ?_
      refine gf_X6_26 M dX6_stand_61 ?_
      refine gf_X6_176 M lib_now dX6_stand_64 ?_
      exact j_iret M dX6_stand_67 ⟨_, rfl, by (try dsimp only); exact ⟨rfl, by unfold standR; rw [if_neg b_4]; subst h_14; exact hL.1.2.2.2.2.2.2.1⟩⟩
    · refine j_aload_n M dX6_stand_68 rfl ?_
      refine gf_X6_26 M dX6_stand_69 ?_
      refine gf_X6_196 M lib_now dX6_stand_72 ?_
      exact j_iret M dX6_stand_75 ⟨_, rfl, by (try dsimp only); exact ⟨rfl, by unfold standR; rw [if_neg b_4]; subst h_14; exact hL.1.2.2.2.2.2.2.2⟩⟩
    · refine j_aload_n M dX6_stand_76 rfl ?_
      refine gf_X6_26 M dX6_stand_77 ?_
      refine j_inv0 M lk_X6_154 (c_X3_pagesOfAll lib_now (hL) (hS.w.z)) (rv_X3 lib_now) dX6_stand_80 (Nat.le_of_ble_eq_true rfl) ⟨(Nat.le_of_ble_eq_true rfl), (Nat.le_of_ble_eq_true rfl)⟩ (kE ?_)
      exact j_iret M dX6_stand_83 ⟨_, rfl, by (try dsimp only); exact ⟨rfl, by unfold standR; rw [if_neg b_4]; subst h_14; exact sumAll hS.w.z.1 hS.w.z.2.1⟩⟩
    · refine j_aload_n M dX6_stand_84 rfl ?_
      refine gf_X6_26 M dX6_stand_85 ?_
      refine gf_X6_217 M lib_now dX6_stand_88 ?_
      exact j_iret M dX6_stand_91 ⟨_, rfl, by (try dsimp only); exact ⟨rfl, by unfold standR; rw [if_neg b_4]; subst h_14; exact hL.1.2.2.1⟩⟩
    · refine j_aload_n M dX6_stand_92 rfl ?_
      refine gf_X6_26 M dX6_stand_93 ?_
      refine gf_X6_173 M lib_now dX6_stand_96 ?_
      exact j_iret M dX6_stand_99 ⟨_, rfl, by (try dsimp only); exact ⟨rfl, by unfold standR; rw [if_neg b_4]; subst h_14; exact hL.1.2.2.2.1⟩⟩
    · refine j_ldc M k_X6_71 dX6_stand_100 ?_
      exact j_iret M dX6_stand_102 ⟨_, rfl, by (try dsimp only); exact ⟨rfl, by have m := nt6 h_14; unfold standR; rw [if_neg b_4]; simp [m]⟩⟩
  · have b_4 := ifF k_4 h_7
    refine j_ldc M k_X6_137 dX6_stand_10 ?_
    exact j_iret M dX6_stand_12 ⟨_, rfl, by (try dsimp only); exact ⟨rfl, by unfold standR; rw [if_pos (Classical.not_not.mp b_4)]⟩⟩
set_option maxRecDepth 100000 in
theorem c_X6_dark {l : Launch} {G : Gw} {σ : Sg} {b : Int32} {n : Int32} {p : Int32} {w : Int32} {s : St} {t : Int32} (hS : SO t s) (hL : LibF (σ 6) s) : Mt l G yX6_dark cX6_dark 11 (some .long) 7 168 [.ref (ad G 0 0), .int b, .int n, .int p, .int w] σ (pL fun r τ => r = darkR s b n p w ∧ fr2 σ τ) := by
  refine mt_intro (by decide +kernel) (Nat.le_of_ble_eq_true rfl) (fun Φ M => ?_)
  show Φ 0 [some (.ref (ad G 0 0)), some (.int b), some (.int n), some (.int p), some (.int w), none, none, none, none, none, none] [] σ
  refine j_aload_n M dX6_dark_0 rfl ?_
  refine gf_X6_26 M dX6_dark_1 ?_
  refine j_iload_n M dX6_dark_4 rfl ?_
  refine j_inv1 M lk_X6_158 (n_isBook hS hL) (rv_X3 lib_now) dX6_dark_5 (Nat.le_of_ble_eq_true rfl) ⟨(Nat.le_of_ble_eq_true rfl), (Nat.le_of_ble_eq_true rfl)⟩ (kP fun r_5 k_5 => ?_)
  refine j_if_eq (tgt := 21) M dX6_dark_8 (by decide) (fun h_8 => ?_) (fun h_8 => ?_)
  · have b_5 := ifF k_5 h_8
    refine j_ldc2 M kl_X6_277 dX6_dark_21 ?_
    exact j_lret M dX6_dark_24 ⟨_, rfl, by (try dsimp only); exact ⟨by unfold darkR; rw [if_neg (fun q => b_5 q.1)], fr2_r _⟩⟩
  · have b_5 := ifT k_5 h_8
    refine j_iload_n M dX6_dark_11 rfl ?_
    refine j_iconst (v := 0) M dX6_dark_12 rfl ?_
    refine j_bipush (v := 60) M dX6_dark_13 rfl ?_
    refine j_invs3 M lk_X6_104 (c_X6_isWithin) dX6_dark_15 (Nat.le_of_ble_eq_true rfl) ⟨(Nat.le_of_ble_eq_true rfl), (Nat.le_of_ble_eq_true rfl)⟩ (kP fun r_15 k_15 => ?_)
    refine j_if_ne (tgt := 25) M dX6_dark_18 (by decide) (fun h_18 => ?_) (fun h_18 => ?_)
    · have b_15 := ifT k_15 h_18
      refine j_iload_n M dX6_dark_25 rfl ?_
      refine j_iconst (v := 0) M dX6_dark_26 rfl ?_
      refine j_bipush (v := 10) M dX6_dark_27 rfl ?_
      refine j_invs3 M lk_X6_104 (c_X6_isWithin) dX6_dark_29 (Nat.le_of_ble_eq_true rfl) ⟨(Nat.le_of_ble_eq_true rfl), (Nat.le_of_ble_eq_true rfl)⟩ (kP fun r_29 k_29 => ?_)
      refine j_if_eq (tgt := 45) M dX6_dark_32 (by decide) (fun h_32 => ?_) (fun h_32 => ?_)
      · have b_29 := ifF k_29 h_32
        refine j_ldc2 M kl_X6_277 dX6_dark_45 ?_
        exact j_lret M dX6_dark_48 ⟨_, rfl, by (try dsimp only); exact ⟨by unfold darkR; rw [if_neg (fun q => b_29 q.2.2.1)], fr2_r _⟩⟩
      · have b_29 := ifT k_29 h_32
        refine j_iload M dX6_dark_35 rfl ?_
        refine j_iconst (v := 0) M dX6_dark_37 rfl ?_
        refine j_iconst (v := 1) M dX6_dark_38 rfl ?_
        refine j_invs3 M lk_X6_104 (c_X6_isWithin) dX6_dark_39 (Nat.le_of_ble_eq_true rfl) ⟨(Nat.le_of_ble_eq_true rfl), (Nat.le_of_ble_eq_true rfl)⟩ (kP fun r_39 k_39 => ?_)
        refine j_if_ne (tgt := 49) M dX6_dark_42 (by decide) (fun h_42 => ?_) (fun h_42 => ?_)
        · have b_39 := ifT k_39 h_42
          have hB := hS.w.b b_5
          have b0 := b_5.1
          have b1 := hB.2.1
          have b6 := hB.2.2
          have hO := hS.o (Int32.lt_of_le_of_lt b0 b1)
          have l5 := hB.1.1.2.2.2.2.1
          have o0 := ones_p l5.1 l5.2
          have dk := dark_ok hB.1 (b := b) (n := n) b_29
          have dp : 0 < gl 1000 (darkA s b n p (s 5 + 1)) (pwZ (10 : Int32).toInt64 (ones (s 5))) := gl_spec 1000 _ _ dk.1 (Int64.le_of_lt dk.2.1) (Or.inr dk.2.1) dk.2.2
          have dz : ¬ gl 1000 (darkA s b n p (s 5 + 1)) (pwZ (10 : Int32).toInt64 (ones (s 5))) = 0 := fun e => absurd dp (by rw [e]; decide)
          refine j_aload_n M dX6_dark_49 rfl ?_
          refine gf_X6_49 M dX6_dark_50 ?_
          refine j_aload_n M dX6_dark_53 rfl ?_
          refine gf_X6_26 M dX6_dark_54 ?_
          refine j_iload_n M dX6_dark_57 rfl ?_
          refine j_iload_n M dX6_dark_58 rfl ?_
          refine j_iload_n M dX6_dark_59 rfl ?_
          refine j_inv4 M lk_X6_279 (c_X2_casesWithPages lib_now (hL) (hB.1) ((by decide)) (b_15.1) (b0) (b1) (hO.2)) rv_X2 dX6_dark_60 (Nat.le_of_ble_eq_true rfl) ⟨(Nat.le_of_ble_eq_true rfl), (Nat.le_of_ble_eq_true rfl)⟩ (kL fun r_60 σ_60 q_60 => ?_)
          obtain ⟨rfl, g3⟩ := q_60
          have eL : σ_60 6 0 5 = s 5 := by rw [g3 6 0 (by decide)]; exact hL.1.2.2.2.2.2.1
          refine j_lstore_5 M dX6_dark_63 (by exact (by first | trivial | rfl)) ?_
          refine j_bipush (v := 10) M dX6_dark_65 rfl ?_
          refine j_aload_n M dX6_dark_67 rfl ?_
          refine gf_X6_26 M dX6_dark_68 ?_
          refine gf_X6_161 M lib_now dX6_dark_71 ?_
          rw [eL]
          refine j_invs1 M lk_X6_168 (c_J6_bitCount_0f7a4 (l5.1) (l5.2)) dX6_dark_74 (Nat.le_of_ble_eq_true rfl) ⟨(Nat.le_of_ble_eq_true rfl), (Nat.le_of_ble_eq_true rfl)⟩ (kE ?_)
          refine j_invs2 M lk_X6_283 (c_X6_power (o0)) dX6_dark_77 (Nat.le_of_ble_eq_true rfl) ⟨(Nat.le_of_ble_eq_true rfl), (Nat.le_of_ble_eq_true rfl)⟩ (kEL ?_)
          refine j_lstore_7 M dX6_dark_80 (by exact (by first | trivial | rfl)) ?_
          refine j_lload M dX6_dark_82 rfl ?_
          refine j_lload M dX6_dark_84 rfl ?_
          refine j_invs2 M lk_X6_287 (c_X6_commonDivisor) dX6_dark_86 (Nat.le_of_ble_eq_true rfl) ⟨(Nat.le_of_ble_eq_true rfl), (Nat.le_of_ble_eq_true rfl)⟩ (kEL ?_)
          refine j_lstore_9 M dX6_dark_89 (by exact (by first | trivial | rfl)) ?_
          refine j_lload M dX6_dark_91 rfl ?_
          refine j_lconst (v := 0) M dX6_dark_93 rfl ?_
          refine j_lcmp M dX6_dark_94 ?_
          refine j_if_gt (tgt := 102) M dX6_dark_95 (by decide) (fun h_95 => ?_) (fun h_95 => ?_)
          · refine j_iload M dX6_dark_102 rfl ?_
            refine j_if_ne (tgt := 115) M dX6_dark_104 (by decide) (fun h_104 => ?_) (fun h_104 => ?_)
            · refine j_lload M dX6_dark_115 rfl ?_
              refine j_lload M dX6_dark_117 rfl ?_
              refine j_ldiv M dX6_dark_119 (by first | decide | assumption | grind) ?_
              exact j_lret M dX6_dark_120 ⟨_, rfl, by (try dsimp only); exact ⟨by unfold darkR; rw [if_pos ⟨b_5, b_15, b_29, b_39⟩, if_neg h_104]; rfl, fr2_10 g3⟩⟩
            · refine j_lload M dX6_dark_107 rfl ?_
              refine j_lload M dX6_dark_109 rfl ?_
              refine j_ldiv M dX6_dark_111 (by first | decide | assumption | grind) ?_
              refine j_goto (tgt := 120) M dX6_dark_112 (by decide) ?_
              exact j_lret M dX6_dark_120 ⟨_, rfl, by (try dsimp only); exact ⟨by unfold darkR; rw [if_pos ⟨b_5, b_15, b_29, b_39⟩, if_pos h_104]; rfl, fr2_10 g3⟩⟩
          · exact absurd ((lg_gt _).mpr dp) h_95
        · have b_39 := ifF k_39 h_42
          refine j_ldc2 M kl_X6_277 dX6_dark_45 ?_
          exact j_lret M dX6_dark_48 ⟨_, rfl, by (try dsimp only); exact ⟨by unfold darkR; rw [if_neg (fun q => b_39 q.2.2.2)], fr2_r _⟩⟩
    · have b_15 := ifF k_15 h_18
      refine j_ldc2 M kl_X6_277 dX6_dark_21 ?_
      exact j_lret M dX6_dark_24 ⟨_, rfl, by (try dsimp only); exact ⟨by unfold darkR; rw [if_neg (fun q => b_15 q.2.1)], fr2_r _⟩⟩
set_option maxRecDepth 100000 in
theorem c_X6_drawn {l : Launch} {G : Gw} {σ : Sg} {n : Int32} {q : Int32} {w : Int32} {s : St} {t : Int32} (hS : SO t s) (hL : LibF (σ 6) s) : Mt l G yX6_drawn cX6_drawn 5 (some .int) 5 120 [.ref (ad G 0 0), .int n, .int q, .int w] σ (pI fun r τ => r = (if t = 0 then -1000002 else if ¬ (inR 0 n 60 ∧ inR 1 q 999999 ∧ inR 0 w 1) then -1000001 else drawnR s n q w) ∧ fr2 σ τ) := by
  refine mt_intro (by decide +kernel) (Nat.le_of_ble_eq_true rfl) (fun Φ M => ?_)
  show Φ 0 [some (.ref (ad G 0 0)), some (.int n), some (.int q), some (.int w), none] [] σ
  refine j_aload_n M dX6_drawn_0 rfl ?_
  refine gf_X6_26 M dX6_drawn_1 ?_
  refine j_inv0 M lk_X6_141 (n_isTold hS hL) (rv_X3 lib_now) dX6_drawn_4 (Nat.le_of_ble_eq_true rfl) ⟨(Nat.le_of_ble_eq_true rfl), (Nat.le_of_ble_eq_true rfl)⟩ (kP fun r_4 k_4 => ?_)
  refine j_if_ne (tgt := 13) M dX6_drawn_7 (by decide) (fun h_7 => ?_) (fun h_7 => ?_)
  · have b_4 := ifT k_4 h_7
    have hW := hS.f b_4
    refine j_iload_n M dX6_drawn_13 rfl ?_
    refine j_iconst (v := 0) M dX6_drawn_14 rfl ?_
    refine j_bipush (v := 60) M dX6_drawn_15 rfl ?_
    refine j_invs3 M lk_X6_104 (c_X6_isWithin) dX6_drawn_17 (Nat.le_of_ble_eq_true rfl) ⟨(Nat.le_of_ble_eq_true rfl), (Nat.le_of_ble_eq_true rfl)⟩ (kP fun r_17 k_17 => ?_)
    refine j_if_eq (tgt := 43) M dX6_drawn_20 (by decide) (fun h_20 => ?_) (fun h_20 => ?_)
    · have b_17 := ifF k_17 h_20
      refine j_ldc M k_X6_71 dX6_drawn_43 ?_
      exact j_iret M dX6_drawn_45 ⟨_, rfl, by (try dsimp only); exact ⟨by rw [if_neg b_4, if_pos (fun q => b_17 q.1)], fr2_r _⟩⟩
    · have b_17 := ifT k_17 h_20
      refine j_iload_n M dX6_drawn_23 rfl ?_
      refine j_iconst (v := 1) M dX6_drawn_24 rfl ?_
      refine j_ldcw M k_X6_291 dX6_drawn_25 ?_
      refine j_invs3 M lk_X6_104 (c_X6_isWithin) dX6_drawn_28 (Nat.le_of_ble_eq_true rfl) ⟨(Nat.le_of_ble_eq_true rfl), (Nat.le_of_ble_eq_true rfl)⟩ (kP fun r_28 k_28 => ?_)
      refine j_if_eq (tgt := 43) M dX6_drawn_31 (by decide) (fun h_31 => ?_) (fun h_31 => ?_)
      · have b_28 := ifF k_28 h_31
        refine j_ldc M k_X6_71 dX6_drawn_43 ?_
        exact j_iret M dX6_drawn_45 ⟨_, rfl, by (try dsimp only); exact ⟨by rw [if_neg b_4, if_pos (fun q => b_28 q.2.1)], fr2_r _⟩⟩
      · have b_28 := ifT k_28 h_31
        refine j_iload_n M dX6_drawn_34 rfl ?_
        refine j_iconst (v := 0) M dX6_drawn_35 rfl ?_
        refine j_iconst (v := 1) M dX6_drawn_36 rfl ?_
        refine j_invs3 M lk_X6_104 (c_X6_isWithin) dX6_drawn_37 (Nat.le_of_ble_eq_true rfl) ⟨(Nat.le_of_ble_eq_true rfl), (Nat.le_of_ble_eq_true rfl)⟩ (kP fun r_37 k_37 => ?_)
        refine j_if_ne (tgt := 46) M dX6_drawn_40 (by decide) (fun h_40 => ?_) (fun h_40 => ?_)
        · have b_37 := ifT k_37 h_40
          refine j_aload_n M dX6_drawn_46 rfl ?_
          refine gf_X6_49 M dX6_drawn_47 ?_
          refine j_aload_n M dX6_drawn_50 rfl ?_
          refine gf_X6_26 M dX6_drawn_51 ?_
          refine j_iload_n M dX6_drawn_54 rfl ?_
          refine j_iload_n M dX6_drawn_55 rfl ?_
          refine j_inv3 M lk_X6_292 (c_X2_behindCenturies lib_now (hL) (hW) ((by decide)) (b_17.1) ((seed_rng b_28))) rv_X2 dX6_drawn_56 (Nat.le_of_ble_eq_true rfl) ⟨(Nat.le_of_ble_eq_true rfl), (Nat.le_of_ble_eq_true rfl)⟩ (kR fun r_56 σ_56 q_56 => ?_)
          obtain ⟨rfl, g1, g3⟩ := q_56
          have sd := seed_rng b_28
          have gw := drawS_WF hW sd.1 sd.2 n
          have fs := full_spec (drawS s q.toInt64 n).1 gw.1.1.z.1 gw.1.1.z.2.1
          refine j_astore_4 M dX6_drawn_59 (by exact (by first | trivial | rfl)) ?_
          refine j_iload_n M dX6_drawn_61 rfl ?_
          refine j_if_ne (tgt := 73) M dX6_drawn_62 (by decide) (fun h_62 => ?_) (fun h_62 => ?_)
          · refine j_aload M dX6_drawn_73 rfl ?_
            refine gf_X6_296 M lib_then dX6_drawn_75 ?_
            refine j_aload M dX6_drawn_78 rfl ?_
            refine j_inv0 M lk_X6_228 (c_X3_booksWithPages lib_then (g1) (gw.1.1.z)) (rv_X3 lib_then) dX6_drawn_80 (Nat.le_of_ble_eq_true rfl) ⟨(Nat.le_of_ble_eq_true rfl), (Nat.le_of_ble_eq_true rfl)⟩ (kE ?_)
            refine j_invs1 M lk_X6_168 (c_J6_bitCount_0f7a4 (fs.1.1) (fs.1.2)) dX6_drawn_83 (Nat.le_of_ble_eq_true rfl) ⟨(Nat.le_of_ble_eq_true rfl), (Nat.le_of_ble_eq_true rfl)⟩ (kE ?_)
            refine j_isub M dX6_drawn_86 ?_
            exact j_iret M dX6_drawn_87 ⟨_, rfl, by (try dsimp only); exact ⟨by rw [if_neg b_4, if_neg (fun q => q ⟨b_17, b_28, b_37⟩)]; unfold drawnR; rw [if_neg h_62, g1.1.1]; exact drawn_eq gw.1.1, fr2_10 g3⟩⟩
          · refine j_aload M dX6_drawn_65 rfl ?_
            refine j_inv0 M lk_X6_154 (c_X3_pagesOfAll lib_then (g1) (gw.1.1.z)) (rv_X3 lib_then) dX6_drawn_67 (Nat.le_of_ble_eq_true rfl) ⟨(Nat.le_of_ble_eq_true rfl), (Nat.le_of_ble_eq_true rfl)⟩ (kE ?_)
            refine j_goto (tgt := 87) M dX6_drawn_70 (by decide) ?_
            exact j_iret M dX6_drawn_87 ⟨_, rfl, by (try dsimp only); exact ⟨by rw [if_neg b_4, if_neg (fun q => q ⟨b_17, b_28, b_37⟩)]; unfold drawnR; rw [if_pos h_62]; exact sumAll gw.1.1.z.1 gw.1.1.z.2.1, fr2_10 g3⟩⟩
        · have b_37 := ifF k_37 h_40
          refine j_ldc M k_X6_71 dX6_drawn_43 ?_
          exact j_iret M dX6_drawn_45 ⟨_, rfl, by (try dsimp only); exact ⟨by rw [if_neg b_4, if_pos (fun q => b_37 q.2.2)], fr2_r _⟩⟩
  · have b_4 := ifF k_4 h_7
    refine j_ldc M k_X6_137 dX6_drawn_10 ?_
    exact j_iret M dX6_drawn_12 ⟨_, rfl, by (try dsimp only); exact ⟨by rw [if_pos (Classical.not_not.mp b_4)], fr2_r _⟩⟩
