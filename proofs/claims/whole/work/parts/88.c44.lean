theorem pas_bad1 {T : St} {N : Nat} {F0 : Int32} {g : St} {R : PT} {c : Int32} (hC : CS N F0 g R) (hb : ∀ k, k < N → 0 ≤ T (nI k)) (h : nxT T N R = -1) : bindT R (takT T N c) = bindT R (badT 1) := by
  by_cases hr : R.1 = true
  · rw [bindT_t hr, bindT_t hr]
    have hn : ¬ R.2.1 < N := fun q => by
      unfold nxT at h
      rw [if_pos ⟨hr, q⟩] at h
      have := hb _ q
      rw [h] at this
      exact absurd this (by decide)
    unfold takT badT
    rw [if_neg (fun q => hn q.1)]
  · rw [bindT_f (by simpa using hr), bindT_f (by simpa using hr)]
theorem pas_bad2 {T : St} {N : Nat} {R : PT} {c : Int32} (h : ¬ nxT T N R = c) : bindT R (takT T N c) = bindT R (badT 1) := by
  by_cases hr : R.1 = true
  · rw [bindT_t hr, bindT_t hr]
    unfold takT badT
    rw [if_neg (fun q => h (by unfold nxT; rw [if_pos ⟨hr, q.1⟩]; exact q.2))]
  · rw [bindT_f (by simpa using hr), bindT_f (by simpa using hr)]
theorem pas_ok {T : St} {N : Nat} {F0 : Int32} {g : St} {R : PT} {c : Int32} (hC : CS N F0 g R) (h1 : ¬ nxT T N R = -1) (h2 : nxT T N R = c) : CS N F0 (upI g 3 (g 3 + 1)) (bindT R (takT T N c)) := by
  have hr : R.1 = true ∧ R.2.1 < N := by
    by_cases q : R.1 = true ∧ R.2.1 < N
    · exact q
    · unfold nxT at h1
      rw [if_neg q] at h1
      exact absurd rfl h1
  unfold nxT at h2
  rw [if_pos hr] at h2
  rw [bindT_t hr.1]
  unfold takT
  rw [if_pos ⟨hr.2, h2⟩]
  obtain ⟨⟨a, b, c⟩, d, e⟩ := hC
  have q := d hr.1
  refine ⟨⟨a, by rw [upI_ne _ _ (by decide)]; exact b, hr.2⟩, fun _ => ⟨?_, ?_, ?_⟩, fun e => absurd e (show ¬ true = false by decide)⟩
  · rw [upI_ne _ _ (by decide)]; exact q.1
  · rw [upI_same, q.2.1, ← nI_succ]
  · rw [upI_ne _ _ (by decide)]; exact q.2.2
set_option maxRecDepth 100000 in
theorem c_X5_isFine {l : Launch} {G : Gw} {σ : Sg}    : Mt l G yX5_isFine cX5_isFine 1 (some .boolean) 0 0 [.ref (ad G 2 0)] σ (pI fun r τ => τ = σ ∧ r = if σ 2 0 4 = -1000000 then 1 else 0) := by
  refine mt_intro (by decide +kernel) (Nat.le_of_ble_eq_true rfl) (fun Φ M => ?_)
  show Φ 0 [some (.ref (ad G 2 0))] [] σ
  refine j_aload_n M dX5_isFine_0 rfl ?_
  refine gf_X5_26 M dX5_isFine_1 ?_
  refine j_ldc M k_X5_25 dX5_isFine_4 ?_
  refine j_icmp_ne (tgt := 13) M dX5_isFine_6 (by decide) (fun h_6 => ?_) (fun h_6 => ?_)
  · refine j_iconst (v := 0) M dX5_isFine_13 rfl ?_
    exact j_zret M dX5_isFine_14 (by first | exact Or.inl rfl | exact Or.inr rfl | exact bitv_01 _ _ | assumption | (exact res_01 (by assumption)) | grind) ⟨_, rfl, by (try dsimp only); first | (simp [h_6]; done) | (simp_all; done)⟩
  · refine j_iconst (v := 1) M dX5_isFine_9 rfl ?_
    refine j_goto (tgt := 14) M dX5_isFine_10 (by decide) ?_
    exact j_zret M dX5_isFine_14 (by first | exact Or.inl rfl | exact Or.inr rfl | exact bitv_01 _ _ | assumption | (exact res_01 (by assumption)) | grind) ⟨_, rfl, by (try dsimp only); first | (simp [h_6]; done) | (simp_all; done)⟩
set_option maxRecDepth 100000 in
theorem c_X5_fail {l : Launch} {G : Gw} {σ : Sg} {n : Int32} {N : Nat} {F0 : Int32} {R : PT} (hC : CS N F0 (σ 2 0) R) : Mt l G yX5_fail cX5_fail 2 none 1 20 [.ref (ad G 2 0), .int n] σ (pV fun τ => CS N F0 (τ 2 0) (bindT R (badT n)) ∧ frm σ τ 2 [0]) := by
  refine mt_intro (by decide +kernel) (Nat.le_of_ble_eq_true rfl) (fun Φ M => ?_)
  show Φ 0 [some (.ref (ad G 2 0)), some (.int n)] [] σ
  refine j_aload_n M dX5_fail_0 rfl ?_
  refine j_inv0 M lk_X5_68 (c_X5_isFine) rv_X5 dX5_fail_1 (Nat.le_of_ble_eq_true rfl) ⟨(Nat.le_of_ble_eq_true rfl), (Nat.le_of_ble_eq_true rfl)⟩ (kP fun r_1 k_1 => ?_)
  refine j_if_eq (tgt := 20) M dX5_fail_4 (by decide) (fun h_4 => ?_) (fun h_4 => ?_)
  · have b_1 := ifF k_1 h_4
    exact j_vret M dX5_fail_20 ⟨rfl, by rw [bindT_f (by simpa using fun q => b_1 ((cs_fine hC).mpr q))]; exact ⟨hC, frm_refl _ _ _⟩⟩
  · have b_1 := ifT k_1 h_4
    refine j_aload_n M dX5_fail_7 rfl ?_
    refine j_aload_n M dX5_fail_8 rfl ?_
    refine gf_X5_22 M dX5_fail_9 ?_
    refine pf_X5_26 M dX5_fail_12 ?_
    refine j_aload_n M dX5_fail_15 rfl ?_
    refine j_iload_n M dX5_fail_16 rfl ?_
    refine pf_X5_19 M dX5_fail_17 ?_
    exact j_vret M dX5_fail_20 ⟨rfl, by exact ⟨by rw [up_same, up_same]; exact cs_bad hC ((cs_fine hC).mp b_1) rfl, frm_up (frm_up (frm_refl _ _ _) (by decide)) (by decide)⟩⟩
set_option maxRecDepth 100000 in
theorem c_X5_next {l : Launch} {G : Gw} {σ : Sg}  {N : Nat} {F0 : Int32} {R : PT} {T : St} (hC : CS N F0 (σ 2 0) R) (hT : σ 2 1 = T) : Mt l G yX5_next cX5_next 1 (some .int) 1 20 [.ref (ad G 2 0)] σ (pI fun r τ => τ = σ ∧ r = nxT T N R) := by
  refine mt_intro (by decide +kernel) (Nat.le_of_ble_eq_true rfl) (fun Φ M => ?_)
  show Φ 0 [some (.ref (ad G 2 0))] [] σ
  subst hT
  refine j_aload_n M dX5_next_0 rfl ?_
  refine j_inv0 M lk_X5_68 (c_X5_isFine) rv_X5 dX5_next_1 (Nat.le_of_ble_eq_true rfl) ⟨(Nat.le_of_ble_eq_true rfl), (Nat.le_of_ble_eq_true rfl)⟩ (kP fun r_1 k_1 => ?_)
  refine j_if_eq (tgt := 37) M dX5_next_4 (by decide) (fun h_4 => ?_) (fun h_4 => ?_)
  · have b_1 := ifF k_1 h_4
    refine j_iconst (v := (-1)) M dX5_next_37 rfl ?_
    exact j_iret M dX5_next_38 ⟨_, rfl, by (try dsimp only); exact ⟨rfl, by unfold nxT; rw [if_neg (fun q => b_1 ((cs_fine hC).mpr q.1))]⟩⟩
  · have b_1 := ifT k_1 h_4
    have hr := (cs_fine hC).mp b_1
    have eg := hC.2.1 hr
    have h120 := hC.1.1
    refine j_aload_n M dX5_next_7 rfl ?_
    refine gf_X5_22 M dX5_next_8 ?_
    refine j_if_lt (tgt := 37) M dX5_next_11 (by decide) (fun h_11 => ?_) (fun h_11 => ?_)
    · refine j_iconst (v := (-1)) M dX5_next_37 rfl ?_
      exact j_iret M dX5_next_38 ⟨_, rfl, by (try dsimp only); exact absurd h_11 (by rw [eg.2.1]; exact nI_pos (by have := hC.1.2.2; omega))⟩
    · refine j_aload_n M dX5_next_14 rfl ?_
      refine gf_X5_22 M dX5_next_15 ?_
      refine j_aload_n M dX5_next_18 rfl ?_
      refine gf_X5_15 M dX5_next_19 ?_
      refine j_icmp_ge (tgt := 37) M dX5_next_22 (by decide) (fun h_22 => ?_) (fun h_22 => ?_)
      · refine j_iconst (v := (-1)) M dX5_next_37 rfl ?_
        exact j_iret M dX5_next_38 ⟨_, rfl, by (try dsimp only); exact ⟨rfl, by unfold nxT; rw [if_neg (fun q => h_22 (by rw [eg.2.1, hC.1.2.1]; exact (nI_ltI (by omega) (by omega)).mpr q.2))]⟩⟩
      · have kn : R.2.1 < N := (nI_ltI (by have := hC.1.2.2; omega) (by omega)).mp (by rw [eg.2.1, hC.1.2.1] at h_22; exact h_22)
        have ii : 0 ≤ σ 2 0 3 ∧ σ 2 0 3 < 120 := by rw [eg.2.1]; exact bytes_ix kn h120
        refine j_aload_n M dX5_next_25 rfl ?_
        refine gf_X5_11 M dX5_next_26 ?_
        refine j_aload_n M dX5_next_29 rfl ?_
        refine gf_X5_22 M dX5_next_30 ?_
        refine al_2_1 M dX5_next_33 (by first | exact ii.1 | exact ii.2) (by first | exact ii.1 | exact ii.2) ?_
        refine j_goto (tgt := 38) M dX5_next_34 (by decide) ?_
        exact j_iret M dX5_next_38 ⟨_, rfl, by (try dsimp only); exact ⟨rfl, by unfold nxT; rw [if_pos ⟨hr, kn⟩, eg.2.1]⟩⟩
set_option maxRecDepth 100000 in
theorem c_X5_pass {l : Launch} {G : Gw} {σ : Sg} {c : Int32} {N : Nat} {F0 : Int32} {R : PT} {T : St} (hC : CS N F0 (σ 2 0) R) (hT : σ 2 1 = T) (hb : ∀ k, k < N → 0 ≤ T (nI k)) : Mt l G yX5_pass cX5_pass 2 none 2 41 [.ref (ad G 2 0), .int c] σ (pV fun τ => CS N F0 (τ 2 0) (bindT R (takT T N c)) ∧ frm σ τ 2 [0]) := by
  refine mt_intro (by decide +kernel) (Nat.le_of_ble_eq_true rfl) (fun Φ M => ?_)
  show Φ 0 [some (.ref (ad G 2 0)), some (.int c)] [] σ
  subst hT
  refine j_aload_n M dX5_pass_0 rfl ?_
  refine j_inv0 M lk_X5_58 (c_X5_next (hC) (rfl)) rv_X5 dX5_pass_1 (Nat.le_of_ble_eq_true rfl) ⟨(Nat.le_of_ble_eq_true rfl), (Nat.le_of_ble_eq_true rfl)⟩ (kE ?_)
  refine j_iconst (v := (-1)) M dX5_pass_4 rfl ?_
  refine j_icmp_eq (tgt := 16) M dX5_pass_5 (by decide) (fun h_5 => ?_) (fun h_5 => ?_)
  · refine j_aload_n M dX5_pass_16 rfl ?_
    refine j_iconst (v := 1) M dX5_pass_17 rfl ?_
    refine j_inv1 M lk_X5_62 (c_X5_fail (hC)) rv_X5 dX5_pass_18 (Nat.le_of_ble_eq_true rfl) ⟨(Nat.le_of_ble_eq_true rfl), (Nat.le_of_ble_eq_true rfl)⟩ (kV fun σ_18 q_18 => ?_)
    obtain ⟨d1, d2⟩ := q_18
    refine j_goto (tgt := 34) M dX5_pass_21 (by decide) ?_
    exact j_vret M dX5_pass_34 ⟨rfl, by exact ⟨by rw [pas_bad1 hC hb h_5]; exact d1, d2⟩⟩
  · refine j_aload_n M dX5_pass_8 rfl ?_
    refine j_inv0 M lk_X5_58 (c_X5_next (hC) (rfl)) rv_X5 dX5_pass_9 (Nat.le_of_ble_eq_true rfl) ⟨(Nat.le_of_ble_eq_true rfl), (Nat.le_of_ble_eq_true rfl)⟩ (kE ?_)
    refine j_iload_n M dX5_pass_12 rfl ?_
    refine j_icmp_eq (tgt := 24) M dX5_pass_13 (by decide) (fun h_13 => ?_) (fun h_13 => ?_)
    · refine j_aload_n M dX5_pass_24 rfl ?_
      refine j_dup M dX5_pass_25 rfl ?_
      refine gf_X5_22 M dX5_pass_26 ?_
      refine j_iconst (v := 1) M dX5_pass_29 rfl ?_
      refine j_iadd M dX5_pass_30 ?_
      refine pf_X5_22 M dX5_pass_31 ?_
      exact j_vret M dX5_pass_34 ⟨rfl, by exact ⟨by rw [up_same]; exact pas_ok hC h_5 h_13, frm_up (frm_refl _ _ _) (by decide)⟩⟩
    · refine j_aload_n M dX5_pass_16 rfl ?_
      refine j_iconst (v := 1) M dX5_pass_17 rfl ?_
      refine j_inv1 M lk_X5_62 (c_X5_fail (hC)) rv_X5 dX5_pass_18 (Nat.le_of_ble_eq_true rfl) ⟨(Nat.le_of_ble_eq_true rfl), (Nat.le_of_ble_eq_true rfl)⟩ (kV fun σ_18 q_18 => ?_)
      obtain ⟨d1, d2⟩ := q_18
      refine j_goto (tgt := 34) M dX5_pass_21 (by decide) ?_
      exact j_vret M dX5_pass_34 ⟨rfl, by exact ⟨by rw [pas_bad2 h_13]; exact d1, d2⟩⟩
set_option maxRecDepth 100000 in
theorem c_X5_isFigure {l : Launch} {G : Gw} {σ : Sg} {c : Int32}   : Mt l G yX5_isFigure cX5_isFigure 1 (some .boolean) 0 0 [.int c] σ (pI fun r τ => τ = σ ∧ r = if 48 ≤ c ∧ c ≤ 57 then 1 else 0) := by
  refine mt_intro (by decide +kernel) (Nat.le_of_ble_eq_true rfl) (fun Φ M => ?_)
  show Φ 0 [some (.int c)] [] σ
  refine j_iload_n M dX5_isFigure_0 rfl ?_
  refine j_bipush (v := 48) M dX5_isFigure_1 rfl ?_
  refine j_icmp_lt (tgt := 16) M dX5_isFigure_3 (by decide) (fun h_3 => ?_) (fun h_3 => ?_)
  · refine j_iconst (v := 0) M dX5_isFigure_16 rfl ?_
    exact j_zret M dX5_isFigure_17 (by first | exact Or.inl rfl | exact Or.inr rfl | exact bitv_01 _ _ | assumption | (exact res_01 (by assumption)) | grind) ⟨_, rfl, by (try dsimp only); first | (simp [h_3]; done) | (refine ⟨rfl, ?_⟩; grind)⟩
  · refine j_iload_n M dX5_isFigure_6 rfl ?_
    refine j_bipush (v := 57) M dX5_isFigure_7 rfl ?_
    refine j_icmp_gt (tgt := 16) M dX5_isFigure_9 (by decide) (fun h_9 => ?_) (fun h_9 => ?_)
    · refine j_iconst (v := 0) M dX5_isFigure_16 rfl ?_
      exact j_zret M dX5_isFigure_17 (by first | exact Or.inl rfl | exact Or.inr rfl | exact bitv_01 _ _ | assumption | (exact res_01 (by assumption)) | grind) ⟨_, rfl, by (try dsimp only); first | (simp [h_3, h_9]; done) | (refine ⟨rfl, ?_⟩; grind)⟩
    · refine j_iconst (v := 1) M dX5_isFigure_12 rfl ?_
      refine j_goto (tgt := 17) M dX5_isFigure_13 (by decide) ?_
      exact j_zret M dX5_isFigure_17 (by first | exact Or.inl rfl | exact Or.inr rfl | exact bitv_01 _ _ | assumption | (exact res_01 (by assumption)) | grind) ⟨_, rfl, by (try dsimp only); first | (simp [h_3, h_9]; done) | (refine ⟨rfl, ?_⟩; grind)⟩
set_option maxRecDepth 100000 in
theorem c_X5_add {l : Launch} {G : Gw} {σ : Sg} {c : Int32}  (h0 : 0 ≤ σ 2 0 1) : Mt l G yX5_add cX5_add 2 (some .boolean) 0 0 [.ref (ad G 2 0), .int c] σ (pI fun r τ => if σ 2 0 1 < 120 then r = 1 ∧ τ 2 1 = upI (σ 2 1) (σ 2 0 1) c ∧ τ 2 0 = upI (σ 2 0) 1 (σ 2 0 1 + 1) ∧ frm σ τ 2 [0, 1] else r = 0 ∧ τ = σ) := by
  refine mt_intro (by decide +kernel) (Nat.le_of_ble_eq_true rfl) (fun Φ M => ?_)
  show Φ 0 [some (.ref (ad G 2 0)), some (.int c)] [] σ
  refine j_aload_n M dX5_add_0 rfl ?_
  refine gf_X5_15 M dX5_add_1 ?_
  refine j_bipush (v := 120) M dX5_add_4 rfl ?_
  refine j_icmp_lt (tgt := 11) M dX5_add_6 (by decide) (fun h_6 => ?_) (fun h_6 => ?_)
  · refine j_aload_n M dX5_add_11 rfl ?_
    refine gf_X5_11 M dX5_add_12 ?_
    refine j_aload_n M dX5_add_15 rfl ?_
    refine gf_X5_15 M dX5_add_16 ?_
    refine j_iload_n M dX5_add_19 rfl ?_
    refine as_2_1 M dX5_add_20 (by first | assumption) (by first | assumption) ?_
    refine j_aload_n M dX5_add_21 rfl ?_
    refine j_dup M dX5_add_22 rfl ?_
    refine gf_X5_15 M dX5_add_23 ?_
    refine j_iconst (v := 1) M dX5_add_26 rfl ?_
    refine j_iadd M dX5_add_27 ?_
    refine pf_X5_15 M dX5_add_28 ?_
    refine j_iconst (v := 1) M dX5_add_31 rfl ?_
    exact j_zret M dX5_add_32 (by first | exact Or.inl rfl | exact Or.inr rfl | exact bitv_01 _ _ | assumption | (exact res_01 (by assumption)) | grind) ⟨_, rfl, by (try dsimp only); first | (rw [if_neg h_6]; exact ⟨rfl, rfl⟩) | (rw [if_pos h_6]; exact ⟨rfl, by rw [up_ne _ _ (by decide), up_same], by rw [up_same, up_ne _ _ (by decide)], frm_up (frm_up (frm_refl _ _ _) (by decide)) (by decide)⟩)⟩
  · refine j_iconst (v := 0) M dX5_add_9 rfl ?_
    exact j_zret M dX5_add_10 (by first | exact Or.inl rfl | exact Or.inr rfl | exact bitv_01 _ _ | assumption | (exact res_01 (by assumption)) | grind) ⟨_, rfl, by (try dsimp only); first | (rw [if_neg h_6]; exact ⟨rfl, rfl⟩) | (rw [if_pos h_6]; exact ⟨rfl, by rw [up_ne _ _ (by decide), up_same], by rw [up_same, up_ne _ _ (by decide)], frm_up (frm_up (frm_refl _ _ _) (by decide)) (by decide)⟩)⟩
