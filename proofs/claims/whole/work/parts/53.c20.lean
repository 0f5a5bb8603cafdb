set_option maxRecDepth 100000 in
theorem c_X7_faults {l : Launch} {G : Gw} {σ : Sg} {v : Int32}   : Mt l G yX7_faults cX7_faults 2 (some .boolean) 0 0 [.ref (ad G 40 0), .int v] σ (pI fun r τ => τ = up σ 40 0 (upI (σ 40 0) 14 v) ∧ r = 0) := by
  refine mt_intro (by decide +kernel) (Nat.le_of_ble_eq_true rfl) (fun Φ M => ?_)
  show Φ 0 [some (.ref (ad G 40 0)), some (.int v)] [] σ
  refine j_aload_n M dX7_faults_0 rfl ?_
  refine j_iload_n M dX7_faults_1 rfl ?_
  refine pf_X7_111 M dX7_faults_2 ?_
  refine j_iconst (v := 0) M dX7_faults_5 rfl ?_
  exact j_zret M dX7_faults_6 (by first | exact Or.inl rfl | exact Or.inr rfl | exact bitv_01 _ _ | assumption | (exact res_01 (by assumption)) | grind) ⟨_, rfl, by (try dsimp only); grind⟩
set_option maxRecDepth 100000 in
theorem c_X7_isLetter {l : Launch} {G : Gw} {σ : Sg} {c : Int32}   : Mt l G yX7_isLetter cX7_isLetter 2 (some .boolean) 0 0 [.ref (ad G 40 0), .int c] σ (pI fun r τ => τ = σ ∧ r = if σ 40 0 11 = 1 ∧ σ 40 0 12 = c then 1 else 0) := by
  refine mt_intro (by decide +kernel) (Nat.le_of_ble_eq_true rfl) (fun Φ M => ?_)
  show Φ 0 [some (.ref (ad G 40 0)), some (.int c)] [] σ
  refine j_aload_n M dX7_isLetter_0 rfl ?_
  refine gf_X7_97 M dX7_isLetter_1 ?_
  refine j_iconst (v := 1) M dX7_isLetter_4 rfl ?_
  refine j_icmp_ne (tgt := 20) M dX7_isLetter_5 (by decide) (fun h_5 => ?_) (fun h_5 => ?_)
  · refine j_iconst (v := 0) M dX7_isLetter_20 rfl ?_
    exact j_zret M dX7_isLetter_21 (by first | exact Or.inl rfl | exact Or.inr rfl | exact bitv_01 _ _ | assumption | (exact res_01 (by assumption)) | grind) ⟨_, rfl, by (try dsimp only); first | (simp [h_5]; done) | (simp_all; done)⟩
  · refine j_aload_n M dX7_isLetter_8 rfl ?_
    refine gf_X7_100 M dX7_isLetter_9 ?_
    refine j_iload_n M dX7_isLetter_12 rfl ?_
    refine j_icmp_ne (tgt := 20) M dX7_isLetter_13 (by decide) (fun h_13 => ?_) (fun h_13 => ?_)
    · refine j_iconst (v := 0) M dX7_isLetter_20 rfl ?_
      exact j_zret M dX7_isLetter_21 (by first | exact Or.inl rfl | exact Or.inr rfl | exact bitv_01 _ _ | assumption | (exact res_01 (by assumption)) | grind) ⟨_, rfl, by (try dsimp only); first | (simp [h_5, h_13]; done) | (simp_all; done)⟩
    · refine j_iconst (v := 1) M dX7_isLetter_16 rfl ?_
      refine j_goto (tgt := 21) M dX7_isLetter_17 (by decide) ?_
      exact j_zret M dX7_isLetter_21 (by first | exact Or.inl rfl | exact Or.inr rfl | exact bitv_01 _ _ | assumption | (exact res_01 (by assumption)) | grind) ⟨_, rfl, by (try dsimp only); first | (simp [h_5, h_13]; done) | (simp_all; done)⟩
set_option maxRecDepth 100000 in
theorem c_X7_kindBy {l : Launch} {G : Gw} {σ : Sg} {c : Int32}   : Mt l G yX7_kindBy cX7_kindBy 1 (some .int) 0 0 [.int c] σ (pI fun r τ => τ = σ ∧ r = kindV c) := by
  refine mt_intro (by decide +kernel) (Nat.le_of_ble_eq_true rfl) (fun Φ M => ?_)
  show Φ 0 [some (.int c)] [] σ
  refine j_iload_n M dX7_kindBy_0 rfl ?_
  refine j_bipush (v := 114) M dX7_kindBy_1 rfl ?_
  refine j_icmp_ne (tgt := 10) M dX7_kindBy_3 (by decide) (fun h_3 => ?_) (fun h_3 => ?_)
  · refine j_iload_n M dX7_kindBy_10 rfl ?_
    refine j_bipush (v := 112) M dX7_kindBy_11 rfl ?_
    refine j_icmp_ne (tgt := 20) M dX7_kindBy_13 (by decide) (fun h_13 => ?_) (fun h_13 => ?_)
    · refine j_iload_n M dX7_kindBy_20 rfl ?_
      refine j_bipush (v := 99) M dX7_kindBy_21 rfl ?_
      refine j_icmp_ne (tgt := 30) M dX7_kindBy_23 (by decide) (fun h_23 => ?_) (fun h_23 => ?_)
      · refine j_iload_n M dX7_kindBy_30 rfl ?_
        refine j_bipush (v := 119) M dX7_kindBy_31 rfl ?_
        refine j_icmp_ne (tgt := 40) M dX7_kindBy_33 (by decide) (fun h_33 => ?_) (fun h_33 => ?_)
        · refine j_iload_n M dX7_kindBy_40 rfl ?_
          refine j_bipush (v := 115) M dX7_kindBy_41 rfl ?_
          refine j_icmp_ne (tgt := 50) M dX7_kindBy_43 (by decide) (fun h_43 => ?_) (fun h_43 => ?_)
          · refine j_iconst (v := 0) M dX7_kindBy_50 rfl ?_
            exact j_iret M dX7_kindBy_51 ⟨_, rfl, by (try dsimp only); exact ⟨rfl, by unfold kindV; simp [h_3, h_13, h_23, h_33, h_43]⟩⟩
          · refine j_iconst (v := 5) M dX7_kindBy_46 rfl ?_
            refine j_goto (tgt := 51) M dX7_kindBy_47 (by decide) ?_
            exact j_iret M dX7_kindBy_51 ⟨_, rfl, by (try dsimp only); exact ⟨rfl, by unfold kindV; simp [h_3, h_13, h_23, h_33, h_43]⟩⟩
        · refine j_iconst (v := 4) M dX7_kindBy_36 rfl ?_
          refine j_goto (tgt := 51) M dX7_kindBy_37 (by decide) ?_
          exact j_iret M dX7_kindBy_51 ⟨_, rfl, by (try dsimp only); exact ⟨rfl, by unfold kindV; simp [h_3, h_13, h_23, h_33]⟩⟩
      · refine j_iconst (v := 3) M dX7_kindBy_26 rfl ?_
        refine j_goto (tgt := 51) M dX7_kindBy_27 (by decide) ?_
        exact j_iret M dX7_kindBy_51 ⟨_, rfl, by (try dsimp only); exact ⟨rfl, by unfold kindV; simp [h_3, h_13, h_23]⟩⟩
    · refine j_iconst (v := 2) M dX7_kindBy_16 rfl ?_
      refine j_goto (tgt := 51) M dX7_kindBy_17 (by decide) ?_
      exact j_iret M dX7_kindBy_51 ⟨_, rfl, by (try dsimp only); exact ⟨rfl, by unfold kindV; simp [h_3, h_13]⟩⟩
  · refine j_iconst (v := 1) M dX7_kindBy_6 rfl ?_
    refine j_goto (tgt := 51) M dX7_kindBy_7 (by decide) ?_
    exact j_iret M dX7_kindBy_51 ⟨_, rfl, by (try dsimp only); exact ⟨rfl, by unfold kindV; simp [h_3]⟩⟩
set_option maxRecDepth 100000 in
theorem c_X7_takes {l : Launch} {G : Gw} {σ : Sg} {c : Int32} {N k : Nat} (hT : Tok (σ 40 6) N (σ 40 0) k) (hc : letT c) : Mt l G yX7_takes cX7_takes 2 (some .boolean) 2 45 [.ref (ad G 40 0), .int c] σ (pI fun r τ => resP σ τ N r (takP (σ 40 6) N c k (σ 40 7))) := by
  refine mt_intro (by decide +kernel) (Nat.le_of_ble_eq_true rfl) (fun Φ M => ?_)
  show Φ 0 [some (.ref (ad G 40 0)), some (.int c)] [] σ
  refine j_aload_n M dX7_takes_0 rfl ?_
  refine j_iload_n M dX7_takes_1 rfl ?_
  refine j_inv1 M lk_X7_114 (c_X7_isLetter) rv_X7 dX7_takes_2 (Nat.le_of_ble_eq_true rfl) ⟨(Nat.le_of_ble_eq_true rfl), (Nat.le_of_ble_eq_true rfl)⟩ (kP fun r_2 k_2 => ?_)
  refine j_if_ne (tgt := 14) M dX7_takes_5 (by decide) (fun h_5 => ?_) (fun h_5 => ?_)
  · have b_2 := ifT k_2 h_5
    have kt := (tok_l hT hc).mp b_2
    have ndg := let_dg (T := σ 40 6) (N := N) (k := k) (by rw [kt.2]; exact hc)
    have tl := hT.2.2.2 kt.1 ndg
    refine j_aload_n M dX7_takes_14 rfl ?_
    refine j_inv0 M lk_X7_120 (c_X7_nextToken (tl.1) (kt.1) (hT.1.2.1) (hT.1.2.2.1)) rv_X7 dX7_takes_15 (Nat.le_of_ble_eq_true rfl) ⟨(Nat.le_of_ble_eq_true rfl), (Nat.le_of_ble_eq_true rfl)⟩ (kV fun σ_15 q_15 => ?_)
    obtain ⟨t1, t2, t3⟩ := q_15
    refine j_iconst (v := 1) M dX7_takes_18 rfl ?_
    exact j_zret M dX7_takes_19 (by first | exact Or.inl rfl | exact Or.inr rfl | exact bitv_01 _ _ | assumption | (exact res_01 (by assumption)) | grind) ⟨_, rfl, by (try dsimp only); unfold takP; rw [if_pos kt]; exact ⟨by simp, fun _ => t1, fun e => absurd e (by simp), t3 40 7 (by decide), fld4_of t2, frm_mono t3 (by decide)⟩⟩
  · have b_2 := ifF k_2 h_5
    refine j_aload_n M dX7_takes_8 rfl ?_
    refine j_iconst (v := 1) M dX7_takes_9 rfl ?_
    refine j_inv1 M lk_X7_117 (c_X7_faults) rv_X7 dX7_takes_10 (Nat.le_of_ble_eq_true rfl) ⟨(Nat.le_of_ble_eq_true rfl), (Nat.le_of_ble_eq_true rfl)⟩ (kI fun r_10 σ_10 q_10 => ?_)
    obtain ⟨rfl, e10⟩ := q_10
    rw [e10]
    exact j_zret M dX7_takes_13 (by first | exact Or.inl rfl | exact Or.inr rfl | exact bitv_01 _ _ | assumption | (exact res_01 (by assumption)) | grind) ⟨_, rfl, by (try dsimp only); unfold takP; rw [if_neg (fun q => b_2 ((tok_l hT hc).mpr q))]; exact res_fail hT.1.2.2.2 rfl (fld4_refl _) (frm_refl _ _ _)⟩
set_option maxRecDepth 100000 in
theorem c_X7_takesNumber {l : Launch} {G : Gw} {σ : Sg} {u : Int32} {v : Int32} {i : Int32} {c : Int32} {N k : Nat} (hT : Tok (σ 40 6) N (σ 40 0) k) (hc : letT c) (i0 : 0 ≤ i) (i41 : i < 41) : Mt l G yX7_takesNumber cX7_takesNumber 5 (some .boolean) 3 66 [.ref (ad G 40 0), .int u, .int v, .int i, .int c] σ (pI fun r τ => resP σ τ N r (numP (σ 40 6) N u v i c k (σ 40 7))) := by
  refine mt_intro (by decide +kernel) (Nat.le_of_ble_eq_true rfl) (fun Φ M => ?_)
  show Φ 0 [some (.ref (ad G 40 0)), some (.int u), some (.int v), some (.int i), some (.int c)] [] σ
  refine j_aload_n M dX7_takesNumber_0 rfl ?_
  refine gf_X7_97 M dX7_takesNumber_1 ?_
  refine j_iconst (v := 2) M dX7_takesNumber_4 rfl ?_
  refine j_icmp_ne (tgt := 23) M dX7_takesNumber_5 (by decide) (fun h_5 => ?_) (fun h_5 => ?_)
  · refine j_aload_n M dX7_takesNumber_23 rfl ?_
    refine j_aload_n M dX7_takesNumber_24 rfl ?_
    refine gf_X7_97 M dX7_takesNumber_25 ?_
    refine j_iconst (v := 2) M dX7_takesNumber_28 rfl ?_
    refine j_icmp_ne (tgt := 36) M dX7_takesNumber_29 (by decide) (fun h_29 => ?_) (fun h_29 => ?_)
    · refine j_iconst (v := 1) M dX7_takesNumber_36 rfl ?_
      refine j_inv1 M lk_X7_117 (c_X7_faults) rv_X7 dX7_takesNumber_37 (Nat.le_of_ble_eq_true rfl) ⟨(Nat.le_of_ble_eq_true rfl), (Nat.le_of_ble_eq_true rfl)⟩ (kI fun r_37 σ_37 q_37 => ?_)
      obtain ⟨rfl, e37⟩ := q_37
      rw [e37]
      exact j_zret M dX7_takesNumber_40 (by first | exact Or.inl rfl | exact Or.inr rfl | exact bitv_01 _ _ | assumption | (exact res_01 (by assumption)) | grind) ⟨_, rfl, by (try dsimp only); unfold numP; rw [if_neg (fun q => h_5 ((tok_n hT).mpr q))]; exact res_fail hT.1.2.2.2 rfl (fld4_refl _) (frm_refl _ _ _)⟩
    · refine j_iconst (v := 2) M dX7_takesNumber_32 rfl ?_
      refine j_goto (tgt := 37) M dX7_takesNumber_33 (by decide) ?_
      refine j_inv1 M lk_X7_117 (c_X7_faults) rv_X7 dX7_takesNumber_37 (Nat.le_of_ble_eq_true rfl) ⟨(Nat.le_of_ble_eq_true rfl), (Nat.le_of_ble_eq_true rfl)⟩ (kI fun r_37 σ_37 q_37 => ?_)
      obtain ⟨rfl, e37⟩ := q_37
      rw [e37]
      exact j_zret M dX7_takesNumber_40 (by first | exact Or.inl rfl | exact Or.inr rfl | exact bitv_01 _ _ | assumption | (exact res_01 (by assumption)) | grind) ⟨_, rfl, by (try dsimp only); unfold numP; exact absurd h_29 h_5⟩
  · have tn := (tok_n hT).mp h_5
    have tv := ((hT.2.2.1 tn.1).2.1 tn.2).2
    have re1 := re_spec (σ 40 6) N _ k rfl
    refine j_aload_n M dX7_takesNumber_8 rfl ?_
    refine gf_X7_100 M dX7_takesNumber_9 ?_
    refine j_i2l M dX7_takesNumber_12 ?_
    refine j_iload_n M dX7_takesNumber_13 rfl ?_
    refine j_i2l M dX7_takesNumber_14 ?_
    refine j_iload_n M dX7_takesNumber_15 rfl ?_
    refine j_i2l M dX7_takesNumber_16 ?_
    refine j_invs3 M lk_X7_63 (c_X7_inI  rfl rfl rfl) dX7_takesNumber_17 (Nat.le_of_ble_eq_true rfl) ⟨(Nat.le_of_ble_eq_true rfl), (Nat.le_of_ble_eq_true rfl)⟩ (kP fun r_17 k_17 => ?_)
    refine j_if_ne (tgt := 41) M dX7_takesNumber_20 (by decide) (fun h_20 => ?_) (fun h_20 => ?_)
    · have b_17 := ifT k_17 h_20
      rw [tv] at b_17
      refine j_aload_n M dX7_takesNumber_41 rfl ?_
      refine gf_X7_28 M dX7_takesNumber_42 ?_
      
      refine j_iload_n M dX7_takesNumber_45 rfl ?_
      refine j_aload_n M dX7_takesNumber_46 rfl ?_
      refine gf_X7_100 M dX7_takesNumber_47 ?_
      refine as_40_7 M dX7_takesNumber_50 (by first | assumption | decide | grind) (by first | assumption | decide | grind) ?_
      refine j_aload_n M dX7_takesNumber_51 rfl ?_
      refine j_inv0 M lk_X7_120 (c_X7_nextToken ((by rw [up_ne _ _ (by decide)]; exact (hT.2.2.1 tn.1).1)) ((re1.2.1 hT.1.1)) (hT.1.2.1) ((by rw [up_ne _ _ (by decide)]; exact hT.1.2.2.1))) rv_X7 dX7_takesNumber_52 (Nat.le_of_ble_eq_true rfl) ⟨(Nat.le_of_ble_eq_true rfl), (Nat.le_of_ble_eq_true rfl)⟩ (kV fun σ_52 q_52 => ?_)
      obtain ⟨t1, t2, t3⟩ := q_52
      rw [up_ne _ _ (by decide)] at t1
      have e6 : σ_52 40 6 = σ 40 6 := by rw [t3 40 6 (by decide), up_ne _ _ (by decide)]
      have e7 : σ_52 40 7 = upI (σ 40 7) i (nv (σ 40 6) k (re (σ 40 6) N k)) := by rw [t3 40 7 (by decide), up_same, ← tv]
      refine j_aload_n M dX7_takesNumber_55 rfl ?_
      refine j_iload M dX7_takesNumber_56 rfl ?_
      refine j_inv1 M lk_X7_123 (c_X7_takes ((by rw [e6]; exact t1)) (hc)) rv_X7 dX7_takesNumber_58 (Nat.le_of_ble_eq_true rfl) ⟨(Nat.le_of_ble_eq_true rfl), (Nat.le_of_ble_eq_true rfl)⟩ (kI fun r_58 σ_58 q_58 => ?_)
      exact j_zret M dX7_takesNumber_61 (by first | exact Or.inl rfl | exact Or.inr rfl | exact bitv_01 _ _ | assumption | (exact res_01 (by assumption)) | grind) ⟨_, rfl, by (try dsimp only); unfold numP; rw [if_pos tn, if_pos b_17]; rw [e6, e7] at q_58; exact res_tr q_58 e6 (fld4_tr (fld4_ne (fld4_refl _) (by decide)) (fld4_of t2)) (frm_trans (frm_up (frm_refl _ _ _) (by decide)) (frm_mono t3 (by decide)))⟩
    · have b_17 := ifF k_17 h_20
      refine j_aload_n M dX7_takesNumber_23 rfl ?_
      refine j_aload_n M dX7_takesNumber_24 rfl ?_
      refine gf_X7_97 M dX7_takesNumber_25 ?_
      refine j_iconst (v := 2) M dX7_takesNumber_28 rfl ?_
      refine j_icmp_ne (tgt := 36) M dX7_takesNumber_29 (by decide) (fun h_29 => ?_) (fun h_29 => ?_)
      · refine j_iconst (v := 1) M dX7_takesNumber_36 rfl ?_
        refine j_inv1 M lk_X7_117 (c_X7_faults) rv_X7 dX7_takesNumber_37 (Nat.le_of_ble_eq_true rfl) ⟨(Nat.le_of_ble_eq_true rfl), (Nat.le_of_ble_eq_true rfl)⟩ (kI fun r_37 σ_37 q_37 => ?_)
        obtain ⟨rfl, e37⟩ := q_37
        rw [e37]
        exact j_zret M dX7_takesNumber_40 (by first | exact Or.inl rfl | exact Or.inr rfl | exact bitv_01 _ _ | assumption | (exact res_01 (by assumption)) | grind) ⟨_, rfl, by (try dsimp only); unfold numP; exact absurd h_5 h_29⟩
      · refine j_iconst (v := 2) M dX7_takesNumber_32 rfl ?_
        refine j_goto (tgt := 37) M dX7_takesNumber_33 (by decide) ?_
        refine j_inv1 M lk_X7_117 (c_X7_faults) rv_X7 dX7_takesNumber_37 (Nat.le_of_ble_eq_true rfl) ⟨(Nat.le_of_ble_eq_true rfl), (Nat.le_of_ble_eq_true rfl)⟩ (kI fun r_37 σ_37 q_37 => ?_)
        obtain ⟨rfl, e37⟩ := q_37
        rw [e37]
        exact j_zret M dX7_takesNumber_40 (by first | exact Or.inl rfl | exact Or.inr rfl | exact bitv_01 _ _ | assumption | (exact res_01 (by assumption)) | grind) ⟨_, rfl, by (try dsimp only); unfold numP; rw [if_pos tn, if_neg (fun q => b_17 (by rw [tv]; exact q))]; exact res_fail hT.1.2.2.2 rfl (fld4_refl _) (frm_refl _ _ _)⟩
