set_option maxRecDepth 100000 in
theorem c_X7_readBook {l : Launch} {G : Gw} {σ : Sg}  {N k : Nat} (hT : Tok (σ 40 6) N (σ 40 0) k) (hk : k < N) (hb : σ 40 6 (nI k) = 98) (hr : 0 ≤ σ 40 7 0 ∧ σ 40 7 0 ≤ 6) : Mt l G yX7_readBook cX7_readBook 2 (some .boolean) 4 90 [.ref (ad G 40 0)] σ (pI fun r τ => resP σ τ N r (bookP (σ 40 6) N k (σ 40 7))) := by
  refine mt_intro (by decide +kernel) (Nat.le_of_ble_eq_true rfl) (fun Φ M => ?_)
  show Φ 0 [some (.ref (ad G 40 0)), none] [] σ
  refine j_aload_n M dX7_readBook_0 rfl ?_
  refine gf_X7_28 M dX7_readBook_1 ?_
  refine j_iconst (v := 0) M dX7_readBook_4 rfl ?_
  refine al_40_7 M dX7_readBook_5 (by first | assumption | decide | exact ix20.1 | exact ix20.2) (by first | assumption | decide | exact ix20.1 | exact ix20.2) ?_
  refine j_istore_1 M dX7_readBook_6 (by exact (by first | trivial | rfl)) ?_
  refine j_aload_n M dX7_readBook_7 rfl ?_
  refine gf_X7_28 M dX7_readBook_8 ?_
  refine j_iconst (v := 1) M dX7_readBook_11 rfl ?_
  refine al_40_7 M dX7_readBook_12 (by first | assumption | decide | exact ix20.1 | exact ix20.2) (by first | assumption | decide | exact ix20.1 | exact ix20.2) ?_
  refine j_if_gt (tgt := 22) M dX7_readBook_13 (by decide) (fun h_13 => ?_) (fun h_13 => ?_)
  · refine j_aload_n M dX7_readBook_22 rfl ?_
    refine j_aload_n M dX7_readBook_23 rfl ?_
    refine gf_X7_28 M dX7_readBook_24 ?_
    refine j_iconst (v := 1) M dX7_readBook_27 rfl ?_
    refine al_40_7 M dX7_readBook_28 (by first | assumption | decide | exact ix20.1 | exact ix20.2) (by first | assumption | decide | exact ix20.1 | exact ix20.2) ?_
    refine j_if_le (tgt := 36) M dX7_readBook_29 (by decide) (fun h_29 => ?_) (fun h_29 => ?_)
    · refine j_iconst (v := 3) M dX7_readBook_36 rfl ?_
      refine j_inv1 M lk_X7_117 (c_X7_faults) rv_X7 dX7_readBook_37 (Nat.le_of_ble_eq_true rfl) ⟨(Nat.le_of_ble_eq_true rfl), (Nat.le_of_ble_eq_true rfl)⟩ (kI fun r_37 σ_37 q_37 => ?_)
      obtain ⟨rfl, e37⟩ := q_37
      rw [e37]
      exact j_zret M dX7_readBook_40 (by first | exact Or.inl rfl | exact Or.inr rfl | exact bitv_01 _ _ | assumption | (exact res_01 (by assumption)) | grind) ⟨_, rfl, by (try dsimp only); exact absurd h_13 h_29⟩
    · refine j_iconst (v := 1) M dX7_readBook_32 rfl ?_
      refine j_goto (tgt := 37) M dX7_readBook_33 (by decide) ?_
      refine j_inv1 M lk_X7_117 (c_X7_faults) rv_X7 dX7_readBook_37 (Nat.le_of_ble_eq_true rfl) ⟨(Nat.le_of_ble_eq_true rfl), (Nat.le_of_ble_eq_true rfl)⟩ (kI fun r_37 σ_37 q_37 => ?_)
      obtain ⟨rfl, e37⟩ := q_37
      rw [e37]
      exact j_zret M dX7_readBook_40 (by first | exact Or.inl rfl | exact Or.inr rfl | exact bitv_01 _ _ | assumption | (exact res_01 (by assumption)) | grind) ⟨_, rfl, by (try dsimp only); unfold bookP; rw [if_pos h_13]; exact res_fail hT.1.2.2.2 rfl (fld4_refl _) (frm_refl _ _ _)⟩
  · refine j_iload_n M dX7_readBook_16 rfl ?_
    refine j_bipush (v := 6) M dX7_readBook_17 rfl ?_
    refine j_icmp_ne (tgt := 41) M dX7_readBook_19 (by decide) (fun h_19 => ?_) (fun h_19 => ?_)
    · have c := lt_incF hr.1 hr.2 h_19
      obtain ⟨⟨ix8, ix14⟩, ix20⟩ := ixS hr.1 c.1
      have hz : (0 : Int32) ≠ 20 + σ 40 7 0 := (show 20 + σ 40 7 0 ≠ (0 : Int32) from ix_c 20 6 0 hr.1 c.1).symm
      have tl := hT.2.2.2 hk (let_dg (T := σ 40 6) (N := N) (k := k) (by rw [hb]; decide))
      refine j_aload_n M dX7_readBook_41 rfl ?_
      refine j_inv0 M lk_X7_120 (c_X7_nextToken (tl.1) (hk) (hT.1.2.1) (hT.1.2.2.1)) rv_X7 dX7_readBook_42 (Nat.le_of_ble_eq_true rfl) ⟨(Nat.le_of_ble_eq_true rfl), (Nat.le_of_ble_eq_true rfl)⟩ (kV fun σ_42 q_42 => ?_)
      obtain ⟨t1, t2, t3⟩ := q_42
      have e6 : σ_42 40 6 = σ 40 6 := t3 40 6 (by decide)
      have e7 : σ_42 40 7 = σ 40 7 := t3 40 7 (by decide)
      refine j_aload_n M dX7_readBook_45 rfl ?_
      refine gf_X7_28 M dX7_readBook_46 ?_
      refine j_bipush (v := 20) M dX7_readBook_49 rfl ?_
      refine j_iload_n M dX7_readBook_51 rfl ?_
      refine j_iadd M dX7_readBook_52 ?_
      refine j_iload_n M dX7_readBook_53 rfl ?_
      refine as_40_7 M dX7_readBook_54 (by first | assumption | decide | exact ix20.1 | exact ix20.2) (by first | assumption | decide | exact ix20.1 | exact ix20.2) ?_
      refine j_aload_n M dX7_readBook_55 rfl ?_
      refine gf_X7_28 M dX7_readBook_56 ?_
      refine j_iconst (v := 0) M dX7_readBook_59 rfl ?_
      refine j_dup2 M dX7_readBook_60 rfl rfl ?_
      refine al_40_7 M dX7_readBook_61 (by first | assumption | decide | exact ix20.1 | exact ix20.2) (by first | assumption | decide | exact ix20.1 | exact ix20.2) ?_
      refine j_iconst (v := 1) M dX7_readBook_62 rfl ?_
      refine j_iadd M dX7_readBook_63 ?_
      refine as_40_7 M dX7_readBook_64 (by first | assumption | decide | exact ix20.1 | exact ix20.2) (by first | assumption | decide | exact ix20.1 | exact ix20.2) ?_
      rw [up_up, up_same, e7, upI_ne _ _ hz]
      have fx : fld4 σ (up σ_42 40 7 (upI (upI (σ 40 7) (20 + σ 40 7 0) (σ 40 7 0)) 0 (σ 40 7 0 + 1))) := fld4_ne (fld4_of t2) (by decide)
      have rx : frm σ (up σ_42 40 7 (upI (upI (σ 40 7) (20 + σ 40 7 0) (σ 40 7 0)) 0 (σ 40 7 0 + 1))) 40 [0, 7] := frm_up (frm_mono t3 (by decide)) (by decide)
      have ex6 : (up σ_42 40 7 (upI (upI (σ 40 7) (20 + σ 40 7 0) (σ 40 7 0)) 0 (σ 40 7 0 + 1))) 40 6 = σ 40 6 := by rw [up_ne _ _ (by decide)]; exact e6
      refine j_aload_n M dX7_readBook_65 rfl ?_
      refine j_iconst (v := 0) M dX7_readBook_66 rfl ?_
      refine j_bipush (v := 99) M dX7_readBook_67 rfl ?_
      refine j_bipush (v := 8) M dX7_readBook_69 rfl ?_
      refine j_iload_n M dX7_readBook_71 rfl ?_
      refine j_iadd M dX7_readBook_72 ?_
      refine j_bipush (v := 44) M dX7_readBook_73 rfl ?_
      refine j_inv4 M lk_X7_126 (c_X7_takesNumber ((by rw [ex6, up_ne _ _ (by decide)]; exact t1)) ((by decide)) (ix8.1) (ix8.2)) rv_X7 dX7_readBook_75 (Nat.le_of_ble_eq_true rfl) ⟨(Nat.le_of_ble_eq_true rfl), (Nat.le_of_ble_eq_true rfl)⟩ (kI fun r_75 σ_75 q_75 => ?_)
      rw [ex6, up_same] at q_75
      have q1 := res_tr q_75 ex6 fx rx
      refine j_if_eq (tgt := 101) M dX7_readBook_78 (by decide) (fun h_78 => ?_) (fun h_78 => ?_)
      · refine j_iconst (v := 0) M dX7_readBook_101 rfl ?_
        exact j_zret M dX7_readBook_102 (by first | exact Or.inl rfl | exact Or.inr rfl | exact bitv_01 _ _ | assumption | (exact res_01 (by assumption)) | grind) ⟨_, rfl, by (try dsimp only); unfold bookP; rw [if_neg h_13, if_neg h_19]; rw [bind_f (res_0 q1 h_78).2]; exact (res_0 q1 h_78).1⟩
      · have o := res_1 q1 h_78
        have e62 : σ_75 40 6 = σ 40 6 := o.1.2.2.2.2.2 40 6 (by decide)
        refine j_aload_n M dX7_readBook_81 rfl ?_
        refine j_iconst (v := 0) M dX7_readBook_82 rfl ?_
        refine j_bipush (v := 9) M dX7_readBook_83 rfl ?_
        refine j_bipush (v := 14) M dX7_readBook_85 rfl ?_
        refine j_iload_n M dX7_readBook_87 rfl ?_
        refine j_iadd M dX7_readBook_88 ?_
        refine j_bipush (v := 59) M dX7_readBook_89 rfl ?_
        refine j_inv4 M lk_X7_126 (c_X7_takesNumber ((by rw [e62]; exact o.1.2.1 o.2)) ((by decide)) (ix14.1) (ix14.2)) rv_X7 dX7_readBook_91 (Nat.le_of_ble_eq_true rfl) ⟨(Nat.le_of_ble_eq_true rfl), (Nat.le_of_ble_eq_true rfl)⟩ (kI fun r_91 σ_91 q_91 => ?_)
        rw [e62, o.1.2.2.2.1] at q_91
        have q2 := res_tr q_91 e62 o.1.2.2.2.2.1 o.1.2.2.2.2.2
        refine j_if_eq (tgt := 101) M dX7_readBook_94 (by decide) (fun h_94 => ?_) (fun h_94 => ?_)
        · refine j_iconst (v := 0) M dX7_readBook_101 rfl ?_
          exact j_zret M dX7_readBook_102 (by first | exact Or.inl rfl | exact Or.inr rfl | exact bitv_01 _ _ | assumption | (exact res_01 (by assumption)) | grind) ⟨_, rfl, by (try dsimp only); unfold bookP; rw [if_neg h_13, if_neg h_19]; rw [bind_t o.2]; exact (res_0 q2 h_94).1⟩
        · refine j_iconst (v := 1) M dX7_readBook_97 rfl ?_
          refine j_goto (tgt := 102) M dX7_readBook_98 (by decide) ?_
          exact j_zret M dX7_readBook_102 (by first | exact Or.inl rfl | exact Or.inr rfl | exact bitv_01 _ _ | assumption | (exact res_01 (by assumption)) | grind) ⟨_, rfl, by (try dsimp only); unfold bookP; rw [if_neg h_13, if_neg h_19]; rw [bind_t o.2]; exact (res_1 q2 h_94).1⟩
    · refine j_aload_n M dX7_readBook_22 rfl ?_
      refine j_aload_n M dX7_readBook_23 rfl ?_
      refine gf_X7_28 M dX7_readBook_24 ?_
      refine j_iconst (v := 1) M dX7_readBook_27 rfl ?_
      refine al_40_7 M dX7_readBook_28 (by first | assumption | decide | exact ix20.1 | exact ix20.2) (by first | assumption | decide | exact ix20.1 | exact ix20.2) ?_
      refine j_if_le (tgt := 36) M dX7_readBook_29 (by decide) (fun h_29 => ?_) (fun h_29 => ?_)
      · refine j_iconst (v := 3) M dX7_readBook_36 rfl ?_
        refine j_inv1 M lk_X7_117 (c_X7_faults) rv_X7 dX7_readBook_37 (Nat.le_of_ble_eq_true rfl) ⟨(Nat.le_of_ble_eq_true rfl), (Nat.le_of_ble_eq_true rfl)⟩ (kI fun r_37 σ_37 q_37 => ?_)
        obtain ⟨rfl, e37⟩ := q_37
        rw [e37]
        exact j_zret M dX7_readBook_40 (by first | exact Or.inl rfl | exact Or.inr rfl | exact bitv_01 _ _ | assumption | (exact res_01 (by assumption)) | grind) ⟨_, rfl, by (try dsimp only); unfold bookP; rw [if_neg h_13, if_pos h_19]; exact res_fail hT.1.2.2.2 rfl (fld4_refl _) (frm_refl _ _ _)⟩
      · refine j_iconst (v := 1) M dX7_readBook_32 rfl ?_
        refine j_goto (tgt := 37) M dX7_readBook_33 (by decide) ?_
        refine j_inv1 M lk_X7_117 (c_X7_faults) rv_X7 dX7_readBook_37 (Nat.le_of_ble_eq_true rfl) ⟨(Nat.le_of_ble_eq_true rfl), (Nat.le_of_ble_eq_true rfl)⟩ (kI fun r_37 σ_37 q_37 => ?_)
        obtain ⟨rfl, e37⟩ := q_37
        rw [e37]
        exact j_zret M dX7_readBook_40 (by first | exact Or.inl rfl | exact Or.inr rfl | exact bitv_01 _ _ | assumption | (exact res_01 (by assumption)) | grind) ⟨_, rfl, by (try dsimp only); exact absurd h_29 h_13⟩
set_option maxRecDepth 100000 in
theorem c_X7_readFish {l : Launch} {G : Gw} {σ : Sg} {g : Int32} {N k : Nat} (hT : Tok (σ 40 6) N (σ 40 0) k) (hk : k < N) (hb : letT (σ 40 6 (nI k))) (hr : 0 ≤ σ 40 7 1 ∧ σ 40 7 1 ≤ 5) : Mt l G yX7_readFish cX7_readFish 3 (some .boolean) 4 90 [.ref (ad G 40 0), .int g] σ (pI fun r τ => resP σ τ N r (fishP (σ 40 6) N g k (σ 40 7))) := by
  refine mt_intro (by decide +kernel) (Nat.le_of_ble_eq_true rfl) (fun Φ M => ?_)
  show Φ 0 [some (.ref (ad G 40 0)), some (.int g), none] [] σ
  refine j_aload_n M dX7_readFish_0 rfl ?_
  refine gf_X7_28 M dX7_readFish_1 ?_
  refine j_iconst (v := 1) M dX7_readFish_4 rfl ?_
  refine al_40_7 M dX7_readFish_5 (by first | assumption | decide | exact ix26.1 | exact ix26.2) (by first | assumption | decide | exact ix26.1 | exact ix26.2) ?_
  refine j_istore_2 M dX7_readFish_6 (by exact (by first | trivial | rfl)) ?_
  refine j_aload_n M dX7_readFish_7 rfl ?_
  refine gf_X7_28 M dX7_readFish_8 ?_
  refine j_iconst (v := 0) M dX7_readFish_11 rfl ?_
  refine al_40_7 M dX7_readFish_12 (by first | assumption | decide | exact ix26.1 | exact ix26.2) (by first | assumption | decide | exact ix26.1 | exact ix26.2) ?_
  refine j_if_eq (tgt := 21) M dX7_readFish_13 (by decide) (fun h_13 => ?_) (fun h_13 => ?_)
  · refine j_aload_n M dX7_readFish_21 rfl ?_
    refine j_aload_n M dX7_readFish_22 rfl ?_
    refine gf_X7_28 M dX7_readFish_23 ?_
    refine j_iconst (v := 0) M dX7_readFish_26 rfl ?_
    refine al_40_7 M dX7_readFish_27 (by first | assumption | decide | exact ix26.1 | exact ix26.2) (by first | assumption | decide | exact ix26.1 | exact ix26.2) ?_
    refine j_if_ne (tgt := 35) M dX7_readFish_28 (by decide) (fun h_28 => ?_) (fun h_28 => ?_)
    · refine j_iconst (v := 3) M dX7_readFish_35 rfl ?_
      refine j_inv1 M lk_X7_117 (c_X7_faults) rv_X7 dX7_readFish_36 (Nat.le_of_ble_eq_true rfl) ⟨(Nat.le_of_ble_eq_true rfl), (Nat.le_of_ble_eq_true rfl)⟩ (kI fun r_36 σ_36 q_36 => ?_)
      obtain ⟨rfl, e36⟩ := q_36
      rw [e36]
      exact j_zret M dX7_readFish_39 (by first | exact Or.inl rfl | exact Or.inr rfl | exact bitv_01 _ _ | assumption | (exact res_01 (by assumption)) | grind) ⟨_, rfl, by (try dsimp only); exact absurd h_13 h_28⟩
    · refine j_iconst (v := 1) M dX7_readFish_31 rfl ?_
      refine j_goto (tgt := 36) M dX7_readFish_32 (by decide) ?_
      refine j_inv1 M lk_X7_117 (c_X7_faults) rv_X7 dX7_readFish_36 (Nat.le_of_ble_eq_true rfl) ⟨(Nat.le_of_ble_eq_true rfl), (Nat.le_of_ble_eq_true rfl)⟩ (kI fun r_36 σ_36 q_36 => ?_)
      obtain ⟨rfl, e36⟩ := q_36
      rw [e36]
      exact j_zret M dX7_readFish_39 (by first | exact Or.inl rfl | exact Or.inr rfl | exact bitv_01 _ _ | assumption | (exact res_01 (by assumption)) | grind) ⟨_, rfl, by (try dsimp only); unfold fishP; rw [if_pos h_13]; exact res_fail hT.1.2.2.2 rfl (fld4_refl _) (frm_refl _ _ _)⟩
  · refine j_iload_n M dX7_readFish_16 rfl ?_
    refine j_iconst (v := 5) M dX7_readFish_17 rfl ?_
    refine j_icmp_ne (tgt := 40) M dX7_readFish_18 (by decide) (fun h_18 => ?_) (fun h_18 => ?_)
    · have c := lt_incG hr.1 hr.2 h_18
      obtain ⟨⟨ix26, ix31⟩, ix36⟩ := ixT hr.1 c.1
      have hz : (1 : Int32) ≠ 26 + σ 40 7 1 := (show 26 + σ 40 7 1 ≠ (1 : Int32) from ix_c 26 5 1 hr.1 c.1).symm
      have hz0 : (0 : Int32) ≠ 26 + σ 40 7 1 := (show 26 + σ 40 7 1 ≠ (0 : Int32) from ix_c 26 5 0 hr.1 c.1).symm
      have tl := hT.2.2.2 hk (let_dg (T := σ 40 6) (N := N) (k := k) hb)
      refine j_aload_n M dX7_readFish_40 rfl ?_
      refine j_inv0 M lk_X7_120 (c_X7_nextToken (tl.1) (hk) (hT.1.2.1) (hT.1.2.2.1)) rv_X7 dX7_readFish_41 (Nat.le_of_ble_eq_true rfl) ⟨(Nat.le_of_ble_eq_true rfl), (Nat.le_of_ble_eq_true rfl)⟩ (kV fun σ_41 q_41 => ?_)
      obtain ⟨t1, t2, t3⟩ := q_41
      have e6 : σ_41 40 6 = σ 40 6 := t3 40 6 (by decide)
      have e7 : σ_41 40 7 = σ 40 7 := t3 40 7 (by decide)
      refine j_aload_n M dX7_readFish_44 rfl ?_
      refine gf_X7_28 M dX7_readFish_45 ?_
      refine j_bipush (v := 26) M dX7_readFish_48 rfl ?_
      refine j_iload_n M dX7_readFish_50 rfl ?_
      refine j_iadd M dX7_readFish_51 ?_
      refine j_iload_n M dX7_readFish_52 rfl ?_
      refine as_40_7 M dX7_readFish_53 (by first | assumption | decide | exact ix26.1 | exact ix26.2) (by first | assumption | decide | exact ix26.1 | exact ix26.2) ?_
      refine j_aload_n M dX7_readFish_54 rfl ?_
      refine gf_X7_28 M dX7_readFish_55 ?_
      refine j_iconst (v := 1) M dX7_readFish_58 rfl ?_
      refine j_dup2 M dX7_readFish_59 rfl rfl ?_
      refine al_40_7 M dX7_readFish_60 (by first | assumption | decide | exact ix26.1 | exact ix26.2) (by first | assumption | decide | exact ix26.1 | exact ix26.2) ?_
      refine j_iconst (v := 1) M dX7_readFish_61 rfl ?_
      refine j_iadd M dX7_readFish_62 ?_
      refine as_40_7 M dX7_readFish_63 (by first | assumption | decide | exact ix26.1 | exact ix26.2) (by first | assumption | decide | exact ix26.1 | exact ix26.2) ?_
      rw [up_up, up_same, e7, upI_ne _ _ hz]
      have fx : fld4 σ (up σ_41 40 7 (upI (upI (σ 40 7) (26 + σ 40 7 1) g) 1 (σ 40 7 1 + 1))) := fld4_ne (fld4_of t2) (by decide)
      have rx : frm σ (up σ_41 40 7 (upI (upI (σ 40 7) (26 + σ 40 7 1) g) 1 (σ 40 7 1 + 1))) 40 [0, 7] := frm_up (frm_mono t3 (by decide)) (by decide)
      have ex6 : (up σ_41 40 7 (upI (upI (σ 40 7) (26 + σ 40 7 1) g) 1 (σ 40 7 1 + 1))) 40 6 = σ 40 6 := by rw [up_ne _ _ (by decide)]; exact e6
      have ex0 : (up σ_41 40 7 (upI (upI (σ 40 7) (26 + σ 40 7 1) g) 1 (σ 40 7 1 + 1))) 40 7 0 = σ 40 7 0 := by rw [up_same, upI_ne _ _ (show (0 : Int32) ≠ 1 by decide), upI_ne _ _ hz0]
      refine j_aload_n M dX7_readFish_64 rfl ?_
      refine j_iconst (v := 0) M dX7_readFish_65 rfl ?_
      refine j_aload_n M dX7_readFish_66 rfl ?_
      refine gf_X7_28 M dX7_readFish_67 ?_
      refine j_iconst (v := 0) M dX7_readFish_70 rfl ?_
      refine al_40_7 M dX7_readFish_71 (by first | assumption | decide | exact ix26.1 | exact ix26.2) (by first | assumption | decide | exact ix26.1 | exact ix26.2) ?_
      rw [ex0]
      refine j_iconst (v := 1) M dX7_readFish_72 rfl ?_
      refine j_isub M dX7_readFish_73 ?_
      refine j_bipush (v := 31) M dX7_readFish_74 rfl ?_
      refine j_iload_n M dX7_readFish_76 rfl ?_
      refine j_iadd M dX7_readFish_77 ?_
      refine j_bipush (v := 59) M dX7_readFish_78 rfl ?_
      refine j_inv4 M lk_X7_126 (c_X7_takesNumber ((by rw [ex6, up_ne _ _ (by decide)]; exact t1)) ((by decide)) (ix31.1) (ix31.2)) rv_X7 dX7_readFish_80 (Nat.le_of_ble_eq_true rfl) ⟨(Nat.le_of_ble_eq_true rfl), (Nat.le_of_ble_eq_true rfl)⟩ (kI fun r_80 σ_80 q_80 => ?_)
      rw [ex6, up_same] at q_80
      have q1 := res_tr q_80 ex6 fx rx
      exact j_zret M dX7_readFish_83 (by first | exact Or.inl rfl | exact Or.inr rfl | exact bitv_01 _ _ | assumption | (exact res_01 (by assumption)) | grind) ⟨_, rfl, by (try dsimp only); unfold fishP; rw [if_neg h_13, if_neg h_18]; exact q1⟩
    · refine j_aload_n M dX7_readFish_21 rfl ?_
      refine j_aload_n M dX7_readFish_22 rfl ?_
      refine gf_X7_28 M dX7_readFish_23 ?_
      refine j_iconst (v := 0) M dX7_readFish_26 rfl ?_
      refine al_40_7 M dX7_readFish_27 (by first | assumption | decide | exact ix26.1 | exact ix26.2) (by first | assumption | decide | exact ix26.1 | exact ix26.2) ?_
      refine j_if_ne (tgt := 35) M dX7_readFish_28 (by decide) (fun h_28 => ?_) (fun h_28 => ?_)
      · refine j_iconst (v := 3) M dX7_readFish_35 rfl ?_
        refine j_inv1 M lk_X7_117 (c_X7_faults) rv_X7 dX7_readFish_36 (Nat.le_of_ble_eq_true rfl) ⟨(Nat.le_of_ble_eq_true rfl), (Nat.le_of_ble_eq_true rfl)⟩ (kI fun r_36 σ_36 q_36 => ?_)
        obtain ⟨rfl, e36⟩ := q_36
        rw [e36]
        exact j_zret M dX7_readFish_39 (by first | exact Or.inl rfl | exact Or.inr rfl | exact bitv_01 _ _ | assumption | (exact res_01 (by assumption)) | grind) ⟨_, rfl, by (try dsimp only); unfold fishP; rw [if_neg h_13, if_pos h_18]; exact res_fail hT.1.2.2.2 rfl (fld4_refl _) (frm_refl _ _ _)⟩
      · refine j_iconst (v := 1) M dX7_readFish_31 rfl ?_
        refine j_goto (tgt := 36) M dX7_readFish_32 (by decide) ?_
        refine j_inv1 M lk_X7_117 (c_X7_faults) rv_X7 dX7_readFish_36 (Nat.le_of_ble_eq_true rfl) ⟨(Nat.le_of_ble_eq_true rfl), (Nat.le_of_ble_eq_true rfl)⟩ (kI fun r_36 σ_36 q_36 => ?_)
        obtain ⟨rfl, e36⟩ := q_36
        rw [e36]
        exact j_zret M dX7_readFish_39 (by first | exact Or.inl rfl | exact Or.inr rfl | exact bitv_01 _ _ | assumption | (exact res_01 (by assumption)) | grind) ⟨_, rfl, by (try dsimp only); exact absurd h_28 h_13⟩
