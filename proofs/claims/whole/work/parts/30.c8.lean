set_option maxRecDepth 100000 in
theorem c_X7_undo {l : Launch} {G : Gw} {σ : Sg}   (hm : 0 ≤ σ 40 0 18 ∧ σ 40 0 18 ≤ 24) : Mt l G yX7_undo cX7_undo 2 (some .int) 0 0 [.ref (ad G 40 0)] σ (pI fun r τ => if σ 40 0 18 = 0 then r = -1000002 ∧ τ = σ else r = σ 40 0 18 - 1 ∧ τ 40 4 = getB (σ 40 9) (41 * (σ 40 0 18 - 1)) ∧ τ 40 0 = upI (σ 40 0) 18 (σ 40 0 18 - 1) ∧ frm σ τ 40 [0, 4]) := by
  refine mt_intro (by decide +kernel) (Nat.le_of_ble_eq_true rfl) (fun Φ M => ?_)
  show Φ 0 [some (.ref (ad G 40 0)), none] [] σ
  have lp : ∀ i : Int32, 0 ≤ i → ∀ τ : Sg, ¬ σ 40 0 18 = 0 → i ≤ 41 → (∀ j, 0 ≤ j → j < i → τ 40 4 j = σ 40 9 (41 * (σ 40 0 18 - 1) + j)) → τ 40 0 = upI (σ 40 0) 18 (σ 40 0 18 - 1) → frm σ τ 40 [0, 4] → Φ 22 [some (.ref (ad G 40 0)), some (.int i)] [] τ := by
    refine loop_up 41 (fun i hi ih τ h_4 hle hc e0 hfr => ?_)
    have pr := pred_rng hm.1 hm.2 h_4
    have e9 : τ 40 9 = σ 40 9 := hfr 40 9 (by decide)
    have em : τ 40 0 18 = (σ 40 0 18 - 1) := by rw [e0, upI_same]
    refine j_iload_n M dX7_undo_22 rfl ?_
    refine j_bipush (v := 41) M dX7_undo_23 rfl ?_
    refine j_icmp_ge (tgt := 54) M dX7_undo_25 (by decide) (fun h_25 => ?_) (fun h_25 => ?_)
    · refine j_extA M (c := 40) (k := 4) (n := 41) (n' := 41) (f := getB (σ 40 9) (41 * (σ 40 0 18 - 1))) (fun _ => rfl) rfl (by decide) (fun j j0 j1 => (hc j j0 (Int32.lt_of_lt_of_le j1 (Int32.not_lt.mp h_25))).symm) ?_
      refine j_aload_n M dX7_undo_54 rfl ?_
      refine gf_X7_151 M dX7_undo_55 ?_
      exact j_iret M dX7_undo_58 ⟨_, rfl, by (try dsimp only); rw [if_neg h_4]; exact ⟨by rw [up_ne _ _ (by decide)]; exact em, by rw [up_same], by rw [up_ne _ _ (by decide)]; exact e0, frm_up hfr (by decide)⟩⟩
    · have ii := ix41 (m := τ 40 0 18) (by rw [em]; exact pr.1) (by rw [em]; exact pr.2) hi h_25
      refine j_aload_n M dX7_undo_28 rfl ?_
      refine gf_X7_19 M dX7_undo_29 ?_
      refine j_iload_n M dX7_undo_32 rfl ?_
      refine j_aload_n M dX7_undo_33 rfl ?_
      refine gf_X7_34 M dX7_undo_34 ?_
      refine j_bipush (v := 41) M dX7_undo_37 rfl ?_
      refine j_aload_n M dX7_undo_39 rfl ?_
      refine gf_X7_151 M dX7_undo_40 ?_
      refine j_imul M dX7_undo_43 ?_
      refine j_iload_n M dX7_undo_44 rfl ?_
      refine j_iadd M dX7_undo_45 ?_
      refine al_40_9 M dX7_undo_46 (by first | assumption | exact ii.1.1 | exact ii.1.2 | decide | exact Int32.lt_of_lt_of_le h_25 (by decide)) (by first | assumption | exact ii.1.1 | exact ii.1.2 | decide | exact Int32.lt_of_lt_of_le h_25 (by decide)) ?_
      refine as_40_4 M dX7_undo_47 (by first | assumption | exact ii.1.1 | exact ii.1.2 | decide | exact Int32.lt_of_lt_of_le h_25 (by decide)) (by first | assumption | exact ii.1.1 | exact ii.1.2 | decide | exact Int32.lt_of_lt_of_le h_25 (by decide)) ?_
      refine j_iinc_1 M dX7_undo_48 (show _ + Int32.ofInt 1 = _ + 1 from rfl) (by exact (by first | trivial | rfl)) ?_
      refine j_goto (tgt := 22) M dX7_undo_51 (by decide) ?_
      refine ih h_25 _ h_4 (inc_lt hi h_25).2.1 ?_ (by rw [up_ne _ _ (by decide)]; exact e0) (frm_up hfr (by decide))
      intro j j0 j1
      rw [up_same, e9, em]
      by_cases e : j = i
      · rw [e, upI_same]
      · rw [upI_ne _ _ e]; exact hc j j0 (lt_of_inc hi h_25 j1 e)
  refine j_aload_n M dX7_undo_0 rfl ?_
  refine gf_X7_151 M dX7_undo_1 ?_
  refine j_if_ne (tgt := 10) M dX7_undo_4 (by decide) (fun h_4 => ?_) (fun h_4 => ?_)
  · refine j_aload_n M dX7_undo_10 rfl ?_
    refine j_dup M dX7_undo_11 rfl ?_
    refine gf_X7_151 M dX7_undo_12 ?_
    refine j_iconst (v := 1) M dX7_undo_15 rfl ?_
    refine j_isub M dX7_undo_16 ?_
    refine pf_X7_151 M dX7_undo_17 ?_
    refine j_iconst (v := 0) M dX7_undo_20 rfl ?_
    refine j_istore_1 M dX7_undo_21 (by exact (by first | trivial | rfl)) ?_
    exact lp 0 (by decide) _ h_4 (by decide) (fun j j0 j1 => absurd (Int32.lt_of_le_of_lt j0 j1) (by decide)) (by rw [up_same]) (frm_up (frm_refl _ _ _) (by decide))
  · refine j_ldc M k_X7_181 dX7_undo_7 ?_
    exact j_iret M dX7_undo_9 ⟨_, rfl, by (try dsimp only); rw [if_pos h_4]; exact ⟨rfl, rfl⟩⟩
set_option maxRecDepth 100000 in
theorem c_X7_nights {l : Launch} {G : Gw} {σ : Sg} {n : Int32}  (hS : ¬ σ 40 0 4 = 0 → WF (σ 40 4)) (hm : 0 ≤ σ 40 0 18 ∧ σ 40 0 18 ≤ 24) : Mt l G yX7_nights cX7_nights 3 (some .int) 5 114 [.ref (ad G 40 0), .int n] σ (pI fun r τ => if σ 40 0 4 = 0 then r = -1000002 ∧ τ = σ else if ¬ inR 1 n 24 then r = -1000001 ∧ τ = σ else if 999 < σ 40 4 4 + n then r = -1000003 ∧ τ = σ else r = sumP (nst (σ 40 4, σ 40 9, σ 40 0 18, σ 40 8) n).1 ((nst (σ 40 4, σ 40 9, σ 40 0 18, σ 40 8) n).1 0) ∧ τ 40 4 = (nst (σ 40 4, σ 40 9, σ 40 0 18, σ 40 8) n).1 ∧ τ 40 9 = (nst (σ 40 4, σ 40 9, σ 40 0 18, σ 40 8) n).2.1 ∧ τ 40 0 = upI (σ 40 0) 18 (nst (σ 40 4, σ 40 9, σ 40 0 18, σ 40 8) n).2.2.1 ∧ τ 40 8 = (nst (σ 40 4, σ 40 9, σ 40 0 18, σ 40 8) n).2.2.2 ∧ frm σ τ 40 [0, 4, 8, 9]) := by
  refine mt_intro (by decide +kernel) (Nat.le_of_ble_eq_true rfl) (fun Φ M => ?_)
  show Φ 0 [some (.ref (ad G 40 0)), some (.int n), none] [] σ
  have lp : ∀ i : Int32, 0 ≤ i → ∀ τ : Sg, ¬ σ 40 0 4 = 0 → inR 1 n 24 → ¬ 999 < σ 40 4 4 + n → i ≤ n → τ 40 4 = (nst (σ 40 4, σ 40 9, σ 40 0 18, σ 40 8) i).1 → τ 40 9 = (nst (σ 40 4, σ 40 9, σ 40 0 18, σ 40 8) i).2.1 → τ 40 0 = upI (σ 40 0) 18 (nst (σ 40 4, σ 40 9, σ 40 0 18, σ 40 8) i).2.2.1 → τ 40 8 = (nst (σ 40 4, σ 40 9, σ 40 0 18, σ 40 8) i).2.2.2 → frm σ τ 40 [0, 4, 8, 9] → Φ 44 [some (.ref (ad G 40 0)), some (.int n), some (.int i)] [] τ := by
    refine loop_up n (fun i hi ih τ h_4 b_16 h_36 hle e4 e9 e0 e8 hfr => ?_)
    have wq := nst_WF (q := (σ 40 4, σ 40 9, σ 40 0 18, σ 40 8)) (hS h_4) hm i
    have em : τ 40 0 18 = (nst (σ 40 4, σ 40 9, σ 40 0 18, σ 40 8) i).2.2.1 := by rw [e0, upI_same]
    refine j_iload_n M dX7_nights_44 rfl ?_
    refine j_iload_n M dX7_nights_45 rfl ?_
    refine j_icmp_ge (tgt := 63) M dX7_nights_46 (by decide) (fun h_46 => ?_) (fun h_46 => ?_)
    · refine j_aload_n M dX7_nights_63 rfl ?_
      refine j_inv0 M lk_X7_190 (c_X7_allPages ((by rw [e4]; exact wq.1.1.z))) rv_X7 dX7_nights_64 (Nat.le_of_ble_eq_true rfl) ⟨(Nat.le_of_ble_eq_true rfl), (Nat.le_of_ble_eq_true rfl)⟩ (kE ?_)
      exact j_iret M dX7_nights_67 ⟨_, rfl, by (try dsimp only); have ei : i = n := Int32.le_antisymm hle (Int32.not_lt.mp h_46); subst ei; rw [if_neg h_4, if_neg (fun q => q b_16), if_neg h_36]; exact ⟨by rw [e4], e4, e9, e0, e8, hfr⟩⟩
    · refine j_aload_n M dX7_nights_49 rfl ?_
      refine j_inv0 M lk_X7_184 (c_X7_note ((by rw [em]; exact wq.2))) rv_X7 dX7_nights_50 (Nat.le_of_ble_eq_true rfl) ⟨(Nat.le_of_ble_eq_true rfl), (Nat.le_of_ble_eq_true rfl)⟩ (kV fun σ_50 q_50 => ?_)
      obtain ⟨n0, n9, nf⟩ := q_50
      have n4 := nf 40 4 (by decide)
      have n8 := nf 40 8 (by decide)
      refine j_aload_n M dX7_nights_53 rfl ?_
      refine j_inv0 M lk_X7_187 (c_X7_oneNight ((by rw [n4, e4]; exact wq.1.1))) rv_X7 dX7_nights_54 (Nat.le_of_ble_eq_true rfl) ⟨(Nat.le_of_ble_eq_true rfl), (Nat.le_of_ble_eq_true rfl)⟩ (kV fun σ_54 q_54 => ?_)
      obtain ⟨g1, g2, g3⟩ := q_54
      refine j_iinc_2 M dX7_nights_57 (show _ + Int32.ofInt 1 = _ + 1 from rfl) (by exact (by first | trivial | rfl)) ?_
      refine j_goto (tgt := 44) M dX7_nights_60 (by decide) ?_
      refine ih h_46 _ h_4 b_16 h_36 (inc_lt hi h_46).2.1 ?_ ?_ ?_ ?_ ?_
      · rw [g1, nst_s hi h_46, n4, n8, e4, e8]; rfl
      · rw [g3 40 9 (by decide), n9, nst_s hi h_46, em, e9, e4]; rfl
      · rw [g3 40 0 (by decide), n0, nst_s hi h_46, em, e0, upI_upI]; rfl
      · rw [g2, nst_s hi h_46, n4, n8, e4, e8]; rfl
      · exact frm_trans hfr (frm_trans (frm_mono nf (by decide)) (frm_mono g3 (by decide)))
  refine j_aload_n M dX7_nights_0 rfl ?_
  refine gf_X7_147 M dX7_nights_1 ?_
  refine j_if_ne (tgt := 10) M dX7_nights_4 (by decide) (fun h_4 => ?_) (fun h_4 => ?_)
  · refine j_iload_n M dX7_nights_10 rfl ?_
    refine j_i2l M dX7_nights_11 ?_
    refine j_lconst (v := 1) M dX7_nights_12 rfl ?_
    refine j_ldc2 M kl_X7_182 dX7_nights_13 ?_
    refine j_invs3 M lk_X7_63 (c_X7_inI (a := 1) (b := 24) rfl (by decide) (by decide)) dX7_nights_16 (Nat.le_of_ble_eq_true rfl) ⟨(Nat.le_of_ble_eq_true rfl), (Nat.le_of_ble_eq_true rfl)⟩ (kP fun r_16 k_16 => ?_)
    refine j_if_ne (tgt := 25) M dX7_nights_19 (by decide) (fun h_19 => ?_) (fun h_19 => ?_)
    · have b_16 := ifT k_16 h_19
      refine j_aload_n M dX7_nights_25 rfl ?_
      refine gf_X7_19 M dX7_nights_26 ?_
      refine j_iconst (v := 4) M dX7_nights_29 rfl ?_
      refine al_40_4 M dX7_nights_30 (by first | assumption | decide) (by first | assumption | decide) ?_
      refine j_iload_n M dX7_nights_31 rfl ?_
      refine j_iadd M dX7_nights_32 ?_
      refine j_sipush (v := 999) M dX7_nights_33 rfl ?_
      refine j_icmp_le (tgt := 42) M dX7_nights_36 (by decide) (fun h_36 => ?_) (fun h_36 => ?_)
      · refine j_iconst (v := 0) M dX7_nights_42 rfl ?_
        refine j_istore_2 M dX7_nights_43 (by exact (by first | trivial | rfl)) ?_
        exact lp 0 (by decide) σ h_4 b_16 h_36 (Int32.le_trans (by decide) b_16.1) rfl rfl (by rw [show (nst (σ 40 4, σ 40 9, σ 40 0 18, σ 40 8) 0).2.2.1 = σ 40 0 18 from rfl, upI_self]) rfl (frm_refl _ _ _)
      · refine j_ldc M k_X7_90 dX7_nights_39 ?_
        exact j_iret M dX7_nights_41 ⟨_, rfl, by (try dsimp only); simp [h_4, b_16, h_36]⟩
    · have b_16 := ifF k_16 h_19
      refine j_ldc M k_X7_73 dX7_nights_22 ?_
      exact j_iret M dX7_nights_24 ⟨_, rfl, by (try dsimp only); simp [h_4, b_16]⟩
  · refine j_ldc M k_X7_181 dX7_nights_7 ?_
    exact j_iret M dX7_nights_9 ⟨_, rfl, by (try dsimp only); simp [h_4]⟩
set_option maxRecDepth 100000 in
theorem c_X7_light {l : Launch} {G : Gw} {σ : Sg} {b : Int32} {o : Int32}  (hS : SW (σ 40 4)) (hm : 0 ≤ σ 40 0 18 ∧ σ 40 0 18 ≤ 24) : Mt l G yX7_light cX7_light 3 (some .int) 2 46 [.ref (ad G 40 0), .int b, .int o] σ (pI fun r τ => if ¬ (isB (σ 40 4) b ∧ inR 0 o 1) then r = -1000001 ∧ τ = σ else if bitv (σ 40 4 5) b = (if o = 1 then 1 else 0) ∨ (o = 1 ∧ ¬ ones (σ 40 4 5) < σ 40 4 3) then r = -1000002 ∧ τ = σ else r = σ 40 4 5 ^^^ shl32 1 b ∧ actE σ τ (upI (σ 40 4) 5 (σ 40 4 5 ^^^ shl32 1 b))) := by
  refine mt_intro (by decide +kernel) (Nat.le_of_ble_eq_true rfl) (fun Φ M => ?_)
  show Φ 0 [some (.ref (ad G 40 0)), some (.int b), some (.int o)] [] σ
  refine j_aload_n M dX7_light_0 rfl ?_
  refine j_iload_n M dX7_light_1 rfl ?_
  refine j_inv1 M lk_X7_194 (c_X7_isBook) rv_X7 dX7_light_2 (Nat.le_of_ble_eq_true rfl) ⟨(Nat.le_of_ble_eq_true rfl), (Nat.le_of_ble_eq_true rfl)⟩ (kP fun r_2 k_2 => ?_)
  refine j_if_eq (tgt := 18) M dX7_light_5 (by decide) (fun h_5 => ?_) (fun h_5 => ?_)
  · have b_2 := ifF k_2 h_5
    refine j_ldc M k_X7_73 dX7_light_18 ?_
    exact j_iret M dX7_light_20 ⟨_, rfl, by (try dsimp only); first | (simp [b_2]; done) | (exfalso; simp_all; done) | (simp only [up_same, upI_same, n4]; rw [if_neg (fun q => q ⟨b_2, b_12⟩), if_neg (by simp [b_2])]; exact ⟨by first | trivial | rfl, actE_of n0 n9 nf⟩)⟩
  · have b_2 := ifT k_2 h_5
    refine j_iload_n M dX7_light_8 rfl ?_
    refine j_i2l M dX7_light_9 ?_
    refine j_lconst (v := 0) M dX7_light_10 rfl ?_
    refine j_lconst (v := 1) M dX7_light_11 rfl ?_
    refine j_invs3 M lk_X7_63 (c_X7_inI (a := 0) (b := 1) rfl (by decide) (by decide)) dX7_light_12 (Nat.le_of_ble_eq_true rfl) ⟨(Nat.le_of_ble_eq_true rfl), (Nat.le_of_ble_eq_true rfl)⟩ (kP fun r_12 k_12 => ?_)
    refine j_if_ne (tgt := 21) M dX7_light_15 (by decide) (fun h_15 => ?_) (fun h_15 => ?_)
    · have b_12 := ifT k_12 h_15
      have hB := hS.b b_2
      refine j_aload_n M dX7_light_21 rfl ?_
      refine gf_X7_19 M dX7_light_22 ?_
      refine j_iconst (v := 5) M dX7_light_25 rfl ?_
      refine al_40_4 M dX7_light_26 (by first | assumption | decide) (by first | assumption | decide) ?_
      refine j_iload_n M dX7_light_27 rfl ?_
      refine j_invs2 M lk_X7_154 (c_X7_has) dX7_light_28 (Nat.le_of_ble_eq_true rfl) ⟨(Nat.le_of_ble_eq_true rfl), (Nat.le_of_ble_eq_true rfl)⟩ (kE ?_)
      refine j_iload_n M dX7_light_31 rfl ?_
      refine j_iconst (v := 1) M dX7_light_32 rfl ?_
      refine j_icmp_ne (tgt := 40) M dX7_light_33 (by decide) (fun h_33 => ?_) (fun h_33 => ?_)
      · refine j_iconst (v := 0) M dX7_light_40 rfl ?_
        refine j_icmp_eq (tgt := 67) M dX7_light_41 (by decide) (fun h_41 => ?_) (fun h_41 => ?_)
        · refine j_ldc M k_X7_181 dX7_light_67 ?_
          exact j_iret M dX7_light_69 ⟨_, rfl, by (try dsimp only); first | (simp [b_2, b_12, h_33, h_41]; done) | (exfalso; simp_all; done) | (simp only [up_same, upI_same, n4]; rw [if_neg (fun q => q ⟨b_2, b_12⟩), if_neg (by simp [b_2, b_12, h_33, h_41])]; exact ⟨by first | trivial | rfl, actE_of n0 n9 nf⟩)⟩
        · refine j_iload_n M dX7_light_44 rfl ?_
          refine j_iconst (v := 1) M dX7_light_45 rfl ?_
          refine j_icmp_ne (tgt := 70) M dX7_light_46 (by decide) (fun h_46 => ?_) (fun h_46 => ?_)
          · refine j_aload_n M dX7_light_70 rfl ?_
            refine j_inv0 M lk_X7_184 (c_X7_note (hm)) rv_X7 dX7_light_71 (Nat.le_of_ble_eq_true rfl) ⟨(Nat.le_of_ble_eq_true rfl), (Nat.le_of_ble_eq_true rfl)⟩ (kV fun σ_71 q_71 => ?_)
            obtain ⟨n0, n9, nf⟩ := q_71
            have n4 := nf 40 4 (by decide)
            refine j_aload_n M dX7_light_74 rfl ?_
            refine gf_X7_19 M dX7_light_75 ?_
            refine j_iconst (v := 5) M dX7_light_78 rfl ?_
            refine j_dup2 M dX7_light_79 rfl rfl ?_
            refine al_40_4 M dX7_light_80 (by first | assumption | decide) (by first | assumption | decide) ?_
            refine j_iconst (v := 1) M dX7_light_81 rfl ?_
            refine j_iload_n M dX7_light_82 rfl ?_
            refine j_ishl M dX7_light_83 ?_
            refine j_ixor M dX7_light_84 ?_
            refine as_40_4 M dX7_light_85 (by first | assumption | decide) (by first | assumption | decide) ?_
            refine j_aload_n M dX7_light_86 rfl ?_
            refine gf_X7_19 M dX7_light_87 ?_
            refine j_iconst (v := 5) M dX7_light_90 rfl ?_
            refine al_40_4 M dX7_light_91 (by first | assumption | decide) (by first | assumption | decide) ?_
            exact j_iret M dX7_light_92 ⟨_, rfl, by (try dsimp only); first | (simp [b_2, b_12, h_33, h_41, h_46]; done) | (exfalso; simp_all; done) | (simp only [up_same, upI_same, n4]; rw [if_neg (fun q => q ⟨b_2, b_12⟩), if_neg (by simp [b_2, b_12, h_33, h_41, h_46])]; exact ⟨by first | trivial | rfl, actE_of n0 n9 nf⟩)⟩
          · refine j_aload_n M dX7_light_49 rfl ?_
            refine gf_X7_19 M dX7_light_50 ?_
            refine j_iconst (v := 5) M dX7_light_53 rfl ?_
            refine al_40_4 M dX7_light_54 (by first | assumption | decide) (by first | assumption | decide) ?_
            refine j_invs1 M lk_X7_197 (c_X7_ones (hB.1.1.2.2.2.2.1.1) (hB.1.1.2.2.2.2.1.2)) dX7_light_55 (Nat.le_of_ble_eq_true rfl) ⟨(Nat.le_of_ble_eq_true rfl), (Nat.le_of_ble_eq_true rfl)⟩ (kE ?_)
            refine j_aload_n M dX7_light_58 rfl ?_
            refine gf_X7_19 M dX7_light_59 ?_
            refine j_iconst (v := 3) M dX7_light_62 rfl ?_
            refine al_40_4 M dX7_light_63 (by first | assumption | decide) (by first | assumption | decide) ?_
            refine j_icmp_lt (tgt := 70) M dX7_light_64 (by decide) (fun h_64 => ?_) (fun h_64 => ?_)
            · refine j_aload_n M dX7_light_70 rfl ?_
              refine j_inv0 M lk_X7_184 (c_X7_note (hm)) rv_X7 dX7_light_71 (Nat.le_of_ble_eq_true rfl) ⟨(Nat.le_of_ble_eq_true rfl), (Nat.le_of_ble_eq_true rfl)⟩ (kV fun σ_71 q_71 => ?_)
              obtain ⟨n0, n9, nf⟩ := q_71
              have n4 := nf 40 4 (by decide)
              refine j_aload_n M dX7_light_74 rfl ?_
              refine gf_X7_19 M dX7_light_75 ?_
              refine j_iconst (v := 5) M dX7_light_78 rfl ?_
              refine j_dup2 M dX7_light_79 rfl rfl ?_
              refine al_40_4 M dX7_light_80 (by first | assumption | decide) (by first | assumption | decide) ?_
              refine j_iconst (v := 1) M dX7_light_81 rfl ?_
              refine j_iload_n M dX7_light_82 rfl ?_
              refine j_ishl M dX7_light_83 ?_
              refine j_ixor M dX7_light_84 ?_
              refine as_40_4 M dX7_light_85 (by first | assumption | decide) (by first | assumption | decide) ?_
              refine j_aload_n M dX7_light_86 rfl ?_
              refine gf_X7_19 M dX7_light_87 ?_
              refine j_iconst (v := 5) M dX7_light_90 rfl ?_
              refine al_40_4 M dX7_light_91 (by first | assumption | decide) (by first | assumption | decide) ?_
              exact j_iret M dX7_light_92 ⟨_, rfl, by (try dsimp only); first | (simp [b_2, b_12, h_33, h_41, h_46, h_64]; done) | (exfalso; simp_all; done) | (simp only [up_same, upI_same, n4]; rw [if_neg (fun q => q ⟨b_2, b_12⟩), if_neg (by simp [b_2, b_12, h_33, h_41, h_46, h_64])]; exact ⟨by first | trivial | rfl, actE_of n0 n9 nf⟩)⟩
            · refine j_ldc M k_X7_181 dX7_light_67 ?_
              exact j_iret M dX7_light_69 ⟨_, rfl, by (try dsimp only); first | (simp [b_2, b_12, h_33, h_41, h_46, h_64]; done) | (exfalso; simp_all; done) | (simp only [up_same, upI_same, n4]; rw [if_neg (fun q => q ⟨b_2, b_12⟩), if_neg (by simp [b_2, b_12, h_33, h_41, h_46, h_64])]; exact ⟨by first | trivial | rfl, actE_of n0 n9 nf⟩)⟩
      · refine j_iconst (v := 1) M dX7_light_36 rfl ?_
        refine j_goto (tgt := 41) M dX7_light_37 (by decide) ?_
        refine j_icmp_eq (tgt := 67) M dX7_light_41 (by decide) (fun h_41 => ?_) (fun h_41 => ?_)
        · refine j_ldc M k_X7_181 dX7_light_67 ?_
          exact j_iret M dX7_light_69 ⟨_, rfl, by (try dsimp only); first | (simp [b_2, b_12, h_33, h_41]; done) | (exfalso; simp_all; done) | (simp only [up_same, upI_same, n4]; rw [if_neg (fun q => q ⟨b_2, b_12⟩), if_neg (by simp [b_2, b_12, h_33, h_41])]; exact ⟨by first | trivial | rfl, actE_of n0 n9 nf⟩)⟩
        · refine j_iload_n M dX7_light_44 rfl ?_
          refine j_iconst (v := 1) M dX7_light_45 rfl ?_
          refine j_icmp_ne (tgt := 70) M dX7_light_46 (by decide) (fun h_46 => ?_) (fun h_46 => ?_)
          · refine j_aload_n M dX7_light_70 rfl ?_
            refine j_inv0 M lk_X7_184 (c_X7_note (hm)) rv_X7 dX7_light_71 (Nat.le_of_ble_eq_true rfl) ⟨(Nat.le_of_ble_eq_true rfl), (Nat.le_of_ble_eq_true rfl)⟩ (kV fun σ_71 q_71 => ?_)
            obtain ⟨n0, n9, nf⟩ := q_71
            have n4 := nf 40 4 (by decide)
            refine j_aload_n M dX7_light_74 rfl ?_
            refine gf_X7_19 M dX7_light_75 ?_
            refine j_iconst (v := 5) M dX7_light_78 rfl ?_
            refine j_dup2 M dX7_light_79 rfl rfl ?_
            refine al_40_4 M dX7_light_80 (by first | assumption | decide) (by first | assumption | decide) ?_
            refine j_iconst (v := 1) M dX7_light_81 rfl ?_
            refine j_iload_n M dX7_light_82 rfl ?_
            refine j_ishl M dX7_light_83 ?_
            refine j_ixor M dX7_light_84 ?_
            refine as_40_4 M dX7_light_85 (by first | assumption | decide) (by first | assumption | decide) ?_
            refine j_aload_n M dX7_light_86 rfl ?_
            refine gf_X7_19 M dX7_light_87 ?_
            refine j_iconst (v := 5) M dX7_light_90 rfl ?_
            refine al_40_4 M dX7_light_91 (by first | assumption | decide) (by first | assumption | decide) ?_
            exact j_iret M dX7_light_92 ⟨_, rfl, by (try dsimp only); first | (simp [b_2, b_12, h_33, h_41, h_46]; done) | (exfalso; simp_all; done) | (simp only [up_same, upI_same, n4]; rw [if_neg (fun q => q ⟨b_2, b_12⟩), if_neg (by simp [b_2, b_12, h_33, h_41, h_46])]; exact ⟨by first | trivial | rfl, actE_of n0 n9 nf⟩)⟩
          · refine j_aload_n M dX7_light_49 rfl ?_
            refine gf_X7_19 M dX7_light_50 ?_
            refine j_iconst (v := 5) M dX7_light_53 rfl ?_
            refine al_40_4 M dX7_light_54 (by first | assumption | decide) (by first | assumption | decide) ?_
            refine j_invs1 M lk_X7_197 (c_X7_ones (hB.1.1.2.2.2.2.1.1) (hB.1.1.2.2.2.2.1.2)) dX7_light_55 (Nat.le_of_ble_eq_true rfl) ⟨(Nat.le_of_ble_eq_true rfl), (Nat.le_of_ble_eq_true rfl)⟩ (kE ?_)
            refine j_aload_n M dX7_light_58 rfl ?_
            refine gf_X7_19 M dX7_light_59 ?_
            refine j_iconst (v := 3) M dX7_light_62 rfl ?_
            refine al_40_4 M dX7_light_63 (by first | assumption | decide) (by first | assumption | decide) ?_
            refine j_icmp_lt (tgt := 70) M dX7_light_64 (by decide) (fun h_64 => ?_) (fun h_64 => ?_)
            · refine j_aload_n M dX7_light_70 rfl ?_
              refine j_inv0 M lk_X7_184 (c_X7_note (hm)) rv_X7 dX7_light_71 (Nat.le_of_ble_eq_true rfl) ⟨(Nat.le_of_ble_eq_true rfl), (Nat.le_of_ble_eq_true rfl)⟩ (kV fun σ_71 q_71 => ?_)
              obtain ⟨n0, n9, nf⟩ := q_71
              have n4 := nf 40 4 (by decide)
              refine j_aload_n M dX7_light_74 rfl ?_
              refine gf_X7_19 M dX7_light_75 ?_
              refine j_iconst (v := 5) M dX7_light_78 rfl ?_
              refine j_dup2 M dX7_light_79 rfl rfl ?_
              refine al_40_4 M dX7_light_80 (by first | assumption | decide) (by first | assumption | decide) ?_
              refine j_iconst (v := 1) M dX7_light_81 rfl ?_
              refine j_iload_n M dX7_light_82 rfl ?_
              refine j_ishl M dX7_light_83 ?_
              refine j_ixor M dX7_light_84 ?_
              refine as_40_4 M dX7_light_85 (by first | assumption | decide) (by first | assumption | decide) ?_
              refine j_aload_n M dX7_light_86 rfl ?_
              refine gf_X7_19 M dX7_light_87 ?_
              refine j_iconst (v := 5) M dX7_light_90 rfl ?_
              refine al_40_4 M dX7_light_91 (by first | assumption | decide) (by first | assumption | decide) ?_
              exact j_iret M dX7_light_92 ⟨_, rfl, by (try dsimp only); first | (simp [b_2, b_12, h_33, h_41, h_46, h_64]; done) | (exfalso; simp_all; done) | (simp only [up_same, upI_same, n4]; rw [if_neg (fun q => q ⟨b_2, b_12⟩), if_neg (by simp [b_2, b_12, h_33, h_41, h_46, h_64])]; exact ⟨by first | trivial | rfl, actE_of n0 n9 nf⟩)⟩
            · refine j_ldc M k_X7_181 dX7_light_67 ?_
              exact j_iret M dX7_light_69 ⟨_, rfl, by (try dsimp only); first | (simp [b_2, b_12, h_33, h_41, h_46, h_64]; done) | (exfalso; simp_all; done) | (simp only [up_same, upI_same, n4]; rw [if_neg (fun q => q ⟨b_2, b_12⟩), if_neg (by simp [b_2, b_12, h_33, h_41, h_46, h_64])]; exact ⟨by first | trivial | rfl, actE_of n0 n9 nf⟩)⟩
    · have b_12 := ifF k_12 h_15
      refine j_ldc M k_X7_73 dX7_light_18 ?_
      exact j_iret M dX7_light_20 ⟨_, rfl, by (try dsimp only); first | (simp [b_2, b_12]; done) | (exfalso; simp_all; done) | (simp only [up_same, upI_same, n4]; rw [if_neg (fun q => q ⟨b_2, b_12⟩), if_neg (by simp [b_2, b_12])]; exact ⟨by first | trivial | rfl, actE_of n0 n9 nf⟩)⟩
set_option maxRecDepth 100000 in
theorem c_X7_keepIt {l : Launch} {G : Gw} {σ : Sg} {b : Int32} {o : Int32}  (hS : SW (σ 40 4)) (hm : 0 ≤ σ 40 0 18 ∧ σ 40 0 18 ≤ 24) : Mt l G yX7_keepIt cX7_keepIt 3 (some .int) 2 46 [.ref (ad G 40 0), .int b, .int o] σ (pI fun r τ => if ¬ (isB (σ 40 4) b ∧ inR 0 o 1) then r = -1000001 ∧ τ = σ else if bitv (σ 40 4 6) b = (if o = 1 then 1 else 0) then r = -1000002 ∧ τ = σ else r = σ 40 4 6 ^^^ shl32 1 b ∧ actE σ τ (upI (σ 40 4) 6 (σ 40 4 6 ^^^ shl32 1 b))) := by
  refine mt_intro (by decide +kernel) (Nat.le_of_ble_eq_true rfl) (fun Φ M => ?_)
  show Φ 0 [some (.ref (ad G 40 0)), some (.int b), some (.int o)] [] σ
  refine j_aload_n M dX7_keepIt_0 rfl ?_
  refine j_iload_n M dX7_keepIt_1 rfl ?_
  refine j_inv1 M lk_X7_194 (c_X7_isBook) rv_X7 dX7_keepIt_2 (Nat.le_of_ble_eq_true rfl) ⟨(Nat.le_of_ble_eq_true rfl), (Nat.le_of_ble_eq_true rfl)⟩ (kP fun r_2 k_2 => ?_)
  refine j_if_eq (tgt := 18) M dX7_keepIt_5 (by decide) (fun h_5 => ?_) (fun h_5 => ?_)
  · have b_2 := ifF k_2 h_5
    refine j_ldc M k_X7_73 dX7_keepIt_18 ?_
    exact j_iret M dX7_keepIt_20 ⟨_, rfl, by (try dsimp only); first | (simp [b_2]; done) | (exfalso; simp_all; done) | (simp only [up_same, upI_same, n4]; rw [if_neg (fun q => q ⟨b_2, b_12⟩), if_neg (by simp [b_2])]; exact ⟨by first | trivial | rfl, actE_of n0 n9 nf⟩)⟩
  · have b_2 := ifT k_2 h_5
    refine j_iload_n M dX7_keepIt_8 rfl ?_
    refine j_i2l M dX7_keepIt_9 ?_
    refine j_lconst (v := 0) M dX7_keepIt_10 rfl ?_
    refine j_lconst (v := 1) M dX7_keepIt_11 rfl ?_
    refine j_invs3 M lk_X7_63 (c_X7_inI (a := 0) (b := 1) rfl (by decide) (by decide)) dX7_keepIt_12 (Nat.le_of_ble_eq_true rfl) ⟨(Nat.le_of_ble_eq_true rfl), (Nat.le_of_ble_eq_true rfl)⟩ (kP fun r_12 k_12 => ?_)
    refine j_if_ne (tgt := 21) M dX7_keepIt_15 (by decide) (fun h_15 => ?_) (fun h_15 => ?_)
    · have b_12 := ifT k_12 h_15
      refine j_aload_n M dX7_keepIt_21 rfl ?_
      refine gf_X7_19 M dX7_keepIt_22 ?_
      refine j_bipush (v := 6) M dX7_keepIt_25 rfl ?_
      refine al_40_4 M dX7_keepIt_27 (by first | assumption | decide) (by first | assumption | decide) ?_
      refine j_iload_n M dX7_keepIt_28 rfl ?_
      refine j_invs2 M lk_X7_154 (c_X7_has) dX7_keepIt_29 (Nat.le_of_ble_eq_true rfl) ⟨(Nat.le_of_ble_eq_true rfl), (Nat.le_of_ble_eq_true rfl)⟩ (kE ?_)
      refine j_iload_n M dX7_keepIt_32 rfl ?_
      refine j_iconst (v := 1) M dX7_keepIt_33 rfl ?_
      refine j_icmp_ne (tgt := 41) M dX7_keepIt_34 (by decide) (fun h_34 => ?_) (fun h_34 => ?_)
      · refine j_iconst (v := 0) M dX7_keepIt_41 rfl ?_
        refine j_icmp_ne (tgt := 48) M dX7_keepIt_42 (by decide) (fun h_42 => ?_) (fun h_42 => ?_)
        · refine j_aload_n M dX7_keepIt_48 rfl ?_
          refine j_inv0 M lk_X7_184 (c_X7_note (hm)) rv_X7 dX7_keepIt_49 (Nat.le_of_ble_eq_true rfl) ⟨(Nat.le_of_ble_eq_true rfl), (Nat.le_of_ble_eq_true rfl)⟩ (kV fun σ_49 q_49 => ?_)
          obtain ⟨n0, n9, nf⟩ := q_49
          have n4 := nf 40 4 (by decide)
          refine j_aload_n M dX7_keepIt_52 rfl ?_
          refine gf_X7_19 M dX7_keepIt_53 ?_
          refine j_bipush (v := 6) M dX7_keepIt_56 rfl ?_
          refine j_dup2 M dX7_keepIt_58 rfl rfl ?_
          refine al_40_4 M dX7_keepIt_59 (by first | assumption | decide) (by first | assumption | decide) ?_
          refine j_iconst (v := 1) M dX7_keepIt_60 rfl ?_
          refine j_iload_n M dX7_keepIt_61 rfl ?_
          refine j_ishl M dX7_keepIt_62 ?_
          refine j_ixor M dX7_keepIt_63 ?_
          refine as_40_4 M dX7_keepIt_64 (by first | assumption | decide) (by first | assumption | decide) ?_
          refine j_aload_n M dX7_keepIt_65 rfl ?_
          refine gf_X7_19 M dX7_keepIt_66 ?_
          refine j_bipush (v := 6) M dX7_keepIt_69 rfl ?_
          refine al_40_4 M dX7_keepIt_71 (by first | assumption | decide) (by first | assumption | decide) ?_
          exact j_iret M dX7_keepIt_72 ⟨_, rfl, by (try dsimp only); first | (simp [b_2, b_12, h_34, h_42]; done) | (exfalso; simp_all; done) | (simp only [up_same, upI_same, n4]; rw [if_neg (fun q => q ⟨b_2, b_12⟩), if_neg (by simp [b_2, b_12, h_34, h_42])]; exact ⟨by first | trivial | rfl, actE_of n0 n9 nf⟩)⟩
        · refine j_ldc M k_X7_181 dX7_keepIt_45 ?_
          exact j_iret M dX7_keepIt_47 ⟨_, rfl, by (try dsimp only); first | (simp [b_2, b_12, h_34, h_42]; done) | (exfalso; simp_all; done) | (simp only [up_same, upI_same, n4]; rw [if_neg (fun q => q ⟨b_2, b_12⟩), if_neg (by simp [b_2, b_12, h_34, h_42])]; exact ⟨by first | trivial | rfl, actE_of n0 n9 nf⟩)⟩
      · refine j_iconst (v := 1) M dX7_keepIt_37 rfl ?_
        refine j_goto (tgt := 42) M dX7_keepIt_38 (by decide) ?_
        refine j_icmp_ne (tgt := 48) M dX7_keepIt_42 (by decide) (fun h_42 => ?_) (fun h_42 => ?_)
        · refine j_aload_n M dX7_keepIt_48 rfl ?_
          refine j_inv0 M lk_X7_184 (c_X7_note (hm)) rv_X7 dX7_keepIt_49 (Nat.le_of_ble_eq_true rfl) ⟨(Nat.le_of_ble_eq_true rfl), (Nat.le_of_ble_eq_true rfl)⟩ (kV fun σ_49 q_49 => ?_)
          obtain ⟨n0, n9, nf⟩ := q_49
          have n4 := nf 40 4 (by decide)
          refine j_aload_n M dX7_keepIt_52 rfl ?_
          refine gf_X7_19 M dX7_keepIt_53 ?_
          refine j_bipush (v := 6) M dX7_keepIt_56 rfl ?_
          refine j_dup2 M dX7_keepIt_58 rfl rfl ?_
          refine al_40_4 M dX7_keepIt_59 (by first | assumption | decide) (by first | assumption | decide) ?_
          refine j_iconst (v := 1) M dX7_keepIt_60 rfl ?_
          refine j_iload_n M dX7_keepIt_61 rfl ?_
          refine j_ishl M dX7_keepIt_62 ?_
          refine j_ixor M dX7_keepIt_63 ?_
          refine as_40_4 M dX7_keepIt_64 (by first | assumption | decide) (by first | assumption | decide) ?_
          refine j_aload_n M dX7_keepIt_65 rfl ?_
          refine gf_X7_19 M dX7_keepIt_66 ?_
          refine j_bipush (v := 6) M dX7_keepIt_69 rfl ?_
          refine al_40_4 M dX7_keepIt_71 (by first | assumption | decide) (by first | assumption | decide) ?_
          exact j_iret M dX7_keepIt_72 ⟨_, rfl, by (try dsimp only); first | (simp [b_2, b_12, h_34, h_42]; done) | (exfalso; simp_all; done) | (simp only [up_same, upI_same, n4]; rw [if_neg (fun q => q ⟨b_2, b_12⟩), if_neg (by simp [b_2, b_12, h_34, h_42])]; exact ⟨by first | trivial | rfl, actE_of n0 n9 nf⟩)⟩
        · refine j_ldc M k_X7_181 dX7_keepIt_45 ?_
          exact j_iret M dX7_keepIt_47 ⟨_, rfl, by (try dsimp only); first | (simp [b_2, b_12, h_34, h_42]; done) | (exfalso; simp_all; done) | (simp only [up_same, upI_same, n4]; rw [if_neg (fun q => q ⟨b_2, b_12⟩), if_neg (by simp [b_2, b_12, h_34, h_42])]; exact ⟨by first | trivial | rfl, actE_of n0 n9 nf⟩)⟩
    · have b_12 := ifF k_12 h_15
      refine j_ldc M k_X7_73 dX7_keepIt_18 ?_
      exact j_iret M dX7_keepIt_20 ⟨_, rfl, by (try dsimp only); first | (simp [b_2, b_12]; done) | (exfalso; simp_all; done) | (simp only [up_same, upI_same, n4]; rw [if_neg (fun q => q ⟨b_2, b_12⟩), if_neg (by simp [b_2, b_12])]; exact ⟨by first | trivial | rfl, actE_of n0 n9 nf⟩)⟩
set_option maxRecDepth 100000 in
theorem c_X7_change {l : Launch} {G : Gw} {σ : Sg} {b : Int32} {o : Int32}  (hS : SW (σ 40 4)) (hm : 0 ≤ σ 40 0 18 ∧ σ 40 0 18 ≤ 24) : Mt l G yX7_change cX7_change 4 (some .int) 2 46 [.ref (ad G 40 0), .int b, .int o] σ (pI fun r τ => if ¬ (isB (σ 40 4) b ∧ isB (σ 40 4) o ∧ ¬ b = o) then r = -1000001 ∧ τ = σ else r = σ 40 4 (20 + o) ∧ actE σ τ (upI (upI (σ 40 4) (20 + b) (σ 40 4 (20 + o))) (20 + o) (σ 40 4 (20 + b)))) := by
  refine mt_intro (by decide +kernel) (Nat.le_of_ble_eq_true rfl) (fun Φ M => ?_)
  show Φ 0 [some (.ref (ad G 40 0)), some (.int b), some (.int o), none] [] σ
  refine j_aload_n M dX7_change_0 rfl ?_
  refine j_iload_n M dX7_change_1 rfl ?_
  refine j_inv1 M lk_X7_194 (c_X7_isBook) rv_X7 dX7_change_2 (Nat.le_of_ble_eq_true rfl) ⟨(Nat.le_of_ble_eq_true rfl), (Nat.le_of_ble_eq_true rfl)⟩ (kP fun r_2 k_2 => ?_)
  refine j_if_eq (tgt := 21) M dX7_change_5 (by decide) (fun h_5 => ?_) (fun h_5 => ?_)
  · have b_2 := ifF k_2 h_5
    refine j_ldc M k_X7_73 dX7_change_21 ?_
    exact j_iret M dX7_change_23 ⟨_, rfl, by (try dsimp only); first | (simp [b_2]; done) | (rw [if_neg (fun q => q ⟨b_2, b_10, h_18⟩)]; simp only [up_same, up_up, n4]; exact ⟨by rw [upI_ne _ _ ne, upI_same], actE_of n0 n9 nf⟩)⟩
  · have b_2 := ifT k_2 h_5
    refine j_aload_n M dX7_change_8 rfl ?_
    refine j_iload_n M dX7_change_9 rfl ?_
    refine j_inv1 M lk_X7_194 (c_X7_isBook) rv_X7 dX7_change_10 (Nat.le_of_ble_eq_true rfl) ⟨(Nat.le_of_ble_eq_true rfl), (Nat.le_of_ble_eq_true rfl)⟩ (kP fun r_10 k_10 => ?_)
    refine j_if_eq (tgt := 21) M dX7_change_13 (by decide) (fun h_13 => ?_) (fun h_13 => ?_)
    · have b_10 := ifF k_10 h_13
      refine j_ldc M k_X7_73 dX7_change_21 ?_
      exact j_iret M dX7_change_23 ⟨_, rfl, by (try dsimp only); first | (simp [b_2, b_10]; done) | (rw [if_neg (fun q => q ⟨b_2, b_10, h_18⟩)]; simp only [up_same, up_up, n4]; exact ⟨by rw [upI_ne _ _ ne, upI_same], actE_of n0 n9 nf⟩)⟩
    · have b_10 := ifT k_10 h_13
      refine j_iload_n M dX7_change_16 rfl ?_
      refine j_iload_n M dX7_change_17 rfl ?_
      refine j_icmp_ne (tgt := 24) M dX7_change_18 (by decide) (fun h_18 => ?_) (fun h_18 => ?_)
      · have hB := hS.b b_2
        have hO := hS.b b_10
        obtain ⟨⟨⟨_, _⟩, ⟨_, _⟩⟩, ⟨_, _⟩⟩ := ixS b_2.1 hB.2.2
        obtain ⟨⟨⟨_, _⟩, ⟨_, _⟩⟩, ⟨_, _⟩⟩ := ixS b_10.1 hO.2.2
        have ne : (20 : Int32) + b ≠ 20 + o := fun e => h_18 (ix_in 20 (by omega) b_2.1 (Int32.lt_of_lt_of_le hB.2.2 (by decide)) b_10.1 (Int32.lt_of_lt_of_le hO.2.2 (by decide)) e)
        refine j_aload_n M dX7_change_24 rfl ?_
        refine j_inv0 M lk_X7_184 (c_X7_note (hm)) rv_X7 dX7_change_25 (Nat.le_of_ble_eq_true rfl) ⟨(Nat.le_of_ble_eq_true rfl), (Nat.le_of_ble_eq_true rfl)⟩ (kV fun σ_25 q_25 => ?_)
        obtain ⟨n0, n9, nf⟩ := q_25
        have n4 := nf 40 4 (by decide)
        refine j_aload_n M dX7_change_28 rfl ?_
        refine gf_X7_19 M dX7_change_29 ?_
        refine j_bipush (v := 20) M dX7_change_32 rfl ?_
        refine j_iload_n M dX7_change_34 rfl ?_
        refine j_iadd M dX7_change_35 ?_
        refine al_40_4 M dX7_change_36 (by first | assumption | decide) (by first | assumption | decide) ?_
        refine j_istore_3 M dX7_change_37 (by exact (by first | trivial | rfl)) ?_
        refine j_aload_n M dX7_change_38 rfl ?_
        refine gf_X7_19 M dX7_change_39 ?_
        refine j_bipush (v := 20) M dX7_change_42 rfl ?_
        refine j_iload_n M dX7_change_44 rfl ?_
        refine j_iadd M dX7_change_45 ?_
        refine j_aload_n M dX7_change_46 rfl ?_
        refine gf_X7_19 M dX7_change_47 ?_
        refine j_bipush (v := 20) M dX7_change_50 rfl ?_
        refine j_iload_n M dX7_change_52 rfl ?_
        refine j_iadd M dX7_change_53 ?_
        refine al_40_4 M dX7_change_54 (by first | assumption | decide) (by first | assumption | decide) ?_
        refine as_40_4 M dX7_change_55 (by first | assumption | decide) (by first | assumption | decide) ?_
        refine j_aload_n M dX7_change_56 rfl ?_
        refine gf_X7_19 M dX7_change_57 ?_
        refine j_bipush (v := 20) M dX7_change_60 rfl ?_
        refine j_iload_n M dX7_change_62 rfl ?_
        refine j_iadd M dX7_change_63 ?_
        refine j_iload_n M dX7_change_64 rfl ?_
        refine as_40_4 M dX7_change_65 (by first | assumption | decide) (by first | assumption | decide) ?_
        refine j_aload_n M dX7_change_66 rfl ?_
        refine gf_X7_19 M dX7_change_67 ?_
        refine j_bipush (v := 20) M dX7_change_70 rfl ?_
        refine j_iload_n M dX7_change_72 rfl ?_
        refine j_iadd M dX7_change_73 ?_
        refine al_40_4 M dX7_change_74 (by first | assumption | decide) (by first | assumption | decide) ?_
        exact j_iret M dX7_change_75 ⟨_, rfl, by (try dsimp only); first | (simp [b_2, b_10, h_18]; done) | (rw [if_neg (fun q => q ⟨b_2, b_10, h_18⟩)]; simp only [up_same, up_up, n4]; exact ⟨by rw [upI_ne _ _ ne, upI_same], actE_of n0 n9 nf⟩)⟩
      · refine j_ldc M k_X7_73 dX7_change_21 ?_
        exact j_iret M dX7_change_23 ⟨_, rfl, by (try dsimp only); first | (simp [b_2, b_10, h_18]; done) | (rw [if_neg (fun q => q ⟨b_2, b_10, h_18⟩)]; simp only [up_same, up_up, n4]; exact ⟨by rw [upI_ne _ _ ne, upI_same], actE_of n0 n9 nf⟩)⟩
set_option maxRecDepth 100000 in
theorem c_X7_move {l : Launch} {G : Gw} {σ : Sg} {f : Int32} {p : Int32}  (hS : SW (σ 40 4)) (hm : 0 ≤ σ 40 0 18 ∧ σ 40 0 18 ≤ 24) : Mt l G yX7_move cX7_move 4 (some .int) 2 46 [.ref (ad G 40 0), .int f, .int p] σ (pI fun r τ => if ¬ (isF (σ 40 4) f ∧ isB (σ 40 4) p) then r = -1000001 ∧ τ = σ else if ¬ bitv (σ 40 4 7) f = 0 ∨ σ 40 4 (31 + f) = p then r = -1000002 ∧ τ = σ else r = σ 40 4 (31 + f) ∧ actE σ τ (upI (σ 40 4) (31 + f) p)) := by
  refine mt_intro (by decide +kernel) (Nat.le_of_ble_eq_true rfl) (fun Φ M => ?_)
  show Φ 0 [some (.ref (ad G 40 0)), some (.int f), some (.int p), none] [] σ
  refine j_aload_n M dX7_move_0 rfl ?_
  refine j_iload_n M dX7_move_1 rfl ?_
  refine j_inv1 M lk_X7_200 (c_X7_isFish) rv_X7 dX7_move_2 (Nat.le_of_ble_eq_true rfl) ⟨(Nat.le_of_ble_eq_true rfl), (Nat.le_of_ble_eq_true rfl)⟩ (kP fun r_2 k_2 => ?_)
  refine j_if_eq (tgt := 16) M dX7_move_5 (by decide) (fun h_5 => ?_) (fun h_5 => ?_)
  · have b_2 := ifF k_2 h_5
    refine j_ldc M k_X7_73 dX7_move_16 ?_
    exact j_iret M dX7_move_18 ⟨_, rfl, by (try dsimp only); first | (simp [b_2]; done) | (rw [if_neg (fun q => q ⟨b_2, b_10⟩), if_neg (by simp [b_2])]; simp only [n4]; exact ⟨by first | trivial | rfl, actE_of n0 n9 nf⟩)⟩
  · have b_2 := ifT k_2 h_5
    refine j_aload_n M dX7_move_8 rfl ?_
    refine j_iload_n M dX7_move_9 rfl ?_
    refine j_inv1 M lk_X7_194 (c_X7_isBook) rv_X7 dX7_move_10 (Nat.le_of_ble_eq_true rfl) ⟨(Nat.le_of_ble_eq_true rfl), (Nat.le_of_ble_eq_true rfl)⟩ (kP fun r_10 k_10 => ?_)
    refine j_if_ne (tgt := 19) M dX7_move_13 (by decide) (fun h_13 => ?_) (fun h_13 => ?_)
    · have b_10 := ifT k_10 h_13
      have hB := hS.f b_2
      obtain ⟨⟨⟨_, _⟩, ⟨_, _⟩⟩, ⟨_, _⟩⟩ := ixT b_2.1 hB.2.2
      refine j_aload_n M dX7_move_19 rfl ?_
      refine gf_X7_19 M dX7_move_20 ?_
      refine j_bipush (v := 31) M dX7_move_23 rfl ?_
      refine j_iload_n M dX7_move_25 rfl ?_
      refine j_iadd M dX7_move_26 ?_
      refine al_40_4 M dX7_move_27 (by first | assumption | decide) (by first | assumption | decide) ?_
      refine j_istore_3 M dX7_move_28 (by exact (by first | trivial | rfl)) ?_
      refine j_aload_n M dX7_move_29 rfl ?_
      refine j_iload_n M dX7_move_30 rfl ?_
      refine j_inv1 M lk_X7_171 (c_X7_isCaught) rv_X7 dX7_move_31 (Nat.le_of_ble_eq_true rfl) ⟨(Nat.le_of_ble_eq_true rfl), (Nat.le_of_ble_eq_true rfl)⟩ (kE ?_)
      refine j_if_ne (tgt := 42) M dX7_move_34 (by decide) (fun h_34 => ?_) (fun h_34 => ?_)
      · refine j_ldc M k_X7_181 dX7_move_42 ?_
        exact j_iret M dX7_move_44 ⟨_, rfl, by (try dsimp only); first | (simp [b_2, b_10, h_34]; done) | (rw [if_neg (fun q => q ⟨b_2, b_10⟩), if_neg (by simp [b_2, b_10, h_34])]; simp only [n4]; exact ⟨by first | trivial | rfl, actE_of n0 n9 nf⟩)⟩
      · refine j_iload_n M dX7_move_37 rfl ?_
        refine j_iload_n M dX7_move_38 rfl ?_
        refine j_icmp_ne (tgt := 45) M dX7_move_39 (by decide) (fun h_39 => ?_) (fun h_39 => ?_)
        · refine j_aload_n M dX7_move_45 rfl ?_
          refine j_inv0 M lk_X7_184 (c_X7_note (hm)) rv_X7 dX7_move_46 (Nat.le_of_ble_eq_true rfl) ⟨(Nat.le_of_ble_eq_true rfl), (Nat.le_of_ble_eq_true rfl)⟩ (kV fun σ_46 q_46 => ?_)
          obtain ⟨n0, n9, nf⟩ := q_46
          have n4 := nf 40 4 (by decide)
          refine j_aload_n M dX7_move_49 rfl ?_
          refine gf_X7_19 M dX7_move_50 ?_
          refine j_bipush (v := 31) M dX7_move_53 rfl ?_
          refine j_iload_n M dX7_move_55 rfl ?_
          refine j_iadd M dX7_move_56 ?_
          refine j_iload_n M dX7_move_57 rfl ?_
          refine as_40_4 M dX7_move_58 (by first | assumption | decide) (by first | assumption | decide) ?_
          refine j_iload_n M dX7_move_59 rfl ?_
          exact j_iret M dX7_move_60 ⟨_, rfl, by (try dsimp only); first | (simp [b_2, b_10, h_34, h_39]; done) | (rw [if_neg (fun q => q ⟨b_2, b_10⟩), if_neg (by simp [b_2, b_10, h_34, h_39])]; simp only [n4]; exact ⟨by first | trivial | rfl, actE_of n0 n9 nf⟩)⟩
        · refine j_ldc M k_X7_181 dX7_move_42 ?_
          exact j_iret M dX7_move_44 ⟨_, rfl, by (try dsimp only); first | (simp [b_2, b_10, h_34, h_39]; done) | (rw [if_neg (fun q => q ⟨b_2, b_10⟩), if_neg (by simp [b_2, b_10, h_34, h_39])]; simp only [n4]; exact ⟨by first | trivial | rfl, actE_of n0 n9 nf⟩)⟩
    · have b_10 := ifF k_10 h_13
      refine j_ldc M k_X7_73 dX7_move_16 ?_
      exact j_iret M dX7_move_18 ⟨_, rfl, by (try dsimp only); first | (simp [b_2, b_10]; done) | (rw [if_neg (fun q => q ⟨b_2, b_10⟩), if_neg (by simp [b_2, b_10])]; simp only [n4]; exact ⟨by first | trivial | rfl, actE_of n0 n9 nf⟩)⟩
set_option maxRecDepth 100000 in
theorem c_X7_catchIt {l : Launch} {G : Gw} {σ : Sg} {f : Int32}  (hS : SW (σ 40 4)) (hm : 0 ≤ σ 40 0 18 ∧ σ 40 0 18 ≤ 24) : Mt l G yX7_catchIt cX7_catchIt 2 (some .int) 2 46 [.ref (ad G 40 0), .int f] σ (pI fun r τ => if ¬ isF (σ 40 4) f then r = -1000001 ∧ τ = σ else if ¬ bitv (σ 40 4 7) f = 0 then r = -1000002 ∧ τ = σ else r = σ 40 4 7 ||| shl32 1 f ∧ actE σ τ (upI (σ 40 4) 7 (σ 40 4 7 ||| shl32 1 f))) := by
  refine mt_intro (by decide +kernel) (Nat.le_of_ble_eq_true rfl) (fun Φ M => ?_)
  show Φ 0 [some (.ref (ad G 40 0)), some (.int f)] [] σ
  refine j_aload_n M dX7_catchIt_0 rfl ?_
  refine j_iload_n M dX7_catchIt_1 rfl ?_
  refine j_inv1 M lk_X7_200 (c_X7_isFish) rv_X7 dX7_catchIt_2 (Nat.le_of_ble_eq_true rfl) ⟨(Nat.le_of_ble_eq_true rfl), (Nat.le_of_ble_eq_true rfl)⟩ (kP fun r_2 k_2 => ?_)
  refine j_if_ne (tgt := 11) M dX7_catchIt_5 (by decide) (fun h_5 => ?_) (fun h_5 => ?_)
  · have b_2 := ifT k_2 h_5
    refine j_aload_n M dX7_catchIt_11 rfl ?_
    refine j_iload_n M dX7_catchIt_12 rfl ?_
    refine j_inv1 M lk_X7_171 (c_X7_isCaught) rv_X7 dX7_catchIt_13 (Nat.le_of_ble_eq_true rfl) ⟨(Nat.le_of_ble_eq_true rfl), (Nat.le_of_ble_eq_true rfl)⟩ (kE ?_)
    refine j_if_eq (tgt := 22) M dX7_catchIt_16 (by decide) (fun h_16 => ?_) (fun h_16 => ?_)
    · refine j_aload_n M dX7_catchIt_22 rfl ?_
      refine j_inv0 M lk_X7_184 (c_X7_note (hm)) rv_X7 dX7_catchIt_23 (Nat.le_of_ble_eq_true rfl) ⟨(Nat.le_of_ble_eq_true rfl), (Nat.le_of_ble_eq_true rfl)⟩ (kV fun σ_23 q_23 => ?_)
      obtain ⟨n0, n9, nf⟩ := q_23
      have n4 := nf 40 4 (by decide)
      refine j_aload_n M dX7_catchIt_26 rfl ?_
      refine gf_X7_19 M dX7_catchIt_27 ?_
      refine j_bipush (v := 7) M dX7_catchIt_30 rfl ?_
      refine j_dup2 M dX7_catchIt_32 rfl rfl ?_
      refine al_40_4 M dX7_catchIt_33 (by first | assumption | decide) (by first | assumption | decide) ?_
      refine j_iconst (v := 1) M dX7_catchIt_34 rfl ?_
      refine j_iload_n M dX7_catchIt_35 rfl ?_
      refine j_ishl M dX7_catchIt_36 ?_
      refine j_ior M dX7_catchIt_37 ?_
      refine as_40_4 M dX7_catchIt_38 (by first | assumption | decide) (by first | assumption | decide) ?_
      refine j_aload_n M dX7_catchIt_39 rfl ?_
      refine gf_X7_19 M dX7_catchIt_40 ?_
      refine j_bipush (v := 7) M dX7_catchIt_43 rfl ?_
      refine al_40_4 M dX7_catchIt_45 (by first | assumption | decide) (by first | assumption | decide) ?_
      exact j_iret M dX7_catchIt_46 ⟨_, rfl, by (try dsimp only); first | (simp [b_2, h_16]; done) | (rw [if_neg (fun q => q b_2), if_neg (by simp [b_2, h_16])]; simp only [up_same, upI_same, n4]; exact ⟨by first | trivial | rfl, actE_of n0 n9 nf⟩)⟩
    · refine j_ldc M k_X7_181 dX7_catchIt_19 ?_
      exact j_iret M dX7_catchIt_21 ⟨_, rfl, by (try dsimp only); first | (simp [b_2, h_16]; done) | (rw [if_neg (fun q => q b_2), if_neg (by simp [b_2, h_16])]; simp only [up_same, upI_same, n4]; exact ⟨by first | trivial | rfl, actE_of n0 n9 nf⟩)⟩
  · have b_2 := ifF k_2 h_5
    refine j_ldc M k_X7_73 dX7_catchIt_8 ?_
    exact j_iret M dX7_catchIt_10 ⟨_, rfl, by (try dsimp only); first | (simp [b_2]; done) | (rw [if_neg (fun q => q b_2), if_neg (by simp [b_2])]; simp only [up_same, upI_same, n4]; exact ⟨by first | trivial | rfl, actE_of n0 n9 nf⟩)⟩
