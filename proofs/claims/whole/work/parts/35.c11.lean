set_option maxRecDepth 100000 in
theorem c_X7_who {l : Launch} {G : Gw} {σ : Sg} {f : Int32} {v : Int32} {b : Int32} {w : Int32} {i : Int32} {n : Int32}  (hS : SW (σ 40 4)) (hR : RW (σ 40 2)) : Mt l G yX7_who cX7_who 8 (some .int) 7 167 [.ref (ad G 40 0), .int f, .int v, .int b, .int w, .int i, .int n] σ (pI fun r τ => if ¬ (isF (σ 40 4) f ∧ inR 0 v 1 ∧ isB (σ 40 4) b ∧ inR 0 w 7 ∧ inR 1 n 12) then r = -1000001 ∧ τ = σ else if ¬ bitv (σ 40 4 7) f = 0 then r = -1000002 ∧ τ = σ else if σ 40 2 w < 0 then r = -1000011 ∧ τ = up σ 40 0 (upI (σ 40 0) 3 1) else if ¬ inR 0 i (σ 40 2 w - n) then r = -1000012 ∧ τ = up σ 40 0 (upI (σ 40 0) 3 2) else if v = 0 then r = fitR (σ 40 4) (σ 40 3) (26 + f) 1 5 b (40 * w + i) n ∧ τ 40 0 = upI (σ 40 0) 3 0 ∧ frm σ τ 40 [0, 8, 10] else r = fitR (σ 40 4) (σ 40 3) (31 + f) 0 (σ 40 4 0 - 1) b (40 * w + i) n ∧ τ 40 0 = upI (σ 40 0) 3 0 ∧ frm σ τ 40 [0, 8, 10]) := by
  refine mt_intro (by decide +kernel) (Nat.le_of_ble_eq_true rfl) (fun Φ M => ?_)
  show Φ 0 [some (.ref (ad G 40 0)), some (.int f), some (.int v), some (.int b), some (.int w), some (.int i), some (.int n), none] [] σ
  refine j_aload_n M dX7_who_0 rfl ?_
  refine j_iload_n M dX7_who_1 rfl ?_
  refine j_inv1 M lk_X7_200 (c_X7_isFish) rv_X7 dX7_who_2 (Nat.le_of_ble_eq_true rfl) ⟨(Nat.le_of_ble_eq_true rfl), (Nat.le_of_ble_eq_true rfl)⟩ (kP fun r_2 k_2 => ?_)
  refine j_if_eq (tgt := 47) M dX7_who_5 (by decide) (fun h_5 => ?_) (fun h_5 => ?_)
  · have b_2 := ifF k_2 h_5
    refine j_ldc M k_X7_73 dX7_who_47 ?_
    exact j_iret M dX7_who_49 ⟨_, rfl, by (try dsimp only); first | (simp [b_2]; done) | (rw [if_neg (fun q => q ⟨b_2, b_12, b_20, b_28, b_41⟩), if_neg (fun q => q h_55)]; exact lack_no q_70 h_77) | (rw [if_neg (fun q => q ⟨b_2, b_12, b_20, b_28, b_41⟩), if_neg (fun q => q h_55), if_neg z0, if_neg (fun q => q z1)]; first | (rw [if_pos h_84]; exact q_105) | (rw [if_neg h_84]; exact q_136))⟩
  · have b_2 := ifT k_2 h_5
    refine j_iload_n M dX7_who_8 rfl ?_
    refine j_i2l M dX7_who_9 ?_
    refine j_lconst (v := 0) M dX7_who_10 rfl ?_
    refine j_lconst (v := 1) M dX7_who_11 rfl ?_
    refine j_invs3 M lk_X7_63 (c_X7_inI (a := 0) (b := 1) rfl (by decide) (by decide)) dX7_who_12 (Nat.le_of_ble_eq_true rfl) ⟨(Nat.le_of_ble_eq_true rfl), (Nat.le_of_ble_eq_true rfl)⟩ (kP fun r_12 k_12 => ?_)
    refine j_if_eq (tgt := 47) M dX7_who_15 (by decide) (fun h_15 => ?_) (fun h_15 => ?_)
    · have b_12 := ifF k_12 h_15
      refine j_ldc M k_X7_73 dX7_who_47 ?_
      exact j_iret M dX7_who_49 ⟨_, rfl, by (try dsimp only); first | (simp [b_2, b_12]; done) | (rw [if_neg (fun q => q ⟨b_2, b_12, b_20, b_28, b_41⟩), if_neg (fun q => q h_55)]; exact lack_no q_70 h_77) | (rw [if_neg (fun q => q ⟨b_2, b_12, b_20, b_28, b_41⟩), if_neg (fun q => q h_55), if_neg z0, if_neg (fun q => q z1)]; first | (rw [if_pos h_84]; exact q_105) | (rw [if_neg h_84]; exact q_136))⟩
    · have b_12 := ifT k_12 h_15
      refine j_aload_n M dX7_who_18 rfl ?_
      refine j_iload_n M dX7_who_19 rfl ?_
      refine j_inv1 M lk_X7_194 (c_X7_isBook) rv_X7 dX7_who_20 (Nat.le_of_ble_eq_true rfl) ⟨(Nat.le_of_ble_eq_true rfl), (Nat.le_of_ble_eq_true rfl)⟩ (kP fun r_20 k_20 => ?_)
      refine j_if_eq (tgt := 47) M dX7_who_23 (by decide) (fun h_23 => ?_) (fun h_23 => ?_)
      · have b_20 := ifF k_20 h_23
        refine j_ldc M k_X7_73 dX7_who_47 ?_
        exact j_iret M dX7_who_49 ⟨_, rfl, by (try dsimp only); first | (simp [b_2, b_12, b_20]; done) | (rw [if_neg (fun q => q ⟨b_2, b_12, b_20, b_28, b_41⟩), if_neg (fun q => q h_55)]; exact lack_no q_70 h_77) | (rw [if_neg (fun q => q ⟨b_2, b_12, b_20, b_28, b_41⟩), if_neg (fun q => q h_55), if_neg z0, if_neg (fun q => q z1)]; first | (rw [if_pos h_84]; exact q_105) | (rw [if_neg h_84]; exact q_136))⟩
      · have b_20 := ifT k_20 h_23
        refine j_iload M dX7_who_26 rfl ?_
        refine j_invs1 M lk_X7_67 (c_X7_isRow) dX7_who_28 (Nat.le_of_ble_eq_true rfl) ⟨(Nat.le_of_ble_eq_true rfl), (Nat.le_of_ble_eq_true rfl)⟩ (kP fun r_28 k_28 => ?_)
        refine j_if_eq (tgt := 47) M dX7_who_31 (by decide) (fun h_31 => ?_) (fun h_31 => ?_)
        · have b_28 := ifF k_28 h_31
          refine j_ldc M k_X7_73 dX7_who_47 ?_
          exact j_iret M dX7_who_49 ⟨_, rfl, by (try dsimp only); first | (simp [b_2, b_12, b_20, b_28]; done) | (rw [if_neg (fun q => q ⟨b_2, b_12, b_20, b_28, b_41⟩), if_neg (fun q => q h_55)]; exact lack_no q_70 h_77) | (rw [if_neg (fun q => q ⟨b_2, b_12, b_20, b_28, b_41⟩), if_neg (fun q => q h_55), if_neg z0, if_neg (fun q => q z1)]; first | (rw [if_pos h_84]; exact q_105) | (rw [if_neg h_84]; exact q_136))⟩
        · have b_28 := ifT k_28 h_31
          refine j_iload M dX7_who_34 rfl ?_
          refine j_i2l M dX7_who_36 ?_
          refine j_lconst (v := 1) M dX7_who_37 rfl ?_
          refine j_ldc2 M kl_X7_232 dX7_who_38 ?_
          refine j_invs3 M lk_X7_63 (c_X7_inI (a := 1) (b := 12) rfl (by decide) (by decide)) dX7_who_41 (Nat.le_of_ble_eq_true rfl) ⟨(Nat.le_of_ble_eq_true rfl), (Nat.le_of_ble_eq_true rfl)⟩ (kP fun r_41 k_41 => ?_)
          refine j_if_ne (tgt := 50) M dX7_who_44 (by decide) (fun h_44 => ?_) (fun h_44 => ?_)
          · have b_41 := ifT k_41 h_44
            have hF := hS.f b_2
            have hB := hS.b b_20
            refine j_aload_n M dX7_who_50 rfl ?_
            refine j_iload_n M dX7_who_51 rfl ?_
            refine j_inv1 M lk_X7_171 (c_X7_isCaught) rv_X7 dX7_who_52 (Nat.le_of_ble_eq_true rfl) ⟨(Nat.le_of_ble_eq_true rfl), (Nat.le_of_ble_eq_true rfl)⟩ (kE ?_)
            refine j_if_eq (tgt := 63) M dX7_who_55 (by decide) (fun h_55 => ?_) (fun h_55 => ?_)
            · refine j_aload_n M dX7_who_63 rfl ?_
              refine j_iload M dX7_who_64 rfl ?_
              refine j_iload M dX7_who_66 rfl ?_
              refine j_iload M dX7_who_68 rfl ?_
              refine j_inv3 M lk_X7_254 (c_X7_lacks (b_28.1) (le7 b_28.2)) rv_X7 dX7_who_70 (Nat.le_of_ble_eq_true rfl) ⟨(Nat.le_of_ble_eq_true rfl), (Nat.le_of_ble_eq_true rfl)⟩ (kI fun r_70 σ_70 q_70 => ?_)
              refine j_istore_7 M dX7_who_73 (by exact (by first | trivial | rfl)) ?_
              refine j_iload M dX7_who_75 rfl ?_
              refine j_if_ge (tgt := 83) M dX7_who_77 (by decide) (fun h_77 => ?_) (fun h_77 => ?_)
              · obtain ⟨z0, z1, z2⟩ := lack_ok q_70 h_77
                subst z2
                have hz := hR w b_28.1 b_28.2
                have ha := ha_of b_28.1 b_28.2 hz.2 hz.1 b_41 z1
                have n0 : 0 ≤ n := Int32.le_trans (by decide) b_41.1
                have x26 := (ixT b_2.1 hF.2.2).1.1
                have x31 := (ixT b_2.1 hF.2.2).1.2
                have s1 := hF.1.1.1.1
                refine j_iload_n M dX7_who_83 rfl ?_
                refine j_if_ne (tgt := 111) M dX7_who_84 (by decide) (fun h_84 => ?_) (fun h_84 => ?_)
                · refine j_aload_n M dX7_who_111 rfl ?_
                  refine j_bipush (v := 31) M dX7_who_112 rfl ?_
                  refine j_iload_n M dX7_who_114 rfl ?_
                  refine j_iadd M dX7_who_115 ?_
                  refine j_iconst (v := 0) M dX7_who_116 rfl ?_
                  refine j_aload_n M dX7_who_117 rfl ?_
                  refine gf_X7_19 M dX7_who_118 ?_
                  refine j_iconst (v := 0) M dX7_who_121 rfl ?_
                  refine al_40_4 M dX7_who_122 (by first | assumption | decide) (by first | assumption | decide) ?_
                  refine j_iconst (v := 1) M dX7_who_123 rfl ?_
                  refine j_isub M dX7_who_124 ?_
                  refine j_iload_n M dX7_who_125 rfl ?_
                  refine j_bipush (v := 40) M dX7_who_126 rfl ?_
                  refine j_iload M dX7_who_128 rfl ?_
                  refine j_imul M dX7_who_130 ?_
                  refine j_iload M dX7_who_131 rfl ?_
                  refine j_iadd M dX7_who_133 ?_
                  refine j_iload M dX7_who_134 rfl ?_
                  refine j_inv6 M lk_X7_258 (c_X7_fits (x31) ((by decide)) ((by rw [nn1]; exact le0_of s1)) ((vna s1)) ((vnb s1)) ((fun v a1 a2 => hF.1.at b_2.1 hF.2.1 a1 (by have := vna s1 v a2; rw [nn1] at this; exact this))) (b_20.1) (hB.2.2) (n0) (ha)) rv_X7 dX7_who_136 (Nat.le_of_ble_eq_true rfl) ⟨(Nat.le_of_ble_eq_true rfl), (Nat.le_of_ble_eq_true rfl)⟩ (kI fun r_136 σ_136 q_136 => ?_)
                  exact j_iret M dX7_who_139 ⟨_, rfl, by (try dsimp only); first | (simp [b_2, b_12, b_20, b_28, b_41, h_55, h_77, h_84]; done) | (rw [if_neg (fun q => q ⟨b_2, b_12, b_20, b_28, b_41⟩), if_neg (fun q => q h_55)]; exact lack_no q_70 h_77) | (rw [if_neg (fun q => q ⟨b_2, b_12, b_20, b_28, b_41⟩), if_neg (fun q => q h_55), if_neg z0, if_neg (fun q => q z1)]; first | (rw [if_pos h_84]; exact q_105) | (rw [if_neg h_84]; exact q_136))⟩
                · refine j_aload_n M dX7_who_87 rfl ?_
                  refine j_bipush (v := 26) M dX7_who_88 rfl ?_
                  refine j_iload_n M dX7_who_90 rfl ?_
                  refine j_iadd M dX7_who_91 ?_
                  refine j_iconst (v := 1) M dX7_who_92 rfl ?_
                  refine j_iconst (v := 5) M dX7_who_93 rfl ?_
                  refine j_iload_n M dX7_who_94 rfl ?_
                  refine j_bipush (v := 40) M dX7_who_95 rfl ?_
                  refine j_iload M dX7_who_97 rfl ?_
                  refine j_imul M dX7_who_99 ?_
                  refine j_iload M dX7_who_100 rfl ?_
                  refine j_iadd M dX7_who_102 ?_
                  refine j_iload M dX7_who_103 rfl ?_
                  refine j_inv6 M lk_X7_258 (c_X7_fits (x26) ((by decide)) ((by decide)) (v5a) (v5b) ((fun v a1 a2 => hF.1.ki b_2.1 hF.2.1 a1 (Int32.not_lt.mp a2))) (b_20.1) (hB.2.2) (n0) (ha)) rv_X7 dX7_who_105 (Nat.le_of_ble_eq_true rfl) ⟨(Nat.le_of_ble_eq_true rfl), (Nat.le_of_ble_eq_true rfl)⟩ (kI fun r_105 σ_105 q_105 => ?_)
                  refine j_goto (tgt := 139) M dX7_who_108 (by decide) ?_
                  exact j_iret M dX7_who_139 ⟨_, rfl, by (try dsimp only); first | (simp [b_2, b_12, b_20, b_28, b_41, h_55, h_77, h_84]; done) | (rw [if_neg (fun q => q ⟨b_2, b_12, b_20, b_28, b_41⟩), if_neg (fun q => q h_55)]; exact lack_no q_70 h_77) | (rw [if_neg (fun q => q ⟨b_2, b_12, b_20, b_28, b_41⟩), if_neg (fun q => q h_55), if_neg z0, if_neg (fun q => q z1)]; first | (rw [if_pos h_84]; exact q_105) | (rw [if_neg h_84]; exact q_136))⟩
              · refine j_iload M dX7_who_80 rfl ?_
                exact j_iret M dX7_who_82 ⟨_, rfl, by (try dsimp only); first | (simp [b_2, b_12, b_20, b_28, b_41, h_55, h_77]; done) | (rw [if_neg (fun q => q ⟨b_2, b_12, b_20, b_28, b_41⟩), if_neg (fun q => q h_55)]; exact lack_no q_70 h_77) | (rw [if_neg (fun q => q ⟨b_2, b_12, b_20, b_28, b_41⟩), if_neg (fun q => q h_55), if_neg z0, if_neg (fun q => q z1)]; first | (rw [if_pos h_84]; exact q_105) | (rw [if_neg h_84]; exact q_136))⟩
            · refine j_ldc M k_X7_181 dX7_who_58 ?_
              refine j_goto (tgt := 73) M dX7_who_60 (by decide) ?_
              refine j_istore_7 M dX7_who_73 (by exact (by first | trivial | rfl)) ?_
              refine j_iload M dX7_who_75 rfl ?_
              refine j_if_ge (tgt := 83) M dX7_who_77 (by decide) (fun h_77 => ?_) (fun h_77 => ?_)
              · exact absurd (by decide) h_77
              · refine j_iload M dX7_who_80 rfl ?_
                exact j_iret M dX7_who_82 ⟨_, rfl, by (try dsimp only); first | (simp [b_2, b_12, b_20, b_28, b_41, h_55, h_77]; done) | (rw [if_neg (fun q => q ⟨b_2, b_12, b_20, b_28, b_41⟩), if_neg (fun q => q h_55)]; exact lack_no q_70 h_77) | (rw [if_neg (fun q => q ⟨b_2, b_12, b_20, b_28, b_41⟩), if_neg (fun q => q h_55), if_neg z0, if_neg (fun q => q z1)]; first | (rw [if_pos h_84]; exact q_105) | (rw [if_neg h_84]; exact q_136))⟩
          · have b_41 := ifF k_41 h_44
            refine j_ldc M k_X7_73 dX7_who_47 ?_
            exact j_iret M dX7_who_49 ⟨_, rfl, by (try dsimp only); first | (simp [b_2, b_12, b_20, b_28, b_41]; done) | (rw [if_neg (fun q => q ⟨b_2, b_12, b_20, b_28, b_41⟩), if_neg (fun q => q h_55)]; exact lack_no q_70 h_77) | (rw [if_neg (fun q => q ⟨b_2, b_12, b_20, b_28, b_41⟩), if_neg (fun q => q h_55), if_neg z0, if_neg (fun q => q z1)]; first | (rw [if_pos h_84]; exact q_105) | (rw [if_neg h_84]; exact q_136))⟩
set_option maxRecDepth 100000 in
theorem c_X7_paste {l : Launch} {G : Gw} {σ : Sg} {b : Int32} {o : Int32} {w : Int32} {i : Int32} {n : Int32}  (hS : SW (σ 40 4)) (hR : RW (σ 40 2)) : Mt l G yX7_paste cX7_paste 7 (some .int) 7 167 [.ref (ad G 40 0), .int b, .int o, .int w, .int i, .int n] σ (pI fun r τ => if ¬ (isB (σ 40 4) b ∧ isB (σ 40 4) o ∧ inR 0 w 7 ∧ inR 1 n 12) then r = -1000001 ∧ τ = σ else if σ 40 2 w < 0 then r = -1000011 ∧ τ = up σ 40 0 (upI (σ 40 0) 3 1) else if ¬ inR 0 i (σ 40 2 w - n) then r = -1000012 ∧ τ = up σ 40 0 (upI (σ 40 0) 3 2) else r = fitR (σ 40 4) (σ 40 3) (14 + b) 0 9 o (40 * w + i) n ∧ τ 40 0 = upI (σ 40 0) 3 0 ∧ frm σ τ 40 [0, 8, 10]) := by
  refine mt_intro (by decide +kernel) (Nat.le_of_ble_eq_true rfl) (fun Φ M => ?_)
  show Φ 0 [some (.ref (ad G 40 0)), some (.int b), some (.int o), some (.int w), some (.int i), some (.int n), none] [] σ
  refine j_aload_n M dX7_paste_0 rfl ?_
  refine j_iload_n M dX7_paste_1 rfl ?_
  refine j_inv1 M lk_X7_194 (c_X7_isBook) rv_X7 dX7_paste_2 (Nat.le_of_ble_eq_true rfl) ⟨(Nat.le_of_ble_eq_true rfl), (Nat.le_of_ble_eq_true rfl)⟩ (kP fun r_2 k_2 => ?_)
  refine j_if_eq (tgt := 36) M dX7_paste_5 (by decide) (fun h_5 => ?_) (fun h_5 => ?_)
  · have b_2 := ifF k_2 h_5
    refine j_ldc M k_X7_73 dX7_paste_36 ?_
    refine j_goto (tgt := 50) M dX7_paste_38 (by decide) ?_
    refine j_istore_6 M dX7_paste_50 (by exact (by first | trivial | rfl)) ?_
    refine j_iload M dX7_paste_52 rfl ?_
    refine j_if_ge (tgt := 62) M dX7_paste_54 (by decide) (fun h_54 => ?_) (fun h_54 => ?_)
    · exact absurd (by decide) h_54
    · refine j_iload M dX7_paste_57 rfl ?_
      refine j_goto (tgt := 83) M dX7_paste_59 (by decide) ?_
      exact j_iret M dX7_paste_83 ⟨_, rfl, by (try dsimp only); first | (simp [b_2, h_54]; done) | (rw [if_neg (fun q => q ⟨b_2, b_10, b_17, b_30⟩)]; exact lack_no q_47 h_54) | (rw [if_neg (fun q => q ⟨b_2, b_10, b_17, b_30⟩), if_neg z0, if_neg (fun q => q z1)]; exact q_80)⟩
  · have b_2 := ifT k_2 h_5
    refine j_aload_n M dX7_paste_8 rfl ?_
    refine j_iload_n M dX7_paste_9 rfl ?_
    refine j_inv1 M lk_X7_194 (c_X7_isBook) rv_X7 dX7_paste_10 (Nat.le_of_ble_eq_true rfl) ⟨(Nat.le_of_ble_eq_true rfl), (Nat.le_of_ble_eq_true rfl)⟩ (kP fun r_10 k_10 => ?_)
    refine j_if_eq (tgt := 36) M dX7_paste_13 (by decide) (fun h_13 => ?_) (fun h_13 => ?_)
    · have b_10 := ifF k_10 h_13
      refine j_ldc M k_X7_73 dX7_paste_36 ?_
      refine j_goto (tgt := 50) M dX7_paste_38 (by decide) ?_
      refine j_istore_6 M dX7_paste_50 (by exact (by first | trivial | rfl)) ?_
      refine j_iload M dX7_paste_52 rfl ?_
      refine j_if_ge (tgt := 62) M dX7_paste_54 (by decide) (fun h_54 => ?_) (fun h_54 => ?_)
      · exact absurd (by decide) h_54
      · refine j_iload M dX7_paste_57 rfl ?_
        refine j_goto (tgt := 83) M dX7_paste_59 (by decide) ?_
        exact j_iret M dX7_paste_83 ⟨_, rfl, by (try dsimp only); first | (simp [b_2, b_10, h_54]; done) | (rw [if_neg (fun q => q ⟨b_2, b_10, b_17, b_30⟩)]; exact lack_no q_47 h_54) | (rw [if_neg (fun q => q ⟨b_2, b_10, b_17, b_30⟩), if_neg z0, if_neg (fun q => q z1)]; exact q_80)⟩
    · have b_10 := ifT k_10 h_13
      refine j_iload_n M dX7_paste_16 rfl ?_
      refine j_invs1 M lk_X7_67 (c_X7_isRow) dX7_paste_17 (Nat.le_of_ble_eq_true rfl) ⟨(Nat.le_of_ble_eq_true rfl), (Nat.le_of_ble_eq_true rfl)⟩ (kP fun r_17 k_17 => ?_)
      refine j_if_eq (tgt := 36) M dX7_paste_20 (by decide) (fun h_20 => ?_) (fun h_20 => ?_)
      · have b_17 := ifF k_17 h_20
        refine j_ldc M k_X7_73 dX7_paste_36 ?_
        refine j_goto (tgt := 50) M dX7_paste_38 (by decide) ?_
        refine j_istore_6 M dX7_paste_50 (by exact (by first | trivial | rfl)) ?_
        refine j_iload M dX7_paste_52 rfl ?_
        refine j_if_ge (tgt := 62) M dX7_paste_54 (by decide) (fun h_54 => ?_) (fun h_54 => ?_)
        · exact absurd (by decide) h_54
        · refine j_iload M dX7_paste_57 rfl ?_
          refine j_goto (tgt := 83) M dX7_paste_59 (by decide) ?_
          exact j_iret M dX7_paste_83 ⟨_, rfl, by (try dsimp only); first | (simp [b_2, b_10, b_17, h_54]; done) | (rw [if_neg (fun q => q ⟨b_2, b_10, b_17, b_30⟩)]; exact lack_no q_47 h_54) | (rw [if_neg (fun q => q ⟨b_2, b_10, b_17, b_30⟩), if_neg z0, if_neg (fun q => q z1)]; exact q_80)⟩
      · have b_17 := ifT k_17 h_20
        refine j_iload M dX7_paste_23 rfl ?_
        refine j_i2l M dX7_paste_25 ?_
        refine j_lconst (v := 1) M dX7_paste_26 rfl ?_
        refine j_ldc2 M kl_X7_232 dX7_paste_27 ?_
        refine j_invs3 M lk_X7_63 (c_X7_inI (a := 1) (b := 12) rfl (by decide) (by decide)) dX7_paste_30 (Nat.le_of_ble_eq_true rfl) ⟨(Nat.le_of_ble_eq_true rfl), (Nat.le_of_ble_eq_true rfl)⟩ (kP fun r_30 k_30 => ?_)
        refine j_if_ne (tgt := 41) M dX7_paste_33 (by decide) (fun h_33 => ?_) (fun h_33 => ?_)
        · have b_30 := ifT k_30 h_33
          have hB := hS.b b_2
          have hO := hS.b b_10
          refine j_aload_n M dX7_paste_41 rfl ?_
          refine j_iload_n M dX7_paste_42 rfl ?_
          refine j_iload M dX7_paste_43 rfl ?_
          refine j_iload M dX7_paste_45 rfl ?_
          refine j_inv3 M lk_X7_254 (c_X7_lacks (b_17.1) (le7 b_17.2)) rv_X7 dX7_paste_47 (Nat.le_of_ble_eq_true rfl) ⟨(Nat.le_of_ble_eq_true rfl), (Nat.le_of_ble_eq_true rfl)⟩ (kI fun r_47 σ_47 q_47 => ?_)
          refine j_istore_6 M dX7_paste_50 (by exact (by first | trivial | rfl)) ?_
          refine j_iload M dX7_paste_52 rfl ?_
          refine j_if_ge (tgt := 62) M dX7_paste_54 (by decide) (fun h_54 => ?_) (fun h_54 => ?_)
          · obtain ⟨z0, z1, z2⟩ := lack_ok q_47 h_54
            subst z2
            have hz := hR w b_17.1 b_17.2
            have ha := ha_of b_17.1 b_17.2 hz.2 hz.1 b_30 z1
            have n0 : 0 ≤ n := Int32.le_trans (by decide) b_30.1
            have x14 := (ixS b_2.1 hB.2.2).1.2
            refine j_aload_n M dX7_paste_62 rfl ?_
            refine j_bipush (v := 14) M dX7_paste_63 rfl ?_
            refine j_iload_n M dX7_paste_65 rfl ?_
            refine j_iadd M dX7_paste_66 ?_
            refine j_iconst (v := 0) M dX7_paste_67 rfl ?_
            refine j_bipush (v := 9) M dX7_paste_68 rfl ?_
            refine j_iload_n M dX7_paste_70 rfl ?_
            refine j_bipush (v := 40) M dX7_paste_71 rfl ?_
            refine j_iload_n M dX7_paste_73 rfl ?_
            refine j_imul M dX7_paste_74 ?_
            refine j_iload M dX7_paste_75 rfl ?_
            refine j_iadd M dX7_paste_77 ?_
            refine j_iload M dX7_paste_78 rfl ?_
            refine j_inv6 M lk_X7_258 (c_X7_fits (x14) ((by decide)) ((by decide)) (v9a) (v9b) ((fun v a1 a2 => hB.1.ps b_2.1 hB.2.1 a1 (Int32.not_lt.mp a2))) (b_10.1) (hO.2.2) (n0) (ha)) rv_X7 dX7_paste_80 (Nat.le_of_ble_eq_true rfl) ⟨(Nat.le_of_ble_eq_true rfl), (Nat.le_of_ble_eq_true rfl)⟩ (kI fun r_80 σ_80 q_80 => ?_)
            exact j_iret M dX7_paste_83 ⟨_, rfl, by (try dsimp only); first | (simp [b_2, b_10, b_17, b_30, h_54]; done) | (rw [if_neg (fun q => q ⟨b_2, b_10, b_17, b_30⟩)]; exact lack_no q_47 h_54) | (rw [if_neg (fun q => q ⟨b_2, b_10, b_17, b_30⟩), if_neg z0, if_neg (fun q => q z1)]; exact q_80)⟩
          · refine j_iload M dX7_paste_57 rfl ?_
            refine j_goto (tgt := 83) M dX7_paste_59 (by decide) ?_
            exact j_iret M dX7_paste_83 ⟨_, rfl, by (try dsimp only); first | (simp [b_2, b_10, b_17, b_30, h_54]; done) | (rw [if_neg (fun q => q ⟨b_2, b_10, b_17, b_30⟩)]; exact lack_no q_47 h_54) | (rw [if_neg (fun q => q ⟨b_2, b_10, b_17, b_30⟩), if_neg z0, if_neg (fun q => q z1)]; exact q_80)⟩
        · have b_30 := ifF k_30 h_33
          refine j_ldc M k_X7_73 dX7_paste_36 ?_
          refine j_goto (tgt := 50) M dX7_paste_38 (by decide) ?_
          refine j_istore_6 M dX7_paste_50 (by exact (by first | trivial | rfl)) ?_
          refine j_iload M dX7_paste_52 rfl ?_
          refine j_if_ge (tgt := 62) M dX7_paste_54 (by decide) (fun h_54 => ?_) (fun h_54 => ?_)
          · exact absurd (by decide) h_54
          · refine j_iload M dX7_paste_57 rfl ?_
            refine j_goto (tgt := 83) M dX7_paste_59 (by decide) ?_
            exact j_iret M dX7_paste_83 ⟨_, rfl, by (try dsimp only); first | (simp [b_2, b_10, b_17, b_30, h_54]; done) | (rw [if_neg (fun q => q ⟨b_2, b_10, b_17, b_30⟩)]; exact lack_no q_47 h_54) | (rw [if_neg (fun q => q ⟨b_2, b_10, b_17, b_30⟩), if_neg z0, if_neg (fun q => q z1)]; exact q_80)⟩
set_option maxRecDepth 100000 in
theorem c_X7_hungers {l : Launch} {G : Gw} {σ : Sg} {b : Int32} {w : Int32} {i : Int32} {n : Int32}  (hS : SW (σ 40 4)) (hR : RW (σ 40 2)) : Mt l G yX7_hungers cX7_hungers 6 (some .int) 7 167 [.ref (ad G 40 0), .int b, .int w, .int i, .int n] σ (pI fun r τ => if ¬ (isB (σ 40 4) b ∧ inR 0 w 7 ∧ inR 1 n 12) then r = -1000001 ∧ τ = σ else if σ 40 2 w < 0 then r = -1000011 ∧ τ = up σ 40 0 (upI (σ 40 0) 3 1) else if ¬ inR 0 i (σ 40 2 w - n) then r = -1000012 ∧ τ = up σ 40 0 (upI (σ 40 0) 3 2) else r = fitR (σ 40 4) (σ 40 3) 2 1 9 b (40 * w + i) n ∧ τ 40 0 = upI (σ 40 0) 3 0 ∧ frm σ τ 40 [0, 8, 10]) := by
  refine mt_intro (by decide +kernel) (Nat.le_of_ble_eq_true rfl) (fun Φ M => ?_)
  show Φ 0 [some (.ref (ad G 40 0)), some (.int b), some (.int w), some (.int i), some (.int n), none] [] σ
  refine j_aload_n M dX7_hungers_0 rfl ?_
  refine j_iload_n M dX7_hungers_1 rfl ?_
  refine j_inv1 M lk_X7_194 (c_X7_isBook) rv_X7 dX7_hungers_2 (Nat.le_of_ble_eq_true rfl) ⟨(Nat.le_of_ble_eq_true rfl), (Nat.le_of_ble_eq_true rfl)⟩ (kP fun r_2 k_2 => ?_)
  refine j_if_eq (tgt := 28) M dX7_hungers_5 (by decide) (fun h_5 => ?_) (fun h_5 => ?_)
  · have b_2 := ifF k_2 h_5
    refine j_ldc M k_X7_73 dX7_hungers_28 ?_
    refine j_goto (tgt := 41) M dX7_hungers_30 (by decide) ?_
    refine j_istore_5 M dX7_hungers_41 (by exact (by first | trivial | rfl)) ?_
    refine j_iload M dX7_hungers_43 rfl ?_
    refine j_if_ge (tgt := 53) M dX7_hungers_45 (by decide) (fun h_45 => ?_) (fun h_45 => ?_)
    · exact absurd (by decide) h_45
    · refine j_iload M dX7_hungers_48 rfl ?_
      refine j_goto (tgt := 70) M dX7_hungers_50 (by decide) ?_
      exact j_iret M dX7_hungers_70 ⟨_, rfl, by (try dsimp only); first | (simp [b_2, h_45]; done) | (rw [if_neg (fun q => q ⟨b_2, b_9, b_22⟩)]; exact lack_no q_38 h_45) | (rw [if_neg (fun q => q ⟨b_2, b_9, b_22⟩), if_neg z0, if_neg (fun q => q z1)]; exact q_67)⟩
  · have b_2 := ifT k_2 h_5
    refine j_iload_n M dX7_hungers_8 rfl ?_
    refine j_invs1 M lk_X7_67 (c_X7_isRow) dX7_hungers_9 (Nat.le_of_ble_eq_true rfl) ⟨(Nat.le_of_ble_eq_true rfl), (Nat.le_of_ble_eq_true rfl)⟩ (kP fun r_9 k_9 => ?_)
    refine j_if_eq (tgt := 28) M dX7_hungers_12 (by decide) (fun h_12 => ?_) (fun h_12 => ?_)
    · have b_9 := ifF k_9 h_12
      refine j_ldc M k_X7_73 dX7_hungers_28 ?_
      refine j_goto (tgt := 41) M dX7_hungers_30 (by decide) ?_
      refine j_istore_5 M dX7_hungers_41 (by exact (by first | trivial | rfl)) ?_
      refine j_iload M dX7_hungers_43 rfl ?_
      refine j_if_ge (tgt := 53) M dX7_hungers_45 (by decide) (fun h_45 => ?_) (fun h_45 => ?_)
      · exact absurd (by decide) h_45
      · refine j_iload M dX7_hungers_48 rfl ?_
        refine j_goto (tgt := 70) M dX7_hungers_50 (by decide) ?_
        exact j_iret M dX7_hungers_70 ⟨_, rfl, by (try dsimp only); first | (simp [b_2, b_9, h_45]; done) | (rw [if_neg (fun q => q ⟨b_2, b_9, b_22⟩)]; exact lack_no q_38 h_45) | (rw [if_neg (fun q => q ⟨b_2, b_9, b_22⟩), if_neg z0, if_neg (fun q => q z1)]; exact q_67)⟩
    · have b_9 := ifT k_9 h_12
      refine j_iload M dX7_hungers_15 rfl ?_
      refine j_i2l M dX7_hungers_17 ?_
      refine j_lconst (v := 1) M dX7_hungers_18 rfl ?_
      refine j_ldc2 M kl_X7_232 dX7_hungers_19 ?_
      refine j_invs3 M lk_X7_63 (c_X7_inI (a := 1) (b := 12) rfl (by decide) (by decide)) dX7_hungers_22 (Nat.le_of_ble_eq_true rfl) ⟨(Nat.le_of_ble_eq_true rfl), (Nat.le_of_ble_eq_true rfl)⟩ (kP fun r_22 k_22 => ?_)
      refine j_if_ne (tgt := 33) M dX7_hungers_25 (by decide) (fun h_25 => ?_) (fun h_25 => ?_)
      · have b_22 := ifT k_22 h_25
        have hB := hS.b b_2
        refine j_aload_n M dX7_hungers_33 rfl ?_
        refine j_iload_n M dX7_hungers_34 rfl ?_
        refine j_iload_n M dX7_hungers_35 rfl ?_
        refine j_iload M dX7_hungers_36 rfl ?_
        refine j_inv3 M lk_X7_254 (c_X7_lacks (b_9.1) (le7 b_9.2)) rv_X7 dX7_hungers_38 (Nat.le_of_ble_eq_true rfl) ⟨(Nat.le_of_ble_eq_true rfl), (Nat.le_of_ble_eq_true rfl)⟩ (kI fun r_38 σ_38 q_38 => ?_)
        refine j_istore_5 M dX7_hungers_41 (by exact (by first | trivial | rfl)) ?_
        refine j_iload M dX7_hungers_43 rfl ?_
        refine j_if_ge (tgt := 53) M dX7_hungers_45 (by decide) (fun h_45 => ?_) (fun h_45 => ?_)
        · obtain ⟨z0, z1, z2⟩ := lack_ok q_38 h_45
          subst z2
          have hz := hR w b_9.1 b_9.2
          have ha := ha_of b_9.1 b_9.2 hz.2 hz.1 b_22 z1
          have n0 : 0 ≤ n := Int32.le_trans (by decide) b_22.1
          refine j_aload_n M dX7_hungers_53 rfl ?_
          refine j_iconst (v := 2) M dX7_hungers_54 rfl ?_
          refine j_iconst (v := 1) M dX7_hungers_55 rfl ?_
          refine j_bipush (v := 9) M dX7_hungers_56 rfl ?_
          refine j_iload_n M dX7_hungers_58 rfl ?_
          refine j_bipush (v := 40) M dX7_hungers_59 rfl ?_
          refine j_iload_n M dX7_hungers_61 rfl ?_
          refine j_imul M dX7_hungers_62 ?_
          refine j_iload_n M dX7_hungers_63 rfl ?_
          refine j_iadd M dX7_hungers_64 ?_
          refine j_iload M dX7_hungers_65 rfl ?_
          refine j_inv6 M lk_X7_258 (c_X7_fits ((by decide)) ((by decide)) ((by decide)) (v9a) (v9b) ((fun v a1 a2 => hB.1.hu a1 (Int32.not_lt.mp a2))) (b_2.1) (hB.2.2) (n0) (ha)) rv_X7 dX7_hungers_67 (Nat.le_of_ble_eq_true rfl) ⟨(Nat.le_of_ble_eq_true rfl), (Nat.le_of_ble_eq_true rfl)⟩ (kI fun r_67 σ_67 q_67 => ?_)
          exact j_iret M dX7_hungers_70 ⟨_, rfl, by (try dsimp only); first | (simp [b_2, b_9, b_22, h_45]; done) | (rw [if_neg (fun q => q ⟨b_2, b_9, b_22⟩)]; exact lack_no q_38 h_45) | (rw [if_neg (fun q => q ⟨b_2, b_9, b_22⟩), if_neg z0, if_neg (fun q => q z1)]; exact q_67)⟩
        · refine j_iload M dX7_hungers_48 rfl ?_
          refine j_goto (tgt := 70) M dX7_hungers_50 (by decide) ?_
          exact j_iret M dX7_hungers_70 ⟨_, rfl, by (try dsimp only); first | (simp [b_2, b_9, b_22, h_45]; done) | (rw [if_neg (fun q => q ⟨b_2, b_9, b_22⟩)]; exact lack_no q_38 h_45) | (rw [if_neg (fun q => q ⟨b_2, b_9, b_22⟩), if_neg z0, if_neg (fun q => q z1)]; exact q_67)⟩
      · have b_22 := ifF k_22 h_25
        refine j_ldc M k_X7_73 dX7_hungers_28 ?_
        refine j_goto (tgt := 41) M dX7_hungers_30 (by decide) ?_
        refine j_istore_5 M dX7_hungers_41 (by exact (by first | trivial | rfl)) ?_
        refine j_iload M dX7_hungers_43 rfl ?_
        refine j_if_ge (tgt := 53) M dX7_hungers_45 (by decide) (fun h_45 => ?_) (fun h_45 => ?_)
        · exact absurd (by decide) h_45
        · refine j_iload M dX7_hungers_48 rfl ?_
          refine j_goto (tgt := 70) M dX7_hungers_50 (by decide) ?_
          exact j_iret M dX7_hungers_70 ⟨_, rfl, by (try dsimp only); first | (simp [b_2, b_9, b_22, h_45]; done) | (rw [if_neg (fun q => q ⟨b_2, b_9, b_22⟩)]; exact lack_no q_38 h_45) | (rw [if_neg (fun q => q ⟨b_2, b_9, b_22⟩), if_neg z0, if_neg (fun q => q z1)]; exact q_67)⟩
