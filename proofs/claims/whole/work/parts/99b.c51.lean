theorem pk_L {σ : Sg} {s g : St} (h : LibF (σ 6) s) : LibF ((up σ 1 0 g) 6) s := by
  rw [show (up σ 1 0 g) 6 = σ 6 from funext (fun k => up_ne _ _ (by omega))]
  exact h
theorem pk_P {σ : Sg} {w i n : Int32} (h : fdR (σ 1 1) (σ 1 2) w i n = 0) (hB : RowB (σ 1 1) (σ 1 2)) : ∀ k, 0 ≤ k → k < (up σ 1 0 (upI (upI (σ 1 0) 3 (w * 40 + i)) 4 n)) 1 0 4 → 0 ≤ (up σ 1 0 (upI (upI (σ 1 0) 3 (w * 40 + i)) 4 n)) 1 0 3 + k ∧ (up σ 1 0 (upI (upI (σ 1 0) 3 (w * 40 + i)) 4 n)) 1 0 3 + k < 320 := by
  rw [up_same, upI_same, upI_ne _ _ (by decide), upI_same]
  exact told_rng h hB
theorem rst_fin {σ τ : Sg} {d : Nat} (h : Tk σ τ 6 d) : (1 : Int32) = 1 ∧ Tk0 σ (up τ 3 0 (upI (τ 3 0) 2 0)) 6 d ∧ (up τ 3 0 (upI (τ 3 0) 2 0)) 3 0 = upI (σ 3 0) 2 0 ∧ (∀ c j, c ≠ 6 → ¬ (c = 3 ∧ j = 0) → (up τ 3 0 (upI (τ 3 0) 2 0)) c j = σ c j) := by
  obtain ⟨h1, h2, h3⟩ := h
  refine ⟨rfl, fun s hs hl => ?_, ?_, fun c j a b => ?_⟩
  · rw [show (up τ 3 0 (upI (τ 3 0) 2 0)) 6 = τ 6 from funext (fun k => up_ne _ _ (by omega))]
    exact h1 s hs hl
  · rw [up_same, h3 3 0 (by decide)]
  · rw [up_ne _ _ b, h3 c j (fun e => a e.1)]
theorem rem_23F : ∀ x : Fin 24, 0 ≤ rem32 (nI x.val + 24 - 1) 24 ∧ rem32 (nI x.val + 24 - 1) 24 < 24 := by decide +kernel
theorem rem_23 {x : Int32} (h0 : 0 ≤ x) (h1 : x < 24) : 0 ≤ rem32 (x + 24 - 1) 24 ∧ rem32 (x + 24 - 1) 24 < 24 := by
  obtain ⟨k, hk, rfl⟩ := nI_of (Int32.not_lt.mpr h0)
  exact rem_23F ⟨k, (nI_ltI (b := 24) hk (by decide)).mp h1⟩
set_option maxRecDepth 100000 in
theorem c_X6_who {l : Launch} {G : Gw} {σ : Sg} {f : Int32} {v : Int32} {b : Int32} {w : Int32} {i : Int32} {n : Int32} {s : St} {t : Int32} (hS : SO t s) (hL : LibF (σ 6) s) (hB : RowB (σ 1 1) (σ 1 2)) : Mt l G yX6_who cX6_who 8 (some .int) 6 143 [.ref (ad G 0 0), .int f, .int v, .int b, .int w, .int i, .int n] σ (pI fun r τ => if ¬ (isF s f ∧ inR 0 v 1 ∧ isB s b ∧ (0 ≤ w ∧ w < 8) ∧ inR 1 n 12) then r = -1000001 ∧ τ = σ else if ¬ bitv (s 7) f = 0 then r = -1000002 ∧ τ = σ else if ¬ (fdR (σ 1 1) (σ 1 2) w i n) = 0 then r = -1000010 - (fdR (σ 1 1) (σ 1 2) w i n) ∧ τ = up σ 0 0 (upI (σ 0 0) 9 ((fdR (σ 1 1) (σ 1 2) w i n))) else r = (if v = 0 then fitR s (σ 1 3) (26 + f) 1 5 b (w * 40 + i) n else fitR s (σ 1 3) (31 + f) 0 (s 0 - 1) b (w * 40 + i) n) ∧ τ 0 0 = upI (σ 0 0) 9 0 ∧ frW σ τ) := by
  refine mt_intro (by decide +kernel) (Nat.le_of_ble_eq_true rfl) (fun Φ M => ?_)
  show Φ 0 [some (.ref (ad G 0 0)), some (.int f), some (.int v), some (.int b), some (.int w), some (.int i), some (.int n), none] [] σ
  refine j_aload_n M dX6_who_0 rfl ?_
  refine gf_X6_26 M dX6_who_1 ?_
  refine j_iload_n M dX6_who_4 rfl ?_
  refine j_inv1 M lk_X6_184 (n_isFish hS hL) (rv_X3 lib_now) dX6_who_5 (Nat.le_of_ble_eq_true rfl) ⟨(Nat.le_of_ble_eq_true rfl), (Nat.le_of_ble_eq_true rfl)⟩ (kP fun r_5 k_5 => ?_)
  refine j_if_eq (tgt := 31) M dX6_who_8 (by decide) (fun h_8 => ?_) (fun h_8 => ?_)
  · have b_5 := ifF k_5 h_8
    refine j_ldc M k_X6_71 dX6_who_31 ?_
    exact j_iret M dX6_who_33 ⟨_, rfl, by (try dsimp only); rw [if_pos (fun q => b_5 q.1)]; exact ⟨rfl, rfl⟩⟩
  · have b_5 := ifT k_5 h_8
    refine j_iload_n M dX6_who_11 rfl ?_
    refine j_iconst (v := 0) M dX6_who_12 rfl ?_
    refine j_iconst (v := 1) M dX6_who_13 rfl ?_
    refine j_invs3 M lk_X6_104 (c_X6_isWithin) dX6_who_14 (Nat.le_of_ble_eq_true rfl) ⟨(Nat.le_of_ble_eq_true rfl), (Nat.le_of_ble_eq_true rfl)⟩ (kP fun r_14 k_14 => ?_)
    refine j_if_eq (tgt := 31) M dX6_who_17 (by decide) (fun h_17 => ?_) (fun h_17 => ?_)
    · have b_14 := ifF k_14 h_17
      refine j_ldc M k_X6_71 dX6_who_31 ?_
      exact j_iret M dX6_who_33 ⟨_, rfl, by (try dsimp only); rw [if_pos (fun q => b_14 q.2.1)]; exact ⟨rfl, rfl⟩⟩
    · have b_14 := ifT k_14 h_17
      refine j_aload_n M dX6_who_20 rfl ?_
      refine gf_X6_26 M dX6_who_21 ?_
      refine j_iload_n M dX6_who_24 rfl ?_
      refine j_inv1 M lk_X6_158 (n_isBook hS hL) (rv_X3 lib_now) dX6_who_25 (Nat.le_of_ble_eq_true rfl) ⟨(Nat.le_of_ble_eq_true rfl), (Nat.le_of_ble_eq_true rfl)⟩ (kP fun r_25 k_25 => ?_)
      refine j_if_ne (tgt := 34) M dX6_who_28 (by decide) (fun h_28 => ?_) (fun h_28 => ?_)
      · have b_25 := ifT k_25 h_28
        refine j_iload M dX6_who_34 rfl ?_
        refine j_invs1 M lk_X6_64 (c_X4_isRow) dX6_who_36 (Nat.le_of_ble_eq_true rfl) ⟨(Nat.le_of_ble_eq_true rfl), (Nat.le_of_ble_eq_true rfl)⟩ (kP fun r_36 k_36 => ?_)
        refine j_if_eq (tgt := 53) M dX6_who_39 (by decide) (fun h_39 => ?_) (fun h_39 => ?_)
        · have b_36 := ifF k_36 h_39
          refine j_ldc M k_X6_71 dX6_who_53 ?_
          exact j_iret M dX6_who_55 ⟨_, rfl, by (try dsimp only); rw [if_pos (fun q => b_36 q.2.2.2.1)]; exact ⟨rfl, rfl⟩⟩
        · have b_36 := ifT k_36 h_39
          refine j_iload M dX6_who_42 rfl ?_
          refine j_iconst (v := 1) M dX6_who_44 rfl ?_
          refine j_bipush (v := 12) M dX6_who_45 rfl ?_
          refine j_invs3 M lk_X6_104 (c_X6_isWithin) dX6_who_47 (Nat.le_of_ble_eq_true rfl) ⟨(Nat.le_of_ble_eq_true rfl), (Nat.le_of_ble_eq_true rfl)⟩ (kP fun r_47 k_47 => ?_)
          refine j_if_ne (tgt := 56) M dX6_who_50 (by decide) (fun h_50 => ?_) (fun h_50 => ?_)
          · have b_47 := ifT k_47 h_50
            have hF := hS.w.f b_5
            have hB1 := hS.w.b b_25
            refine j_aload_n M dX6_who_56 rfl ?_
            refine gf_X6_26 M dX6_who_57 ?_
            refine j_iload_n M dX6_who_60 rfl ?_
            refine j_inv1 M lk_X6_193 (n_isCaught hS hL) (rv_X3 lib_now) dX6_who_61 (Nat.le_of_ble_eq_true rfl) ⟨(Nat.le_of_ble_eq_true rfl), (Nat.le_of_ble_eq_true rfl)⟩ (kE ?_)
            refine j_if_eq (tgt := 70) M dX6_who_64 (by decide) (fun h_64 => ?_) (fun h_64 => ?_)
            · refine j_aload_n M dX6_who_70 rfl ?_
              refine gf_X6_10 M dX6_who_71 ?_
              refine j_iload M dX6_who_74 rfl ?_
              refine j_iload M dX6_who_76 rfl ?_
              refine j_iload M dX6_who_78 rfl ?_
              refine j_inv3 M lk_X6_83 (c_X4_findingAt) rv_X4 dX6_who_80 (Nat.le_of_ble_eq_true rfl) ⟨(Nat.le_of_ble_eq_true rfl), (Nat.le_of_ble_eq_true rfl)⟩ (kE ?_)
              refine j_istore_7 M dX6_who_83 (by exact (by first | trivial | rfl)) ?_
              refine j_iload M dX6_who_85 rfl ?_
              refine j_if_eq (tgt := 97) M dX6_who_87 (by decide) (fun h_87 => ?_) (fun h_87 => ?_)
              · refine j_aload_n M dX6_who_97 rfl ?_
                refine gf_X6_10 M dX6_who_98 ?_
                refine j_iload M dX6_who_101 rfl ?_
                refine j_iload M dX6_who_103 rfl ?_
                refine j_iload M dX6_who_105 rfl ?_
                refine j_inv3 M lk_X6_260 (c_X4_pick) rv_X4 dX6_who_107 (Nat.le_of_ble_eq_true rfl) ⟨(Nat.le_of_ble_eq_true rfl), (Nat.le_of_ble_eq_true rfl)⟩ (kV fun σ_107 q_107 => ?_)
                subst q_107
                rw [pick_0 h_87]
                have n0 : 0 ≤ n := Int32.le_trans (by decide) b_47.1
                have eL : LibF ((up σ 1 0 (upI (upI (σ 1 0) 3 (w * 40 + i)) 4 n)) 6) s := pk_L hL
                have pP := pk_P h_87 hB
                have pq : 0 ≤ (up σ 1 0 (upI (upI (σ 1 0) 3 (w * 40 + i)) 4 n)) 1 0 4 := by rw [up_same, upI_same]; exact n0
                refine j_aload_n M dX6_who_110 rfl ?_
                refine j_iload_n M dX6_who_111 rfl ?_
                refine j_if_ne (tgt := 135) M dX6_who_112 (by decide) (fun h_112 => ?_) (fun h_112 => ?_)
                · refine j_aload_n M dX6_who_135 rfl ?_
                  refine gf_X6_49 M dX6_who_136 ?_
                  refine j_aload_n M dX6_who_139 rfl ?_
                  refine gf_X6_26 M dX6_who_140 ?_
                  refine j_iload_n M dX6_who_143 rfl ?_
                  refine j_iload_n M dX6_who_144 rfl ?_
                  refine j_aload_n M dX6_who_145 rfl ?_
                  refine gf_X6_10 M dX6_who_146 ?_
                  refine j_inv4 M lk_X6_267 (c_X2_placesThatFit lib_now (eL) (hF.1) ((by decide)) (b_5.1) (hF.2.1) (b_25.1) (hB1.2.1) (pP) (pq)) rv_X2 dX6_who_149 (Nat.le_of_ble_eq_true rfl) ⟨(Nat.le_of_ble_eq_true rfl), (Nat.le_of_ble_eq_true rfl)⟩ (kI fun r_149 σ_149 q_149 => ?_)
                  obtain ⟨e149, f149⟩ := q_149
                  rw [up_ne _ _ (by decide), up_same, upI_ne _ _ (by decide), upI_same, upI_same] at e149
                  subst e149
                  refine j_inv1 M lk_X6_80 (c_X6_foundNothing) rv_X6 dX6_who_152 (Nat.le_of_ble_eq_true rfl) ⟨(Nat.le_of_ble_eq_true rfl), (Nat.le_of_ble_eq_true rfl)⟩ (kI fun r_152 σ_152 q_152 => ?_)
                  obtain ⟨rfl, rfl⟩ := q_152
                  exact j_iret M dX6_who_155 ⟨_, rfl, by (try dsimp only); rw [if_neg (fun q => q ⟨b_5, b_14, b_25, b_36, b_47⟩), if_neg (fun q => q h_64), if_neg (fun q => q h_87)]; exact ⟨by rw [if_neg h_112], (fit_fin f149).1, (fit_fin f149).2⟩⟩
                · refine j_aload_n M dX6_who_115 rfl ?_
                  refine gf_X6_49 M dX6_who_116 ?_
                  refine j_aload_n M dX6_who_119 rfl ?_
                  refine gf_X6_26 M dX6_who_120 ?_
                  refine j_iload_n M dX6_who_123 rfl ?_
                  refine j_iload_n M dX6_who_124 rfl ?_
                  refine j_aload_n M dX6_who_125 rfl ?_
                  refine gf_X6_10 M dX6_who_126 ?_
                  refine j_inv4 M lk_X6_263 (c_X2_kindsThatFit lib_now (eL) (hF.1) ((by decide)) (b_5.1) (hF.2.1) (b_25.1) (hB1.2.1) (pP) (pq)) rv_X2 dX6_who_129 (Nat.le_of_ble_eq_true rfl) ⟨(Nat.le_of_ble_eq_true rfl), (Nat.le_of_ble_eq_true rfl)⟩ (kI fun r_129 σ_129 q_129 => ?_)
                  obtain ⟨e129, f129⟩ := q_129
                  rw [up_ne _ _ (by decide), up_same, upI_ne _ _ (by decide), upI_same, upI_same] at e129
                  subst e129
                  refine j_goto (tgt := 152) M dX6_who_132 (by decide) ?_
                  refine j_inv1 M lk_X6_80 (c_X6_foundNothing) rv_X6 dX6_who_152 (Nat.le_of_ble_eq_true rfl) ⟨(Nat.le_of_ble_eq_true rfl), (Nat.le_of_ble_eq_true rfl)⟩ (kI fun r_152 σ_152 q_152 => ?_)
                  obtain ⟨rfl, rfl⟩ := q_152
                  exact j_iret M dX6_who_155 ⟨_, rfl, by (try dsimp only); rw [if_neg (fun q => q ⟨b_5, b_14, b_25, b_36, b_47⟩), if_neg (fun q => q h_64), if_neg (fun q => q h_87)]; exact ⟨by rw [if_pos h_112], (fit_fin f129).1, (fit_fin f129).2⟩⟩
              · refine j_aload_n M dX6_who_90 rfl ?_
                refine j_iload M dX6_who_91 rfl ?_
                refine j_inv1 M lk_X6_72 (c_X6_found) rv_X6 dX6_who_93 (Nat.le_of_ble_eq_true rfl) ⟨(Nat.le_of_ble_eq_true rfl), (Nat.le_of_ble_eq_true rfl)⟩ (kI fun r_93 σ_93 q_93 => ?_)
                obtain ⟨rfl, rfl⟩ := q_93
                exact j_iret M dX6_who_96 ⟨_, rfl, by (try dsimp only); rw [if_neg (fun q => q ⟨b_5, b_14, b_25, b_36, b_47⟩), if_neg (fun q => q h_64), if_pos h_87]; exact ⟨rfl, rfl⟩⟩
            · refine j_ldc M k_X6_137 dX6_who_67 ?_
              exact j_iret M dX6_who_69 ⟨_, rfl, by (try dsimp only); rw [if_neg (fun q => q ⟨b_5, b_14, b_25, b_36, b_47⟩), if_pos h_64]; exact ⟨rfl, rfl⟩⟩
          · have b_47 := ifF k_47 h_50
            refine j_ldc M k_X6_71 dX6_who_53 ?_
            exact j_iret M dX6_who_55 ⟨_, rfl, by (try dsimp only); rw [if_pos (fun q => b_47 q.2.2.2.2)]; exact ⟨rfl, rfl⟩⟩
      · have b_25 := ifF k_25 h_28
        refine j_ldc M k_X6_71 dX6_who_31 ?_
        exact j_iret M dX6_who_33 ⟨_, rfl, by (try dsimp only); rw [if_pos (fun q => b_25 q.2.2.1)]; exact ⟨rfl, rfl⟩⟩
set_option maxRecDepth 100000 in
theorem c_X6_paste {l : Launch} {G : Gw} {σ : Sg} {b : Int32} {o : Int32} {w : Int32} {i : Int32} {n : Int32} {s : St} {t : Int32} (hS : SO t s) (hL : LibF (σ 6) s) (hB : RowB (σ 1 1) (σ 1 2)) : Mt l G yX6_paste cX6_paste 7 (some .int) 6 143 [.ref (ad G 0 0), .int b, .int o, .int w, .int i, .int n] σ (pI fun r τ => if ¬ (isB s b ∧ isB s o ∧ (0 ≤ w ∧ w < 8) ∧ inR 1 n 12) then r = -1000001 ∧ τ = σ else if ¬ (fdR (σ 1 1) (σ 1 2) w i n) = 0 then r = -1000010 - (fdR (σ 1 1) (σ 1 2) w i n) ∧ τ = up σ 0 0 (upI (σ 0 0) 9 ((fdR (σ 1 1) (σ 1 2) w i n))) else r = fitR s (σ 1 3) (14 + b) 0 9 o (w * 40 + i) n ∧ τ 0 0 = upI (σ 0 0) 9 0 ∧ frW σ τ) := by
  refine mt_intro (by decide +kernel) (Nat.le_of_ble_eq_true rfl) (fun Φ M => ?_)
  show Φ 0 [some (.ref (ad G 0 0)), some (.int b), some (.int o), some (.int w), some (.int i), some (.int n), none] [] σ
  refine j_aload_n M dX6_paste_0 rfl ?_
  refine gf_X6_26 M dX6_paste_1 ?_
  refine j_iload_n M dX6_paste_4 rfl ?_
  refine j_inv1 M lk_X6_158 (n_isBook hS hL) (rv_X3 lib_now) dX6_paste_5 (Nat.le_of_ble_eq_true rfl) ⟨(Nat.le_of_ble_eq_true rfl), (Nat.le_of_ble_eq_true rfl)⟩ (kP fun r_5 k_5 => ?_)
  refine j_if_eq (tgt := 22) M dX6_paste_8 (by decide) (fun h_8 => ?_) (fun h_8 => ?_)
  · have b_5 := ifF k_5 h_8
    refine j_ldc M k_X6_71 dX6_paste_22 ?_
    exact j_iret M dX6_paste_24 ⟨_, rfl, by (try dsimp only); rw [if_pos (fun q => b_5 q.1)]; exact ⟨rfl, rfl⟩⟩
  · have b_5 := ifT k_5 h_8
    refine j_aload_n M dX6_paste_11 rfl ?_
    refine gf_X6_26 M dX6_paste_12 ?_
    refine j_iload_n M dX6_paste_15 rfl ?_
    refine j_inv1 M lk_X6_158 (n_isBook hS hL) (rv_X3 lib_now) dX6_paste_16 (Nat.le_of_ble_eq_true rfl) ⟨(Nat.le_of_ble_eq_true rfl), (Nat.le_of_ble_eq_true rfl)⟩ (kP fun r_16 k_16 => ?_)
    refine j_if_ne (tgt := 25) M dX6_paste_19 (by decide) (fun h_19 => ?_) (fun h_19 => ?_)
    · have b_16 := ifT k_16 h_19
      refine j_iload_n M dX6_paste_25 rfl ?_
      refine j_invs1 M lk_X6_64 (c_X4_isRow) dX6_paste_26 (Nat.le_of_ble_eq_true rfl) ⟨(Nat.le_of_ble_eq_true rfl), (Nat.le_of_ble_eq_true rfl)⟩ (kP fun r_26 k_26 => ?_)
      refine j_if_eq (tgt := 43) M dX6_paste_29 (by decide) (fun h_29 => ?_) (fun h_29 => ?_)
      · have b_26 := ifF k_26 h_29
        refine j_ldc M k_X6_71 dX6_paste_43 ?_
        exact j_iret M dX6_paste_45 ⟨_, rfl, by (try dsimp only); rw [if_pos (fun q => b_26 q.2.2.1)]; exact ⟨rfl, rfl⟩⟩
      · have b_26 := ifT k_26 h_29
        refine j_iload M dX6_paste_32 rfl ?_
        refine j_iconst (v := 1) M dX6_paste_34 rfl ?_
        refine j_bipush (v := 12) M dX6_paste_35 rfl ?_
        refine j_invs3 M lk_X6_104 (c_X6_isWithin) dX6_paste_37 (Nat.le_of_ble_eq_true rfl) ⟨(Nat.le_of_ble_eq_true rfl), (Nat.le_of_ble_eq_true rfl)⟩ (kP fun r_37 k_37 => ?_)
        refine j_if_ne (tgt := 46) M dX6_paste_40 (by decide) (fun h_40 => ?_) (fun h_40 => ?_)
        · have b_37 := ifT k_37 h_40
          have hB1 := hS.w.b b_5
          have hB2 := hS.w.b b_16
          refine j_aload_n M dX6_paste_46 rfl ?_
          refine gf_X6_10 M dX6_paste_47 ?_
          refine j_iload_n M dX6_paste_50 rfl ?_
          refine j_iload M dX6_paste_51 rfl ?_
          refine j_iload M dX6_paste_53 rfl ?_
          refine j_inv3 M lk_X6_83 (c_X4_findingAt) rv_X4 dX6_paste_55 (Nat.le_of_ble_eq_true rfl) ⟨(Nat.le_of_ble_eq_true rfl), (Nat.le_of_ble_eq_true rfl)⟩ (kE ?_)
          refine j_istore_6 M dX6_paste_58 (by exact (by first | trivial | rfl)) ?_
          refine j_iload M dX6_paste_60 rfl ?_
          refine j_if_eq (tgt := 72) M dX6_paste_62 (by decide) (fun h_62 => ?_) (fun h_62 => ?_)
          · refine j_aload_n M dX6_paste_72 rfl ?_
            refine gf_X6_10 M dX6_paste_73 ?_
            refine j_iload_n M dX6_paste_76 rfl ?_
            refine j_iload M dX6_paste_77 rfl ?_
            refine j_iload M dX6_paste_79 rfl ?_
            refine j_inv3 M lk_X6_260 (c_X4_pick) rv_X4 dX6_paste_81 (Nat.le_of_ble_eq_true rfl) ⟨(Nat.le_of_ble_eq_true rfl), (Nat.le_of_ble_eq_true rfl)⟩ (kV fun σ_81 q_81 => ?_)
            subst q_81
            rw [pick_0 h_62]
            have n0 : 0 ≤ n := Int32.le_trans (by decide) b_37.1
            have eL : LibF ((up σ 1 0 (upI (upI (σ 1 0) 3 (w * 40 + i)) 4 n)) 6) s := pk_L hL
            have pP := pk_P h_62 hB
            have pq : 0 ≤ (up σ 1 0 (upI (upI (σ 1 0) 3 (w * 40 + i)) 4 n)) 1 0 4 := by rw [up_same, upI_same]; exact n0
            refine j_aload_n M dX6_paste_84 rfl ?_
            refine j_aload_n M dX6_paste_85 rfl ?_
            refine gf_X6_49 M dX6_paste_86 ?_
            refine j_aload_n M dX6_paste_89 rfl ?_
            refine gf_X6_26 M dX6_paste_90 ?_
            refine j_iload_n M dX6_paste_93 rfl ?_
            refine j_iload_n M dX6_paste_94 rfl ?_
            refine j_aload_n M dX6_paste_95 rfl ?_
            refine gf_X6_10 M dX6_paste_96 ?_
            refine j_inv4 M lk_X6_270 (c_X2_pastesThatFit lib_now (eL) (hB1.1) ((by decide)) (b_5.1) (hB1.2.1) (b_16.1) (hB2.2.1) (pP) (pq)) rv_X2 dX6_paste_99 (Nat.le_of_ble_eq_true rfl) ⟨(Nat.le_of_ble_eq_true rfl), (Nat.le_of_ble_eq_true rfl)⟩ (kI fun r_99 σ_99 q_99 => ?_)
            obtain ⟨e99, f99⟩ := q_99
            rw [up_ne _ _ (by decide), up_same, upI_ne _ _ (by decide), upI_same, upI_same] at e99
            subst e99
            refine j_inv1 M lk_X6_80 (c_X6_foundNothing) rv_X6 dX6_paste_102 (Nat.le_of_ble_eq_true rfl) ⟨(Nat.le_of_ble_eq_true rfl), (Nat.le_of_ble_eq_true rfl)⟩ (kI fun r_102 σ_102 q_102 => ?_)
            obtain ⟨rfl, rfl⟩ := q_102
            exact j_iret M dX6_paste_105 ⟨_, rfl, by (try dsimp only); rw [if_neg (fun q => q ⟨b_5, b_16, b_26, b_37⟩), if_neg (fun q => q h_62)]; exact ⟨rfl, (fit_fin f99).1, (fit_fin f99).2⟩⟩
          · refine j_aload_n M dX6_paste_65 rfl ?_
            refine j_iload M dX6_paste_66 rfl ?_
            refine j_inv1 M lk_X6_72 (c_X6_found) rv_X6 dX6_paste_68 (Nat.le_of_ble_eq_true rfl) ⟨(Nat.le_of_ble_eq_true rfl), (Nat.le_of_ble_eq_true rfl)⟩ (kI fun r_68 σ_68 q_68 => ?_)
            obtain ⟨rfl, rfl⟩ := q_68
            exact j_iret M dX6_paste_71 ⟨_, rfl, by (try dsimp only); rw [if_neg (fun q => q ⟨b_5, b_16, b_26, b_37⟩), if_pos h_62]; exact ⟨rfl, rfl⟩⟩
        · have b_37 := ifF k_37 h_40
          refine j_ldc M k_X6_71 dX6_paste_43 ?_
          exact j_iret M dX6_paste_45 ⟨_, rfl, by (try dsimp only); rw [if_pos (fun q => b_37 q.2.2.2)]; exact ⟨rfl, rfl⟩⟩
    · have b_16 := ifF k_16 h_19
      refine j_ldc M k_X6_71 dX6_paste_22 ?_
      exact j_iret M dX6_paste_24 ⟨_, rfl, by (try dsimp only); rw [if_pos (fun q => b_16 q.2.1)]; exact ⟨rfl, rfl⟩⟩
set_option maxRecDepth 100000 in
theorem c_X6_hungers {l : Launch} {G : Gw} {σ : Sg} {b : Int32} {w : Int32} {i : Int32} {n : Int32} {s : St} {t : Int32} (hS : SO t s) (hL : LibF (σ 6) s) (hB : RowB (σ 1 1) (σ 1 2)) : Mt l G yX6_hungers cX6_hungers 6 (some .int) 6 142 [.ref (ad G 0 0), .int b, .int w, .int i, .int n] σ (pI fun r τ => if ¬ (isB s b ∧ (0 ≤ w ∧ w < 8) ∧ inR 1 n 12) then r = -1000001 ∧ τ = σ else if ¬ (fdR (σ 1 1) (σ 1 2) w i n) = 0 then r = -1000010 - (fdR (σ 1 1) (σ 1 2) w i n) ∧ τ = up σ 0 0 (upI (σ 0 0) 9 ((fdR (σ 1 1) (σ 1 2) w i n))) else r = fitR s (σ 1 3) 2 1 9 b (w * 40 + i) n ∧ τ 0 0 = upI (σ 0 0) 9 0 ∧ frW σ τ) := by
  refine mt_intro (by decide +kernel) (Nat.le_of_ble_eq_true rfl) (fun Φ M => ?_)
  show Φ 0 [some (.ref (ad G 0 0)), some (.int b), some (.int w), some (.int i), some (.int n), none] [] σ
  refine j_aload_n M dX6_hungers_0 rfl ?_
  refine gf_X6_26 M dX6_hungers_1 ?_
  refine j_iload_n M dX6_hungers_4 rfl ?_
  refine j_inv1 M lk_X6_158 (n_isBook hS hL) (rv_X3 lib_now) dX6_hungers_5 (Nat.le_of_ble_eq_true rfl) ⟨(Nat.le_of_ble_eq_true rfl), (Nat.le_of_ble_eq_true rfl)⟩ (kP fun r_5 k_5 => ?_)
  refine j_if_eq (tgt := 29) M dX6_hungers_8 (by decide) (fun h_8 => ?_) (fun h_8 => ?_)
  · have b_5 := ifF k_5 h_8
    refine j_ldc M k_X6_71 dX6_hungers_29 ?_
    exact j_iret M dX6_hungers_31 ⟨_, rfl, by (try dsimp only); rw [if_pos (fun q => b_5 q.1)]; exact ⟨rfl, rfl⟩⟩
  · have b_5 := ifT k_5 h_8
    refine j_iload_n M dX6_hungers_11 rfl ?_
    refine j_invs1 M lk_X6_64 (c_X4_isRow) dX6_hungers_12 (Nat.le_of_ble_eq_true rfl) ⟨(Nat.le_of_ble_eq_true rfl), (Nat.le_of_ble_eq_true rfl)⟩ (kP fun r_12 k_12 => ?_)
    refine j_if_eq (tgt := 29) M dX6_hungers_15 (by decide) (fun h_15 => ?_) (fun h_15 => ?_)
    · have b_12 := ifF k_12 h_15
      refine j_ldc M k_X6_71 dX6_hungers_29 ?_
      exact j_iret M dX6_hungers_31 ⟨_, rfl, by (try dsimp only); rw [if_pos (fun q => b_12 q.2.1)]; exact ⟨rfl, rfl⟩⟩
    · have b_12 := ifT k_12 h_15
      refine j_iload M dX6_hungers_18 rfl ?_
      refine j_iconst (v := 1) M dX6_hungers_20 rfl ?_
      refine j_bipush (v := 12) M dX6_hungers_21 rfl ?_
      refine j_invs3 M lk_X6_104 (c_X6_isWithin) dX6_hungers_23 (Nat.le_of_ble_eq_true rfl) ⟨(Nat.le_of_ble_eq_true rfl), (Nat.le_of_ble_eq_true rfl)⟩ (kP fun r_23 k_23 => ?_)
      refine j_if_ne (tgt := 32) M dX6_hungers_26 (by decide) (fun h_26 => ?_) (fun h_26 => ?_)
      · have b_23 := ifT k_23 h_26
        have hB1 := hS.w.b b_5
        refine j_aload_n M dX6_hungers_32 rfl ?_
        refine gf_X6_10 M dX6_hungers_33 ?_
        refine j_iload_n M dX6_hungers_36 rfl ?_
        refine j_iload_n M dX6_hungers_37 rfl ?_
        refine j_iload M dX6_hungers_38 rfl ?_
        refine j_inv3 M lk_X6_83 (c_X4_findingAt) rv_X4 dX6_hungers_40 (Nat.le_of_ble_eq_true rfl) ⟨(Nat.le_of_ble_eq_true rfl), (Nat.le_of_ble_eq_true rfl)⟩ (kE ?_)
        refine j_istore_5 M dX6_hungers_43 (by exact (by first | trivial | rfl)) ?_
        refine j_iload M dX6_hungers_45 rfl ?_
        refine j_if_eq (tgt := 57) M dX6_hungers_47 (by decide) (fun h_47 => ?_) (fun h_47 => ?_)
        · refine j_aload_n M dX6_hungers_57 rfl ?_
          refine gf_X6_10 M dX6_hungers_58 ?_
          refine j_iload_n M dX6_hungers_61 rfl ?_
          refine j_iload_n M dX6_hungers_62 rfl ?_
          refine j_iload M dX6_hungers_63 rfl ?_
          refine j_inv3 M lk_X6_260 (c_X4_pick) rv_X4 dX6_hungers_65 (Nat.le_of_ble_eq_true rfl) ⟨(Nat.le_of_ble_eq_true rfl), (Nat.le_of_ble_eq_true rfl)⟩ (kV fun σ_65 q_65 => ?_)
          subst q_65
          rw [pick_0 h_47]
          have n0 : 0 ≤ n := Int32.le_trans (by decide) b_23.1
          have eL : LibF ((up σ 1 0 (upI (upI (σ 1 0) 3 (w * 40 + i)) 4 n)) 6) s := pk_L hL
          have pP := pk_P h_47 hB
          have pq : 0 ≤ (up σ 1 0 (upI (upI (σ 1 0) 3 (w * 40 + i)) 4 n)) 1 0 4 := by rw [up_same, upI_same]; exact n0
          refine j_aload_n M dX6_hungers_68 rfl ?_
          refine j_aload_n M dX6_hungers_69 rfl ?_
          refine gf_X6_49 M dX6_hungers_70 ?_
          refine j_aload_n M dX6_hungers_73 rfl ?_
          refine gf_X6_26 M dX6_hungers_74 ?_
          refine j_iload_n M dX6_hungers_77 rfl ?_
          refine j_aload_n M dX6_hungers_78 rfl ?_
          refine gf_X6_10 M dX6_hungers_79 ?_
          refine j_inv3 M lk_X6_273 (c_X2_hungersThatFit lib_now (eL) (hB1.1) ((by decide)) (b_5.1) (hB1.2.1) (pP) (pq)) rv_X2 dX6_hungers_82 (Nat.le_of_ble_eq_true rfl) ⟨(Nat.le_of_ble_eq_true rfl), (Nat.le_of_ble_eq_true rfl)⟩ (kI fun r_82 σ_82 q_82 => ?_)
          obtain ⟨e82, f82⟩ := q_82
          rw [up_ne _ _ (by decide), up_same, upI_ne _ _ (by decide), upI_same, upI_same] at e82
          subst e82
          refine j_inv1 M lk_X6_80 (c_X6_foundNothing) rv_X6 dX6_hungers_85 (Nat.le_of_ble_eq_true rfl) ⟨(Nat.le_of_ble_eq_true rfl), (Nat.le_of_ble_eq_true rfl)⟩ (kI fun r_85 σ_85 q_85 => ?_)
          obtain ⟨rfl, rfl⟩ := q_85
          exact j_iret M dX6_hungers_88 ⟨_, rfl, by (try dsimp only); rw [if_neg (fun q => q ⟨b_5, b_12, b_23⟩), if_neg (fun q => q h_47)]; exact ⟨rfl, (fit_fin f82).1, (fit_fin f82).2⟩⟩
        · refine j_aload_n M dX6_hungers_50 rfl ?_
          refine j_iload M dX6_hungers_51 rfl ?_
          refine j_inv1 M lk_X6_72 (c_X6_found) rv_X6 dX6_hungers_53 (Nat.le_of_ble_eq_true rfl) ⟨(Nat.le_of_ble_eq_true rfl), (Nat.le_of_ble_eq_true rfl)⟩ (kI fun r_53 σ_53 q_53 => ?_)
          obtain ⟨rfl, rfl⟩ := q_53
          exact j_iret M dX6_hungers_56 ⟨_, rfl, by (try dsimp only); rw [if_neg (fun q => q ⟨b_5, b_12, b_23⟩), if_pos h_47]; exact ⟨rfl, rfl⟩⟩
      · have b_23 := ifF k_23 h_26
        refine j_ldc M k_X6_71 dX6_hungers_29 ?_
        exact j_iret M dX6_hungers_31 ⟨_, rfl, by (try dsimp only); rw [if_pos (fun q => b_23 q.2.2)]; exact ⟨rfl, rfl⟩⟩
set_option maxRecDepth 100000 in
theorem c_X6_ask {l : Launch} {G : Gw} {σ : Sg} {f : Int32} {v : Int32} {s : St} {t : Int32} (hS : SO t s) (hL : LibF (σ 6) s) : Mt l G yX6_ask cX6_ask 3 (some .int) 4 86 [.ref (ad G 0 0), .int f, .int v] σ (pI fun r τ => if ¬ (isF s f ∧ inR 0 v 1) then r = -1000001 ∧ τ = σ else if v = 0 then r = szC (s (26 + f)) f (s (31 + f)) (s (36 + f)) ∧ τ = levs (bgC σ f (s (26 + f)) (s (31 + f)) (s (36 + f))) (szCl (s (26 + f))) else r = mrC (s (26 + f)) f (s (31 + f)) (s (36 + f)) ∧ τ = levs (bgC σ f (s (26 + f)) (s (31 + f)) (s (36 + f))) (mrCl (s (26 + f)))) := by
  refine mt_intro (by decide +kernel) (Nat.le_of_ble_eq_true rfl) (fun Φ M => ?_)
  show Φ 0 [some (.ref (ad G 0 0)), some (.int f), some (.int v)] [] σ
  refine j_aload_n M dX6_ask_0 rfl ?_
  refine gf_X6_26 M dX6_ask_1 ?_
  refine j_iload_n M dX6_ask_4 rfl ?_
  refine j_inv1 M lk_X6_184 (n_isFish hS hL) (rv_X3 lib_now) dX6_ask_5 (Nat.le_of_ble_eq_true rfl) ⟨(Nat.le_of_ble_eq_true rfl), (Nat.le_of_ble_eq_true rfl)⟩ (kP fun r_5 k_5 => ?_)
  refine j_if_eq (tgt := 20) M dX6_ask_8 (by decide) (fun h_8 => ?_) (fun h_8 => ?_)
  · have b_5 := ifF k_5 h_8
    refine j_ldc M k_X6_71 dX6_ask_20 ?_
    exact j_iret M dX6_ask_22 ⟨_, rfl, by (try dsimp only); rw [if_pos (fun q => b_5 q.1)]; exact ⟨rfl, rfl⟩⟩
  · have b_5 := ifT k_5 h_8
    refine j_iload_n M dX6_ask_11 rfl ?_
    refine j_iconst (v := 0) M dX6_ask_12 rfl ?_
    refine j_iconst (v := 1) M dX6_ask_13 rfl ?_
    refine j_invs3 M lk_X6_104 (c_X6_isWithin) dX6_ask_14 (Nat.le_of_ble_eq_true rfl) ⟨(Nat.le_of_ble_eq_true rfl), (Nat.le_of_ble_eq_true rfl)⟩ (kP fun r_14 k_14 => ?_)
    refine j_if_ne (tgt := 23) M dX6_ask_17 (by decide) (fun h_17 => ?_) (fun h_17 => ?_)
    · have b_14 := ifT k_14 h_17
      have hF := hS.w.f b_5
      have f0 := b_5.1
      have f1 := hF.2.1
      have f5 := hF.2.2
      have fe := hL.2.2 f f0 f1
      refine j_aload_n M dX6_ask_23 rfl ?_
      refine gf_X6_56 M dX6_ask_24 ?_
      refine j_iload_n M dX6_ask_27 rfl ?_
      refine j_aload_n M dX6_ask_28 rfl ?_
      refine gf_X6_26 M dX6_ask_29 ?_
      refine gf_X6_299 M lib_now dX6_ask_32 ?_
      refine j_iload_n M dX6_ask_35 rfl ?_
      refine al_L_5 M lib_now dX6_ask_36 (by first | assumption | decide) (by first | assumption | decide) ?_
      rw [fe.1]
      refine j_aload_n M dX6_ask_37 rfl ?_
      refine gf_X6_26 M dX6_ask_38 ?_
      refine gf_X6_190 M lib_now dX6_ask_41 ?_
      refine j_iload_n M dX6_ask_44 rfl ?_
      refine al_L_6 M lib_now dX6_ask_45 (by first | assumption | decide) (by first | assumption | decide) ?_
      rw [fe.2.1]
      refine j_aload_n M dX6_ask_46 rfl ?_
      refine gf_X6_26 M dX6_ask_47 ?_
      refine gf_X6_208 M lib_now dX6_ask_50 ?_
      refine j_iload_n M dX6_ask_53 rfl ?_
      refine al_L_7 M lib_now dX6_ask_54 (by first | assumption | decide) (by first | assumption | decide) ?_
      rw [fe.2.2]
      refine j_inv4 M lk_X6_306 (c_X1_begin) rv_X1 dX6_ask_55 (Nat.le_of_ble_eq_true rfl) ⟨(Nat.le_of_ble_eq_true rfl), (Nat.le_of_ble_eq_true rfl)⟩ (kV fun σ_55 q_55 => ?_)
      subst q_55
      rw [show (up σ 4 0 (upI (upI (upI (upI (upI (σ 4 0) 1 0) 2 f) 3 (s (26 + f))) 4 (s (31 + f))) 5 (s (36 + f)))) = (bgC σ f (s (26 + f)) (s (31 + f)) (s (36 + f))) from rfl]
      refine j_iload_n M dX6_ask_58 rfl ?_
      refine j_if_ne (tgt := 72) M dX6_ask_59 (by decide) (fun h_59 => ?_) (fun h_59 => ?_)
      · refine j_aload_n M dX6_ask_72 rfl ?_
        refine gf_X6_56 M dX6_ask_73 ?_
        refine j_inv0 M lk_X6_313 (c_X1_markAsked) rv_X1 dX6_ask_76 (Nat.le_of_ble_eq_true rfl) ⟨(Nat.le_of_ble_eq_true rfl), (Nat.le_of_ble_eq_true rfl)⟩ (kI fun r_76 σ_76 q_76 => ?_)
        obtain ⟨e76, rfl⟩ := q_76
        rw [e76]
        exact j_iret M dX6_ask_79 ⟨_, rfl, by (try dsimp only); rw [if_neg (fun q => q ⟨b_5, b_14⟩), if_neg h_59]; have g := bgC_f σ f (s (26 + f)) (s (31 + f)) (s (36 + f)); rw [g.1, g.2.1, g.2.2.1, g.2.2.2.1]; exact ⟨rfl, rfl⟩⟩
      · refine j_aload_n M dX6_ask_62 rfl ?_
        refine gf_X6_56 M dX6_ask_63 ?_
        refine j_inv0 M lk_X6_310 (c_X1_sizeAsked) rv_X1 dX6_ask_66 (Nat.le_of_ble_eq_true rfl) ⟨(Nat.le_of_ble_eq_true rfl), (Nat.le_of_ble_eq_true rfl)⟩ (kI fun r_66 σ_66 q_66 => ?_)
        obtain ⟨e66, rfl⟩ := q_66
        rw [e66]
        refine j_goto (tgt := 79) M dX6_ask_69 (by decide) ?_
        exact j_iret M dX6_ask_79 ⟨_, rfl, by (try dsimp only); rw [if_neg (fun q => q ⟨b_5, b_14⟩), if_pos h_59]; have g := bgC_f σ f (s (26 + f)) (s (31 + f)) (s (36 + f)); rw [g.1, g.2.1, g.2.2.1, g.2.2.2.1]; exact ⟨rfl, rfl⟩⟩
    · have b_14 := ifF k_14 h_17
      refine j_ldc M k_X6_71 dX6_ask_20 ?_
      exact j_iret M dX6_ask_22 ⟨_, rfl, by (try dsimp only); rw [if_pos (fun q => b_14 q.2)]; exact ⟨rfl, rfl⟩⟩
set_option maxRecDepth 100000 in
theorem c_X6_image {l : Launch} {G : Gw} {σ : Sg} {k : Int32} {s : St} {t : Int32} (hS : SO t s) (hL : LibF (σ 6) s) : Mt l G yX6_image cX6_image 2 (some .int) 1 22 [.ref (ad G 0 0), .int k] σ (pI fun r τ => if ¬ inR 0 k 1 then r = -1000001 ∧ τ = σ else if t = 0 then r = -1000002 ∧ τ = σ else r = 1 ∧ LibF (τ (if k = 0 then 8 else 9)) s ∧ (∀ c j, c ≠ (if k = 0 then 8 else 9) → τ c j = σ c j)) := by
  refine mt_intro (by decide +kernel) (Nat.le_of_ble_eq_true rfl) (fun Φ M => ?_)
  show Φ 0 [some (.ref (ad G 0 0)), some (.int k)] [] σ
  refine j_iload_n M dX6_image_0 rfl ?_
  refine j_iconst (v := 0) M dX6_image_1 rfl ?_
  refine j_iconst (v := 1) M dX6_image_2 rfl ?_
  refine j_invs3 M lk_X6_104 (c_X6_isWithin) dX6_image_3 (Nat.le_of_ble_eq_true rfl) ⟨(Nat.le_of_ble_eq_true rfl), (Nat.le_of_ble_eq_true rfl)⟩ (kP fun r_3 k_3 => ?_)
  refine j_if_ne (tgt := 12) M dX6_image_6 (by decide) (fun h_6 => ?_) (fun h_6 => ?_)
  · have b_3 := ifT k_3 h_6
    refine j_aload_n M dX6_image_12 rfl ?_
    refine gf_X6_26 M dX6_image_13 ?_
    refine j_inv0 M lk_X6_141 (n_isTold hS hL) (rv_X3 lib_now) dX6_image_16 (Nat.le_of_ble_eq_true rfl) ⟨(Nat.le_of_ble_eq_true rfl), (Nat.le_of_ble_eq_true rfl)⟩ (kP fun r_16 k_16 => ?_)
    refine j_if_ne (tgt := 25) M dX6_image_19 (by decide) (fun h_19 => ?_) (fun h_19 => ?_)
    · have b_16 := ifT k_16 h_19
      refine j_iload_n M dX6_image_25 rfl ?_
      refine j_if_ne (tgt := 36) M dX6_image_26 (by decide) (fun h_26 => ?_) (fun h_26 => ?_)
      · refine j_aload_n M dX6_image_36 rfl ?_
        refine gf_X6_36 M dX6_image_37 ?_
        refine j_aload_n M dX6_image_40 rfl ?_
        refine gf_X6_26 M dX6_image_41 ?_
        refine j_inv1 M lk_X6_121 (c_X3_take lib_im1 lib_now ((by decide))) (rv_X3 lib_im1) dX6_image_44 (Nat.le_of_ble_eq_true rfl) ⟨(Nat.le_of_ble_eq_true rfl), (Nat.le_of_ble_eq_true rfl)⟩ (kV fun σ_44 q_44 => ?_)
        refine j_iconst (v := 1) M dX6_image_47 rfl ?_
        exact j_iret M dX6_image_48 ⟨_, rfl, by (try dsimp only); rw [if_neg (fun q => q b_3), if_neg b_16, if_neg h_26]; obtain ⟨m1, m2, m3⟩ := q_44; exact ⟨rfl, m1 s hS.w.z hL, fun c k h => m3 c k (fun e => h e.1)⟩⟩
      · refine j_aload_n M dX6_image_29 rfl ?_
        refine gf_X6_33 M dX6_image_30 ?_
        refine j_goto (tgt := 40) M dX6_image_33 (by decide) ?_
        refine j_aload_n M dX6_image_40 rfl ?_
        refine gf_X6_26 M dX6_image_41 ?_
        refine j_inv1 M lk_X6_121 (c_X3_take lib_im0 lib_now ((by decide))) (rv_X3 lib_im0) dX6_image_44 (Nat.le_of_ble_eq_true rfl) ⟨(Nat.le_of_ble_eq_true rfl), (Nat.le_of_ble_eq_true rfl)⟩ (kV fun σ_44 q_44 => ?_)
        refine j_iconst (v := 1) M dX6_image_47 rfl ?_
        exact j_iret M dX6_image_48 ⟨_, rfl, by (try dsimp only); rw [if_neg (fun q => q b_3), if_neg b_16, if_pos h_26]; obtain ⟨m1, m2, m3⟩ := q_44; exact ⟨rfl, m1 s hS.w.z hL, fun c k h => m3 c k (fun e => h e.1)⟩⟩
    · have b_16 := ifF k_16 h_19
      refine j_ldc M k_X6_137 dX6_image_22 ?_
      exact j_iret M dX6_image_24 ⟨_, rfl, by (try dsimp only); rw [if_neg (fun q => q b_3), if_pos (Classical.not_not.mp b_16)]; exact ⟨rfl, rfl⟩⟩
  · have b_3 := ifF k_3 h_6
    refine j_ldc M k_X6_71 dX6_image_9 ?_
    exact j_iret M dX6_image_11 ⟨_, rfl, by (try dsimp only); rw [if_pos b_3]; exact ⟨rfl, rfl⟩⟩
set_option maxRecDepth 100000 in
theorem c_X6_restore {l : Launch} {G : Gw} {σ : Sg} {k : Int32}   : Mt l G yX6_restore cX6_restore 3 (some .int) 1 22 [.ref (ad G 0 0), .int k] σ (pI fun r τ => if ¬ inR 0 k 1 then r = -1000001 ∧ τ = σ else if ¬ 0 < σ (if k = 0 then 8 else 9) 0 0 then r = -1000002 ∧ τ = σ else r = 1 ∧ Tk0 σ τ 6 (if k = 0 then 8 else 9) ∧ τ 3 0 = upI (σ 3 0) 2 0 ∧ (∀ c j, c ≠ 6 → ¬ (c = 3 ∧ j = 0) → τ c j = σ c j)) := by
  refine mt_intro (by decide +kernel) (Nat.le_of_ble_eq_true rfl) (fun Φ M => ?_)
  show Φ 0 [some (.ref (ad G 0 0)), some (.int k), none] [] σ
  refine j_iload_n M dX6_restore_0 rfl ?_
  refine j_iconst (v := 0) M dX6_restore_1 rfl ?_
  refine j_iconst (v := 1) M dX6_restore_2 rfl ?_
  refine j_invs3 M lk_X6_104 (c_X6_isWithin) dX6_restore_3 (Nat.le_of_ble_eq_true rfl) ⟨(Nat.le_of_ble_eq_true rfl), (Nat.le_of_ble_eq_true rfl)⟩ (kP fun r_3 k_3 => ?_)
  refine j_if_ne (tgt := 12) M dX6_restore_6 (by decide) (fun h_6 => ?_) (fun h_6 => ?_)
  · have b_3 := ifT k_3 h_6
    refine j_iload_n M dX6_restore_12 rfl ?_
    refine j_if_ne (tgt := 23) M dX6_restore_13 (by decide) (fun h_13 => ?_) (fun h_13 => ?_)
    · refine j_aload_n M dX6_restore_23 rfl ?_
      refine gf_X6_36 M dX6_restore_24 ?_
      refine j_astore_2 M dX6_restore_27 (by exact (by first | trivial | rfl)) ?_
      refine j_aload_n M dX6_restore_28 rfl ?_
      refine j_inv0 M lk_X6_141 (c_X3_isTold lib_im1) (rv_X3 lib_im1) dX6_restore_29 (Nat.le_of_ble_eq_true rfl) ⟨(Nat.le_of_ble_eq_true rfl), (Nat.le_of_ble_eq_true rfl)⟩ (kP fun r_29 k_29 => ?_)
      refine j_if_ne (tgt := 38) M dX6_restore_32 (by decide) (fun h_32 => ?_) (fun h_32 => ?_)
      · have b_29 := ifT k_29 h_32
        refine j_aload_n M dX6_restore_38 rfl ?_
        refine gf_X6_26 M dX6_restore_39 ?_
        refine j_aload_n M dX6_restore_42 rfl ?_
        refine j_inv1 M lk_X6_121 (c_X3_take lib_now lib_im1 ((by decide))) (rv_X3 lib_now) dX6_restore_43 (Nat.le_of_ble_eq_true rfl) ⟨(Nat.le_of_ble_eq_true rfl), (Nat.le_of_ble_eq_true rfl)⟩ (kV fun σ_43 q_43 => ?_)
        refine j_aload_n M dX6_restore_46 rfl ?_
        refine gf_X6_42 M dX6_restore_47 ?_
        refine j_inv0 M lk_X6_125 (c_X0_forget) rv_X0 dX6_restore_50 (Nat.le_of_ble_eq_true rfl) ⟨(Nat.le_of_ble_eq_true rfl), (Nat.le_of_ble_eq_true rfl)⟩ (kV fun σ_50 q_50 => ?_)
        subst q_50
        refine j_iconst (v := 1) M dX6_restore_53 rfl ?_
        exact j_iret M dX6_restore_54 ⟨_, rfl, by (try dsimp only); rw [if_neg (fun q => q b_3), if_neg (fun q => q (by rw [if_neg h_13]; exact b_29)), if_neg h_13]; exact rst_fin q_43⟩
      · have b_29 := ifF k_29 h_32
        refine j_ldc M k_X6_137 dX6_restore_35 ?_
        exact j_iret M dX6_restore_37 ⟨_, rfl, by (try dsimp only); rw [if_neg (fun q => q b_3), if_pos (by rw [if_neg h_13]; exact b_29)]; exact ⟨rfl, rfl⟩⟩
    · refine j_aload_n M dX6_restore_16 rfl ?_
      refine gf_X6_33 M dX6_restore_17 ?_
      refine j_goto (tgt := 27) M dX6_restore_20 (by decide) ?_
      refine j_astore_2 M dX6_restore_27 (by exact (by first | trivial | rfl)) ?_
      refine j_aload_n M dX6_restore_28 rfl ?_
      refine j_inv0 M lk_X6_141 (c_X3_isTold lib_im0) (rv_X3 lib_im0) dX6_restore_29 (Nat.le_of_ble_eq_true rfl) ⟨(Nat.le_of_ble_eq_true rfl), (Nat.le_of_ble_eq_true rfl)⟩ (kP fun r_29 k_29 => ?_)
      refine j_if_ne (tgt := 38) M dX6_restore_32 (by decide) (fun h_32 => ?_) (fun h_32 => ?_)
      · have b_29 := ifT k_29 h_32
        refine j_aload_n M dX6_restore_38 rfl ?_
        refine gf_X6_26 M dX6_restore_39 ?_
        refine j_aload_n M dX6_restore_42 rfl ?_
        refine j_inv1 M lk_X6_121 (c_X3_take lib_now lib_im0 ((by decide))) (rv_X3 lib_now) dX6_restore_43 (Nat.le_of_ble_eq_true rfl) ⟨(Nat.le_of_ble_eq_true rfl), (Nat.le_of_ble_eq_true rfl)⟩ (kV fun σ_43 q_43 => ?_)
        refine j_aload_n M dX6_restore_46 rfl ?_
        refine gf_X6_42 M dX6_restore_47 ?_
        refine j_inv0 M lk_X6_125 (c_X0_forget) rv_X0 dX6_restore_50 (Nat.le_of_ble_eq_true rfl) ⟨(Nat.le_of_ble_eq_true rfl), (Nat.le_of_ble_eq_true rfl)⟩ (kV fun σ_50 q_50 => ?_)
        subst q_50
        refine j_iconst (v := 1) M dX6_restore_53 rfl ?_
        exact j_iret M dX6_restore_54 ⟨_, rfl, by (try dsimp only); rw [if_neg (fun q => q b_3), if_neg (fun q => q (by rw [if_pos h_13]; exact b_29)), if_pos h_13]; exact rst_fin q_43⟩
      · have b_29 := ifF k_29 h_32
        refine j_ldc M k_X6_137 dX6_restore_35 ?_
        exact j_iret M dX6_restore_37 ⟨_, rfl, by (try dsimp only); rw [if_neg (fun q => q b_3), if_pos (by rw [if_pos h_13]; exact b_29)]; exact ⟨rfl, rfl⟩⟩
  · have b_3 := ifF k_3 h_6
    refine j_ldc M k_X6_71 dX6_restore_9 ?_
    exact j_iret M dX6_restore_11 ⟨_, rfl, by (try dsimp only); rw [if_pos b_3]; exact ⟨rfl, rfl⟩⟩
set_option maxRecDepth 100000 in
theorem c_X6_undo {l : Launch} {G : Gw} {σ : Sg}  {A : St} {m : Int32} (hA : AR (σ 3 0 1) (σ 3 0 2) σ A m) : Mt l G yX6_undo cX6_undo 1 (some .int) 2 45 [.ref (ad G 0 0)] σ (pI fun r τ => if m = 0 then r = -1000002 ∧ τ = σ else r = m - 1 ∧ LibF (τ 6) (getB A (41 * (m - 1))) ∧ OK (getB A (41 * (m - 1))) ∧ AR (τ 3 0 1) (τ 3 0 2) τ A (m - 1) ∧ (∀ c k, c ≠ 3 → c ≠ 6 → τ c k = σ c k)) := by
  refine mt_intro (by decide +kernel) (Nat.le_of_ble_eq_true rfl) (fun Φ M => ?_)
  show Φ 0 [some (.ref (ad G 0 0))] [] σ
  have ar := AR_rng hA
  
  refine j_aload_n M dX6_undo_0 rfl ?_
  refine gf_X6_42 M dX6_undo_1 ?_
  refine gf_X6_134 M dX6_undo_4 ?_
  refine j_if_ne (tgt := 13) M dX6_undo_7 (by decide) (fun h_7 => ?_) (fun h_7 => ?_)
  · have hm : ¬ m = 0 := by rw [ar.2.2] at h_7; exact h_7
    have rr := rem_23 ar.1.1 ar.1.2
    refine j_aload_n M dX6_undo_13 rfl ?_
    refine gf_X6_42 M dX6_undo_14 ?_
    refine j_aload_n M dX6_undo_17 rfl ?_
    refine gf_X6_26 M dX6_undo_18 ?_
    refine j_inv1 M lk_X6_138 (c_X0_bringBack lib_now ((by decide)) (rr.1) (rr.2) (h_7)) rv_X0 dX6_undo_21 (Nat.le_of_ble_eq_true rfl) ⟨(Nat.le_of_ble_eq_true rfl), (Nat.le_of_ble_eq_true rfl)⟩ (kV fun σ_21 q_21 => ?_)
    have bk := AR_back hA hm q_21
    refine j_aload_n M dX6_undo_24 rfl ?_
    refine gf_X6_42 M dX6_undo_25 ?_
    refine gf_X6_134 M dX6_undo_28 ?_
    exact j_iret M dX6_undo_31 ⟨_, rfl, by (try dsimp only); rw [if_neg hm]; exact ⟨by rw [q_21.2.2.1, ar.2.2], bk.1, bk.2.1, bk.2.2, q_21.2.2.2⟩⟩
  · refine j_ldc M k_X6_137 dX6_undo_10 ?_
    exact j_iret M dX6_undo_12 ⟨_, rfl, by (try dsimp only); rw [if_pos (by rw [← ar.2.2]; exact h_7)]; exact ⟨rfl, rfl⟩⟩
set_option maxRecDepth 100000 in
theorem c_X6_light {l : Launch} {G : Gw} {σ : Sg} {b : Int32} {o : Int32} {s A : St} {t m : Int32} (hS : SO t s) (hL : LibF (σ 6) s) (hA : AR (σ 3 0 1) (σ 3 0 2) σ A m) : Mt l G yX6_light cX6_light 3 (some .int) 2 44 [.ref (ad G 0 0), .int b, .int o] σ (pI fun r τ => if ¬ (isB s b ∧ inR 0 o 1) then r = -1000001 ∧ τ = σ else if bitv (s 5) b = o ∨ (o = 1 ∧ ¬ ones (s 5) < s 3) then r = -1000002 ∧ τ = σ else r = s 5 ^^^ shl32 1 b ∧ actC A m s σ τ (upI s 5 (s 5 ^^^ shl32 1 b))) := by
  refine mt_intro (by decide +kernel) (Nat.le_of_ble_eq_true rfl) (fun Φ M => ?_)
  show Φ 0 [some (.ref (ad G 0 0)), some (.int b), some (.int o)] [] σ
  have ar := AR_rng hA
  
  refine j_aload_n M dX6_light_0 rfl ?_
  refine gf_X6_26 M dX6_light_1 ?_
  refine j_iload_n M dX6_light_4 rfl ?_
  refine j_inv1 M lk_X6_158 (n_isBook hS hL) (rv_X3 lib_now) dX6_light_5 (Nat.le_of_ble_eq_true rfl) ⟨(Nat.le_of_ble_eq_true rfl), (Nat.le_of_ble_eq_true rfl)⟩ (kP fun r_5 k_5 => ?_)
  refine j_if_eq (tgt := 20) M dX6_light_8 (by decide) (fun h_8 => ?_) (fun h_8 => ?_)
  · have b_5 := ifF k_5 h_8
    refine j_ldc M k_X6_71 dX6_light_20 ?_
    exact j_iret M dX6_light_22 ⟨_, rfl, by (try dsimp only); rw [if_pos (fun q => b_5 q.1)]; exact ⟨rfl, rfl⟩⟩
  · have b_5 := ifT k_5 h_8
    refine j_iload_n M dX6_light_11 rfl ?_
    refine j_iconst (v := 0) M dX6_light_12 rfl ?_
    refine j_iconst (v := 1) M dX6_light_13 rfl ?_
    refine j_invs3 M lk_X6_104 (c_X6_isWithin) dX6_light_14 (Nat.le_of_ble_eq_true rfl) ⟨(Nat.le_of_ble_eq_true rfl), (Nat.le_of_ble_eq_true rfl)⟩ (kP fun r_14 k_14 => ?_)
    refine j_if_ne (tgt := 23) M dX6_light_17 (by decide) (fun h_17 => ?_) (fun h_17 => ?_)
    · have b_14 := ifT k_14 h_17
      have hB := hS.w.b b_5
      have hO := hS.o (Int32.lt_of_le_of_lt b_5.1 hB.2.1)
      have l5 := hB.1.1.2.2.2.2.1
      
      refine j_aload_n M dX6_light_23 rfl ?_
      refine gf_X6_26 M dX6_light_24 ?_
      refine gf_X6_161 M lib_now dX6_light_27 ?_
      rw [hL.1.2.2.2.2.2.1]
      refine j_iload_n M dX6_light_30 rfl ?_
      refine j_invs2 M lk_X6_164 (c_X6_bitOf) dX6_light_31 (Nat.le_of_ble_eq_true rfl) ⟨(Nat.le_of_ble_eq_true rfl), (Nat.le_of_ble_eq_true rfl)⟩ (kE ?_)
      refine j_iload_n M dX6_light_34 rfl ?_
      refine j_icmp_ne (tgt := 41) M dX6_light_35 (by decide) (fun h_35 => ?_) (fun h_35 => ?_)
      · refine j_iload_n M dX6_light_41 rfl ?_
        refine j_iconst (v := 1) M dX6_light_42 rfl ?_
        refine j_icmp_ne (tgt := 69) M dX6_light_43 (by decide) (fun h_43 => ?_) (fun h_43 => ?_)
        · refine j_aload_n M dX6_light_69 rfl ?_
          refine gf_X6_42 M dX6_light_70 ?_
          refine j_aload_n M dX6_light_73 rfl ?_
          refine gf_X6_26 M dX6_light_74 ?_
          refine j_inv1 M lk_X6_148 (c_X0_remember lib_now ((by decide)) (ar.1.1) (ar.1.2)) rv_X0 dX6_light_77 (Nat.le_of_ble_eq_true rfl) ⟨(Nat.le_of_ble_eq_true rfl), (Nat.le_of_ble_eq_true rfl)⟩ (kV fun σ_77 q_77 => ?_)
          have eL := act_L ar.1 (fun c k h1 h2 => q_77.2.2.2 c k h1 h2) hL
          refine j_aload_n M dX6_light_80 rfl ?_
          refine gf_X6_26 M dX6_light_81 ?_
          refine j_dup M dX6_light_84 rfl ?_
          refine gf_X6_161 M lib_now dX6_light_85 ?_
          rw [eL.1.2.2.2.2.2.1]
          refine j_iconst (v := 1) M dX6_light_88 rfl ?_
          refine j_iload_n M dX6_light_89 rfl ?_
          refine j_ishl M dX6_light_90 ?_
          refine j_ixor M dX6_light_91 ?_
          refine pf_X6_161 M lib_now dX6_light_92 ?_
          refine j_aload_n M dX6_light_95 rfl ?_
          refine gf_X6_26 M dX6_light_96 ?_
          refine gf_X6_161 M lib_now dX6_light_99 ?_
          exact j_iret M dX6_light_102 ⟨_, rfl, by (try dsimp only); rw [if_neg (fun q => q ⟨b_5, b_14⟩), if_neg (fun q => q.elim h_35 (fun z => h_43 z.1))]; exact ⟨by rw [up_same, upI_same], act_fin hA hO hL q_77 (fun c k h => up_ne _ _ (fun e => h e.1)) (by rw [up_at]; exact LibF_w (k := 5) eL (by omega) hB.1.z)⟩⟩
        · refine j_aload_n M dX6_light_46 rfl ?_
          refine gf_X6_26 M dX6_light_47 ?_
          refine gf_X6_161 M lib_now dX6_light_50 ?_
          rw [hL.1.2.2.2.2.2.1]
          refine j_invs1 M lk_X6_168 (c_J6_bitCount_0f7a4 (l5.1) (l5.2)) dX6_light_53 (Nat.le_of_ble_eq_true rfl) ⟨(Nat.le_of_ble_eq_true rfl), (Nat.le_of_ble_eq_true rfl)⟩ (kE ?_)
          refine j_aload_n M dX6_light_56 rfl ?_
          refine gf_X6_26 M dX6_light_57 ?_
          refine gf_X6_173 M lib_now dX6_light_60 ?_
          rw [hL.1.2.2.2.1]
          refine j_icmp_lt (tgt := 69) M dX6_light_63 (by decide) (fun h_63 => ?_) (fun h_63 => ?_)
          · refine j_aload_n M dX6_light_69 rfl ?_
            refine gf_X6_42 M dX6_light_70 ?_
            refine j_aload_n M dX6_light_73 rfl ?_
            refine gf_X6_26 M dX6_light_74 ?_
            refine j_inv1 M lk_X6_148 (c_X0_remember lib_now ((by decide)) (ar.1.1) (ar.1.2)) rv_X0 dX6_light_77 (Nat.le_of_ble_eq_true rfl) ⟨(Nat.le_of_ble_eq_true rfl), (Nat.le_of_ble_eq_true rfl)⟩ (kV fun σ_77 q_77 => ?_)
            have eL := act_L ar.1 (fun c k h1 h2 => q_77.2.2.2 c k h1 h2) hL
            refine j_aload_n M dX6_light_80 rfl ?_
            refine gf_X6_26 M dX6_light_81 ?_
            refine j_dup M dX6_light_84 rfl ?_
            refine gf_X6_161 M lib_now dX6_light_85 ?_
            rw [eL.1.2.2.2.2.2.1]
            refine j_iconst (v := 1) M dX6_light_88 rfl ?_
            refine j_iload_n M dX6_light_89 rfl ?_
            refine j_ishl M dX6_light_90 ?_
            refine j_ixor M dX6_light_91 ?_
            refine pf_X6_161 M lib_now dX6_light_92 ?_
            refine j_aload_n M dX6_light_95 rfl ?_
            refine gf_X6_26 M dX6_light_96 ?_
            refine gf_X6_161 M lib_now dX6_light_99 ?_
            exact j_iret M dX6_light_102 ⟨_, rfl, by (try dsimp only); rw [if_neg (fun q => q ⟨b_5, b_14⟩), if_neg (fun q => q.elim h_35 (fun z => z.2 h_63))]; exact ⟨by rw [up_same, upI_same], act_fin hA hO hL q_77 (fun c k h => up_ne _ _ (fun e => h e.1)) (by rw [up_at]; exact LibF_w (k := 5) eL (by omega) hB.1.z)⟩⟩
          · refine j_ldc M k_X6_137 dX6_light_66 ?_
            exact j_iret M dX6_light_68 ⟨_, rfl, by (try dsimp only); rw [if_neg (fun q => q ⟨b_5, b_14⟩), if_pos (Or.inr ⟨h_43, h_63⟩)]; exact ⟨rfl, rfl⟩⟩
      · refine j_ldc M k_X6_137 dX6_light_38 ?_
        exact j_iret M dX6_light_40 ⟨_, rfl, by (try dsimp only); rw [if_neg (fun q => q ⟨b_5, b_14⟩), if_pos (Or.inl h_35)]; exact ⟨rfl, rfl⟩⟩
    · have b_14 := ifF k_14 h_17
      refine j_ldc M k_X6_71 dX6_light_20 ?_
      exact j_iret M dX6_light_22 ⟨_, rfl, by (try dsimp only); rw [if_pos (fun q => b_14 q.2)]; exact ⟨rfl, rfl⟩⟩
set_option maxRecDepth 100000 in
theorem c_X6_keepIt {l : Launch} {G : Gw} {σ : Sg} {b : Int32} {o : Int32} {s A : St} {t m : Int32} (hS : SO t s) (hL : LibF (σ 6) s) (hA : AR (σ 3 0 1) (σ 3 0 2) σ A m) : Mt l G yX6_keepIt cX6_keepIt 3 (some .int) 2 44 [.ref (ad G 0 0), .int b, .int o] σ (pI fun r τ => if ¬ (isB s b ∧ inR 0 o 1) then r = -1000001 ∧ τ = σ else if bitv (s 6) b = o then r = -1000002 ∧ τ = σ else r = s 6 ^^^ shl32 1 b ∧ actC A m s σ τ (upI s 6 (s 6 ^^^ shl32 1 b))) := by
  refine mt_intro (by decide +kernel) (Nat.le_of_ble_eq_true rfl) (fun Φ M => ?_)
  show Φ 0 [some (.ref (ad G 0 0)), some (.int b), some (.int o)] [] σ
  have ar := AR_rng hA
  
  refine j_aload_n M dX6_keepIt_0 rfl ?_
  refine gf_X6_26 M dX6_keepIt_1 ?_
  refine j_iload_n M dX6_keepIt_4 rfl ?_
  refine j_inv1 M lk_X6_158 (n_isBook hS hL) (rv_X3 lib_now) dX6_keepIt_5 (Nat.le_of_ble_eq_true rfl) ⟨(Nat.le_of_ble_eq_true rfl), (Nat.le_of_ble_eq_true rfl)⟩ (kP fun r_5 k_5 => ?_)
  refine j_if_eq (tgt := 20) M dX6_keepIt_8 (by decide) (fun h_8 => ?_) (fun h_8 => ?_)
  · have b_5 := ifF k_5 h_8
    refine j_ldc M k_X6_71 dX6_keepIt_20 ?_
    exact j_iret M dX6_keepIt_22 ⟨_, rfl, by (try dsimp only); rw [if_pos (fun q => b_5 q.1)]; exact ⟨rfl, rfl⟩⟩
  · have b_5 := ifT k_5 h_8
    refine j_iload_n M dX6_keepIt_11 rfl ?_
    refine j_iconst (v := 0) M dX6_keepIt_12 rfl ?_
    refine j_iconst (v := 1) M dX6_keepIt_13 rfl ?_
    refine j_invs3 M lk_X6_104 (c_X6_isWithin) dX6_keepIt_14 (Nat.le_of_ble_eq_true rfl) ⟨(Nat.le_of_ble_eq_true rfl), (Nat.le_of_ble_eq_true rfl)⟩ (kP fun r_14 k_14 => ?_)
    refine j_if_ne (tgt := 23) M dX6_keepIt_17 (by decide) (fun h_17 => ?_) (fun h_17 => ?_)
    · have b_14 := ifT k_14 h_17
      have hB := hS.w.b b_5
      have hO := hS.o (Int32.lt_of_le_of_lt b_5.1 hB.2.1)
      have l5 := hB.1.1.2.2.2.2.1
      
      refine j_aload_n M dX6_keepIt_23 rfl ?_
      refine gf_X6_26 M dX6_keepIt_24 ?_
      refine gf_X6_176 M lib_now dX6_keepIt_27 ?_
      rw [hL.1.2.2.2.2.2.2.1]
      refine j_iload_n M dX6_keepIt_30 rfl ?_
      refine j_invs2 M lk_X6_164 (c_X6_bitOf) dX6_keepIt_31 (Nat.le_of_ble_eq_true rfl) ⟨(Nat.le_of_ble_eq_true rfl), (Nat.le_of_ble_eq_true rfl)⟩ (kE ?_)
      refine j_iload_n M dX6_keepIt_34 rfl ?_
      refine j_icmp_ne (tgt := 41) M dX6_keepIt_35 (by decide) (fun h_35 => ?_) (fun h_35 => ?_)
      · refine j_aload_n M dX6_keepIt_41 rfl ?_
        refine gf_X6_42 M dX6_keepIt_42 ?_
        refine j_aload_n M dX6_keepIt_45 rfl ?_
        refine gf_X6_26 M dX6_keepIt_46 ?_
        refine j_inv1 M lk_X6_148 (c_X0_remember lib_now ((by decide)) (ar.1.1) (ar.1.2)) rv_X0 dX6_keepIt_49 (Nat.le_of_ble_eq_true rfl) ⟨(Nat.le_of_ble_eq_true rfl), (Nat.le_of_ble_eq_true rfl)⟩ (kV fun σ_49 q_49 => ?_)
        have eL := act_L ar.1 (fun c k h1 h2 => q_49.2.2.2 c k h1 h2) hL
        refine j_aload_n M dX6_keepIt_52 rfl ?_
        refine gf_X6_26 M dX6_keepIt_53 ?_
        refine j_dup M dX6_keepIt_56 rfl ?_
        refine gf_X6_176 M lib_now dX6_keepIt_57 ?_
        rw [eL.1.2.2.2.2.2.2.1]
        refine j_iconst (v := 1) M dX6_keepIt_60 rfl ?_
        refine j_iload_n M dX6_keepIt_61 rfl ?_
        refine j_ishl M dX6_keepIt_62 ?_
        refine j_ixor M dX6_keepIt_63 ?_
        refine pf_X6_176 M lib_now dX6_keepIt_64 ?_
        refine j_aload_n M dX6_keepIt_67 rfl ?_
        refine gf_X6_26 M dX6_keepIt_68 ?_
        refine gf_X6_176 M lib_now dX6_keepIt_71 ?_
        exact j_iret M dX6_keepIt_74 ⟨_, rfl, by (try dsimp only); rw [if_neg (fun q => q ⟨b_5, b_14⟩), if_neg h_35]; exact ⟨by rw [up_same, upI_same], act_fin hA hO hL q_49 (fun c k h => up_ne _ _ (fun e => h e.1)) (by rw [up_at]; exact LibF_w (k := 6) eL (by omega) hB.1.z)⟩⟩
      · refine j_ldc M k_X6_137 dX6_keepIt_38 ?_
        exact j_iret M dX6_keepIt_40 ⟨_, rfl, by (try dsimp only); rw [if_neg (fun q => q ⟨b_5, b_14⟩), if_pos h_35]; exact ⟨rfl, rfl⟩⟩
    · have b_14 := ifF k_14 h_17
      refine j_ldc M k_X6_71 dX6_keepIt_20 ?_
      exact j_iret M dX6_keepIt_22 ⟨_, rfl, by (try dsimp only); rw [if_pos (fun q => b_14 q.2)]; exact ⟨rfl, rfl⟩⟩
set_option maxRecDepth 100000 in
theorem c_X6_move {l : Launch} {G : Gw} {σ : Sg} {f : Int32} {p : Int32} {s A : St} {t m : Int32} (hS : SO t s) (hL : LibF (σ 6) s) (hA : AR (σ 3 0 1) (σ 3 0 2) σ A m) : Mt l G yX6_move cX6_move 4 (some .int) 2 44 [.ref (ad G 0 0), .int f, .int p] σ (pI fun r τ => if ¬ (isF s f ∧ isB s p) then r = -1000001 ∧ τ = σ else if ¬ bitv (s 7) f = 0 ∨ s (31 + f) = p then r = -1000002 ∧ τ = σ else r = s (31 + f) ∧ actC A m s σ τ (upI s (31 + f) p)) := by
  refine mt_intro (by decide +kernel) (Nat.le_of_ble_eq_true rfl) (fun Φ M => ?_)
  show Φ 0 [some (.ref (ad G 0 0)), some (.int f), some (.int p), none] [] σ
  have ar := AR_rng hA
  
  refine j_aload_n M dX6_move_0 rfl ?_
  refine gf_X6_26 M dX6_move_1 ?_
  refine j_iload_n M dX6_move_4 rfl ?_
  refine j_inv1 M lk_X6_184 (n_isFish hS hL) (rv_X3 lib_now) dX6_move_5 (Nat.le_of_ble_eq_true rfl) ⟨(Nat.le_of_ble_eq_true rfl), (Nat.le_of_ble_eq_true rfl)⟩ (kP fun r_5 k_5 => ?_)
  refine j_if_eq (tgt := 22) M dX6_move_8 (by decide) (fun h_8 => ?_) (fun h_8 => ?_)
  · have b_5 := ifF k_5 h_8
    refine j_ldc M k_X6_71 dX6_move_22 ?_
    exact j_iret M dX6_move_24 ⟨_, rfl, by (try dsimp only); rw [if_pos (fun q => b_5 q.1)]; exact ⟨rfl, rfl⟩⟩
  · have b_5 := ifT k_5 h_8
    refine j_aload_n M dX6_move_11 rfl ?_
    refine gf_X6_26 M dX6_move_12 ?_
    refine j_iload_n M dX6_move_15 rfl ?_
    refine j_inv1 M lk_X6_187 (n_isPlace hS hL) (rv_X3 lib_now) dX6_move_16 (Nat.le_of_ble_eq_true rfl) ⟨(Nat.le_of_ble_eq_true rfl), (Nat.le_of_ble_eq_true rfl)⟩ (kP fun r_16 k_16 => ?_)
    refine j_if_ne (tgt := 25) M dX6_move_19 (by decide) (fun h_19 => ?_) (fun h_19 => ?_)
    · have b_16 := ifT k_16 h_19
      have hF := hS.w.f b_5
      have hO := hS.o (Int32.lt_of_lt_of_le (by decide) hF.1.1.1.1)
      have f0 := b_5.1
      have f1 := hF.2.1
      have f5 := hF.2.2
      have fe := hL.2.2 f f0 f1
      refine j_aload_n M dX6_move_25 rfl ?_
      refine gf_X6_26 M dX6_move_26 ?_
      refine gf_X6_190 M lib_now dX6_move_29 ?_
      refine j_iload_n M dX6_move_32 rfl ?_
      refine al_L_6 M lib_now dX6_move_33 (by first | assumption | decide) (by first | assumption | decide) ?_
      rw [fe.2.1]
      refine j_istore_3 M dX6_move_34 (by exact (by first | trivial | rfl)) ?_
      refine j_iload_n M dX6_move_35 rfl ?_
      refine j_iload_n M dX6_move_36 rfl ?_
      refine j_icmp_eq (tgt := 51) M dX6_move_37 (by decide) (fun h_37 => ?_) (fun h_37 => ?_)
      · refine j_ldc M k_X6_137 dX6_move_51 ?_
        exact j_iret M dX6_move_53 ⟨_, rfl, by (try dsimp only); rw [if_neg (fun q => q ⟨b_5, b_16⟩), if_pos (Or.inr h_37)]; exact ⟨rfl, rfl⟩⟩
      · refine j_aload_n M dX6_move_40 rfl ?_
        refine gf_X6_26 M dX6_move_41 ?_
        refine j_iload_n M dX6_move_44 rfl ?_
        refine j_inv1 M lk_X6_193 (n_isCaught hS hL) (rv_X3 lib_now) dX6_move_45 (Nat.le_of_ble_eq_true rfl) ⟨(Nat.le_of_ble_eq_true rfl), (Nat.le_of_ble_eq_true rfl)⟩ (kE ?_)
        refine j_if_eq (tgt := 54) M dX6_move_48 (by decide) (fun h_48 => ?_) (fun h_48 => ?_)
        · refine j_aload_n M dX6_move_54 rfl ?_
          refine gf_X6_42 M dX6_move_55 ?_
          refine j_aload_n M dX6_move_58 rfl ?_
          refine gf_X6_26 M dX6_move_59 ?_
          refine j_inv1 M lk_X6_148 (c_X0_remember lib_now ((by decide)) (ar.1.1) (ar.1.2)) rv_X0 dX6_move_62 (Nat.le_of_ble_eq_true rfl) ⟨(Nat.le_of_ble_eq_true rfl), (Nat.le_of_ble_eq_true rfl)⟩ (kV fun σ_62 q_62 => ?_)
          have eL := act_L ar.1 (fun c k h1 h2 => q_62.2.2.2 c k h1 h2) hL
          refine j_aload_n M dX6_move_65 rfl ?_
          refine gf_X6_26 M dX6_move_66 ?_
          refine gf_X6_190 M lib_now dX6_move_69 ?_
          refine j_iload_n M dX6_move_72 rfl ?_
          refine j_iload_n M dX6_move_73 rfl ?_
          refine as_L_6 M lib_now dX6_move_74 (by first | assumption | decide) (by first | assumption | decide) ?_
          refine j_iload_n M dX6_move_75 rfl ?_
          exact j_iret M dX6_move_76 ⟨_, rfl, by (try dsimp only); rw [if_neg (fun q => q ⟨b_5, b_16⟩), if_neg (fun q => q.elim (fun z => z h_48) h_37)]; exact ⟨rfl, act_fin hA hO hL q_62 (fun c k h => up_ne _ _ (fun e => h e.1)) (by rw [up_at]; exact LibF_f (A := 31) (k := 6) eL hF.1.z (by omega) f0 f1)⟩⟩
        · refine j_ldc M k_X6_137 dX6_move_51 ?_
          exact j_iret M dX6_move_53 ⟨_, rfl, by (try dsimp only); rw [if_neg (fun q => q ⟨b_5, b_16⟩), if_pos (Or.inl h_48)]; exact ⟨rfl, rfl⟩⟩
    · have b_16 := ifF k_16 h_19
      refine j_ldc M k_X6_71 dX6_move_22 ?_
      exact j_iret M dX6_move_24 ⟨_, rfl, by (try dsimp only); rw [if_pos (fun q => b_16 q.2)]; exact ⟨rfl, rfl⟩⟩
set_option maxRecDepth 100000 in
theorem c_X6_catchIt {l : Launch} {G : Gw} {σ : Sg} {f : Int32} {s A : St} {t m : Int32} (hS : SO t s) (hL : LibF (σ 6) s) (hA : AR (σ 3 0 1) (σ 3 0 2) σ A m) : Mt l G yX6_catchIt cX6_catchIt 2 (some .int) 2 44 [.ref (ad G 0 0), .int f] σ (pI fun r τ => if ¬ isF s f then r = -1000001 ∧ τ = σ else if ¬ bitv (s 7) f = 0 then r = -1000002 ∧ τ = σ else r = s 7 ||| shl32 1 f ∧ actC A m s σ τ (upI s 7 (s 7 ||| shl32 1 f))) := by
  refine mt_intro (by decide +kernel) (Nat.le_of_ble_eq_true rfl) (fun Φ M => ?_)
  show Φ 0 [some (.ref (ad G 0 0)), some (.int f)] [] σ
  have ar := AR_rng hA
  
  refine j_aload_n M dX6_catchIt_0 rfl ?_
  refine gf_X6_26 M dX6_catchIt_1 ?_
  refine j_iload_n M dX6_catchIt_4 rfl ?_
  refine j_inv1 M lk_X6_184 (n_isFish hS hL) (rv_X3 lib_now) dX6_catchIt_5 (Nat.le_of_ble_eq_true rfl) ⟨(Nat.le_of_ble_eq_true rfl), (Nat.le_of_ble_eq_true rfl)⟩ (kP fun r_5 k_5 => ?_)
  refine j_if_ne (tgt := 14) M dX6_catchIt_8 (by decide) (fun h_8 => ?_) (fun h_8 => ?_)
  · have b_5 := ifT k_5 h_8
    have hF := hS.w.f b_5
    have hO := hS.o (Int32.lt_of_lt_of_le (by decide) hF.1.1.1.1)
    have f0 := b_5.1
    have f1 := hF.2.1
    have f5 := hF.2.2
    
    refine j_aload_n M dX6_catchIt_14 rfl ?_
    refine gf_X6_26 M dX6_catchIt_15 ?_
    refine j_iload_n M dX6_catchIt_18 rfl ?_
    refine j_inv1 M lk_X6_193 (n_isCaught hS hL) (rv_X3 lib_now) dX6_catchIt_19 (Nat.le_of_ble_eq_true rfl) ⟨(Nat.le_of_ble_eq_true rfl), (Nat.le_of_ble_eq_true rfl)⟩ (kE ?_)
    refine j_if_eq (tgt := 28) M dX6_catchIt_22 (by decide) (fun h_22 => ?_) (fun h_22 => ?_)
    · refine j_aload_n M dX6_catchIt_28 rfl ?_
      refine gf_X6_42 M dX6_catchIt_29 ?_
      refine j_aload_n M dX6_catchIt_32 rfl ?_
      refine gf_X6_26 M dX6_catchIt_33 ?_
      refine j_inv1 M lk_X6_148 (c_X0_remember lib_now ((by decide)) (ar.1.1) (ar.1.2)) rv_X0 dX6_catchIt_36 (Nat.le_of_ble_eq_true rfl) ⟨(Nat.le_of_ble_eq_true rfl), (Nat.le_of_ble_eq_true rfl)⟩ (kV fun σ_36 q_36 => ?_)
      have eL := act_L ar.1 (fun c k h1 h2 => q_36.2.2.2 c k h1 h2) hL
      refine j_aload_n M dX6_catchIt_39 rfl ?_
      refine gf_X6_26 M dX6_catchIt_40 ?_
      refine j_dup M dX6_catchIt_43 rfl ?_
      refine gf_X6_196 M lib_now dX6_catchIt_44 ?_
      rw [eL.1.2.2.2.2.2.2.2]
      refine j_iconst (v := 1) M dX6_catchIt_47 rfl ?_
      refine j_iload_n M dX6_catchIt_48 rfl ?_
      refine j_ishl M dX6_catchIt_49 ?_
      refine j_ior M dX6_catchIt_50 ?_
      refine pf_X6_196 M lib_now dX6_catchIt_51 ?_
      refine j_aload_n M dX6_catchIt_54 rfl ?_
      refine gf_X6_26 M dX6_catchIt_55 ?_
      refine gf_X6_196 M lib_now dX6_catchIt_58 ?_
      exact j_iret M dX6_catchIt_61 ⟨_, rfl, by (try dsimp only); rw [if_neg (fun q => q b_5), if_neg (fun q => q h_22)]; exact ⟨by rw [up_same, upI_same], act_fin hA hO hL q_36 (fun c k h => up_ne _ _ (fun e => h e.1)) (by rw [up_at]; exact LibF_w (k := 7) eL (by omega) hF.1.z)⟩⟩
    · refine j_ldc M k_X6_137 dX6_catchIt_25 ?_
      exact j_iret M dX6_catchIt_27 ⟨_, rfl, by (try dsimp only); rw [if_neg (fun q => q b_5), if_pos h_22]; exact ⟨rfl, rfl⟩⟩
  · have b_5 := ifF k_5 h_8
    refine j_ldc M k_X6_71 dX6_catchIt_11 ?_
    exact j_iret M dX6_catchIt_13 ⟨_, rfl, by (try dsimp only); rw [if_pos b_5]; exact ⟨rfl, rfl⟩⟩
