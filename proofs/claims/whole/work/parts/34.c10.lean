set_option maxRecDepth 100000 in
theorem c_X7_lacks {l : Launch} {G : Gw} {σ : Sg} {w : Int32} {i : Int32} {n : Int32}  (w0 : 0 ≤ w) (w8 : w < 8) : Mt l G yX7_lacks cX7_lacks 4 (some .int) 1 25 [.ref (ad G 40 0), .int w, .int i, .int n] σ (pI fun r τ => (if σ 40 2 w < 0 then r = -1000011 ∧ τ = up σ 40 0 (upI (σ 40 0) 3 1) else if inR 0 i (σ 40 2 w - n) then r = 0 ∧ τ = σ else r = -1000012 ∧ τ = up σ 40 0 (upI (σ 40 0) 3 2))) := by
  refine mt_intro (by decide +kernel) (Nat.le_of_ble_eq_true rfl) (fun Φ M => ?_)
  show Φ 0 [some (.ref (ad G 40 0)), some (.int w), some (.int i), some (.int n)] [] σ
  refine j_aload_n M dX7_lacks_0 rfl ?_
  refine gf_X7_13 M dX7_lacks_1 ?_
  refine j_iload_n M dX7_lacks_4 rfl ?_
  refine al_40_2 M dX7_lacks_5 (by first | assumption | decide) (by first | assumption | decide) ?_
  refine j_if_ge (tgt := 15) M dX7_lacks_6 (by decide) (fun h_6 => ?_) (fun h_6 => ?_)
  · refine j_iload_n M dX7_lacks_15 rfl ?_
    refine j_i2l M dX7_lacks_16 ?_
    refine j_lconst (v := 0) M dX7_lacks_17 rfl ?_
    refine j_aload_n M dX7_lacks_18 rfl ?_
    refine gf_X7_13 M dX7_lacks_19 ?_
    refine j_iload_n M dX7_lacks_22 rfl ?_
    refine al_40_2 M dX7_lacks_23 (by first | assumption | decide) (by first | assumption | decide) ?_
    refine j_iload_n M dX7_lacks_24 rfl ?_
    refine j_isub M dX7_lacks_25 ?_
    refine j_i2l M dX7_lacks_26 ?_
    refine j_invs3 M lk_X7_63 (c_X7_inI (a := 0) rfl (by decide) rfl) dX7_lacks_27 (Nat.le_of_ble_eq_true rfl) ⟨(Nat.le_of_ble_eq_true rfl), (Nat.le_of_ble_eq_true rfl)⟩ (kP fun r_27 k_27 => ?_)
    refine j_if_eq (tgt := 37) M dX7_lacks_30 (by decide) (fun h_30 => ?_) (fun h_30 => ?_)
    · have b_27 := ifF k_27 h_30
      refine j_aload_n M dX7_lacks_37 rfl ?_
      refine j_iconst (v := 2) M dX7_lacks_38 rfl ?_
      refine j_inv1 M lk_X7_74 (c_X7_find) rv_X7 dX7_lacks_39 (Nat.le_of_ble_eq_true rfl) ⟨(Nat.le_of_ble_eq_true rfl), (Nat.le_of_ble_eq_true rfl)⟩ (kI fun r_39 σ_39 q_39 => ?_)
      obtain ⟨rfl, rfl⟩ := q_39
      exact j_iret M dX7_lacks_42 ⟨_, rfl, by (try dsimp only); first | (simp [h_6, b_27]; done) | (rw [if_neg h_6, if_pos b_27]; exact ⟨rfl, rfl⟩)⟩
    · have b_27 := ifT k_27 h_30
      refine j_iconst (v := 0) M dX7_lacks_33 rfl ?_
      refine j_goto (tgt := 42) M dX7_lacks_34 (by decide) ?_
      exact j_iret M dX7_lacks_42 ⟨_, rfl, by (try dsimp only); first | (simp [h_6, b_27]; done) | (rw [if_neg h_6, if_pos b_27]; exact ⟨rfl, rfl⟩)⟩
  · refine j_aload_n M dX7_lacks_9 rfl ?_
    refine j_iconst (v := 1) M dX7_lacks_10 rfl ?_
    refine j_inv1 M lk_X7_74 (c_X7_find) rv_X7 dX7_lacks_11 (Nat.le_of_ble_eq_true rfl) ⟨(Nat.le_of_ble_eq_true rfl), (Nat.le_of_ble_eq_true rfl)⟩ (kI fun r_11 σ_11 q_11 => ?_)
    obtain ⟨rfl, rfl⟩ := q_11
    exact j_iret M dX7_lacks_14 ⟨_, rfl, by (try dsimp only); first | (simp [h_6]; done) | (rw [if_neg h_6, if_pos b_27]; exact ⟨rfl, rfl⟩)⟩
set_option maxRecDepth 100000 in
theorem c_X7_isSo {l : Launch} {G : Gw} {σ : Sg} {b : Int32} {a : Int32} {n : Int32}  (hW : WF (σ 40 4)) (b0 : 0 ≤ b) (b6 : b < 6) (hn : 0 ≤ n) (ha : ∀ k, 0 ≤ k → k < n → 0 ≤ a + k ∧ a + k < 320) : Mt l G yX7_isSo cX7_isSo 6 (some .boolean) 5 114 [.ref (ad G 40 0), .int b, .int a, .int n] σ (pI fun r τ => r = soR (σ 40 4) (σ 40 3) b a n ∧ τ 40 4 = σ 40 10 ∧ frm σ τ 40 [4, 8]) := by
  refine mt_intro (by decide +kernel) (Nat.le_of_ble_eq_true rfl) (fun Φ M => ?_)
  show Φ 0 [some (.ref (ad G 40 0)), some (.int b), some (.int a), some (.int n), none, none] [] σ
  have lp : ∀ k : Int32, 0 ≤ k → ∀ (τ : Sg) (z : Int32), k ≤ n → z = soR (σ 40 4) (σ 40 3) b a k → τ 40 4 = gS (σ 40 4) k → frm σ τ 40 [4, 8] → Φ 6 [some (.ref (ad G 40 0)), some (.int b), some (.int a), some (.int n), some (.int z), some (.int k)] [] τ := by
    refine loop_up n (fun k hk ih τ z hle hz e4 hfr => ?_)
    have wq := gS_WF hW k
    have e3 : τ 40 3 = σ 40 3 := hfr 40 3 (by decide)
    refine j_iload M dX7_isSo_6 rfl ?_
    refine j_iload_n M dX7_isSo_8 rfl ?_
    refine j_icmp_ge (tgt := 55) M dX7_isSo_9 (by decide) (fun h_9 => ?_) (fun h_9 => ?_)
    · refine j_aload_n M dX7_isSo_55 rfl ?_
      refine j_inv0 M lk_X7_211 (c_X7_takeBack) rv_X7 dX7_isSo_56 (Nat.le_of_ble_eq_true rfl) ⟨(Nat.le_of_ble_eq_true rfl), (Nat.le_of_ble_eq_true rfl)⟩ (kV fun σ_56 q_56 => ?_)
      subst q_56
      have z01 := so_01 (σ 40 4) (σ 40 3) b a hk
      rw [← hz] at z01
      refine j_iload M dX7_isSo_59 rfl ?_
      exact j_zret M dX7_isSo_61 (by first | exact Or.inl rfl | exact Or.inr rfl | exact bitv_01 _ _ | assumption | grind) ⟨_, rfl, by (try dsimp only); have ek : k = n := Int32.le_antisymm hle (Int32.not_lt.mp h_9); subst ek; exact ⟨hz, by rw [up_same]; exact hfr 40 10 (by decide), frm_up hfr (by decide)⟩⟩
    · refine j_aload_n M dX7_isSo_12 rfl ?_
      refine j_inv0 M lk_X7_187 (c_X7_oneNight ((by rw [e4]; exact wq.1))) rv_X7 dX7_isSo_13 (Nat.le_of_ble_eq_true rfl) ⟨(Nat.le_of_ble_eq_true rfl), (Nat.le_of_ble_eq_true rfl)⟩ (kV fun σ_13 q_13 => ?_)
      obtain ⟨g1, g2, g3⟩ := q_13
      have g1 : σ_13 40 4 = gS (σ 40 4) (k + 1) := by rw [g1, gS_s hk h_9, e4]; exact night_fst _ _ _
      have g5 : σ_13 40 3 = σ 40 3 := (g3 40 3 (by decide)).trans e3
      have ai := ha k hk h_9
      have a8 := ixS b0 b6
      obtain ⟨⟨⟨_, _⟩, ⟨_, _⟩⟩, ⟨_, _⟩⟩ := ixS b0 b6
      refine j_iload M dX7_isSo_16 rfl ?_
      refine j_if_eq (tgt := 46) M dX7_isSo_18 (by decide) (fun h_18 => ?_) (fun h_18 => ?_)
      · refine j_iconst (v := 0) M dX7_isSo_46 rfl ?_
        refine j_istore_4 M dX7_isSo_47 (by exact (by first | trivial | rfl)) ?_
        refine j_iinc_5 M dX7_isSo_49 (show _ + Int32.ofInt 1 = _ + 1 from rfl) (by exact (by first | trivial | rfl)) ?_
        refine j_goto (tgt := 6) M dX7_isSo_52 (by decide) ?_
        refine ih h_9 _ _ (inc_lt hk h_9).2.1 ?_ g1 (frm_trans hfr g3)
        unfold soR at hz ⊢
        rw [foldI_s _ _ hk h_9, ← hz]
        unfold soF
        simp [h_9, h_18]
      · refine j_aload_n M dX7_isSo_21 rfl ?_
        refine gf_X7_16 M dX7_isSo_22 ?_
        refine j_iload_n M dX7_isSo_25 rfl ?_
        refine j_iload M dX7_isSo_26 rfl ?_
        refine j_iadd M dX7_isSo_28 ?_
        refine al_40_3 M dX7_isSo_29 (by first | assumption | decide | exact ai.1 | exact ai.2) (by first | assumption | decide | exact ai.1 | exact ai.2) ?_
        refine j_aload_n M dX7_isSo_30 rfl ?_
        refine gf_X7_19 M dX7_isSo_31 ?_
        refine j_bipush (v := 8) M dX7_isSo_34 rfl ?_
        refine j_iload_n M dX7_isSo_36 rfl ?_
        refine j_iadd M dX7_isSo_37 ?_
        refine al_40_4 M dX7_isSo_38 (by first | assumption | decide | exact ai.1 | exact ai.2) (by first | assumption | decide | exact ai.1 | exact ai.2) ?_
        refine j_icmp_ne (tgt := 46) M dX7_isSo_39 (by decide) (fun h_39 => ?_) (fun h_39 => ?_)
        · refine j_iconst (v := 0) M dX7_isSo_46 rfl ?_
          refine j_istore_4 M dX7_isSo_47 (by exact (by first | trivial | rfl)) ?_
          refine j_iinc_5 M dX7_isSo_49 (show _ + Int32.ofInt 1 = _ + 1 from rfl) (by exact (by first | trivial | rfl)) ?_
          refine j_goto (tgt := 6) M dX7_isSo_52 (by decide) ?_
          refine ih h_9 _ _ (inc_lt hk h_9).2.1 ?_ g1 (frm_trans hfr g3)
          unfold soR at hz ⊢
          rw [foldI_s _ _ hk h_9, ← hz]
          unfold soF
          rw [g5, g1] at h_39
          simp [h_9, h_18, h_39]
        · refine j_iconst (v := 1) M dX7_isSo_42 rfl ?_
          refine j_goto (tgt := 47) M dX7_isSo_43 (by decide) ?_
          refine j_istore_4 M dX7_isSo_47 (by exact (by first | trivial | rfl)) ?_
          refine j_iinc_5 M dX7_isSo_49 (show _ + Int32.ofInt 1 = _ + 1 from rfl) (by exact (by first | trivial | rfl)) ?_
          refine j_goto (tgt := 6) M dX7_isSo_52 (by decide) ?_
          refine ih h_9 _ _ (inc_lt hk h_9).2.1 ?_ g1 (frm_trans hfr g3)
          unfold soR at hz ⊢
          rw [foldI_s _ _ hk h_9, ← hz]
          unfold soF
          rw [g5, g1] at h_39
          simp [h_9, h_18, h_39]
  refine j_iconst (v := 1) M dX7_isSo_0 rfl ?_
  refine j_istore_4 M dX7_isSo_1 (by exact (by first | trivial | rfl)) ?_
  refine j_iconst (v := 0) M dX7_isSo_3 rfl ?_
  refine j_istore_5 M dX7_isSo_4 (by exact (by first | trivial | rfl)) ?_
  exact lp 0 (by decide) _ _ hn rfl rfl (frm_refl _ _ _)
set_option maxRecDepth 100000 in
theorem c_X7_fits {l : Launch} {G : Gw} {σ : Sg} {a : Int32} {u : Int32} {x : Int32} {b : Int32} {f : Int32} {n : Int32}  (a0 : 0 ≤ a ∧ a < 41) (l0 : 0 ≤ u) (hlh : u ≤ x + 1) (hv1 : ∀ v, ¬ x < v → v < x + 1) (hv2 : ∀ v, x < v → x + 1 ≤ v) (hw : ∀ v, u ≤ v → ¬ x < v → WF (upI (σ 40 4) a v)) (b0 : 0 ≤ b) (b6 : b < 6) (hn : 0 ≤ n) (ha : ∀ k, 0 ≤ k → k < n → 0 ≤ f + k ∧ f + k < 320) : Mt l G yX7_fits cX7_fits 9 (some .int) 6 139 [.ref (ad G 40 0), .int a, .int u, .int x, .int b, .int f, .int n] σ (pI fun r τ => r = fitR (σ 40 4) (σ 40 3) a u x b f n ∧ τ 40 0 = upI (σ 40 0) 3 0 ∧ frm σ τ 40 [0, 8, 10]) := by
  refine mt_intro (by decide +kernel) (Nat.le_of_ble_eq_true rfl) (fun Φ M => ?_)
  show Φ 0 [some (.ref (ad G 40 0)), some (.int a), some (.int u), some (.int x), some (.int b), some (.int f), some (.int n), none, none] [] σ
  have lp : ∀ v : Int32, 0 ≤ v → ∀ (τ : Sg) (z : Int32), u ≤ v → v ≤ x + 1 → z = foldI (fitF (σ 40 4) (σ 40 3) a u b f n) 0 v → τ 40 4 = σ 40 4 → τ 40 10 = σ 40 4 → frm σ τ 40 [8, 10] → Φ 10 [some (.ref (ad G 40 0)), some (.int a), some (.int u), some (.int x), some (.int b), some (.int f), some (.int n), some (.int z), some (.int v)] [] τ := by
    refine loop_up (x + 1) (fun v hv ih τ z hlv hle hz e4 e10 hfr => ?_)
    have e3 : τ 40 3 = σ 40 3 := hfr 40 3 (by decide)
    refine j_iload M dX7_fits_10 rfl ?_
    refine j_iload_n M dX7_fits_12 rfl ?_
    refine j_icmp_gt (tgt := 56) M dX7_fits_13 (by decide) (fun h_13 => ?_) (fun h_13 => ?_)
    · refine j_aload_n M dX7_fits_56 rfl ?_
      refine j_iload M dX7_fits_57 rfl ?_
      refine j_inv1 M lk_X7_78 (c_X7_well) rv_X7 dX7_fits_59 (Nat.le_of_ble_eq_true rfl) ⟨(Nat.le_of_ble_eq_true rfl), (Nat.le_of_ble_eq_true rfl)⟩ (kI fun r_59 σ_59 q_59 => ?_)
      skip
      exact j_iret M dX7_fits_62 ⟨_, rfl, by (try dsimp only); obtain ⟨c1, c2⟩ := q_59; refine ⟨?_, ?_, ?_⟩; (· rw [c2, hz]; have ev : v = x + 1 := Int32.le_antisymm hle (hv2 v h_13); rw [ev]; rfl); (· rw [c1, up_same]; have e0 : τ 40 0 = σ 40 0 := hfr 40 0 (by decide); rw [e0]); (· rw [c1]; exact frm_up (frm_mono hfr (by decide)) (by decide))⟩
    · have hlt := hv1 v h_13
      have w2 : WF ((up τ 40 4 (upI (τ 40 4) a v)) 40 4) := by rw [up_same, e4]; exact hw v hlv h_13
      refine j_aload_n M dX7_fits_16 rfl ?_
      refine gf_X7_19 M dX7_fits_17 ?_
      refine j_iload_n M dX7_fits_20 rfl ?_
      refine j_iload M dX7_fits_21 rfl ?_
      refine as_40_4 M dX7_fits_23 (by first | assumption | decide | exact a0.1 | exact a0.2) (by first | assumption | decide | exact a0.1 | exact a0.2) ?_
      refine j_iload M dX7_fits_24 rfl ?_
      refine j_aload_n M dX7_fits_26 rfl ?_
      refine j_iload M dX7_fits_27 rfl ?_
      refine j_iload M dX7_fits_29 rfl ?_
      refine j_iload M dX7_fits_31 rfl ?_
      refine j_inv3 M lk_X7_250 (c_X7_isSo (w2) (b0) (b6) (hn) (ha)) rv_X7 dX7_fits_33 (Nat.le_of_ble_eq_true rfl) ⟨(Nat.le_of_ble_eq_true rfl), (Nat.le_of_ble_eq_true rfl)⟩ (kI fun r_33 σ_33 q_33 => ?_)
      obtain ⟨g1, g2, g4⟩ := q_33
      rw [up_same, e4, up_ne _ _ (by decide), e3] at g1
      rw [up_ne _ _ (by decide), e10] at g2
      have f2 : frm σ σ_33 40 [8, 10] := frm_lamp hfr g4 g2
      have f10 : σ_33 40 10 = σ 40 4 := by rw [g4 40 10 (by decide), up_ne _ _ (by decide)]; exact e10
      refine j_if_eq (tgt := 46) M dX7_fits_36 (by decide) (fun h_36 => ?_) (fun h_36 => ?_)
      · refine j_iconst (v := 0) M dX7_fits_46 rfl ?_
        refine j_ior M dX7_fits_47 ?_
        refine j_istore_7 M dX7_fits_48 (by exact (by first | trivial | rfl)) ?_
        refine j_iinc_8 M dX7_fits_50 (show _ + Int32.ofInt 1 = _ + 1 from rfl) (by exact (by first | trivial | rfl)) ?_
        refine j_goto (tgt := 10) M dX7_fits_53 (by decide) ?_
        refine ih hlt _ _ (Int32.le_trans hlv (Int32.le_of_lt (inc_lt hv hlt).2.2)) (inc_lt hv hlt).2.1 ?_ g2 f10 f2
        rw [foldI_s _ _ hv hlt, ← hz]
        unfold fitF
        rw [if_neg (Int32.not_lt.mpr hlv)]
        rw [g1] at h_36
        simp [h_13, h_36]
      · refine j_iconst (v := 1) M dX7_fits_39 rfl ?_
        refine j_iload M dX7_fits_40 rfl ?_
        refine j_ishl M dX7_fits_42 ?_
        refine j_goto (tgt := 47) M dX7_fits_43 (by decide) ?_
        refine j_ior M dX7_fits_47 ?_
        refine j_istore_7 M dX7_fits_48 (by exact (by first | trivial | rfl)) ?_
        refine j_iinc_8 M dX7_fits_50 (show _ + Int32.ofInt 1 = _ + 1 from rfl) (by exact (by first | trivial | rfl)) ?_
        refine j_goto (tgt := 10) M dX7_fits_53 (by decide) ?_
        refine ih hlt _ _ (Int32.le_trans hlv (Int32.le_of_lt (inc_lt hv hlt).2.2)) (inc_lt hv hlt).2.1 ?_ g2 f10 f2
        rw [foldI_s _ _ hv hlt, ← hz]
        unfold fitF
        rw [if_neg (Int32.not_lt.mpr hlv)]
        rw [g1] at h_36
        simp [h_13, h_36]
  refine j_aload_n M dX7_fits_0 rfl ?_
  refine j_inv0 M lk_X7_219 (c_X7_putAside) rv_X7 dX7_fits_1 (Nat.le_of_ble_eq_true rfl) ⟨(Nat.le_of_ble_eq_true rfl), (Nat.le_of_ble_eq_true rfl)⟩ (kV fun σ_1 q_1 => ?_)
  subst q_1
  refine j_iconst (v := 0) M dX7_fits_4 rfl ?_
  refine j_istore_7 M dX7_fits_5 (by exact (by first | trivial | rfl)) ?_
  refine j_iload_n M dX7_fits_7 rfl ?_
  refine j_istore_8 M dX7_fits_8 (by exact (by first | trivial | rfl)) ?_
  exact lp u l0 _ _ (Int32.le_refl _) hlh (fit_skip _ _ _ _ _ _ _ l0) (by rw [up_ne _ _ (by decide)]) (by rw [up_same]) (frm_up (frm_refl _ _ _) (by decide))
