theorem n_isBook {l : Launch} {G : Gw} {σ : Sg} {b : Int32} {s : St} {t : Int32} (hS : SO t s) (hL : LibF (σ 6) s) : Mt l G yX3_isBook cX3_isBook 2 (some .boolean) 0 0 [.ref (ad G 6 0), .int b] σ (pI fun r τ => τ = σ ∧ r = if isB s b then 1 else 0) := by
  have q := c_X3_isBook (l := l) (G := G) (σ := σ) (b := b) lib_now
  simp only [isb_iff hS.w hL] at q
  exact q
theorem n_isPlace {l : Launch} {G : Gw} {σ : Sg} {b : Int32} {s : St} {t : Int32} (hS : SO t s) (hL : LibF (σ 6) s) : Mt l G yX3_isPlace cX3_isPlace 2 (some .boolean) 1 21 [.ref (ad G 6 0), .int b] σ (pI fun r τ => τ = σ ∧ r = if isB s b then 1 else 0) := by
  have q := c_X3_isPlace (l := l) (G := G) (σ := σ) (b := b) lib_now
  simp only [isb_iff hS.w hL] at q
  exact q
theorem n_isFish {l : Launch} {G : Gw} {σ : Sg} {b : Int32} {s : St} {t : Int32} (hS : SO t s) (hL : LibF (σ 6) s) : Mt l G yX3_isFish cX3_isFish 2 (some .boolean) 0 0 [.ref (ad G 6 0), .int b] σ (pI fun r τ => τ = σ ∧ r = if isF s b then 1 else 0) := by
  have q := c_X3_isFish (l := l) (G := G) (σ := σ) (b := b) lib_now
  simp only [isf_iff hS.w hL] at q
  exact q
theorem n_isTold {l : Launch} {G : Gw} {σ : Sg} {s : St} {t : Int32} (hS : SO t s) (hL : LibF (σ 6) s) : Mt l G yX3_isTold cX3_isTold 1 (some .boolean) 0 0 [.ref (ad G 6 0)] σ (pI fun r τ => τ = σ ∧ r = if ¬ t = 0 then 1 else 0) := by
  have q := c_X3_isTold (l := l) (G := G) (σ := σ) lib_now
  simp only [hL.1.1, so_told hS] at q
  exact q
theorem n_isCaught {l : Launch} {G : Gw} {σ : Sg} {f : Int32} {s : St} {t : Int32} (hS : SO t s) (hL : LibF (σ 6) s) : Mt l G yX3_isCaught cX3_isCaught 2 (some .boolean) 0 0 [.ref (ad G 6 0), .int f] σ (pI fun r τ => τ = σ ∧ r = bitv (s 7) f) := by
  have q := c_X3_isCaught (l := l) (G := G) (σ := σ) (f := f) lib_now
  rw [hL.1.2.2.2.2.2.2.2] at q
  exact q
theorem w_01 {w : Int32} (h : 0 ≤ w ∧ w ≤ 1) (h1 : ¬ w = 1) : w = 0 := by grind
theorem first_ev {s : St} (hW : WF s) {r : Int32} (h : isFirst (fun n => firstP s n ≠ 0) r) (hr : ¬ r = -1000000) : (if leastR (fullM s (s 0) &&& (fullM (gS s r) ((gS s r) 0) ^^^ (-1))) < 6 then leastR (fullM s (s 0) &&& (fullM (gS s r) ((gS s r) 0) ^^^ (-1))) else -1000000) = leastR (firstP s r) := by
  have g := gS_WF hW r
  have e : fullM s (s 0) &&& (fullM (gS s r) ((gS s r) 0) ^^^ (-1)) = firstP s r := by
    rw [g.2.1]
    exact first_set hW g.1 g.2.1
  rw [e]
  have p : firstP s r ≠ 0 := by
    rcases h with h | h
    · exact h.2.2.1
    · exact absurd h.1 hr
  have n0 := le0_of hW.1.1.1
  have n6 := hW.1.1.2
  have c := empty_spec s n0 n6
  have d := empty_spec (gS s r) n0 n6
  have q := (andn c.1.1 c.1.2 d.1.1 d.1.2).2 p
  exact if_pos q
theorem ord_i {s : St} (hW : WF s) {i : Int32} (h : ¬ i = -1) : inR (-1) i (s 0 - 1) ↔ isB s i := by
  have := hW.1.1
  constructor
  · intro q
    exact ⟨by have := q.1; grind, q.2⟩
  · intro q
    exact ⟨Int32.le_trans (by decide) q.1, q.2⟩
theorem ord_in {s : St} (hW : WF s) {i : Int32} (h : i = -1 ∨ isB s i) : inR (-1) i (s 0 - 1) := by
  have a := hW.1.1
  rcases h with h | h
  · subst h
    exact ⟨by decide, by grind⟩
  · exact ⟨Int32.le_trans (by decide) h.1, h.2⟩
theorem ord_ld {s L : St} (hW : WF s) {i : Int32} (hb : isB s i) {l : List Nat} (h : isL L l) (hl : l.length = (s 0).toNatClampNeg) : L i = nI (gt l i.toNatClampNeg) := by
  obtain ⟨N, hN', hN⟩ := nI_of (x := s 0) (Int32.not_lt.mpr (le0_of hW.1.1.1))
  obtain ⟨x, hx, hi⟩ := nI_of (Int32.not_lt.mpr hb.1)
  have q := (isB_iff hW.z).mp hb
  rw [hN, hi] at q
  have xn := (nI_ltI hx hN').mp q.2
  rw [hN, nI_clamp hN'] at hl
  rw [hi, nI_clamp hx]
  exact h x (by omega)
theorem catch_01 {s : St} (hW : WF s) {b n : Int32} (b0 : 0 ≤ b) (b1 : b < s 0) : 0 ≤ catchP s b n (shl32 1 (s 1)) ∧ catchP s b n (shl32 1 (s 1)) < 64 := by
  have f1 := hW.1.2.1
  have p5 := pow5 f1.1 f1.2
  have e := (catch_end (n := n) hW b0 b1).1
  refine ⟨e, ?_⟩
  rcases catch_rng s b n p5.1 (Int32.le_refl _) p5.2 with q | q
  · rw [q]; decide
  · exact Int32.lt_of_lt_of_le q.2 (Int32.le_trans p5.2 (by decide))
set_option maxRecDepth 100000 in
theorem c_X6_ahead {l : Launch} {G : Gw} {σ : Sg} {b : Int32} {n : Int32} {w : Int32} {s : St} {t : Int32} (hS : SO t s) (hL : LibF (σ 6) s) : Mt l G yX6_ahead cX6_ahead 5 (some .int) 6 138 [.ref (ad G 0 0), .int b, .int n, .int w] σ (pI fun r τ => r = aheadR s b n w ∧ fr2 σ τ) := by
  refine mt_intro (by decide +kernel) (Nat.le_of_ble_eq_true rfl) (fun Φ M => ?_)
  show Φ 0 [some (.ref (ad G 0 0)), some (.int b), some (.int n), some (.int w), none] [] σ
  refine j_aload_n M dX6_ahead_0 rfl ?_
  refine gf_X6_26 M dX6_ahead_1 ?_
  refine j_iload_n M dX6_ahead_4 rfl ?_
  refine j_inv1 M lk_X6_158 (n_isBook hS hL) (rv_X3 lib_now) dX6_ahead_5 (Nat.le_of_ble_eq_true rfl) ⟨(Nat.le_of_ble_eq_true rfl), (Nat.le_of_ble_eq_true rfl)⟩ (kP fun r_5 k_5 => ?_)
  refine j_if_eq (tgt := 30) M dX6_ahead_8 (by decide) (fun h_8 => ?_) (fun h_8 => ?_)
  · have b_5 := ifF k_5 h_8
    refine j_ldc M k_X6_71 dX6_ahead_30 ?_
    exact j_iret M dX6_ahead_32 ⟨_, rfl, by (try dsimp only); exact ⟨by unfold aheadR; rw [if_neg (fun q => b_5 q.1)], fr2_r _⟩⟩
  · have b_5 := ifT k_5 h_8
    refine j_iload_n M dX6_ahead_11 rfl ?_
    refine j_iconst (v := 0) M dX6_ahead_12 rfl ?_
    refine j_bipush (v := 60) M dX6_ahead_13 rfl ?_
    refine j_invs3 M lk_X6_104 (c_X6_isWithin) dX6_ahead_15 (Nat.le_of_ble_eq_true rfl) ⟨(Nat.le_of_ble_eq_true rfl), (Nat.le_of_ble_eq_true rfl)⟩ (kP fun r_15 k_15 => ?_)
    refine j_if_eq (tgt := 30) M dX6_ahead_18 (by decide) (fun h_18 => ?_) (fun h_18 => ?_)
    · have b_15 := ifF k_15 h_18
      refine j_ldc M k_X6_71 dX6_ahead_30 ?_
      exact j_iret M dX6_ahead_32 ⟨_, rfl, by (try dsimp only); exact ⟨by unfold aheadR; rw [if_neg (fun q => b_15 q.2.1)], fr2_r _⟩⟩
    · have b_15 := ifT k_15 h_18
      refine j_iload_n M dX6_ahead_21 rfl ?_
      refine j_iconst (v := 0) M dX6_ahead_22 rfl ?_
      refine j_iconst (v := 1) M dX6_ahead_23 rfl ?_
      refine j_invs3 M lk_X6_104 (c_X6_isWithin) dX6_ahead_24 (Nat.le_of_ble_eq_true rfl) ⟨(Nat.le_of_ble_eq_true rfl), (Nat.le_of_ble_eq_true rfl)⟩ (kP fun r_24 k_24 => ?_)
      refine j_if_ne (tgt := 33) M dX6_ahead_27 (by decide) (fun h_27 => ?_) (fun h_27 => ?_)
      · have b_24 := ifT k_24 h_27
        have hB := hS.w.b b_5
        have b0 := b_5.1
        have b1 := hB.2.1
        have b6 := hB.2.2
        refine j_aload_n M dX6_ahead_33 rfl ?_
        refine gf_X6_49 M dX6_ahead_34 ?_
        refine j_aload_n M dX6_ahead_37 rfl ?_
        refine gf_X6_26 M dX6_ahead_38 ?_
        refine j_iload_n M dX6_ahead_41 rfl ?_
        refine j_inv2 M lk_X6_220 (c_X2_behind lib_now (hL) (hB.1) ((by decide)) (b_15.1)) rv_X2 dX6_ahead_42 (Nat.le_of_ble_eq_true rfl) ⟨(Nat.le_of_ble_eq_true rfl), (Nat.le_of_ble_eq_true rfl)⟩ (kR fun r_42 σ_42 q_42 => ?_)
        obtain ⟨rfl, g1, g2, g3⟩ := q_42
        have gw := gS_WF hB.1 n
        have ge := g1.2.1 b b0 (by show b < gS s n 0; rw [gw.2.1]; exact b1)
        refine j_astore_4 M dX6_ahead_45 (by exact (by first | trivial | rfl)) ?_
        refine j_iload_n M dX6_ahead_47 rfl ?_
        refine j_if_ne (tgt := 61) M dX6_ahead_48 (by decide) (fun h_48 => ?_) (fun h_48 => ?_)
        · refine j_aload M dX6_ahead_61 rfl ?_
          refine gf_X6_202 M lib_then dX6_ahead_63 ?_
          refine j_iload_n M dX6_ahead_66 rfl ?_
          refine al_L_2 M lib_then dX6_ahead_67 (by first | assumption | decide) (by first | assumption | decide) ?_
          exact j_iret M dX6_ahead_68 ⟨_, rfl, by (try dsimp only); exact ⟨by unfold aheadR; rw [if_pos ⟨b_5, b_15, b_24⟩, if_neg h_48]; exact ge.2.1, fr2_10 g3⟩⟩
        · refine j_aload M dX6_ahead_51 rfl ?_
          refine gf_X6_199 M lib_then dX6_ahead_53 ?_
          refine j_iload_n M dX6_ahead_56 rfl ?_
          refine al_L_1 M lib_then dX6_ahead_57 (by first | assumption | decide) (by first | assumption | decide) ?_
          refine j_goto (tgt := 68) M dX6_ahead_58 (by decide) ?_
          exact j_iret M dX6_ahead_68 ⟨_, rfl, by (try dsimp only); exact ⟨by unfold aheadR; rw [if_pos ⟨b_5, b_15, b_24⟩, if_pos h_48]; exact ge.1, fr2_10 g3⟩⟩
      · have b_24 := ifF k_24 h_27
        refine j_ldc M k_X6_71 dX6_ahead_30 ?_
        exact j_iret M dX6_ahead_32 ⟨_, rfl, by (try dsimp only); exact ⟨by unfold aheadR; rw [if_neg (fun q => b_24 q.2.2)], fr2_r _⟩⟩
set_option maxRecDepth 100000 in
theorem c_X6_later {l : Launch} {G : Gw} {σ : Sg} {f : Int32} {n : Int32} {w : Int32} {s : St} {t : Int32} (hS : SO t s) (hL : LibF (σ 6) s) : Mt l G yX6_later cX6_later 5 (some .int) 6 138 [.ref (ad G 0 0), .int f, .int n, .int w] σ (pI fun r τ => r = laterR s f n w ∧ fr2 σ τ) := by
  refine mt_intro (by decide +kernel) (Nat.le_of_ble_eq_true rfl) (fun Φ M => ?_)
  show Φ 0 [some (.ref (ad G 0 0)), some (.int f), some (.int n), some (.int w), none] [] σ
  refine j_aload_n M dX6_later_0 rfl ?_
  refine gf_X6_26 M dX6_later_1 ?_
  refine j_iload_n M dX6_later_4 rfl ?_
  refine j_inv1 M lk_X6_184 (n_isFish hS hL) (rv_X3 lib_now) dX6_later_5 (Nat.le_of_ble_eq_true rfl) ⟨(Nat.le_of_ble_eq_true rfl), (Nat.le_of_ble_eq_true rfl)⟩ (kP fun r_5 k_5 => ?_)
  refine j_if_eq (tgt := 30) M dX6_later_8 (by decide) (fun h_8 => ?_) (fun h_8 => ?_)
  · have b_5 := ifF k_5 h_8
    refine j_ldc M k_X6_71 dX6_later_30 ?_
    exact j_iret M dX6_later_32 ⟨_, rfl, by (try dsimp only); exact ⟨by unfold laterR; rw [if_neg (fun q => b_5 q.1)], fr2_r _⟩⟩
  · have b_5 := ifT k_5 h_8
    refine j_iload_n M dX6_later_11 rfl ?_
    refine j_iconst (v := 0) M dX6_later_12 rfl ?_
    refine j_bipush (v := 60) M dX6_later_13 rfl ?_
    refine j_invs3 M lk_X6_104 (c_X6_isWithin) dX6_later_15 (Nat.le_of_ble_eq_true rfl) ⟨(Nat.le_of_ble_eq_true rfl), (Nat.le_of_ble_eq_true rfl)⟩ (kP fun r_15 k_15 => ?_)
    refine j_if_eq (tgt := 30) M dX6_later_18 (by decide) (fun h_18 => ?_) (fun h_18 => ?_)
    · have b_15 := ifF k_15 h_18
      refine j_ldc M k_X6_71 dX6_later_30 ?_
      exact j_iret M dX6_later_32 ⟨_, rfl, by (try dsimp only); exact ⟨by unfold laterR; rw [if_neg (fun q => b_15 q.2.1)], fr2_r _⟩⟩
    · have b_15 := ifT k_15 h_18
      refine j_iload_n M dX6_later_21 rfl ?_
      refine j_iconst (v := 0) M dX6_later_22 rfl ?_
      refine j_iconst (v := 1) M dX6_later_23 rfl ?_
      refine j_invs3 M lk_X6_104 (c_X6_isWithin) dX6_later_24 (Nat.le_of_ble_eq_true rfl) ⟨(Nat.le_of_ble_eq_true rfl), (Nat.le_of_ble_eq_true rfl)⟩ (kP fun r_24 k_24 => ?_)
      refine j_if_ne (tgt := 33) M dX6_later_27 (by decide) (fun h_27 => ?_) (fun h_27 => ?_)
      · have b_24 := ifT k_24 h_27
        have hF := hS.w.f b_5
        have f0 := b_5.1
        have f1 := hF.2.1
        have f5 := hF.2.2
        refine j_aload_n M dX6_later_33 rfl ?_
        refine gf_X6_49 M dX6_later_34 ?_
        refine j_aload_n M dX6_later_37 rfl ?_
        refine gf_X6_26 M dX6_later_38 ?_
        refine j_iload_n M dX6_later_41 rfl ?_
        refine j_inv2 M lk_X6_220 (c_X2_behind lib_now (hL) (hF.1) ((by decide)) (b_15.1)) rv_X2 dX6_later_42 (Nat.le_of_ble_eq_true rfl) ⟨(Nat.le_of_ble_eq_true rfl), (Nat.le_of_ble_eq_true rfl)⟩ (kR fun r_42 σ_42 q_42 => ?_)
        obtain ⟨rfl, g1, g2, g3⟩ := q_42
        have gw := gS_WF hF.1 n
        have ge := g1.2.2 f f0 (by show f < gS s n 1; rw [gw.2.2]; exact f1)
        refine j_astore_4 M dX6_later_45 (by exact (by first | trivial | rfl)) ?_
        refine j_iload_n M dX6_later_47 rfl ?_
        refine j_iconst (v := 1) M dX6_later_48 rfl ?_
        refine j_icmp_ne (tgt := 60) M dX6_later_49 (by decide) (fun h_49 => ?_) (fun h_49 => ?_)
        · refine j_aload M dX6_later_60 rfl ?_
          refine j_iload_n M dX6_later_62 rfl ?_
          refine j_inv1 M lk_X6_193 (c_X3_isCaught lib_then) (rv_X3 lib_then) dX6_later_63 (Nat.le_of_ble_eq_true rfl) ⟨(Nat.le_of_ble_eq_true rfl), (Nat.le_of_ble_eq_true rfl)⟩ (kE ?_)
          rw [show σ_42 10 0 7 = gS s n 7 from g1.1.2.2.2.2.2.2.2]
          refine j_if_eq (tgt := 74) M dX6_later_66 (by decide) (fun h_66 => ?_) (fun h_66 => ?_)
          · refine j_aload M dX6_later_74 rfl ?_
            refine gf_X6_190 M lib_then dX6_later_76 ?_
            refine j_iload_n M dX6_later_79 rfl ?_
            refine al_L_6 M lib_then dX6_later_80 (by first | assumption | decide) (by first | assumption | decide) ?_
            exact j_iret M dX6_later_81 ⟨_, rfl, by (try dsimp only); exact ⟨by unfold laterR; rw [if_pos ⟨b_5, b_15, b_24⟩, if_neg h_49, if_neg (fun q => by rw [h_66] at q; exact absurd q (by decide))]; exact ge.2.1, fr2_10 g3⟩⟩
          · refine j_ldc M k_X6_119 dX6_later_69 ?_
            refine j_goto (tgt := 81) M dX6_later_71 (by decide) ?_
            exact j_iret M dX6_later_81 ⟨_, rfl, by (try dsimp only); exact ⟨by unfold laterR; rw [if_pos ⟨b_5, b_15, b_24⟩, if_neg h_49, if_pos ((bt1 _ _).mpr h_66)], fr2_10 g3⟩⟩
        · refine j_aload M dX6_later_52 rfl ?_
          refine gf_X6_208 M lib_then dX6_later_54 ?_
          refine j_iload_n M dX6_later_57 rfl ?_
          refine al_L_7 M lib_then dX6_later_58 (by first | assumption | decide) (by first | assumption | decide) ?_
          exact j_iret M dX6_later_59 ⟨_, rfl, by (try dsimp only); exact ⟨by unfold laterR; rw [if_pos ⟨b_5, b_15, b_24⟩, if_pos h_49]; exact ge.2.2, fr2_10 g3⟩⟩
      · have b_24 := ifF k_24 h_27
        refine j_ldc M k_X6_71 dX6_later_30 ?_
        exact j_iret M dX6_later_32 ⟨_, rfl, by (try dsimp only); exact ⟨by unfold laterR; rw [if_neg (fun q => b_24 q.2.2)], fr2_r _⟩⟩
set_option maxRecDepth 100000 in
theorem c_X6_when {l : Launch} {G : Gw} {σ : Sg} {b : Int32} {s : St} {t : Int32} (hS : SO t s) (hL : LibF (σ 6) s) : Mt l G yX6_when cX6_when 2 (some .int) 5 117 [.ref (ad G 0 0), .int b] σ (pI fun r τ => (if isB s b then isFirst (fun n => gS s n (8 + b) = 0) r else r = -1000001) ∧ fr2 σ τ) := by
  refine mt_intro (by decide +kernel) (Nat.le_of_ble_eq_true rfl) (fun Φ M => ?_)
  show Φ 0 [some (.ref (ad G 0 0)), some (.int b)] [] σ
  refine j_aload_n M dX6_when_0 rfl ?_
  refine gf_X6_26 M dX6_when_1 ?_
  refine j_iload_n M dX6_when_4 rfl ?_
  refine j_inv1 M lk_X6_158 (n_isBook hS hL) (rv_X3 lib_now) dX6_when_5 (Nat.le_of_ble_eq_true rfl) ⟨(Nat.le_of_ble_eq_true rfl), (Nat.le_of_ble_eq_true rfl)⟩ (kP fun r_5 k_5 => ?_)
  refine j_if_ne (tgt := 14) M dX6_when_8 (by decide) (fun h_8 => ?_) (fun h_8 => ?_)
  · have b_5 := ifT k_5 h_8
    have hB := hS.w.b b_5
    have b0 := b_5.1
    have b1 := hB.2.1
    have b6 := hB.2.2
    refine j_aload_n M dX6_when_14 rfl ?_
    refine gf_X6_49 M dX6_when_15 ?_
    refine j_aload_n M dX6_when_18 rfl ?_
    refine gf_X6_26 M dX6_when_19 ?_
    refine j_iconst (v := 1) M dX6_when_22 rfl ?_
    refine j_iload_n M dX6_when_23 rfl ?_
    refine j_ishl M dX6_when_24 ?_
    refine j_inv2 M lk_X6_224 (c_X2_nightsTillEmpty lib_now (hL) (hB.1) ((by decide))) rv_X2 dX6_when_25 (Nat.le_of_ble_eq_true rfl) ⟨(Nat.le_of_ble_eq_true rfl), (Nat.le_of_ble_eq_true rfl)⟩ (kI fun r_25 σ_25 q_25 => ?_)
    obtain ⟨g1, g2, g3⟩ := q_25
    exact j_iret M dX6_when_28 ⟨_, rfl, by (try dsimp only); exact ⟨by rw [if_pos b_5]; exact isFirst_c g1 (fun m => when_set (gS_WF hB.1 m).1 (gS_WF hB.1 m).2.1 b0 b1), fr2_10 g3⟩⟩
  · have b_5 := ifF k_5 h_8
    refine j_ldc M k_X6_71 dX6_when_11 ?_
    exact j_iret M dX6_when_13 ⟨_, rfl, by (try dsimp only); exact ⟨by rw [if_neg b_5], fr2_r _⟩⟩
set_option maxRecDepth 100000 in
theorem c_X6_first {l : Launch} {G : Gw} {σ : Sg} {w : Int32} {s : St} {t : Int32} (hS : SO t s) (hL : LibF (σ 6) s) : Mt l G yX6_first cX6_first 4 (some .int) 5 117 [.ref (ad G 0 0), .int w] σ (pI fun r τ => firstQ t s w r ∧ fr2 σ τ) := by
  refine mt_intro (by decide +kernel) (Nat.le_of_ble_eq_true rfl) (fun Φ M => ?_)
  show Φ 0 [some (.ref (ad G 0 0)), some (.int w), none, none] [] σ
  refine j_aload_n M dX6_first_0 rfl ?_
  refine gf_X6_26 M dX6_first_1 ?_
  refine j_inv0 M lk_X6_141 (n_isTold hS hL) (rv_X3 lib_now) dX6_first_4 (Nat.le_of_ble_eq_true rfl) ⟨(Nat.le_of_ble_eq_true rfl), (Nat.le_of_ble_eq_true rfl)⟩ (kP fun r_4 k_4 => ?_)
  refine j_if_ne (tgt := 13) M dX6_first_7 (by decide) (fun h_7 => ?_) (fun h_7 => ?_)
  · have b_4 := ifT k_4 h_7
    refine j_iload_n M dX6_first_13 rfl ?_
    refine j_iconst (v := 0) M dX6_first_14 rfl ?_
    refine j_iconst (v := 1) M dX6_first_15 rfl ?_
    refine j_invs3 M lk_X6_104 (c_X6_isWithin) dX6_first_16 (Nat.le_of_ble_eq_true rfl) ⟨(Nat.le_of_ble_eq_true rfl), (Nat.le_of_ble_eq_true rfl)⟩ (kP fun r_16 k_16 => ?_)
    refine j_if_ne (tgt := 25) M dX6_first_19 (by decide) (fun h_19 => ?_) (fun h_19 => ?_)
    · have b_16 := ifT k_16 h_19
      have hW := hS.f b_4
      refine j_aload_n M dX6_first_25 rfl ?_
      refine gf_X6_26 M dX6_first_26 ?_
      refine j_inv0 M lk_X6_228 (c_X3_booksWithPages lib_now (hL) (hW.z)) (rv_X3 lib_now) dX6_first_29 (Nat.le_of_ble_eq_true rfl) ⟨(Nat.le_of_ble_eq_true rfl), (Nat.le_of_ble_eq_true rfl)⟩ (kE ?_)
      refine j_istore_2 M dX6_first_32 (by exact (by first | trivial | rfl)) ?_
      refine j_aload_n M dX6_first_33 rfl ?_
      refine gf_X6_49 M dX6_first_34 ?_
      refine j_aload_n M dX6_first_37 rfl ?_
      refine gf_X6_26 M dX6_first_38 ?_
      refine j_iload_n M dX6_first_41 rfl ?_
      refine j_inv2 M lk_X6_224 (c_X2_nightsTillEmpty lib_now (hL) (hW) ((by decide))) rv_X2 dX6_first_42 (Nat.le_of_ble_eq_true rfl) ⟨(Nat.le_of_ble_eq_true rfl), (Nat.le_of_ble_eq_true rfl)⟩ (kI fun r_42 σ_42 q_42 => ?_)
      obtain ⟨g1, g2, g3⟩ := q_42
      have gf : isFirst (fun n => firstP s n ≠ 0) r_42 := isFirst_c g1 (fun m => by rw [first_set hW (gS_WF hW m).1 (gS_WF hW m).2.1]; exact Iff.rfl)
      refine j_istore_3 M dX6_first_45 (by exact (by first | trivial | rfl)) ?_
      refine j_iload_n M dX6_first_46 rfl ?_
      refine j_iconst (v := 1) M dX6_first_47 rfl ?_
      refine j_icmp_eq (tgt := 57) M dX6_first_48 (by decide) (fun h_48 => ?_) (fun h_48 => ?_)
      · refine j_iload_n M dX6_first_57 rfl ?_
        refine j_goto (tgt := 69) M dX6_first_58 (by decide) ?_
        skip
        exact j_iret M dX6_first_69 ⟨_, rfl, by (try dsimp only); exact ⟨by unfold firstQ; rw [if_neg b_4, if_pos b_16]; refine ⟨r_42, gf, ?_⟩; by_cases e : r_42 = -1000000; (· rw [if_pos e]; exact e); (· rw [if_neg e, if_neg (fun q => by rw [h_48] at q; exact absurd q (by decide))]), fr2_10 g3⟩⟩
      · refine j_iload_n M dX6_first_51 rfl ?_
        refine j_ldc M k_X6_119 dX6_first_52 ?_
        refine j_icmp_ne (tgt := 61) M dX6_first_54 (by decide) (fun h_54 => ?_) (fun h_54 => ?_)
        · refine j_aload_n M dX6_first_61 rfl ?_
          refine gf_X6_49 M dX6_first_62 ?_
          refine j_iload_n M dX6_first_65 rfl ?_
          refine j_inv1 M lk_X6_231 (c_X2_emptyOneOf ((g2 h_54)) ((gS_WF hW r_42).1.z)) rv_X2 dX6_first_66 (Nat.le_of_ble_eq_true rfl) ⟨(Nat.le_of_ble_eq_true rfl), (Nat.le_of_ble_eq_true rfl)⟩ (kE ?_)
          have ev : (if leastR (fullM s (s 0) &&& (fullM (gS s r_42) ((gS s r_42) 0) ^^^ (-1))) < 6 then leastR (fullM s (s 0) &&& (fullM (gS s r_42) ((gS s r_42) 0) ^^^ (-1))) else -1000000) = leastR (firstP s r_42) := first_ev hW gf h_54
          skip
          exact j_iret M dX6_first_69 ⟨_, rfl, by (try dsimp only); exact ⟨by unfold firstQ; rw [if_neg b_4, if_pos b_16]; refine ⟨r_42, gf, ?_⟩; rw [if_neg h_54, if_pos (w_01 b_16 h_48)]; exact ev, fr2_10 g3⟩⟩
        · refine j_iload_n M dX6_first_57 rfl ?_
          refine j_goto (tgt := 69) M dX6_first_58 (by decide) ?_
          skip
          exact j_iret M dX6_first_69 ⟨_, rfl, by (try dsimp only); exact ⟨by unfold firstQ; rw [if_neg b_4, if_pos b_16]; refine ⟨r_42, gf, ?_⟩; rw [if_pos h_54]; exact h_54, fr2_10 g3⟩⟩
    · have b_16 := ifF k_16 h_19
      refine j_ldc M k_X6_71 dX6_first_22 ?_
      exact j_iret M dX6_first_24 ⟨_, rfl, by (try dsimp only); exact ⟨by unfold firstQ; rw [if_neg b_4, if_neg b_16], fr2_r _⟩⟩
  · have b_4 := ifF k_4 h_7
    refine j_ldc M k_X6_137 dX6_first_10 ?_
    exact j_iret M dX6_first_12 ⟨_, rfl, by (try dsimp only); exact ⟨by unfold firstQ; rw [if_pos (Classical.not_not.mp b_4)], fr2_r _⟩⟩
set_option maxRecDepth 100000 in
theorem c_X6_hole {l : Launch} {G : Gw} {σ : Sg} {f : Int32} {n : Int32} {s h : St} {t : Int32} (hS : SO t s) (hL : LibF (σ 6) s) : Mt l G yX6_hole cX6_hole 3 (some .int) 6 138 [.ref (ad G 0 0), .int f, .int n] σ (pI fun r τ => r = holeR s f n h ∧ fr2 σ τ) := by
  refine mt_intro (by decide +kernel) (Nat.le_of_ble_eq_true rfl) (fun Φ M => ?_)
  show Φ 0 [some (.ref (ad G 0 0)), some (.int f), some (.int n)] [] σ
  refine j_aload_n M dX6_hole_0 rfl ?_
  refine gf_X6_26 M dX6_hole_1 ?_
  refine j_iload_n M dX6_hole_4 rfl ?_
  refine j_inv1 M lk_X6_184 (n_isFish hS hL) (rv_X3 lib_now) dX6_hole_5 (Nat.le_of_ble_eq_true rfl) ⟨(Nat.le_of_ble_eq_true rfl), (Nat.le_of_ble_eq_true rfl)⟩ (kP fun r_5 k_5 => ?_)
  refine j_if_eq (tgt := 21) M dX6_hole_8 (by decide) (fun h_8 => ?_) (fun h_8 => ?_)
  · have b_5 := ifF k_5 h_8
    refine j_ldc M k_X6_71 dX6_hole_21 ?_
    exact j_iret M dX6_hole_23 ⟨_, rfl, by (try dsimp only); exact ⟨by unfold holeR; rw [if_neg (fun q => b_5 q.1)], fr2_r _⟩⟩
  · have b_5 := ifT k_5 h_8
    refine j_iload_n M dX6_hole_11 rfl ?_
    refine j_iconst (v := 0) M dX6_hole_12 rfl ?_
    refine j_bipush (v := 60) M dX6_hole_13 rfl ?_
    refine j_invs3 M lk_X6_104 (c_X6_isWithin) dX6_hole_15 (Nat.le_of_ble_eq_true rfl) ⟨(Nat.le_of_ble_eq_true rfl), (Nat.le_of_ble_eq_true rfl)⟩ (kP fun r_15 k_15 => ?_)
    refine j_if_ne (tgt := 24) M dX6_hole_18 (by decide) (fun h_18 => ?_) (fun h_18 => ?_)
    · have b_15 := ifT k_15 h_18
      have hF := hS.w.f b_5
      have f0 := b_5.1
      have f1 := hF.2.1
      have f5 := hF.2.2
      refine j_aload_n M dX6_hole_24 rfl ?_
      refine gf_X6_49 M dX6_hole_25 ?_
      refine j_aload_n M dX6_hole_28 rfl ?_
      refine gf_X6_26 M dX6_hole_29 ?_
      refine j_iload_n M dX6_hole_32 rfl ?_
      refine j_inv2 M lk_X6_220 (c_X2_behind lib_now (hL) (hF.1) ((by decide)) (b_15.1)) rv_X2 dX6_hole_33 (Nat.le_of_ble_eq_true rfl) ⟨(Nat.le_of_ble_eq_true rfl), (Nat.le_of_ble_eq_true rfl)⟩ (kR fun r_33 σ_33 q_33 => ?_)
      obtain ⟨rfl, g1, g2, g3⟩ := q_33
      have gw := gS_WF hF.1 n
      
      refine gf_X6_234 M lib_then dX6_hole_36 ?_
      refine j_iload_n M dX6_hole_39 rfl ?_
      refine al_L_8 M lib_then dX6_hole_40 (by first | assumption | decide) (by first | assumption | decide) ?_
      exact j_iret M dX6_hole_41 ⟨_, rfl, by (try dsimp only); exact ⟨by unfold holeR; rw [if_pos ⟨b_5, b_15⟩, ← hole_eq]; exact g2 f f0 f5, fr2_10 g3⟩⟩
    · have b_15 := ifF k_15 h_18
      refine j_ldc M k_X6_71 dX6_hole_21 ?_
      exact j_iret M dX6_hole_23 ⟨_, rfl, by (try dsimp only); exact ⟨by unfold holeR; rw [if_neg (fun q => b_15 q.2)], fr2_r _⟩⟩
set_option maxRecDepth 100000 in
theorem c_X6_lamp {l : Launch} {G : Gw} {σ : Sg} {b : Int32} {n : Int32} {w : Int32} {s : St} {t : Int32} (hS : SO t s) (hL : LibF (σ 6) s) : Mt l G yX6_lamp cX6_lamp 5 (some .int) 7 168 [.ref (ad G 0 0), .int b, .int n, .int w] σ (pI fun r τ => r = lampR s b n w ∧ fr2 σ τ) := by
  refine mt_intro (by decide +kernel) (Nat.le_of_ble_eq_true rfl) (fun Φ M => ?_)
  show Φ 0 [some (.ref (ad G 0 0)), some (.int b), some (.int n), some (.int w), none] [] σ
  refine j_aload_n M dX6_lamp_0 rfl ?_
  refine gf_X6_26 M dX6_lamp_1 ?_
  refine j_iload_n M dX6_lamp_4 rfl ?_
  refine j_inv1 M lk_X6_158 (n_isBook hS hL) (rv_X3 lib_now) dX6_lamp_5 (Nat.le_of_ble_eq_true rfl) ⟨(Nat.le_of_ble_eq_true rfl), (Nat.le_of_ble_eq_true rfl)⟩ (kP fun r_5 k_5 => ?_)
  refine j_if_eq (tgt := 30) M dX6_lamp_8 (by decide) (fun h_8 => ?_) (fun h_8 => ?_)
  · have b_5 := ifF k_5 h_8
    refine j_ldc M k_X6_71 dX6_lamp_30 ?_
    exact j_iret M dX6_lamp_32 ⟨_, rfl, by (try dsimp only); exact ⟨by unfold lampR; rw [if_neg (fun q => b_5 q.1)], fr2_r _⟩⟩
  · have b_5 := ifT k_5 h_8
    refine j_iload_n M dX6_lamp_11 rfl ?_
    refine j_iconst (v := 1) M dX6_lamp_12 rfl ?_
    refine j_bipush (v := 60) M dX6_lamp_13 rfl ?_
    refine j_invs3 M lk_X6_104 (c_X6_isWithin) dX6_lamp_15 (Nat.le_of_ble_eq_true rfl) ⟨(Nat.le_of_ble_eq_true rfl), (Nat.le_of_ble_eq_true rfl)⟩ (kP fun r_15 k_15 => ?_)
    refine j_if_eq (tgt := 30) M dX6_lamp_18 (by decide) (fun h_18 => ?_) (fun h_18 => ?_)
    · have b_15 := ifF k_15 h_18
      refine j_ldc M k_X6_71 dX6_lamp_30 ?_
      exact j_iret M dX6_lamp_32 ⟨_, rfl, by (try dsimp only); exact ⟨by unfold lampR; rw [if_neg (fun q => b_15 q.2.1)], fr2_r _⟩⟩
    · have b_15 := ifT k_15 h_18
      refine j_iload_n M dX6_lamp_21 rfl ?_
      refine j_iconst (v := 0) M dX6_lamp_22 rfl ?_
      refine j_iconst (v := 1) M dX6_lamp_23 rfl ?_
      refine j_invs3 M lk_X6_104 (c_X6_isWithin) dX6_lamp_24 (Nat.le_of_ble_eq_true rfl) ⟨(Nat.le_of_ble_eq_true rfl), (Nat.le_of_ble_eq_true rfl)⟩ (kP fun r_24 k_24 => ?_)
      refine j_if_ne (tgt := 33) M dX6_lamp_27 (by decide) (fun h_27 => ?_) (fun h_27 => ?_)
      · have b_24 := ifT k_24 h_27
        have hB := hS.w.b b_5
        have b0 := b_5.1
        have b1 := hB.2.1
        have b6 := hB.2.2
        have n0 : 0 ≤ n := Int32.le_trans (by decide) b_15.1
        refine j_aload_n M dX6_lamp_33 rfl ?_
        refine gf_X6_49 M dX6_lamp_34 ?_
        refine j_aload_n M dX6_lamp_37 rfl ?_
        refine gf_X6_26 M dX6_lamp_38 ?_
        refine j_iload_n M dX6_lamp_41 rfl ?_
        refine j_iload_n M dX6_lamp_42 rfl ?_
        refine j_inv3 M lk_X6_247 (c_X2_bestLamps lib_now (hL) (hB.1) ((by decide)) (n0) (b0) (b1)) rv_X2 dX6_lamp_43 (Nat.le_of_ble_eq_true rfl) ⟨(Nat.le_of_ble_eq_true rfl), (Nat.le_of_ble_eq_true rfl)⟩ (kI fun r_43 σ_43 q_43 => ?_)
        obtain ⟨rfl, g3⟩ := q_43
        have pb := powB hB.1.1.1
        have lr := lamp_rng s b n pb.2.2 (Int32.le_refl _) pb.2.1
        have eL : LibF (σ_43 6) s := by rw [show σ_43 6 = σ 6 from funext (fun k => g3 6 k (fun e => absurd e.1 (by decide)))]; exact hL
        refine j_istore_4 M dX6_lamp_46 (by exact (by first | trivial | rfl)) ?_
        refine j_iload_n M dX6_lamp_48 rfl ?_
        refine j_iconst (v := 1) M dX6_lamp_49 rfl ?_
        refine j_icmp_ne (tgt := 58) M dX6_lamp_50 (by decide) (fun h_50 => ?_) (fun h_50 => ?_)
        · refine j_aload_n M dX6_lamp_58 rfl ?_
          refine gf_X6_49 M dX6_lamp_59 ?_
          refine j_aload_n M dX6_lamp_62 rfl ?_
          refine gf_X6_26 M dX6_lamp_63 ?_
          refine j_iload M dX6_lamp_66 rfl ?_
          refine j_iload_n M dX6_lamp_68 rfl ?_
          refine j_iload_n M dX6_lamp_69 rfl ?_
          refine j_inv4 M lk_X6_250 (c_X2_pagesIfLit lib_now (eL) (hB.1) ((by decide)) (n0) (lr.1) (lr.2) (b0) (b1)) rv_X2 dX6_lamp_70 (Nat.le_of_ble_eq_true rfl) ⟨(Nat.le_of_ble_eq_true rfl), (Nat.le_of_ble_eq_true rfl)⟩ (kI fun r_70 σ_70 q_70 => ?_)
          obtain ⟨rfl, g5⟩ := q_70
          exact j_iret M dX6_lamp_73 ⟨_, rfl, by (try dsimp only); exact ⟨by unfold lampR; rw [if_pos ⟨b_5, b_15, b_24⟩, if_pos (w_01 b_24 h_50)]; rw [lamp_val hB.1 b0 b1 pb.1 pb.2.1], fr2_t (fr2_10 g3) (fr2_10 g5)⟩⟩
        · refine j_iload M dX6_lamp_53 rfl ?_
          refine j_goto (tgt := 73) M dX6_lamp_55 (by decide) ?_
          exact j_iret M dX6_lamp_73 ⟨_, rfl, by (try dsimp only); exact ⟨by unfold lampR; rw [if_pos ⟨b_5, b_15, b_24⟩, if_neg (fun q => by rw [h_50] at q; exact absurd q (by decide))], fr2_10 g3⟩⟩
      · have b_24 := ifF k_24 h_27
        refine j_ldc M k_X6_71 dX6_lamp_30 ?_
        exact j_iret M dX6_lamp_32 ⟨_, rfl, by (try dsimp only); exact ⟨by unfold lampR; rw [if_neg (fun q => b_24 q.2.2)], fr2_r _⟩⟩
set_option maxRecDepth 100000 in
theorem c_X6_caught {l : Launch} {G : Gw} {σ : Sg} {b : Int32} {n : Int32} {w : Int32} {s : St} {t : Int32} (hS : SO t s) (hL : LibF (σ 6) s) : Mt l G yX6_caught cX6_caught 5 (some .int) 6 142 [.ref (ad G 0 0), .int b, .int n, .int w] σ (pI fun r τ => r = catchR s b n w ∧ fr2 σ τ) := by
  refine mt_intro (by decide +kernel) (Nat.le_of_ble_eq_true rfl) (fun Φ M => ?_)
  show Φ 0 [some (.ref (ad G 0 0)), some (.int b), some (.int n), some (.int w), none] [] σ
  refine j_aload_n M dX6_caught_0 rfl ?_
  refine gf_X6_26 M dX6_caught_1 ?_
  refine j_iload_n M dX6_caught_4 rfl ?_
  refine j_inv1 M lk_X6_158 (n_isBook hS hL) (rv_X3 lib_now) dX6_caught_5 (Nat.le_of_ble_eq_true rfl) ⟨(Nat.le_of_ble_eq_true rfl), (Nat.le_of_ble_eq_true rfl)⟩ (kP fun r_5 k_5 => ?_)
  refine j_if_eq (tgt := 30) M dX6_caught_8 (by decide) (fun h_8 => ?_) (fun h_8 => ?_)
  · have b_5 := ifF k_5 h_8
    refine j_ldc M k_X6_71 dX6_caught_30 ?_
    exact j_iret M dX6_caught_32 ⟨_, rfl, by (try dsimp only); exact ⟨by unfold catchR; rw [if_neg (fun q => b_5 q.1)], fr2_r _⟩⟩
  · have b_5 := ifT k_5 h_8
    refine j_iload_n M dX6_caught_11 rfl ?_
    refine j_iconst (v := 1) M dX6_caught_12 rfl ?_
    refine j_bipush (v := 60) M dX6_caught_13 rfl ?_
    refine j_invs3 M lk_X6_104 (c_X6_isWithin) dX6_caught_15 (Nat.le_of_ble_eq_true rfl) ⟨(Nat.le_of_ble_eq_true rfl), (Nat.le_of_ble_eq_true rfl)⟩ (kP fun r_15 k_15 => ?_)
    refine j_if_eq (tgt := 30) M dX6_caught_18 (by decide) (fun h_18 => ?_) (fun h_18 => ?_)
    · have b_15 := ifF k_15 h_18
      refine j_ldc M k_X6_71 dX6_caught_30 ?_
      exact j_iret M dX6_caught_32 ⟨_, rfl, by (try dsimp only); exact ⟨by unfold catchR; rw [if_neg (fun q => b_15 q.2.1)], fr2_r _⟩⟩
    · have b_15 := ifT k_15 h_18
      refine j_iload_n M dX6_caught_21 rfl ?_
      refine j_iconst (v := 0) M dX6_caught_22 rfl ?_
      refine j_iconst (v := 1) M dX6_caught_23 rfl ?_
      refine j_invs3 M lk_X6_104 (c_X6_isWithin) dX6_caught_24 (Nat.le_of_ble_eq_true rfl) ⟨(Nat.le_of_ble_eq_true rfl), (Nat.le_of_ble_eq_true rfl)⟩ (kP fun r_24 k_24 => ?_)
      refine j_if_ne (tgt := 33) M dX6_caught_27 (by decide) (fun h_27 => ?_) (fun h_27 => ?_)
      · have b_24 := ifT k_24 h_27
        have hB := hS.w.b b_5
        have b0 := b_5.1
        have b1 := hB.2.1
        have b6 := hB.2.2
        have n0 : 0 ≤ n := Int32.le_trans (by decide) b_15.1
        refine j_aload_n M dX6_caught_33 rfl ?_
        refine gf_X6_49 M dX6_caught_34 ?_
        refine j_aload_n M dX6_caught_37 rfl ?_
        refine gf_X6_26 M dX6_caught_38 ?_
        refine j_iload_n M dX6_caught_41 rfl ?_
        refine j_iload_n M dX6_caught_42 rfl ?_
        refine j_inv3 M lk_X6_254 (c_X2_fewestCaught lib_now (hL) (hB.1) ((by decide)) (n0) (b0) (b1)) rv_X2 dX6_caught_43 (Nat.le_of_ble_eq_true rfl) ⟨(Nat.le_of_ble_eq_true rfl), (Nat.le_of_ble_eq_true rfl)⟩ (kI fun r_43 σ_43 q_43 => ?_)
        obtain ⟨rfl, g3⟩ := q_43
        have cr := catch_01 hB.1 (n := n) b0 b1
        refine j_istore_4 M dX6_caught_46 (by exact (by first | trivial | rfl)) ?_
        refine j_iload_n M dX6_caught_48 rfl ?_
        refine j_iconst (v := 1) M dX6_caught_49 rfl ?_
        refine j_icmp_ne (tgt := 58) M dX6_caught_50 (by decide) (fun h_50 => ?_) (fun h_50 => ?_)
        · refine j_iload M dX6_caught_58 rfl ?_
          refine j_invs1 M lk_X6_168 (c_J6_bitCount_0f7a4 (cr.1) (cr.2)) dX6_caught_60 (Nat.le_of_ble_eq_true rfl) ⟨(Nat.le_of_ble_eq_true rfl), (Nat.le_of_ble_eq_true rfl)⟩ (kE ?_)
          exact j_iret M dX6_caught_63 ⟨_, rfl, by (try dsimp only); exact ⟨by unfold catchR; rw [if_pos ⟨b_5, b_15, b_24⟩, if_pos (w_01 b_24 h_50)], fr2_10 g3⟩⟩
        · refine j_iload M dX6_caught_53 rfl ?_
          refine j_goto (tgt := 63) M dX6_caught_55 (by decide) ?_
          exact j_iret M dX6_caught_63 ⟨_, rfl, by (try dsimp only); exact ⟨by unfold catchR; rw [if_pos ⟨b_5, b_15, b_24⟩, if_neg (fun q => by rw [h_50] at q; exact absurd q (by decide))], fr2_10 g3⟩⟩
      · have b_24 := ifF k_24 h_27
        refine j_ldc M k_X6_71 dX6_caught_30 ?_
        exact j_iret M dX6_caught_32 ⟨_, rfl, by (try dsimp only); exact ⟨by unfold catchR; rw [if_neg (fun q => b_24 q.2.2)], fr2_r _⟩⟩
set_option maxRecDepth 100000 in
theorem c_X6_grams {l : Launch} {G : Gw} {σ : Sg} {f : Int32} {n : Int32} {s : St} {t : Int32} (hS : SO t s) (hL : LibF (σ 6) s) : Mt l G yX6_grams cX6_grams 3 (some .int) 2 49 [.ref (ad G 0 0), .int f, .int n] σ (pI fun r τ => r = gramsR s f n ∧ fr2 σ τ) := by
  refine mt_intro (by decide +kernel) (Nat.le_of_ble_eq_true rfl) (fun Φ M => ?_)
  show Φ 0 [some (.ref (ad G 0 0)), some (.int f), some (.int n)] [] σ
  refine j_aload_n M dX6_grams_0 rfl ?_
  refine gf_X6_26 M dX6_grams_1 ?_
  refine j_iload_n M dX6_grams_4 rfl ?_
  refine j_inv1 M lk_X6_184 (n_isFish hS hL) (rv_X3 lib_now) dX6_grams_5 (Nat.le_of_ble_eq_true rfl) ⟨(Nat.le_of_ble_eq_true rfl), (Nat.le_of_ble_eq_true rfl)⟩ (kP fun r_5 k_5 => ?_)
  refine j_if_eq (tgt := 22) M dX6_grams_8 (by decide) (fun h_8 => ?_) (fun h_8 => ?_)
  · have b_5 := ifF k_5 h_8
    refine j_ldc M k_X6_71 dX6_grams_22 ?_
    exact j_iret M dX6_grams_24 ⟨_, rfl, by (try dsimp only); exact ⟨by unfold gramsR; rw [if_neg (fun q => b_5 q.1)], fr2_r _⟩⟩
  · have b_5 := ifT k_5 h_8
    refine j_iload_n M dX6_grams_11 rfl ?_
    refine j_iconst (v := 0) M dX6_grams_12 rfl ?_
    refine j_sipush (v := 999) M dX6_grams_13 rfl ?_
    refine j_invs3 M lk_X6_104 (c_X6_isWithin) dX6_grams_16 (Nat.le_of_ble_eq_true rfl) ⟨(Nat.le_of_ble_eq_true rfl), (Nat.le_of_ble_eq_true rfl)⟩ (kP fun r_16 k_16 => ?_)
    refine j_if_ne (tgt := 25) M dX6_grams_19 (by decide) (fun h_19 => ?_) (fun h_19 => ?_)
    · have b_16 := ifT k_16 h_19
      have hF := hS.w.f b_5
      have f0 := b_5.1
      have f1 := hF.2.1
      have f5 := hF.2.2
      refine j_aload_n M dX6_grams_25 rfl ?_
      refine gf_X6_26 M dX6_grams_26 ?_
      refine j_iload_n M dX6_grams_29 rfl ?_
      refine j_inv1 M lk_X6_193 (n_isCaught hS hL) (rv_X3 lib_now) dX6_grams_30 (Nat.le_of_ble_eq_true rfl) ⟨(Nat.le_of_ble_eq_true rfl), (Nat.le_of_ble_eq_true rfl)⟩ (kE ?_)
      refine j_if_eq (tgt := 40) M dX6_grams_33 (by decide) (fun h_33 => ?_) (fun h_33 => ?_)
      · refine j_aload_n M dX6_grams_40 rfl ?_
        refine gf_X6_26 M dX6_grams_41 ?_
        refine j_iload_n M dX6_grams_44 rfl ?_
        refine j_iload_n M dX6_grams_45 rfl ?_
        refine j_inv2 M lk_X6_257 (c_X3_gramsOf lib_now (hL) (hF.1) (f0) (f1)) (rv_X3 lib_now) dX6_grams_46 (Nat.le_of_ble_eq_true rfl) ⟨(Nat.le_of_ble_eq_true rfl), (Nat.le_of_ble_eq_true rfl)⟩ (kE ?_)
        exact j_iret M dX6_grams_49 ⟨_, rfl, by (try dsimp only); exact ⟨(grams_n hF.1 b_5 b_16 h_33).symm, fr2_r _⟩⟩
      · refine j_iconst (v := 0) M dX6_grams_36 rfl ?_
        refine j_goto (tgt := 49) M dX6_grams_37 (by decide) ?_
        exact j_iret M dX6_grams_49 ⟨_, rfl, by (try dsimp only); exact ⟨(grams_c hF.1 b_5 b_16 h_33).symm, fr2_r _⟩⟩
    · have b_16 := ifF k_16 h_19
      refine j_ldc M k_X6_71 dX6_grams_22 ?_
      exact j_iret M dX6_grams_24 ⟨_, rfl, by (try dsimp only); exact ⟨by unfold gramsR; rw [if_neg (fun q => b_16 q.2)], fr2_r _⟩⟩
set_option maxRecDepth 100000 in
theorem c_X6_order {l : Launch} {G : Gw} {σ : Sg} {v : Int32} {n : Int32} {i : Int32} {s : St} {t : Int32} (hS : SO t s) (hL : LibF (σ 6) s) : Mt l G yX6_order cX6_order 5 (some .int) 6 142 [.ref (ad G 0 0), .int v, .int n, .int i] σ (pI fun r τ => r = (if t = 0 then -1000002 else if ¬ (inR 0 v (shl32 1 (s 0) - 1) ∧ inR 1 n 12 ∧ inR (-1) i (s 0 - 1)) then -1000001 else ordR s v n i) ∧ fr2 σ τ) := by
  refine mt_intro (by decide +kernel) (Nat.le_of_ble_eq_true rfl) (fun Φ M => ?_)
  show Φ 0 [some (.ref (ad G 0 0)), some (.int v), some (.int n), some (.int i), none] [] σ
  refine j_aload_n M dX6_order_0 rfl ?_
  refine gf_X6_26 M dX6_order_1 ?_
  refine j_inv0 M lk_X6_141 (n_isTold hS hL) (rv_X3 lib_now) dX6_order_4 (Nat.le_of_ble_eq_true rfl) ⟨(Nat.le_of_ble_eq_true rfl), (Nat.le_of_ble_eq_true rfl)⟩ (kP fun r_4 k_4 => ?_)
  refine j_if_ne (tgt := 13) M dX6_order_7 (by decide) (fun h_7 => ?_) (fun h_7 => ?_)
  · have b_4 := ifT k_4 h_7
    have hW := hS.f b_4
    refine j_iload_n M dX6_order_13 rfl ?_
    refine j_iconst (v := 0) M dX6_order_14 rfl ?_
    refine j_aload_n M dX6_order_15 rfl ?_
    refine gf_X6_26 M dX6_order_16 ?_
    refine j_inv0 M lk_X6_237 (c_X3_allBooks lib_now) (rv_X3 lib_now) dX6_order_19 (Nat.le_of_ble_eq_true rfl) ⟨(Nat.le_of_ble_eq_true rfl), (Nat.le_of_ble_eq_true rfl)⟩ (kE ?_)
    rw [hL.1.1]
    refine j_invs3 M lk_X6_104 (c_X6_isWithin) dX6_order_22 (Nat.le_of_ble_eq_true rfl) ⟨(Nat.le_of_ble_eq_true rfl), (Nat.le_of_ble_eq_true rfl)⟩ (kP fun r_22 k_22 => ?_)
    refine j_if_eq (tgt := 38) M dX6_order_25 (by decide) (fun h_25 => ?_) (fun h_25 => ?_)
    · have b_22 := ifF k_22 h_25
      refine j_ldc M k_X6_71 dX6_order_38 ?_
      exact j_iret M dX6_order_40 ⟨_, rfl, by (try dsimp only); exact ⟨by rw [if_neg b_4, if_pos (fun q => b_22 q.1)], fr2_r _⟩⟩
    · have b_22 := ifT k_22 h_25
      refine j_iload_n M dX6_order_28 rfl ?_
      refine j_iconst (v := 1) M dX6_order_29 rfl ?_
      refine j_bipush (v := 12) M dX6_order_30 rfl ?_
      refine j_invs3 M lk_X6_104 (c_X6_isWithin) dX6_order_32 (Nat.le_of_ble_eq_true rfl) ⟨(Nat.le_of_ble_eq_true rfl), (Nat.le_of_ble_eq_true rfl)⟩ (kP fun r_32 k_32 => ?_)
      refine j_if_ne (tgt := 41) M dX6_order_35 (by decide) (fun h_35 => ?_) (fun h_35 => ?_)
      · have b_32 := ifT k_32 h_35
        refine j_iload_n M dX6_order_41 rfl ?_
        refine j_iconst (v := (-1)) M dX6_order_42 rfl ?_
        refine j_icmp_eq (tgt := 60) M dX6_order_43 (by decide) (fun h_43 => ?_) (fun h_43 => ?_)
        · have n0 : 0 ≤ n := Int32.le_trans (by decide) b_32.1
          refine j_aload_n M dX6_order_60 rfl ?_
          refine gf_X6_49 M dX6_order_61 ?_
          refine j_aload_n M dX6_order_64 rfl ?_
          refine gf_X6_26 M dX6_order_65 ?_
          refine j_iload_n M dX6_order_68 rfl ?_
          refine j_iload_n M dX6_order_69 rfl ?_
          refine j_inv3 M lk_X6_240 (c_X2_bestOrder lib_now (hL) (hW) ((by decide)) (n0)) rv_X2 dX6_order_70 (Nat.le_of_ble_eq_true rfl) ⟨(Nat.le_of_ble_eq_true rfl), (Nat.le_of_ble_eq_true rfl)⟩ (kI fun r_70 σ_70 q_70 => ?_)
          obtain ⟨rfl, g2, g3, g4⟩ := q_70
          refine j_istore_4 M dX6_order_73 (by exact (by first | trivial | rfl)) ?_
          refine j_iload_n M dX6_order_75 rfl ?_
          refine j_iconst (v := (-1)) M dX6_order_76 rfl ?_
          refine j_icmp_ne (tgt := 85) M dX6_order_77 (by decide) (fun h_77 => ?_) (fun h_77 => ?_)
          · exact absurd h_43 h_77
          · refine j_iload M dX6_order_80 rfl ?_
            refine j_goto (tgt := 94) M dX6_order_82 (by decide) ?_
            exact j_iret M dX6_order_94 ⟨_, rfl, by (try dsimp only); exact ⟨by rw [if_neg b_4, if_neg (fun q => q ⟨b_22, b_32, ord_in hW (Or.inl h_43)⟩)]; unfold ordR; rw [if_pos (by rw [h_77]; decide)], g4⟩⟩
        · refine j_aload_n M dX6_order_46 rfl ?_
          refine gf_X6_26 M dX6_order_47 ?_
          refine j_iload_n M dX6_order_50 rfl ?_
          refine j_inv1 M lk_X6_187 (n_isPlace hS hL) (rv_X3 lib_now) dX6_order_51 (Nat.le_of_ble_eq_true rfl) ⟨(Nat.le_of_ble_eq_true rfl), (Nat.le_of_ble_eq_true rfl)⟩ (kP fun r_51 k_51 => ?_)
          refine j_if_ne (tgt := 60) M dX6_order_54 (by decide) (fun h_54 => ?_) (fun h_54 => ?_)
          · have b_51 := ifT k_51 h_54
            have n0 : 0 ≤ n := Int32.le_trans (by decide) b_32.1
            refine j_aload_n M dX6_order_60 rfl ?_
            refine gf_X6_49 M dX6_order_61 ?_
            refine j_aload_n M dX6_order_64 rfl ?_
            refine gf_X6_26 M dX6_order_65 ?_
            refine j_iload_n M dX6_order_68 rfl ?_
            refine j_iload_n M dX6_order_69 rfl ?_
            refine j_inv3 M lk_X6_240 (c_X2_bestOrder lib_now (hL) (hW) ((by decide)) (n0)) rv_X2 dX6_order_70 (Nat.le_of_ble_eq_true rfl) ⟨(Nat.le_of_ble_eq_true rfl), (Nat.le_of_ble_eq_true rfl)⟩ (kI fun r_70 σ_70 q_70 => ?_)
            obtain ⟨rfl, g2, g3, g4⟩ := q_70
            refine j_istore_4 M dX6_order_73 (by exact (by first | trivial | rfl)) ?_
            refine j_iload_n M dX6_order_75 rfl ?_
            refine j_iconst (v := (-1)) M dX6_order_76 rfl ?_
            refine j_icmp_ne (tgt := 85) M dX6_order_77 (by decide) (fun h_77 => ?_) (fun h_77 => ?_)
            · have hBi := hS.w.b b_51
              refine j_aload_n M dX6_order_85 rfl ?_
              refine gf_X6_49 M dX6_order_86 ?_
              refine gf_X6_244 M dX6_order_89 ?_
              refine j_iload_n M dX6_order_92 rfl ?_
              refine al_5_2 M dX6_order_93 (by first | assumption | decide | exact b_51.1 | exact hBi.2.2) (by first | assumption | decide | exact b_51.1 | exact hBi.2.2) ?_
              exact j_iret M dX6_order_94 ⟨_, rfl, by (try dsimp only); exact ⟨by rw [if_neg b_4, if_neg (fun q => q ⟨b_22, b_32, ord_in hW (Or.inr b_51)⟩)]; unfold ordR; rw [if_neg (Int32.not_lt.mpr b_51.1)]; exact ord_ld hW b_51 g2 g3, g4⟩⟩
            · refine j_iload M dX6_order_80 rfl ?_
              refine j_goto (tgt := 94) M dX6_order_82 (by decide) ?_
              exact j_iret M dX6_order_94 ⟨_, rfl, by (try dsimp only); exact ⟨by rw [if_neg b_4, if_neg (fun q => q ⟨b_22, b_32, ord_in hW (Or.inr b_51)⟩)]; unfold ordR; rw [if_pos (by rw [h_77]; decide)], g4⟩⟩
          · have b_51 := ifF k_51 h_54
            refine j_ldc M k_X6_71 dX6_order_57 ?_
            exact j_iret M dX6_order_59 ⟨_, rfl, by (try dsimp only); exact ⟨by rw [if_neg b_4, if_pos (fun q => b_51 ((ord_i hW h_43).mp q.2.2))], fr2_r _⟩⟩
      · have b_32 := ifF k_32 h_35
        refine j_ldc M k_X6_71 dX6_order_38 ?_
        exact j_iret M dX6_order_40 ⟨_, rfl, by (try dsimp only); exact ⟨by rw [if_neg b_4, if_pos (fun q => b_32 q.2.1)], fr2_r _⟩⟩
  · have b_4 := ifF k_4 h_7
    refine j_ldc M k_X6_137 dX6_order_10 ?_
    exact j_iret M dX6_order_12 ⟨_, rfl, by (try dsimp only); exact ⟨by rw [if_pos (Classical.not_not.mp b_4)], fr2_r _⟩⟩
