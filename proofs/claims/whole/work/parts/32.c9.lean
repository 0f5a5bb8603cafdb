set_option maxRecDepth 100000 in
theorem c_X7_lamp {l : Launch} {G : Gw} {σ : Sg} {b : Int32} {n : Int32} {w : Int32}  (hS : SW (σ 40 4)) : Mt l G yX7_lamp cX7_lamp 8 (some .int) 7 159 [.ref (ad G 40 0), .int b, .int n, .int w] σ (pI fun r τ => r = lampR (σ 40 4) b n w ∧ frm σ τ 40 [8, 10]) := by
  refine mt_intro (by decide +kernel) (Nat.le_of_ble_eq_true rfl) (fun Φ M => ?_)
  show Φ 0 [some (.ref (ad G 40 0)), some (.int b), some (.int n), some (.int w), none, none, none, none] [] σ
  have lp : ∀ i : Int32, 0 ≤ i → ∀ (τ : Sg) (p q : Int32), isB (σ 40 4) b → inR 1 n 60 → inR 0 w 1 → i ≤ shl32 1 (σ 40 4 0) → (p, q) = lampP (σ 40 4) b n i → τ 40 10 = σ 40 4 → frm σ τ 40 [8, 10] → Φ 43 [some (.ref (ad G 40 0)), some (.int b), some (.int n), some (.int w), some (.int p), some (.int q), some (.int i), none] [] τ := by
    refine loop_up (shl32 1 (σ 40 4 0)) (fun i hi ih τ p q b_2 b_14 b_21 hle hp e10 hfr => ?_)
    have hB := hS.b b_2
    have n0 : 0 ≤ n := Int32.le_trans (by decide) b_14.1
    have e4 : τ 40 4 = σ 40 4 := hfr 40 4 (by decide)
    have pw := pow6 (le0_of hB.1.1.1.1) hB.1.1.1.2
    have pr := lamp_rng (σ 40 4) b n hi hle pw.2
    rw [← hp] at pr
    refine j_iload M dX7_lamp_43 rfl ?_
    refine j_iconst (v := 1) M dX7_lamp_45 rfl ?_
    refine j_aload_n M dX7_lamp_46 rfl ?_
    refine gf_X7_19 M dX7_lamp_47 ?_
    refine j_iconst (v := 0) M dX7_lamp_50 rfl ?_
    refine al_40_4 M dX7_lamp_51 (by first | assumption | decide) (by first | assumption | decide) ?_
    refine j_ishl M dX7_lamp_52 ?_
    refine j_icmp_ge (tgt := 127) M dX7_lamp_53 (by decide) (fun h_53 => ?_) (fun h_53 => ?_)
    · refine j_iload_n M dX7_lamp_127 rfl ?_
      refine j_if_ne (tgt := 136) M dX7_lamp_128 (by decide) (fun h_128 => ?_) (fun h_128 => ?_)
      · refine j_iload M dX7_lamp_136 rfl ?_
        exact j_iret M dX7_lamp_138 ⟨_, rfl, by (try dsimp only); have ei : i = shl32 1 (σ 40 4 0) := Int32.le_antisymm hle (by rw [e4] at h_53; exact Int32.not_lt.mp h_53); refine ⟨?_, hfr⟩; unfold lampR; rw [if_pos ⟨b_2, b_14, b_21⟩, ← ei, ← hp]; simp [h_53, h_128]⟩
      · refine j_iload M dX7_lamp_131 rfl ?_
        refine j_goto (tgt := 138) M dX7_lamp_133 (by decide) ?_
        exact j_iret M dX7_lamp_138 ⟨_, rfl, by (try dsimp only); have ei : i = shl32 1 (σ 40 4 0) := Int32.le_antisymm hle (by rw [e4] at h_53; exact Int32.not_lt.mp h_53); refine ⟨?_, hfr⟩; unfold lampR; rw [if_pos ⟨b_2, b_14, b_21⟩, ← ei, ← hp]; simp [h_53, h_128]⟩
    · rw [e4] at h_53
      have i64 := Int32.lt_of_lt_of_le h_53 pw.2
      refine j_iload M dX7_lamp_56 rfl ?_
      refine j_invs1 M lk_X7_197 (c_X7_ones (hi) (i64)) dX7_lamp_58 (Nat.le_of_ble_eq_true rfl) ⟨(Nat.le_of_ble_eq_true rfl), (Nat.le_of_ble_eq_true rfl)⟩ (kE ?_)
      refine j_aload_n M dX7_lamp_61 rfl ?_
      refine gf_X7_19 M dX7_lamp_62 ?_
      refine j_iconst (v := 3) M dX7_lamp_65 rfl ?_
      refine al_40_4 M dX7_lamp_66 (by first | assumption | decide) (by first | assumption | decide) ?_
      refine j_icmp_gt (tgt := 121) M dX7_lamp_67 (by decide) (fun h_67 => ?_) (fun h_67 => ?_)
      · refine j_iinc_6 M dX7_lamp_121 (show _ + Int32.ofInt 1 = _ + 1 from rfl) (by exact (by first | trivial | rfl)) ?_
        refine j_goto (tgt := 43) M dX7_lamp_124 (by decide) ?_
        refine j_forget M (L' := [some (.ref (ad G 40 0)), some (.int b), some (.int n), some (.int w), some (.int _), some (.int _), some (.int _), none]) (by exact ⟨rfl, rfl, rfl, rfl, rfl, rfl, rfl, trivial⟩) ?_
        exact ih h_53 _ _ _ b_2 b_14 b_21 (inc_lt hi h_53).2.1 (by unfold lampP; rw [foldI_s _ _ hi h_53]; unfold lampP at hp; rw [← hp]; unfold lampF; rw [e4] at h_67; rw [if_pos h_67]) e10 hfr
      · refine j_aload_n M dX7_lamp_70 rfl ?_
        refine gf_X7_19 M dX7_lamp_71 ?_
        refine j_iconst (v := 5) M dX7_lamp_74 rfl ?_
        refine j_iload M dX7_lamp_75 rfl ?_
        refine as_40_4 M dX7_lamp_77 (by first | assumption | decide) (by first | assumption | decide) ?_
        have w2 : WF ((up τ 40 4 (upI (τ 40 4) 5 i)) 40 4) := by rw [up_same, e4]; exact hB.1.li hi i64
        refine j_aload_n M dX7_lamp_78 rfl ?_
        refine j_iload_n M dX7_lamp_79 rfl ?_
        refine j_iload_n M dX7_lamp_80 rfl ?_
        refine j_inv2 M lk_X7_242 (c_X7_pagesBehind (w2) (n0) (b_2.1) (hB.2.2)) rv_X7 dX7_lamp_81 (Nat.le_of_ble_eq_true rfl) ⟨(Nat.le_of_ble_eq_true rfl), (Nat.le_of_ble_eq_true rfl)⟩ (kI fun r_81 σ_81 q_81 => ?_)
        obtain ⟨g1, g2, g3, g4⟩ := q_81
        rw [up_same, gon_fst, e4] at g1
        rw [up_ne _ _ (by decide), e10] at g2
        rw [e4] at h_67
        have f2 : frm σ σ_81 40 [8, 10] := frm_lamp hfr g4 g2
        have f10 : σ_81 40 10 = σ 40 4 := by rw [g4 40 10 (by decide), up_ne _ _ (by decide)]; exact e10
        refine j_istore_7 M dX7_lamp_84 (by exact (by first | trivial | rfl)) ?_
        refine j_iload M dX7_lamp_86 rfl ?_
        refine j_iload M dX7_lamp_88 rfl ?_
        refine j_icmp_gt (tgt := 113) M dX7_lamp_90 (by decide) (fun h_90 => ?_) (fun h_90 => ?_)
        · refine j_iload M dX7_lamp_113 rfl ?_
          refine j_istore_4 M dX7_lamp_115 (by exact (by first | trivial | rfl)) ?_
          refine j_iload M dX7_lamp_117 rfl ?_
          refine j_istore_5 M dX7_lamp_119 (by exact (by first | trivial | rfl)) ?_
          refine j_iinc_6 M dX7_lamp_121 (show _ + Int32.ofInt 1 = _ + 1 from rfl) (by exact (by first | trivial | rfl)) ?_
          refine j_goto (tgt := 43) M dX7_lamp_124 (by decide) ?_
          refine j_forget M (L' := [some (.ref (ad G 40 0)), some (.int b), some (.int n), some (.int w), some (.int _), some (.int _), some (.int _), none]) (by exact ⟨rfl, rfl, rfl, rfl, rfl, rfl, rfl, trivial⟩) ?_
          exact ih h_53 _ _ _ b_2 b_14 b_21 (inc_lt hi h_53).2.1 (by unfold lampP; rw [foldI_s _ _ hi h_53]; unfold lampP at hp; rw [← hp]; unfold lampF; rw [if_neg h_67]; rw [g1] at h_90; simp [h_53, h_67, h_90, g1]) f10 f2
        · refine j_iload M dX7_lamp_93 rfl ?_
          refine j_iload M dX7_lamp_95 rfl ?_
          refine j_icmp_ne (tgt := 121) M dX7_lamp_97 (by decide) (fun h_97 => ?_) (fun h_97 => ?_)
          · refine j_iinc_6 M dX7_lamp_121 (show _ + Int32.ofInt 1 = _ + 1 from rfl) (by exact (by first | trivial | rfl)) ?_
            refine j_goto (tgt := 43) M dX7_lamp_124 (by decide) ?_
            refine j_forget M (L' := [some (.ref (ad G 40 0)), some (.int b), some (.int n), some (.int w), some (.int _), some (.int _), some (.int _), none]) (by exact ⟨rfl, rfl, rfl, rfl, rfl, rfl, rfl, trivial⟩) ?_
            exact ih h_53 _ _ _ b_2 b_14 b_21 (inc_lt hi h_53).2.1 (by unfold lampP; rw [foldI_s _ _ hi h_53]; unfold lampP at hp; rw [← hp]; unfold lampF; rw [if_neg h_67]; rw [g1] at h_90 h_97; simp [h_53, h_67, h_90, h_97, g1]) f10 f2
          · refine j_iload M dX7_lamp_100 rfl ?_
            refine j_invs1 M lk_X7_197 (c_X7_ones (hi) (i64)) dX7_lamp_102 (Nat.le_of_ble_eq_true rfl) ⟨(Nat.le_of_ble_eq_true rfl), (Nat.le_of_ble_eq_true rfl)⟩ (kE ?_)
            refine j_iload M dX7_lamp_105 rfl ?_
            refine j_invs1 M lk_X7_197 (c_X7_ones (pr.1) (pr.2)) dX7_lamp_107 (Nat.le_of_ble_eq_true rfl) ⟨(Nat.le_of_ble_eq_true rfl), (Nat.le_of_ble_eq_true rfl)⟩ (kE ?_)
            refine j_icmp_ge (tgt := 121) M dX7_lamp_110 (by decide) (fun h_110 => ?_) (fun h_110 => ?_)
            · refine j_iinc_6 M dX7_lamp_121 (show _ + Int32.ofInt 1 = _ + 1 from rfl) (by exact (by first | trivial | rfl)) ?_
              refine j_goto (tgt := 43) M dX7_lamp_124 (by decide) ?_
              refine j_forget M (L' := [some (.ref (ad G 40 0)), some (.int b), some (.int n), some (.int w), some (.int _), some (.int _), some (.int _), none]) (by exact ⟨rfl, rfl, rfl, rfl, rfl, rfl, rfl, trivial⟩) ?_
              exact ih h_53 _ _ _ b_2 b_14 b_21 (inc_lt hi h_53).2.1 (by unfold lampP; rw [foldI_s _ _ hi h_53]; unfold lampP at hp; rw [← hp]; unfold lampF; rw [if_neg h_67]; rw [g1] at h_90 h_97; simp [h_53, h_67, h_90, h_97, h_110, g1]) f10 f2
            · refine j_iload M dX7_lamp_113 rfl ?_
              refine j_istore_4 M dX7_lamp_115 (by exact (by first | trivial | rfl)) ?_
              refine j_iload M dX7_lamp_117 rfl ?_
              refine j_istore_5 M dX7_lamp_119 (by exact (by first | trivial | rfl)) ?_
              refine j_iinc_6 M dX7_lamp_121 (show _ + Int32.ofInt 1 = _ + 1 from rfl) (by exact (by first | trivial | rfl)) ?_
              refine j_goto (tgt := 43) M dX7_lamp_124 (by decide) ?_
              refine j_forget M (L' := [some (.ref (ad G 40 0)), some (.int b), some (.int n), some (.int w), some (.int _), some (.int _), some (.int _), none]) (by exact ⟨rfl, rfl, rfl, rfl, rfl, rfl, rfl, trivial⟩) ?_
              exact ih h_53 _ _ _ b_2 b_14 b_21 (inc_lt hi h_53).2.1 (by unfold lampP; rw [foldI_s _ _ hi h_53]; unfold lampP at hp; rw [← hp]; unfold lampF; rw [if_neg h_67]; rw [g1] at h_90 h_97; simp [h_53, h_67, h_90, h_97, h_110, g1]) f10 f2
  refine j_aload_n M dX7_lamp_0 rfl ?_
  refine j_iload_n M dX7_lamp_1 rfl ?_
  refine j_inv1 M lk_X7_194 (c_X7_isBook) rv_X7 dX7_lamp_2 (Nat.le_of_ble_eq_true rfl) ⟨(Nat.le_of_ble_eq_true rfl), (Nat.le_of_ble_eq_true rfl)⟩ (kP fun r_2 k_2 => ?_)
  refine j_if_eq (tgt := 27) M dX7_lamp_5 (by decide) (fun h_5 => ?_) (fun h_5 => ?_)
  · have b_2 := ifF k_2 h_5
    refine j_ldc M k_X7_73 dX7_lamp_27 ?_
    exact j_iret M dX7_lamp_29 ⟨_, rfl, by (try dsimp only); exact ⟨by simp [lampR, b_2], frm_refl _ _ _⟩⟩
  · have b_2 := ifT k_2 h_5
    refine j_iload_n M dX7_lamp_8 rfl ?_
    refine j_i2l M dX7_lamp_9 ?_
    refine j_lconst (v := 1) M dX7_lamp_10 rfl ?_
    refine j_ldc2 M kl_X7_214 dX7_lamp_11 ?_
    refine j_invs3 M lk_X7_63 (c_X7_inI (a := 1) (b := 60) rfl (by decide) (by decide)) dX7_lamp_14 (Nat.le_of_ble_eq_true rfl) ⟨(Nat.le_of_ble_eq_true rfl), (Nat.le_of_ble_eq_true rfl)⟩ (kP fun r_14 k_14 => ?_)
    refine j_if_eq (tgt := 27) M dX7_lamp_17 (by decide) (fun h_17 => ?_) (fun h_17 => ?_)
    · have b_14 := ifF k_14 h_17
      refine j_ldc M k_X7_73 dX7_lamp_27 ?_
      exact j_iret M dX7_lamp_29 ⟨_, rfl, by (try dsimp only); exact ⟨by simp [lampR, b_2, b_14], frm_refl _ _ _⟩⟩
    · have b_14 := ifT k_14 h_17
      refine j_iload_n M dX7_lamp_20 rfl ?_
      refine j_invs1 M lk_X7_216 (c_X7_isWhat) dX7_lamp_21 (Nat.le_of_ble_eq_true rfl) ⟨(Nat.le_of_ble_eq_true rfl), (Nat.le_of_ble_eq_true rfl)⟩ (kP fun r_21 k_21 => ?_)
      refine j_if_ne (tgt := 30) M dX7_lamp_24 (by decide) (fun h_24 => ?_) (fun h_24 => ?_)
      · have b_21 := ifT k_21 h_24
        refine j_aload_n M dX7_lamp_30 rfl ?_
        refine j_inv0 M lk_X7_219 (c_X7_putAside) rv_X7 dX7_lamp_31 (Nat.le_of_ble_eq_true rfl) ⟨(Nat.le_of_ble_eq_true rfl), (Nat.le_of_ble_eq_true rfl)⟩ (kV fun σ_31 q_31 => ?_)
        subst q_31
        refine j_iconst (v := 0) M dX7_lamp_34 rfl ?_
        refine j_istore_4 M dX7_lamp_35 (by exact (by first | trivial | rfl)) ?_
        refine j_iconst (v := (-1)) M dX7_lamp_37 rfl ?_
        refine j_istore_5 M dX7_lamp_38 (by exact (by first | trivial | rfl)) ?_
        refine j_iconst (v := 0) M dX7_lamp_40 rfl ?_
        refine j_istore_6 M dX7_lamp_41 (by exact (by first | trivial | rfl)) ?_
        exact lp 0 (by decide) _ _ _ b_2 b_14 b_21 (pow6 (hS.z).1 (hS.z).2.1).1 rfl (by rw [up_same]) (frm_up (frm_refl _ _ _) (by decide))
      · have b_21 := ifF k_21 h_24
        refine j_ldc M k_X7_73 dX7_lamp_27 ?_
        exact j_iret M dX7_lamp_29 ⟨_, rfl, by (try dsimp only); exact ⟨by simp [lampR, b_2, b_14, b_21], frm_refl _ _ _⟩⟩
set_option maxRecDepth 100000 in
theorem c_X7_dustOf {l : Launch} {G : Gw} {σ : Sg} {f : Int32}  (f0 : 0 ≤ f) (f5 : f < 5) : Mt l G yX7_dustOf cX7_dustOf 2 (some .int) 2 42 [.ref (ad G 40 0), .int f] σ (pI fun r τ => τ = σ ∧ r = dustV (σ 40 4) f) := by
  refine mt_intro (by decide +kernel) (Nat.le_of_ble_eq_true rfl) (fun Φ M => ?_)
  show Φ 0 [some (.ref (ad G 40 0)), some (.int f)] [] σ
  obtain ⟨⟨⟨_, _⟩, ⟨_, _⟩⟩, ⟨_, _⟩⟩ := ixT f0 f5
  refine j_aload_n M dX7_dustOf_0 rfl ?_
  refine j_iload_n M dX7_dustOf_1 rfl ?_
  refine j_inv1 M lk_X7_171 (c_X7_isCaught) rv_X7 dX7_dustOf_2 (Nat.le_of_ble_eq_true rfl) ⟨(Nat.le_of_ble_eq_true rfl), (Nat.le_of_ble_eq_true rfl)⟩ (kE ?_)
  refine j_if_eq (tgt := 12) M dX7_dustOf_5 (by decide) (fun h_5 => ?_) (fun h_5 => ?_)
  · refine j_aload_n M dX7_dustOf_12 rfl ?_
    refine gf_X7_19 M dX7_dustOf_13 ?_
    refine j_bipush (v := 36) M dX7_dustOf_16 rfl ?_
    refine j_iload_n M dX7_dustOf_18 rfl ?_
    refine j_iadd M dX7_dustOf_19 ?_
    refine al_40_4 M dX7_dustOf_20 (by first | assumption | decide) (by first | assumption | decide) ?_
    exact j_iret M dX7_dustOf_21 ⟨_, rfl, by (try dsimp only); exact ⟨rfl, by simp [dustV, h_5]⟩⟩
  · refine j_iconst (v := 0) M dX7_dustOf_8 rfl ?_
    refine j_goto (tgt := 21) M dX7_dustOf_9 (by decide) ?_
    exact j_iret M dX7_dustOf_21 ⟨_, rfl, by (try dsimp only); exact ⟨rfl, by simp [dustV, h_5]⟩⟩
set_option maxRecDepth 100000 in
theorem c_X7_caught {l : Launch} {G : Gw} {σ : Sg} {b : Int32} {n : Int32} {w : Int32}  (hS : SW (σ 40 4)) : Mt l G yX7_caught cX7_caught 6 (some .int) 7 159 [.ref (ad G 40 0), .int b, .int n, .int w] σ (pI fun r τ => r = catchR (σ 40 4) b n w ∧ frm σ τ 40 [8, 10]) := by
  refine mt_intro (by decide +kernel) (Nat.le_of_ble_eq_true rfl) (fun Φ M => ?_)
  show Φ 0 [some (.ref (ad G 40 0)), some (.int b), some (.int n), some (.int w), none, none] [] σ
  have lp : ∀ i : Int32, 0 ≤ i → ∀ (τ : Sg) (p : Int32), isB (σ 40 4) b → inR 1 n 60 → inR 0 w 1 → i ≤ shl32 1 (σ 40 4 1) → p = catchP (σ 40 4) b n i → τ 40 10 = σ 40 4 → frm σ τ 40 [8, 10] → Φ 41 [some (.ref (ad G 40 0)), some (.int b), some (.int n), some (.int w), some (.int p), some (.int i)] [] τ := by
    refine loop_up (shl32 1 (σ 40 4 1)) (fun i hi ih τ p b_2 b_14 b_21 hle hp e10 hfr => ?_)
    have hB := hS.b b_2
    have n0 : 0 ≤ n := Int32.le_trans (by decide) b_14.1
    have e4 : τ 40 4 = σ 40 4 := hfr 40 4 (by decide)
    have f1 := hB.1.1.2.1
    have pw := pow5 f1.1 f1.2
    have pr := catch_rng (σ 40 4) b n hi hle pw.2
    rw [← hp] at pr
    obtain ⟨⟨⟨_, _⟩, ⟨_, _⟩⟩, ⟨_, _⟩⟩ := ixS b_2.1 hB.2.2
    refine j_iload M dX7_caught_41 rfl ?_
    refine j_iconst (v := 1) M dX7_caught_43 rfl ?_
    refine j_aload_n M dX7_caught_44 rfl ?_
    refine gf_X7_19 M dX7_caught_45 ?_
    refine j_iconst (v := 1) M dX7_caught_48 rfl ?_
    refine al_40_4 M dX7_caught_49 (by first | assumption | decide) (by first | assumption | decide) ?_
    refine j_ishl M dX7_caught_50 ?_
    refine j_icmp_ge (tgt := 130) M dX7_caught_51 (by decide) (fun h_51 => ?_) (fun h_51 => ?_)
    · refine j_iload_n M dX7_caught_130 rfl ?_
      refine j_if_ne (tgt := 142) M dX7_caught_131 (by decide) (fun h_131 => ?_) (fun h_131 => ?_)
      · have ei : i = shl32 1 (σ 40 4 1) := Int32.le_antisymm hle (by rw [e4] at h_51; exact Int32.not_lt.mp h_51)
        refine j_iload M dX7_caught_142 rfl ?_
        exact j_iret M dX7_caught_144 ⟨_, rfl, by (try dsimp only); refine ⟨?_, hfr⟩; unfold catchR; rw [if_pos ⟨b_2, b_14, b_21⟩, ← ei, ← hp]; simp [h_51, h_131]⟩
      · have ei : i = shl32 1 (σ 40 4 1) := Int32.le_antisymm hle (by rw [e4] at h_51; exact Int32.not_lt.mp h_51)
        have ce := catch_end hB.1 (n := n) b_2.1 hB.2.1
        rw [← ei, ← hp] at ce
        have c64 : p < 64 := Int32.lt_trans ce.2 (by decide)
        refine j_iload M dX7_caught_134 rfl ?_
        refine j_invs1 M lk_X7_197 (c_X7_ones (ce.1) (c64)) dX7_caught_136 (Nat.le_of_ble_eq_true rfl) ⟨(Nat.le_of_ble_eq_true rfl), (Nat.le_of_ble_eq_true rfl)⟩ (kE ?_)
        refine j_goto (tgt := 144) M dX7_caught_139 (by decide) ?_
        exact j_iret M dX7_caught_144 ⟨_, rfl, by (try dsimp only); refine ⟨?_, hfr⟩; unfold catchR; rw [if_pos ⟨b_2, b_14, b_21⟩, ← ei, ← hp]; simp [h_51, h_131]⟩
    · rw [e4] at h_51
      have i32 := Int32.lt_of_lt_of_le h_51 pw.2
      have i64 : i < 64 := Int32.lt_trans i32 (by decide)
      refine j_iload M dX7_caught_54 rfl ?_
      refine j_aload_n M dX7_caught_56 rfl ?_
      refine gf_X7_19 M dX7_caught_57 ?_
      refine j_bipush (v := 7) M dX7_caught_60 rfl ?_
      refine al_40_4 M dX7_caught_62 (by first | assumption | decide) (by first | assumption | decide) ?_
      refine j_iand M dX7_caught_63 ?_
      refine j_if_ne (tgt := 124) M dX7_caught_64 (by decide) (fun h_64 => ?_) (fun h_64 => ?_)
      · refine j_iinc_5 M dX7_caught_124 (show _ + Int32.ofInt 1 = _ + 1 from rfl) (by exact (by first | trivial | rfl)) ?_
        refine j_goto (tgt := 41) M dX7_caught_127 (by decide) ?_
        refine ih h_51 _ _ b_2 b_14 b_21 (inc_lt hi h_51).2.1 ?_ e10 hfr
        unfold catchP
        rw [foldI_s _ _ hi h_51]
        unfold catchP at hp
        rw [← hp]
        unfold catchF
        rw [e4] at h_64
        simp [h_51, h_64]
      · refine j_iload M dX7_caught_67 rfl ?_
        refine j_if_lt (tgt := 85) M dX7_caught_69 (by decide) (fun h_69 => ?_) (fun h_69 => ?_)
        · refine j_aload_n M dX7_caught_85 rfl ?_
          refine gf_X7_19 M dX7_caught_86 ?_
          refine j_bipush (v := 7) M dX7_caught_89 rfl ?_
          refine j_dup2 M dX7_caught_91 rfl rfl ?_
          refine al_40_4 M dX7_caught_92 (by first | assumption | decide) (by first | assumption | decide) ?_
          refine j_iload M dX7_caught_93 rfl ?_
          refine j_ior M dX7_caught_95 ?_
          refine as_40_4 M dX7_caught_96 (by first | assumption | decide) (by first | assumption | decide) ?_
          have o := or32 hB.1.1.2.2.2.2.2.2.1 hB.1.1.2.2.2.2.2.2.2 hi i32
          have w2 : WF ((up τ 40 4 (upI (τ 40 4) 7 (τ 40 4 7 ||| i))) 40 4) := by rw [up_same, e4]; exact hB.1.ca o.1 o.2
          refine j_aload_n M dX7_caught_97 rfl ?_
          refine j_iload_n M dX7_caught_98 rfl ?_
          refine j_iload_n M dX7_caught_99 rfl ?_
          refine j_inv2 M lk_X7_242 (c_X7_pagesBehind (w2) (n0) (b_2.1) (hB.2.2)) rv_X7 dX7_caught_100 (Nat.le_of_ble_eq_true rfl) ⟨(Nat.le_of_ble_eq_true rfl), (Nat.le_of_ble_eq_true rfl)⟩ (kI fun r_100 σ_100 q_100 => ?_)
          obtain ⟨g1, g2, g3, g4⟩ := q_100
          rw [up_same, gon_fst, e4] at g1
          rw [up_ne _ _ (by decide), e10] at g2
          have f2 : frm σ σ_100 40 [8, 10] := frm_lamp hfr g4 g2
          have f10 : σ_100 40 10 = σ 40 4 := by rw [g4 40 10 (by decide), up_ne _ _ (by decide)]; exact e10
          refine j_aload_n M dX7_caught_103 rfl ?_
          refine gf_X7_37 M dX7_caught_104 ?_
          refine j_bipush (v := 8) M dX7_caught_107 rfl ?_
          refine j_iload_n M dX7_caught_109 rfl ?_
          refine j_iadd M dX7_caught_110 ?_
          refine al_40_10 M dX7_caught_111 (by first | assumption | decide) (by first | assumption | decide) ?_
          refine j_icmp_ne (tgt := 120) M dX7_caught_112 (by decide) (fun h_112 => ?_) (fun h_112 => ?_)
          · refine j_iload M dX7_caught_120 rfl ?_
            refine j_istore_4 M dX7_caught_122 (by exact (by first | trivial | rfl)) ?_
            refine j_iinc_5 M dX7_caught_124 (show _ + Int32.ofInt 1 = _ + 1 from rfl) (by exact (by first | trivial | rfl)) ?_
            refine j_goto (tgt := 41) M dX7_caught_127 (by decide) ?_
            refine ih h_51 _ _ b_2 b_14 b_21 (inc_lt hi h_51).2.1 ?_ f10 f2
            unfold catchP
            rw [foldI_s _ _ hi h_51]
            unfold catchP at hp
            rw [← hp]
            unfold catchF
            rw [f10] at h_112
            rw [g1] at h_112
            rw [e4] at h_64
            simp [h_51, h_64, h_69, h_112]
          · refine j_iload M dX7_caught_115 rfl ?_
            refine j_goto (tgt := 122) M dX7_caught_117 (by decide) ?_
            refine j_istore_4 M dX7_caught_122 (by exact (by first | trivial | rfl)) ?_
            refine j_iinc_5 M dX7_caught_124 (show _ + Int32.ofInt 1 = _ + 1 from rfl) (by exact (by first | trivial | rfl)) ?_
            refine j_goto (tgt := 41) M dX7_caught_127 (by decide) ?_
            refine ih h_51 _ _ b_2 b_14 b_21 (inc_lt hi h_51).2.1 ?_ f10 f2
            unfold catchP
            rw [foldI_s _ _ hi h_51]
            unfold catchP at hp
            rw [← hp]
            unfold catchF
            rw [f10] at h_112
            rw [g1] at h_112
            rw [e4] at h_64
            simp [h_51, h_64, h_69, h_112]
        · have pr2 := pr.resolve_left (fun e => h_69 (by rw [e]; decide))
          have p64 : p < 64 := Int32.lt_trans pr2.2 i64
          refine j_iload M dX7_caught_72 rfl ?_
          refine j_invs1 M lk_X7_197 (c_X7_ones (hi) (i64)) dX7_caught_74 (Nat.le_of_ble_eq_true rfl) ⟨(Nat.le_of_ble_eq_true rfl), (Nat.le_of_ble_eq_true rfl)⟩ (kE ?_)
          refine j_iload M dX7_caught_77 rfl ?_
          refine j_invs1 M lk_X7_197 (c_X7_ones (pr2.1) (p64)) dX7_caught_79 (Nat.le_of_ble_eq_true rfl) ⟨(Nat.le_of_ble_eq_true rfl), (Nat.le_of_ble_eq_true rfl)⟩ (kE ?_)
          refine j_icmp_ge (tgt := 124) M dX7_caught_82 (by decide) (fun h_82 => ?_) (fun h_82 => ?_)
          · refine j_iinc_5 M dX7_caught_124 (show _ + Int32.ofInt 1 = _ + 1 from rfl) (by exact (by first | trivial | rfl)) ?_
            refine j_goto (tgt := 41) M dX7_caught_127 (by decide) ?_
            refine ih h_51 _ _ b_2 b_14 b_21 (inc_lt hi h_51).2.1 ?_ e10 hfr
            unfold catchP
            rw [foldI_s _ _ hi h_51]
            unfold catchP at hp
            rw [← hp]
            unfold catchF
            rw [e4] at h_64
            simp [h_51, h_64, h_69, h_82]
          · refine j_aload_n M dX7_caught_85 rfl ?_
            refine gf_X7_19 M dX7_caught_86 ?_
            refine j_bipush (v := 7) M dX7_caught_89 rfl ?_
            refine j_dup2 M dX7_caught_91 rfl rfl ?_
            refine al_40_4 M dX7_caught_92 (by first | assumption | decide) (by first | assumption | decide) ?_
            refine j_iload M dX7_caught_93 rfl ?_
            refine j_ior M dX7_caught_95 ?_
            refine as_40_4 M dX7_caught_96 (by first | assumption | decide) (by first | assumption | decide) ?_
            have o := or32 hB.1.1.2.2.2.2.2.2.1 hB.1.1.2.2.2.2.2.2.2 hi i32
            have w2 : WF ((up τ 40 4 (upI (τ 40 4) 7 (τ 40 4 7 ||| i))) 40 4) := by rw [up_same, e4]; exact hB.1.ca o.1 o.2
            refine j_aload_n M dX7_caught_97 rfl ?_
            refine j_iload_n M dX7_caught_98 rfl ?_
            refine j_iload_n M dX7_caught_99 rfl ?_
            refine j_inv2 M lk_X7_242 (c_X7_pagesBehind (w2) (n0) (b_2.1) (hB.2.2)) rv_X7 dX7_caught_100 (Nat.le_of_ble_eq_true rfl) ⟨(Nat.le_of_ble_eq_true rfl), (Nat.le_of_ble_eq_true rfl)⟩ (kI fun r_100 σ_100 q_100 => ?_)
            obtain ⟨g1, g2, g3, g4⟩ := q_100
            rw [up_same, gon_fst, e4] at g1
            rw [up_ne _ _ (by decide), e10] at g2
            have f2 : frm σ σ_100 40 [8, 10] := frm_lamp hfr g4 g2
            have f10 : σ_100 40 10 = σ 40 4 := by rw [g4 40 10 (by decide), up_ne _ _ (by decide)]; exact e10
            refine j_aload_n M dX7_caught_103 rfl ?_
            refine gf_X7_37 M dX7_caught_104 ?_
            refine j_bipush (v := 8) M dX7_caught_107 rfl ?_
            refine j_iload_n M dX7_caught_109 rfl ?_
            refine j_iadd M dX7_caught_110 ?_
            refine al_40_10 M dX7_caught_111 (by first | assumption | decide) (by first | assumption | decide) ?_
            refine j_icmp_ne (tgt := 120) M dX7_caught_112 (by decide) (fun h_112 => ?_) (fun h_112 => ?_)
            · refine j_iload M dX7_caught_120 rfl ?_
              refine j_istore_4 M dX7_caught_122 (by exact (by first | trivial | rfl)) ?_
              refine j_iinc_5 M dX7_caught_124 (show _ + Int32.ofInt 1 = _ + 1 from rfl) (by exact (by first | trivial | rfl)) ?_
              refine j_goto (tgt := 41) M dX7_caught_127 (by decide) ?_
              refine ih h_51 _ _ b_2 b_14 b_21 (inc_lt hi h_51).2.1 ?_ f10 f2
              unfold catchP
              rw [foldI_s _ _ hi h_51]
              unfold catchP at hp
              rw [← hp]
              unfold catchF
              rw [f10] at h_112
              rw [g1] at h_112
              rw [e4] at h_64
              simp [h_51, h_64, h_69, h_82, h_112]
            · refine j_iload M dX7_caught_115 rfl ?_
              refine j_goto (tgt := 122) M dX7_caught_117 (by decide) ?_
              refine j_istore_4 M dX7_caught_122 (by exact (by first | trivial | rfl)) ?_
              refine j_iinc_5 M dX7_caught_124 (show _ + Int32.ofInt 1 = _ + 1 from rfl) (by exact (by first | trivial | rfl)) ?_
              refine j_goto (tgt := 41) M dX7_caught_127 (by decide) ?_
              refine ih h_51 _ _ b_2 b_14 b_21 (inc_lt hi h_51).2.1 ?_ f10 f2
              unfold catchP
              rw [foldI_s _ _ hi h_51]
              unfold catchP at hp
              rw [← hp]
              unfold catchF
              rw [f10] at h_112
              rw [g1] at h_112
              rw [e4] at h_64
              simp [h_51, h_64, h_69, h_82, h_112]
  refine j_aload_n M dX7_caught_0 rfl ?_
  refine j_iload_n M dX7_caught_1 rfl ?_
  refine j_inv1 M lk_X7_194 (c_X7_isBook) rv_X7 dX7_caught_2 (Nat.le_of_ble_eq_true rfl) ⟨(Nat.le_of_ble_eq_true rfl), (Nat.le_of_ble_eq_true rfl)⟩ (kP fun r_2 k_2 => ?_)
  refine j_if_eq (tgt := 27) M dX7_caught_5 (by decide) (fun h_5 => ?_) (fun h_5 => ?_)
  · have b_2 := ifF k_2 h_5
    refine j_ldc M k_X7_73 dX7_caught_27 ?_
    exact j_iret M dX7_caught_29 ⟨_, rfl, by (try dsimp only); exact ⟨by simp [catchR, b_2], frm_refl _ _ _⟩⟩
  · have b_2 := ifT k_2 h_5
    refine j_iload_n M dX7_caught_8 rfl ?_
    refine j_i2l M dX7_caught_9 ?_
    refine j_lconst (v := 1) M dX7_caught_10 rfl ?_
    refine j_ldc2 M kl_X7_214 dX7_caught_11 ?_
    refine j_invs3 M lk_X7_63 (c_X7_inI (a := 1) (b := 60) rfl (by decide) (by decide)) dX7_caught_14 (Nat.le_of_ble_eq_true rfl) ⟨(Nat.le_of_ble_eq_true rfl), (Nat.le_of_ble_eq_true rfl)⟩ (kP fun r_14 k_14 => ?_)
    refine j_if_eq (tgt := 27) M dX7_caught_17 (by decide) (fun h_17 => ?_) (fun h_17 => ?_)
    · have b_14 := ifF k_14 h_17
      refine j_ldc M k_X7_73 dX7_caught_27 ?_
      exact j_iret M dX7_caught_29 ⟨_, rfl, by (try dsimp only); exact ⟨by simp [catchR, b_2, b_14], frm_refl _ _ _⟩⟩
    · have b_14 := ifT k_14 h_17
      refine j_iload_n M dX7_caught_20 rfl ?_
      refine j_invs1 M lk_X7_216 (c_X7_isWhat) dX7_caught_21 (Nat.le_of_ble_eq_true rfl) ⟨(Nat.le_of_ble_eq_true rfl), (Nat.le_of_ble_eq_true rfl)⟩ (kP fun r_21 k_21 => ?_)
      refine j_if_ne (tgt := 30) M dX7_caught_24 (by decide) (fun h_24 => ?_) (fun h_24 => ?_)
      · have b_21 := ifT k_21 h_24
        refine j_aload_n M dX7_caught_30 rfl ?_
        refine j_inv0 M lk_X7_219 (c_X7_putAside) rv_X7 dX7_caught_31 (Nat.le_of_ble_eq_true rfl) ⟨(Nat.le_of_ble_eq_true rfl), (Nat.le_of_ble_eq_true rfl)⟩ (kV fun σ_31 q_31 => ?_)
        subst q_31
        refine j_ldc M k_X7_158 dX7_caught_34 ?_
        refine j_istore_4 M dX7_caught_36 (by exact (by first | trivial | rfl)) ?_
        refine j_iconst (v := 0) M dX7_caught_38 rfl ?_
        refine j_istore_5 M dX7_caught_39 (by exact (by first | trivial | rfl)) ?_
        exact lp 0 (by decide) _ _ b_2 b_14 b_21 (pow5 (hS.z).2.2.1 (hS.z).2.2.2).1 rfl (by rw [up_same]) (frm_up (frm_refl _ _ _) (by decide))
      · have b_21 := ifF k_21 h_24
        refine j_ldc M k_X7_73 dX7_caught_27 ?_
        exact j_iret M dX7_caught_29 ⟨_, rfl, by (try dsimp only); exact ⟨by simp [catchR, b_2, b_14, b_21], frm_refl _ _ _⟩⟩
set_option maxRecDepth 100000 in
theorem c_X7_grams {l : Launch} {G : Gw} {σ : Sg} {f : Int32} {n : Int32}  (hS : SW (σ 40 4)) : Mt l G yX7_grams cX7_grams 7 (some .int) 3 63 [.ref (ad G 40 0), .int f, .int n] σ (pI fun r τ => τ = σ ∧ r = gramsR (σ 40 4) f n) := by
  refine mt_intro (by decide +kernel) (Nat.le_of_ble_eq_true rfl) (fun Φ M => ?_)
  show Φ 0 [some (.ref (ad G 40 0)), some (.int f), some (.int n), none, none, none, none] [] σ
  have lp3 : ∀ i : Int32, 0 ≤ i → ∀ z : Int32, isF (σ 40 4) f → inR 0 n 999 → ¬ dustA (σ 40 4) (σ 40 4 1) = 0 → i ≤ f → z = befA (σ 40 4) i → Φ 104 [some (.ref (ad G 40 0)), some (.int f), some (.int n), some (.int (dustA (σ 40 4) (σ 40 4 1))), some (.int (overA (σ 40 4) n (dustA (σ 40 4) (σ 40 4 1)) (σ 40 4 1))), some (.int z), some (.int i)] [] σ := by
    refine loop_up f (fun i hi ih z b_2 b_14 h_55 hle hz => ?_)
    have hB := hS.f b_2
    have f1 := hB.1.1.2.1
    refine j_iload M dX7_grams_104 rfl ?_
    refine j_iload_n M dX7_grams_106 rfl ?_
    refine j_icmp_ge (tgt := 135) M dX7_grams_107 (by decide) (fun h_107 => ?_) (fun h_107 => ?_)
    · refine j_iload_n M dX7_grams_135 rfl ?_
      refine j_aload_n M dX7_grams_136 rfl ?_
      refine j_iload_n M dX7_grams_137 rfl ?_
      refine j_inv1 M lk_X7_247 (c_X7_dustOf (b_2.1) (hB.2.2)) rv_X7 dX7_grams_138 (Nat.le_of_ble_eq_true rfl) ⟨(Nat.le_of_ble_eq_true rfl), (Nat.le_of_ble_eq_true rfl)⟩ (kE ?_)
      refine j_imul M dX7_grams_141 ?_
      refine j_iload_n M dX7_grams_142 rfl ?_
      refine j_idiv M dX7_grams_143 (by first | decide | assumption | grind) ?_
      refine j_aload_n M dX7_grams_144 rfl ?_
      refine j_iload_n M dX7_grams_145 rfl ?_
      refine j_inv1 M lk_X7_247 (c_X7_dustOf (b_2.1) (hB.2.2)) rv_X7 dX7_grams_146 (Nat.le_of_ble_eq_true rfl) ⟨(Nat.le_of_ble_eq_true rfl), (Nat.le_of_ble_eq_true rfl)⟩ (kE ?_)
      refine j_if_le (tgt := 163) M dX7_grams_149 (by decide) (fun h_149 => ?_) (fun h_149 => ?_)
      · refine j_iconst (v := 0) M dX7_grams_163 rfl ?_
        refine j_iadd M dX7_grams_164 ?_
        exact j_iret M dX7_grams_165 ⟨_, rfl, by (try dsimp only); have ei : i = f := Int32.le_antisymm hle (Int32.not_lt.mp h_107); refine ⟨rfl, ?_⟩; unfold gramsR; rw [if_pos ⟨b_2, b_14⟩, if_neg h_55]; rw [ei] at hz; rw [← hz]; simp [h_107, h_149]⟩
      · refine j_iload M dX7_grams_152 rfl ?_
        refine j_iload M dX7_grams_154 rfl ?_
        refine j_icmp_ge (tgt := 163) M dX7_grams_156 (by decide) (fun h_156 => ?_) (fun h_156 => ?_)
        · refine j_iconst (v := 0) M dX7_grams_163 rfl ?_
          refine j_iadd M dX7_grams_164 ?_
          exact j_iret M dX7_grams_165 ⟨_, rfl, by (try dsimp only); have ei : i = f := Int32.le_antisymm hle (Int32.not_lt.mp h_107); refine ⟨rfl, ?_⟩; unfold gramsR; rw [if_pos ⟨b_2, b_14⟩, if_neg h_55]; rw [ei] at hz; rw [← hz]; simp [h_107, h_149, h_156]⟩
        · refine j_iconst (v := 1) M dX7_grams_159 rfl ?_
          refine j_goto (tgt := 164) M dX7_grams_160 (by decide) ?_
          refine j_iadd M dX7_grams_164 ?_
          exact j_iret M dX7_grams_165 ⟨_, rfl, by (try dsimp only); have ei : i = f := Int32.le_antisymm hle (Int32.not_lt.mp h_107); refine ⟨rfl, ?_⟩; unfold gramsR; rw [if_pos ⟨b_2, b_14⟩, if_neg h_55]; rw [ei] at hz; rw [← hz]; simp [h_107, h_149, h_156]⟩
    · have i5 := Int32.lt_trans h_107 hB.2.2
      refine j_iload M dX7_grams_110 rfl ?_
      refine j_aload_n M dX7_grams_112 rfl ?_
      refine j_iload M dX7_grams_113 rfl ?_
      refine j_inv1 M lk_X7_247 (c_X7_dustOf (hi) (i5)) rv_X7 dX7_grams_115 (Nat.le_of_ble_eq_true rfl) ⟨(Nat.le_of_ble_eq_true rfl), (Nat.le_of_ble_eq_true rfl)⟩ (kE ?_)
      refine j_if_le (tgt := 125) M dX7_grams_118 (by decide) (fun h_118 => ?_) (fun h_118 => ?_)
      · refine j_iconst (v := 0) M dX7_grams_125 rfl ?_
        refine j_iadd M dX7_grams_126 ?_
        refine j_istore_5 M dX7_grams_127 (by exact (by first | trivial | rfl)) ?_
        refine j_iinc_6 M dX7_grams_129 (show _ + Int32.ofInt 1 = _ + 1 from rfl) (by exact (by first | trivial | rfl)) ?_
        refine j_goto (tgt := 104) M dX7_grams_132 (by decide) ?_
        exact ih h_107 _ b_2 b_14 h_55 (inc_lt hi h_107).2.1 (by unfold befA at hz ⊢; rw [foldI_s _ _ hi h_107, ← hz]; simp [h_107, h_118])
      · refine j_iconst (v := 1) M dX7_grams_121 rfl ?_
        refine j_goto (tgt := 126) M dX7_grams_122 (by decide) ?_
        refine j_iadd M dX7_grams_126 ?_
        refine j_istore_5 M dX7_grams_127 (by exact (by first | trivial | rfl)) ?_
        refine j_iinc_6 M dX7_grams_129 (show _ + Int32.ofInt 1 = _ + 1 from rfl) (by exact (by first | trivial | rfl)) ?_
        refine j_goto (tgt := 104) M dX7_grams_132 (by decide) ?_
        exact ih h_107 _ b_2 b_14 h_55 (inc_lt hi h_107).2.1 (by unfold befA at hz ⊢; rw [foldI_s _ _ hi h_107, ← hz]; simp [h_107, h_118])
  have lp2 : ∀ i : Int32, 0 ≤ i → ∀ z : Int32, isF (σ 40 4) f → inR 0 n 999 → ¬ dustA (σ 40 4) (σ 40 4 1) = 0 → i ≤ σ 40 4 1 → z = overA (σ 40 4) n (dustA (σ 40 4) (σ 40 4 1)) i → Φ 66 [some (.ref (ad G 40 0)), some (.int f), some (.int n), some (.int (dustA (σ 40 4) (σ 40 4 1))), some (.int z), some (.int i), none] [] σ := by
    refine loop_up (σ 40 4 1) (fun i hi ih z b_2 b_14 h_55 hle hz => ?_)
    have hB := hS.f b_2
    have f1 := hB.1.1.2.1
    refine j_iload M dX7_grams_66 rfl ?_
    refine j_aload_n M dX7_grams_68 rfl ?_
    refine gf_X7_19 M dX7_grams_69 ?_
    refine j_iconst (v := 1) M dX7_grams_72 rfl ?_
    refine al_40_4 M dX7_grams_73 (by first | assumption | decide) (by first | assumption | decide) ?_
    refine j_icmp_ge (tgt := 98) M dX7_grams_74 (by decide) (fun h_74 => ?_) (fun h_74 => ?_)
    · refine j_iconst (v := 0) M dX7_grams_98 rfl ?_
      refine j_istore_5 M dX7_grams_99 (by exact (by first | trivial | rfl)) ?_
      refine j_iconst (v := 0) M dX7_grams_101 rfl ?_
      refine j_istore_6 M dX7_grams_102 (by exact (by first | trivial | rfl)) ?_
      have ei : i = σ 40 4 1 := Int32.le_antisymm hle (Int32.not_lt.mp h_74)
      rw [ei] at hz
      rw [hz]
      exact lp3 0 (by decide) _ b_2 b_14 h_55 b_2.1 rfl
    · have i5 := Int32.lt_of_lt_of_le h_74 f1.2
      have i5 := hB.1.f5 h_74
      refine j_iload M dX7_grams_77 rfl ?_
      refine j_iload_n M dX7_grams_79 rfl ?_
      refine j_aload_n M dX7_grams_80 rfl ?_
      refine j_iload M dX7_grams_81 rfl ?_
      refine j_inv1 M lk_X7_247 (c_X7_dustOf (hi) (i5)) rv_X7 dX7_grams_83 (Nat.le_of_ble_eq_true rfl) ⟨(Nat.le_of_ble_eq_true rfl), (Nat.le_of_ble_eq_true rfl)⟩ (kE ?_)
      refine j_imul M dX7_grams_86 ?_
      refine j_iload_n M dX7_grams_87 rfl ?_
      refine j_idiv M dX7_grams_88 (by first | decide | assumption | grind) ?_
      refine j_isub M dX7_grams_89 ?_
      refine j_istore_4 M dX7_grams_90 (by exact (by first | trivial | rfl)) ?_
      refine j_iinc_5 M dX7_grams_92 (show _ + Int32.ofInt 1 = _ + 1 from rfl) (by exact (by first | trivial | rfl)) ?_
      refine j_goto (tgt := 66) M dX7_grams_95 (by decide) ?_
      exact ih h_74 _ b_2 b_14 h_55 (inc_lt hi h_74).2.1 (by unfold overA at hz ⊢; rw [foldI_s _ _ hi h_74, ← hz])
  have lp : ∀ i : Int32, 0 ≤ i → ∀ z : Int32, isF (σ 40 4) f → inR 0 n 999 → i ≤ σ 40 4 1 → z = dustA (σ 40 4) i → Φ 28 [some (.ref (ad G 40 0)), some (.int f), some (.int n), some (.int z), some (.int i), none, none] [] σ := by
    refine loop_up (σ 40 4 1) (fun i hi ih z b_2 b_14 hle hz => ?_)
    have hB := hS.f b_2
    have f1 := hB.1.1.2.1
    refine j_iload M dX7_grams_28 rfl ?_
    refine j_aload_n M dX7_grams_30 rfl ?_
    refine gf_X7_19 M dX7_grams_31 ?_
    refine j_iconst (v := 1) M dX7_grams_34 rfl ?_
    refine al_40_4 M dX7_grams_35 (by first | assumption | decide) (by first | assumption | decide) ?_
    refine j_icmp_ge (tgt := 54) M dX7_grams_36 (by decide) (fun h_36 => ?_) (fun h_36 => ?_)
    · have ei : i = σ 40 4 1 := Int32.le_antisymm hle (Int32.not_lt.mp h_36)
      rw [ei] at hz
      subst hz
      refine j_iload_n M dX7_grams_54 rfl ?_
      refine j_if_ne (tgt := 60) M dX7_grams_55 (by decide) (fun h_55 => ?_) (fun h_55 => ?_)
      · refine j_iload_n M dX7_grams_60 rfl ?_
        refine j_istore_4 M dX7_grams_61 (by exact (by first | trivial | rfl)) ?_
        refine j_iconst (v := 0) M dX7_grams_63 rfl ?_
        refine j_istore_5 M dX7_grams_64 (by exact (by first | trivial | rfl)) ?_
        exact lp2 0 (by decide) _ b_2 b_14 h_55 f1.1 rfl
      · refine j_iconst (v := 0) M dX7_grams_58 rfl ?_
        exact j_iret M dX7_grams_59 ⟨_, rfl, by (try dsimp only); refine ⟨rfl, ?_⟩; unfold gramsR; rw [if_pos ⟨b_2, b_14⟩, if_pos h_55]⟩
    · have i5 := hB.1.f5 h_36
      refine j_iload_n M dX7_grams_39 rfl ?_
      refine j_aload_n M dX7_grams_40 rfl ?_
      refine j_iload M dX7_grams_41 rfl ?_
      refine j_inv1 M lk_X7_247 (c_X7_dustOf (hi) (i5)) rv_X7 dX7_grams_43 (Nat.le_of_ble_eq_true rfl) ⟨(Nat.le_of_ble_eq_true rfl), (Nat.le_of_ble_eq_true rfl)⟩ (kE ?_)
      refine j_iadd M dX7_grams_46 ?_
      refine j_istore_3 M dX7_grams_47 (by exact (by first | trivial | rfl)) ?_
      refine j_iinc_4 M dX7_grams_48 (show _ + Int32.ofInt 1 = _ + 1 from rfl) (by exact (by first | trivial | rfl)) ?_
      refine j_goto (tgt := 28) M dX7_grams_51 (by decide) ?_
      exact ih h_36 _ b_2 b_14 (inc_lt hi h_36).2.1 (by unfold dustA at hz ⊢; rw [foldI_s _ _ hi h_36, ← hz])
  refine j_aload_n M dX7_grams_0 rfl ?_
  refine j_iload_n M dX7_grams_1 rfl ?_
  refine j_inv1 M lk_X7_200 (c_X7_isFish) rv_X7 dX7_grams_2 (Nat.le_of_ble_eq_true rfl) ⟨(Nat.le_of_ble_eq_true rfl), (Nat.le_of_ble_eq_true rfl)⟩ (kP fun r_2 k_2 => ?_)
  refine j_if_eq (tgt := 20) M dX7_grams_5 (by decide) (fun h_5 => ?_) (fun h_5 => ?_)
  · have b_2 := ifF k_2 h_5
    refine j_ldc M k_X7_73 dX7_grams_20 ?_
    exact j_iret M dX7_grams_22 ⟨_, rfl, by (try dsimp only); exact ⟨rfl, by simp [gramsR, b_2]⟩⟩
  · have b_2 := ifT k_2 h_5
    refine j_iload_n M dX7_grams_8 rfl ?_
    refine j_i2l M dX7_grams_9 ?_
    refine j_lconst (v := 0) M dX7_grams_10 rfl ?_
    refine j_ldc2 M kl_X7_245 dX7_grams_11 ?_
    refine j_invs3 M lk_X7_63 (c_X7_inI (a := 0) (b := 999) rfl (by decide) (by decide)) dX7_grams_14 (Nat.le_of_ble_eq_true rfl) ⟨(Nat.le_of_ble_eq_true rfl), (Nat.le_of_ble_eq_true rfl)⟩ (kP fun r_14 k_14 => ?_)
    refine j_if_ne (tgt := 23) M dX7_grams_17 (by decide) (fun h_17 => ?_) (fun h_17 => ?_)
    · have b_14 := ifT k_14 h_17
      refine j_iconst (v := 0) M dX7_grams_23 rfl ?_
      refine j_istore_3 M dX7_grams_24 (by exact (by first | trivial | rfl)) ?_
      refine j_iconst (v := 0) M dX7_grams_25 rfl ?_
      refine j_istore_4 M dX7_grams_26 (by exact (by first | trivial | rfl)) ?_
      exact lp 0 (by decide) _ b_2 b_14 hS.z.2.2.1 rfl
    · have b_14 := ifF k_14 h_17
      refine j_ldc M k_X7_73 dX7_grams_20 ?_
      exact j_iret M dX7_grams_22 ⟨_, rfl, by (try dsimp only); exact ⟨rfl, by simp [gramsR, b_2, b_14]⟩⟩
