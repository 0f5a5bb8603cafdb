set_option maxRecDepth 100000 in
theorem c_X7_drawn {l : Launch} {G : Gw} {σ : Sg} {n : Int32} {d : Int32} {v : Int32}  (hS : ¬ σ 40 0 4 = 0 → WF (σ 40 4)) : Mt l G yX7_drawn cX7_drawn 8 (some .int) 5 114 [.ref (ad G 40 0), .int n, .int d, .int v] σ (pI fun r τ => if σ 40 0 4 = 0 then r = -1000002 ∧ τ = σ else if ¬ (inR 0 n 60 ∧ inR 1 d 999999 ∧ inR 0 v 1) then r = -1000001 ∧ τ = σ else r = drawnR (σ 40 4) n d v ∧ frm σ τ 40 [8, 10]) := by
  refine mt_intro (by decide +kernel) (Nat.le_of_ble_eq_true rfl) (fun Φ M => ?_)
  show Φ 0 [some (.ref (ad G 40 0)), some (.int n), some (.int d), some (.int v), none, none, none, none] [] σ
  have lp : ∀ i : Int32, 0 ≤ i → ∀ τ : Sg, ¬ σ 40 0 4 = 0 → inR 0 n 60 → inR 1 d 999999 → inR 0 v 1 → i ≤ n → τ 40 4 = (drawS (σ 40 4) d.toInt64 i).1 → frm σ τ 40 [4, 8, 10] → τ 40 10 = σ 40 4 → Φ 55 [some (.ref (ad G 40 0)), some (.int n), some (.int d), some (.int v), some (.long (drawS (σ 40 4) d.toInt64 i).2), none, some (.int i), none] [] τ := by
    refine loop_up n (fun i hi ih τ h_4 b_16 b_28 b_35 hle e4 hfr e10 => ?_)
    have hW := hS h_4
    have sd := seed_rng b_28
    have wq := drawS_WF hW sd.1 sd.2 i
    rw [← e4] at wq
    have xn := x_next wq.2.1 wq.2.2
    have bd := bD_rng wq.1.1.1.1.1 wq.1.1.1.1.2 xn.1
    have n0 := L0 wq.1.1.1.1.1
    have ld := litD_rng wq.1.1 xn.1
    have l5 := wq.1.1.1.2.2.2.2.1
    have hj : ∀ υ : Sg, υ 40 4 = upI (τ 40 4) 5 (litD (τ 40 4) (rem64 ((drawS (σ 40 4) d.toInt64 i).2 * 16807) 2147483647)) → frm σ υ 40 [4, 8, 10] → υ 40 10 = σ 40 4 → i < n → Φ 184 [some (.ref (ad G 40 0)), some (.int n), some (.int d), some (.int v), some (.long (rem64 ((drawS (σ 40 4) d.toInt64 i).2 * 16807) 2147483647)), none, some (.int i), none] [] υ := by
      intro υ u4 ufr u10 h_58
      refine j_aload_n M dX7_drawn_184 rfl ?_
      refine j_inv0 M lk_X7_187 (c_X7_oneNight ((by rw [u4]; exact wq.1.1.li ld.1 ld.2))) rv_X7 dX7_drawn_185 (Nat.le_of_ble_eq_true rfl) ⟨(Nat.le_of_ble_eq_true rfl), (Nat.le_of_ble_eq_true rfl)⟩ (kV fun σ_185 q_185 => ?_)
      obtain ⟨g1, g2, g3⟩ := q_185
      refine j_iinc_6 M dX7_drawn_188 (show _ + Int32.ofInt 1 = _ + 1 from rfl) (by exact (by first | trivial | rfl)) ?_
      refine j_goto (tgt := 55) M dX7_drawn_191 (by decide) ?_
      have es : drawS (σ 40 4) d.toInt64 (i + 1) = drawF (drawS (σ 40 4) d.toInt64 i) := drawS_s hi h_58
      have x2 : (drawS (σ 40 4) d.toInt64 (i + 1)).2 = rem64 ((drawS (σ 40 4) d.toInt64 i).2 * 16807) 2147483647 := by rw [es]; rfl
      rw [← x2]
      exact ih h_58 _ h_4 b_16 b_28 b_35 (inc_lt hi h_58).2.1 (by rw [g1, u4, es, e4]; exact night_fst _ _ _) (frm_trans ufr (frm_mono g3 (by decide))) (by rw [g3 40 10 (by decide)]; exact u10)
    refine j_iload M dX7_drawn_55 rfl ?_
    refine j_iload_n M dX7_drawn_57 rfl ?_
    refine j_icmp_ge (tgt := 194) M dX7_drawn_58 (by decide) (fun h_58 => ?_) (fun h_58 => ?_)
    · refine j_iload_n M dX7_drawn_194 rfl ?_
      refine j_if_ne (tgt := 205) M dX7_drawn_195 (by decide) (fun h_195 => ?_) (fun h_195 => ?_)
      · refine j_aload_n M dX7_drawn_205 rfl ?_
        have em := empty_spec (τ 40 4) (le0_of wq.1.1.1.1.1) wq.1.1.1.1.2
        refine j_inv0 M lk_X7_222 (c_X7_emptySet (wq.1.1.z)) rv_X7 dX7_drawn_206 (Nat.le_of_ble_eq_true rfl) ⟨(Nat.le_of_ble_eq_true rfl), (Nat.le_of_ble_eq_true rfl)⟩ (kE ?_)
        refine j_invs1 M lk_X7_197 (c_X7_ones (em.1.1) (em.1.2)) dX7_drawn_209 (Nat.le_of_ble_eq_true rfl) ⟨(Nat.le_of_ble_eq_true rfl), (Nat.le_of_ble_eq_true rfl)⟩ (kE ?_)
        refine j_istore_6 M dX7_drawn_212 (by exact (by first | trivial | rfl)) ?_
        refine j_aload_n M dX7_drawn_214 rfl ?_
        refine j_inv0 M lk_X7_211 (c_X7_takeBack) rv_X7 dX7_drawn_215 (Nat.le_of_ble_eq_true rfl) ⟨(Nat.le_of_ble_eq_true rfl), (Nat.le_of_ble_eq_true rfl)⟩ (kV fun σ_215 q_215 => ?_)
        subst q_215
        refine j_iload M dX7_drawn_218 rfl ?_
        exact j_iret M dX7_drawn_220 ⟨_, rfl, by (try dsimp only); have ei : i = n := Int32.le_antisymm hle (Int32.not_lt.mp h_58); rw [if_neg h_4, if_neg (fun q => q ⟨b_16, b_28, b_35⟩)]; refine ⟨?_, ?_⟩; (· unfold drawnR; rw [← ei, ← e4]; simp [h_195]); (· exact frm_draw hfr e10)⟩
      · refine j_aload_n M dX7_drawn_198 rfl ?_
        refine j_inv0 M lk_X7_190 (c_X7_allPages (wq.1.1.z)) rv_X7 dX7_drawn_199 (Nat.le_of_ble_eq_true rfl) ⟨(Nat.le_of_ble_eq_true rfl), (Nat.le_of_ble_eq_true rfl)⟩ (kE ?_)
        refine j_goto (tgt := 212) M dX7_drawn_202 (by decide) ?_
        refine j_istore_6 M dX7_drawn_212 (by exact (by first | trivial | rfl)) ?_
        refine j_aload_n M dX7_drawn_214 rfl ?_
        refine j_inv0 M lk_X7_211 (c_X7_takeBack) rv_X7 dX7_drawn_215 (Nat.le_of_ble_eq_true rfl) ⟨(Nat.le_of_ble_eq_true rfl), (Nat.le_of_ble_eq_true rfl)⟩ (kV fun σ_215 q_215 => ?_)
        subst q_215
        refine j_iload M dX7_drawn_218 rfl ?_
        exact j_iret M dX7_drawn_220 ⟨_, rfl, by (try dsimp only); have ei : i = n := Int32.le_antisymm hle (Int32.not_lt.mp h_58); rw [if_neg h_4, if_neg (fun q => q ⟨b_16, b_28, b_35⟩)]; refine ⟨?_, ?_⟩; (· unfold drawnR; rw [← ei, ← e4]; simp [h_195]); (· exact frm_draw hfr e10)⟩
    · refine j_lload M dX7_drawn_61 rfl ?_
      refine j_ldc2 M kl_X7_268 dX7_drawn_63 ?_
      refine j_lmul M dX7_drawn_66 ?_
      refine j_ldc2 M kl_X7_270 dX7_drawn_67 ?_
      refine j_lrem M dX7_drawn_70 (by first | decide | assumption | grind) ?_
      refine j_lstore_4 M dX7_drawn_71 (by exact (by first | trivial | rfl)) ?_
      refine j_lload M dX7_drawn_73 rfl ?_
      refine j_aload_n M dX7_drawn_75 rfl ?_
      refine gf_X7_19 M dX7_drawn_76 ?_
      refine j_iconst (v := 0) M dX7_drawn_79 rfl ?_
      refine al_40_4 M dX7_drawn_80 (by first | assumption | decide) (by first | assumption | decide) ?_
      refine j_i2l M dX7_drawn_81 ?_
      refine j_lrem M dX7_drawn_82 (by first | decide | assumption | grind) ?_
      refine j_l2i M dX7_drawn_83 ?_
      refine j_istore_7 M dX7_drawn_84 (by exact (by first | trivial | rfl)) ?_
      refine j_aload_n M dX7_drawn_86 rfl ?_
      refine gf_X7_19 M dX7_drawn_87 ?_
      refine j_iconst (v := 5) M dX7_drawn_90 rfl ?_
      refine al_40_4 M dX7_drawn_91 (by first | assumption | decide) (by first | assumption | decide) ?_
      refine j_iload M dX7_drawn_92 rfl ?_
      refine j_invs2 M lk_X7_154 (c_X7_has) dX7_drawn_94 (Nat.le_of_ble_eq_true rfl) ⟨(Nat.le_of_ble_eq_true rfl), (Nat.le_of_ble_eq_true rfl)⟩ (kE ?_)
      refine j_if_eq (tgt := 142) M dX7_drawn_97 (by decide) (fun h_97 => ?_) (fun h_97 => ?_)
      · refine j_lload M dX7_drawn_142 rfl ?_
        refine j_ldc2 M kl_X7_206 dX7_drawn_144 ?_
        refine j_lrem M dX7_drawn_147 (by first | decide | assumption | grind) ?_
        refine j_lconst (v := 0) M dX7_drawn_148 rfl ?_
        refine j_lcmp M dX7_drawn_149 ?_
        refine j_if_ne (tgt := 184) M dX7_drawn_150 (by decide) (fun h_150 => ?_) (fun h_150 => ?_)
        · refine j_forget M (L' := [some (.ref (ad G 40 0)), some (.int n), some (.int d), some (.int v), some (.long _), none, some (.int i), none]) (by exact ⟨rfl, rfl, rfl, rfl, rfl, rfl, trivial⟩) ?_
          rw [lg_eq] at h_150
          refine hj _ ?_ hfr e10 h_58
          have el : litD (τ 40 4) (rem64 ((drawS (σ 40 4) d.toInt64 i).2 * 16807) 2147483647) = τ 40 4 5 := by
            unfold litD
            unfold bD at *
            simp [h_97, h_150]
          rw [el, upI_self]
        · refine j_aload_n M dX7_drawn_153 rfl ?_
          refine gf_X7_19 M dX7_drawn_154 ?_
          refine j_iconst (v := 5) M dX7_drawn_157 rfl ?_
          refine al_40_4 M dX7_drawn_158 (by first | assumption | decide) (by first | assumption | decide) ?_
          refine j_invs1 M lk_X7_197 (c_X7_ones (l5.1) (l5.2)) dX7_drawn_159 (Nat.le_of_ble_eq_true rfl) ⟨(Nat.le_of_ble_eq_true rfl), (Nat.le_of_ble_eq_true rfl)⟩ (kE ?_)
          refine j_aload_n M dX7_drawn_162 rfl ?_
          refine gf_X7_19 M dX7_drawn_163 ?_
          refine j_iconst (v := 3) M dX7_drawn_166 rfl ?_
          refine al_40_4 M dX7_drawn_167 (by first | assumption | decide) (by first | assumption | decide) ?_
          refine j_icmp_ge (tgt := 184) M dX7_drawn_168 (by decide) (fun h_168 => ?_) (fun h_168 => ?_)
          · refine j_forget M (L' := [some (.ref (ad G 40 0)), some (.int n), some (.int d), some (.int v), some (.long _), none, some (.int i), none]) (by exact ⟨rfl, rfl, rfl, rfl, rfl, rfl, trivial⟩) ?_
            rw [lg_eq] at h_150
            refine hj _ ?_ hfr e10 h_58
            have el : litD (τ 40 4) (rem64 ((drawS (σ 40 4) d.toInt64 i).2 * 16807) 2147483647) = τ 40 4 5 := by
              unfold litD
              unfold bD at *
              simp [h_97, h_150, h_168]
            rw [el, upI_self]
          · refine j_aload_n M dX7_drawn_171 rfl ?_
            refine gf_X7_19 M dX7_drawn_172 ?_
            refine j_iconst (v := 5) M dX7_drawn_175 rfl ?_
            refine j_dup2 M dX7_drawn_176 rfl rfl ?_
            refine al_40_4 M dX7_drawn_177 (by first | assumption | decide) (by first | assumption | decide) ?_
            refine j_iconst (v := 1) M dX7_drawn_178 rfl ?_
            refine j_iload M dX7_drawn_179 rfl ?_
            refine j_ishl M dX7_drawn_181 ?_
            refine j_ior M dX7_drawn_182 ?_
            refine as_40_4 M dX7_drawn_183 (by first | assumption | decide) (by first | assumption | decide) ?_
            refine j_forget M (L' := [some (.ref (ad G 40 0)), some (.int n), some (.int d), some (.int v), some (.long _), none, some (.int i), none]) (by exact ⟨rfl, rfl, rfl, rfl, rfl, rfl, trivial⟩) ?_
            rw [lg_eq] at h_150
            refine hj _ ?_ (frm_up hfr (by decide)) (by rw [up_ne _ _ (by decide)]; exact e10) h_58
            rw [up_same]
            congr 1
            unfold litD
            unfold bD at *
            simp [h_97, h_150, h_168]
      · refine j_aload_n M dX7_drawn_100 rfl ?_
        refine gf_X7_19 M dX7_drawn_101 ?_
        refine j_iconst (v := 5) M dX7_drawn_104 rfl ?_
        refine j_lload M dX7_drawn_105 rfl ?_
        refine j_ldc2 M kl_X7_272 dX7_drawn_107 ?_
        refine j_lrem M dX7_drawn_110 (by first | decide | assumption | grind) ?_
        refine j_lconst (v := 0) M dX7_drawn_111 rfl ?_
        refine j_lcmp M dX7_drawn_112 ?_
        refine j_if_ne (tgt := 132) M dX7_drawn_113 (by decide) (fun h_113 => ?_) (fun h_113 => ?_)
        · refine j_aload_n M dX7_drawn_132 rfl ?_
          refine gf_X7_19 M dX7_drawn_133 ?_
          refine j_iconst (v := 5) M dX7_drawn_136 rfl ?_
          refine al_40_4 M dX7_drawn_137 (by first | assumption | decide) (by first | assumption | decide) ?_
          refine as_40_4 M dX7_drawn_138 (by first | assumption | decide) (by first | assumption | decide) ?_
          refine j_goto (tgt := 184) M dX7_drawn_139 (by decide) ?_
          refine j_forget M (L' := [some (.ref (ad G 40 0)), some (.int n), some (.int d), some (.int v), some (.long _), none, some (.int i), none]) (by exact ⟨rfl, rfl, rfl, rfl, rfl, rfl, trivial⟩) ?_
          rw [lg_eq] at h_113
          refine hj _ ?_ (frm_up hfr (by decide)) (by rw [up_ne _ _ (by decide)]; exact e10) h_58
          rw [up_same]
          congr 1
          unfold litD
          unfold bD at *
          simp [h_97, h_113]
        · refine j_aload_n M dX7_drawn_116 rfl ?_
          refine gf_X7_19 M dX7_drawn_117 ?_
          refine j_iconst (v := 5) M dX7_drawn_120 rfl ?_
          refine al_40_4 M dX7_drawn_121 (by first | assumption | decide) (by first | assumption | decide) ?_
          refine j_iconst (v := 1) M dX7_drawn_122 rfl ?_
          refine j_iload M dX7_drawn_123 rfl ?_
          refine j_ishl M dX7_drawn_125 ?_
          refine j_iconst (v := (-1)) M dX7_drawn_126 rfl ?_
          refine j_ixor M dX7_drawn_127 ?_
          refine j_iand M dX7_drawn_128 ?_
          refine j_goto (tgt := 138) M dX7_drawn_129 (by decide) ?_
          refine as_40_4 M dX7_drawn_138 (by first | assumption | decide) (by first | assumption | decide) ?_
          refine j_goto (tgt := 184) M dX7_drawn_139 (by decide) ?_
          refine j_forget M (L' := [some (.ref (ad G 40 0)), some (.int n), some (.int d), some (.int v), some (.long _), none, some (.int i), none]) (by exact ⟨rfl, rfl, rfl, rfl, rfl, rfl, trivial⟩) ?_
          rw [lg_eq] at h_113
          refine hj _ ?_ (frm_up hfr (by decide)) (by rw [up_ne _ _ (by decide)]; exact e10) h_58
          rw [up_same]
          congr 1
          unfold litD
          unfold bD at *
          simp [h_97, h_113]
  refine j_aload_n M dX7_drawn_0 rfl ?_
  refine gf_X7_147 M dX7_drawn_1 ?_
  refine j_if_ne (tgt := 10) M dX7_drawn_4 (by decide) (fun h_4 => ?_) (fun h_4 => ?_)
  · refine j_iload_n M dX7_drawn_10 rfl ?_
    refine j_i2l M dX7_drawn_11 ?_
    refine j_lconst (v := 0) M dX7_drawn_12 rfl ?_
    refine j_ldc2 M kl_X7_214 dX7_drawn_13 ?_
    refine j_invs3 M lk_X7_63 (c_X7_inI (a := 0) (b := 60) rfl (by decide) (by decide)) dX7_drawn_16 (Nat.le_of_ble_eq_true rfl) ⟨(Nat.le_of_ble_eq_true rfl), (Nat.le_of_ble_eq_true rfl)⟩ (kP fun r_16 k_16 => ?_)
    refine j_if_eq (tgt := 41) M dX7_drawn_19 (by decide) (fun h_19 => ?_) (fun h_19 => ?_)
    · have b_16 := ifF k_16 h_19
      refine j_ldc M k_X7_73 dX7_drawn_41 ?_
      exact j_iret M dX7_drawn_43 ⟨_, rfl, by (try dsimp only); first | (simp [h_4, b_16]; done) | (rw [if_neg h_4, if_pos (fun q => by first | exact b_16 q.1 | exact b_28 q.2.1 | exact b_35 q.2.2)]; exact ⟨rfl, rfl⟩)⟩
    · have b_16 := ifT k_16 h_19
      refine j_iload_n M dX7_drawn_22 rfl ?_
      refine j_i2l M dX7_drawn_23 ?_
      refine j_lconst (v := 1) M dX7_drawn_24 rfl ?_
      refine j_ldc2 M kl_X7_266 dX7_drawn_25 ?_
      refine j_invs3 M lk_X7_63 (c_X7_inI (a := 1) (b := 999999) rfl (by decide) (by decide)) dX7_drawn_28 (Nat.le_of_ble_eq_true rfl) ⟨(Nat.le_of_ble_eq_true rfl), (Nat.le_of_ble_eq_true rfl)⟩ (kP fun r_28 k_28 => ?_)
      refine j_if_eq (tgt := 41) M dX7_drawn_31 (by decide) (fun h_31 => ?_) (fun h_31 => ?_)
      · have b_28 := ifF k_28 h_31
        refine j_ldc M k_X7_73 dX7_drawn_41 ?_
        exact j_iret M dX7_drawn_43 ⟨_, rfl, by (try dsimp only); first | (simp [h_4, b_16, b_28]; done) | (rw [if_neg h_4, if_pos (fun q => by first | exact b_16 q.1 | exact b_28 q.2.1 | exact b_35 q.2.2)]; exact ⟨rfl, rfl⟩)⟩
      · have b_28 := ifT k_28 h_31
        refine j_iload_n M dX7_drawn_34 rfl ?_
        refine j_invs1 M lk_X7_216 (c_X7_isWhat) dX7_drawn_35 (Nat.le_of_ble_eq_true rfl) ⟨(Nat.le_of_ble_eq_true rfl), (Nat.le_of_ble_eq_true rfl)⟩ (kP fun r_35 k_35 => ?_)
        refine j_if_ne (tgt := 44) M dX7_drawn_38 (by decide) (fun h_38 => ?_) (fun h_38 => ?_)
        · have b_35 := ifT k_35 h_38
          refine j_aload_n M dX7_drawn_44 rfl ?_
          refine j_inv0 M lk_X7_219 (c_X7_putAside) rv_X7 dX7_drawn_45 (Nat.le_of_ble_eq_true rfl) ⟨(Nat.le_of_ble_eq_true rfl), (Nat.le_of_ble_eq_true rfl)⟩ (kV fun σ_45 q_45 => ?_)
          subst q_45
          refine j_iload_n M dX7_drawn_48 rfl ?_
          refine j_i2l M dX7_drawn_49 ?_
          refine j_lstore_4 M dX7_drawn_50 (by exact (by first | trivial | rfl)) ?_
          refine j_iconst (v := 0) M dX7_drawn_52 rfl ?_
          refine j_istore_6 M dX7_drawn_53 (by exact (by first | trivial | rfl)) ?_
          exact lp 0 (by decide) _ h_4 b_16 b_28 b_35 b_16.1 (by rw [up_ne _ _ (by decide)]; rfl) (frm_up (frm_refl _ _ _) (by decide)) (by rw [up_same])
        · have b_35 := ifF k_35 h_38
          refine j_ldc M k_X7_73 dX7_drawn_41 ?_
          exact j_iret M dX7_drawn_43 ⟨_, rfl, by (try dsimp only); first | (simp [h_4, b_16, b_28, b_35]; done) | (rw [if_neg h_4, if_pos (fun q => by first | exact b_16 q.1 | exact b_28 q.2.1 | exact b_35 q.2.2)]; exact ⟨rfl, rfl⟩)⟩
  · refine j_ldc M k_X7_181 dX7_drawn_7 ?_
    exact j_iret M dX7_drawn_9 ⟨_, rfl, by (try dsimp only); first | (simp [h_4]; done) | (rw [if_neg h_4, if_pos (fun q => by first | exact b_16 q.1 | exact b_28 q.2.1 | exact b_35 q.2.2)]; exact ⟨rfl, rfl⟩)⟩
