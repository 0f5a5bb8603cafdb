set_option maxRecDepth 100000 in
theorem c_X7_copy {l : Launch} {G : Gw} {σ : Sg} {a : Int32} {i : Int32} {b : Int32} {j : Int32} {n : Int32}  (hR : RW (σ 40 2)) : Mt l G yX7_copy cX7_copy 7 (some .int) 2 45 [.ref (ad G 40 0), .int a, .int i, .int b, .int j, .int n] σ (pI fun r τ => if ¬ (inR 0 a 7 ∧ inR 0 b 7) then r = -1000001 ∧ τ = σ else if σ 40 2 a < 0 ∨ σ 40 2 b < 0 then r = -1000011 ∧ τ = up σ 40 0 (upI (σ 40 0) 3 1) else if ¬ σ 40 1 a = σ 40 1 b then r = -1000015 ∧ τ = up σ 40 0 (upI (σ 40 0) 3 5) else if ¬ (¬ n < 0 ∧ inR 0 i (σ 40 2 a - n) ∧ inR 0 j (σ 40 2 b - n)) then r = -1000012 ∧ τ = up σ 40 0 (upI (σ 40 0) 3 2) else r = n ∧ τ 40 3 = blkS (σ 40 3) (fun t => σ 40 3 (40 * a + i + t)) (40 * b + j) n ∧ τ 40 0 = upI (σ 40 0) 3 0 ∧ frm σ τ 40 [0, 3, 5]) := by
  refine mt_intro (by decide +kernel) (Nat.le_of_ble_eq_true rfl) (fun Φ M => ?_)
  show Φ 0 [some (.ref (ad G 40 0)), some (.int a), some (.int i), some (.int b), some (.int j), some (.int n), none] [] σ
  have lp2 : ∀ k : Int32, 0 ≤ k → ∀ τ : Sg, inR 0 a 7 → inR 0 b 7 → ¬ σ 40 2 a < 0 → ¬ σ 40 2 b < 0 → σ 40 1 a = σ 40 1 b → ¬ n < 0 → inR 0 i (σ 40 2 a - n) → inR 0 j (σ 40 2 b - n) → k ≤ n → (∀ t, 0 ≤ t → t < n → τ 40 5 t = σ 40 3 (40 * a + i + t)) → (∀ t, 0 ≤ t → t < 320 → τ 40 3 t = blkS (σ 40 3) (fun t => σ 40 3 (40 * a + i + t)) (40 * b + j) k t) → frm σ τ 40 [3, 5] → Φ 154 [some (.ref (ad G 40 0)), some (.int a), some (.int i), some (.int b), some (.int j), some (.int n), some (.int k)] [] τ := by
    refine loop_up n (fun k hk ih τ b_1 b_8 h_23 h_32 h_53 h_64 b_81 b_102 hle hm hc hfr => ?_)
    have za := hR a b_1.1 b_1.2
    have zb := hR b b_8.1 b_8.2
    have n0 := Int32.not_lt.mp h_64
    have nn := cp_n za.1 za.2 n0 b_81.1 b_81.2
    refine j_iload M dX7_copy_154 rfl ?_
    refine j_iload M dX7_copy_156 rfl ?_
    refine j_icmp_ge (tgt := 189) M dX7_copy_158 (by decide) (fun h_158 => ?_) (fun h_158 => ?_)
    · refine j_extA M (c := 40) (k := 3) (n := 320) (n' := 320) (f := blkS (σ 40 3) (fun t => σ 40 3 (40 * a + i + t)) (40 * b + j) n) (fun _ => rfl) rfl (by decide) (fun t t0 t1 => ?_) ?_
      · have ei : k = n := Int32.le_antisymm hle (Int32.not_lt.mp h_158)
        rw [hc t t0 t1, ei]
      refine j_aload_n M dX7_copy_189 rfl ?_
      refine j_iload M dX7_copy_190 rfl ?_
      refine j_inv1 M lk_X7_78 (c_X7_well) rv_X7 dX7_copy_192 (Nat.le_of_ble_eq_true rfl) ⟨(Nat.le_of_ble_eq_true rfl), (Nat.le_of_ble_eq_true rfl)⟩ (kI fun r_192 σ_192 q_192 => ?_)
      obtain ⟨rfl, e192⟩ := q_192
      rw [e192]
      exact j_iret M dX7_copy_195 ⟨_, rfl, by (try dsimp only); have e0 : τ 40 0 = σ 40 0 := hfr 40 0 (by decide); rw [if_neg (fun q => q ⟨b_1, b_8⟩), if_neg (fun q => q.elim h_23 h_32), if_neg (fun q => q h_53), if_neg (fun q => q ⟨h_64, b_81, b_102⟩)]; exact ⟨rfl, by simp [up], by simp [up, e0], frm_up (frm_up (frm_mono hfr (by decide)) (by decide)) (by decide)⟩⟩
    · have kr := cp_rng zb.1 zb.2 n0 b_102.1 b_102.2 hk h_158
      have k40 := cp_i n0 nn hk h_158
      have jj := ix40 (m := b) b_8.1 b_8.2 kr.1.1 kr.1.2
      rw [← add_as] at jj
      have oo := cp_o b_8.1 b_8.2 zb.1 zb.2 n0 b_102.1 b_102.2
      refine j_aload_n M dX7_copy_161 rfl ?_
      refine gf_X7_16 M dX7_copy_162 ?_
      refine j_bipush (v := 40) M dX7_copy_165 rfl ?_
      refine j_iload_n M dX7_copy_167 rfl ?_
      refine j_imul M dX7_copy_168 ?_
      refine j_iload M dX7_copy_169 rfl ?_
      refine j_iadd M dX7_copy_171 ?_
      refine j_iload M dX7_copy_172 rfl ?_
      refine j_iadd M dX7_copy_174 ?_
      refine j_aload_n M dX7_copy_175 rfl ?_
      refine gf_X7_22 M dX7_copy_176 ?_
      refine j_iload M dX7_copy_179 rfl ?_
      refine al_40_5 M dX7_copy_181 (by first | assumption | decide | exact jj.1.1 | exact jj.1.2 | exact k40) (by first | assumption | decide | exact jj.1.1 | exact jj.1.2 | exact k40) ?_
      refine as_40_3 M dX7_copy_182 (by first | assumption | decide | exact jj.1.1 | exact jj.1.2 | exact k40) (by first | assumption | decide | exact jj.1.1 | exact jj.1.2 | exact k40) ?_
      refine j_iinc_6 M dX7_copy_183 (show _ + Int32.ofInt 1 = _ + 1 from rfl) (by exact (by first | trivial | rfl)) ?_
      refine j_goto (tgt := 154) M dX7_copy_186 (by decide) ?_
      exact ih h_158 _ b_1 b_8 h_23 h_32 h_53 h_64 b_81 b_102 (inc_lt hk h_158).2.1 (by rw [up_ne _ _ (by decide)]; exact hm) (by rw [up_same]; exact blk_step oo.1 oo.2 hk (li40 k40) (by rw [hm k hk h_158]) hc) (frm_up hfr (by decide))
  have lp : ∀ k : Int32, 0 ≤ k → ∀ τ : Sg, inR 0 a 7 → inR 0 b 7 → ¬ σ 40 2 a < 0 → ¬ σ 40 2 b < 0 → σ 40 1 a = σ 40 1 b → ¬ n < 0 → inR 0 i (σ 40 2 a - n) → inR 0 j (σ 40 2 b - n) → k ≤ n → (∀ t, 0 ≤ t → t < k → τ 40 5 t = σ 40 3 (40 * a + i + t)) → frm σ τ 40 [5] → Φ 117 [some (.ref (ad G 40 0)), some (.int a), some (.int i), some (.int b), some (.int j), some (.int n), some (.int k)] [] τ := by
    refine loop_up n (fun k hk ih τ b_1 b_8 h_23 h_32 h_53 h_64 b_81 b_102 hle hc hfr => ?_)
    have za := hR a b_1.1 b_1.2
    have zb := hR b b_8.1 b_8.2
    have n0 := Int32.not_lt.mp h_64
    have nn := cp_n za.1 za.2 n0 b_81.1 b_81.2
    have e3 : τ 40 3 = σ 40 3 := hfr 40 3 (by decide)
    refine j_iload M dX7_copy_117 rfl ?_
    refine j_iload M dX7_copy_119 rfl ?_
    refine j_icmp_ge (tgt := 151) M dX7_copy_121 (by decide) (fun h_121 => ?_) (fun h_121 => ?_)
    · refine j_iconst (v := 0) M dX7_copy_151 rfl ?_
      refine j_istore_6 M dX7_copy_152 (by exact (by first | trivial | rfl)) ?_
      have ek : k = n := Int32.le_antisymm hle (Int32.not_lt.mp h_121)
      rw [ek] at hc
      exact lp2 0 (by decide) τ b_1 b_8 h_23 h_32 h_53 h_64 b_81 b_102 n0 hc (fun t t0 t1 => by rw [e3]; exact blk_0 _ _ _ _) (frm_mono hfr (by decide))
    · have kr := cp_rng za.1 za.2 n0 b_81.1 b_81.2 hk h_121
      have k40 := cp_i n0 nn hk h_121
      have jj := ix40 (m := a) b_1.1 b_1.2 kr.1.1 kr.1.2
      rw [← add_as] at jj
      refine j_aload_n M dX7_copy_124 rfl ?_
      refine gf_X7_22 M dX7_copy_125 ?_
      refine j_iload M dX7_copy_128 rfl ?_
      refine j_aload_n M dX7_copy_130 rfl ?_
      refine gf_X7_16 M dX7_copy_131 ?_
      refine j_bipush (v := 40) M dX7_copy_134 rfl ?_
      refine j_iload_n M dX7_copy_136 rfl ?_
      refine j_imul M dX7_copy_137 ?_
      refine j_iload_n M dX7_copy_138 rfl ?_
      refine j_iadd M dX7_copy_139 ?_
      refine j_iload M dX7_copy_140 rfl ?_
      refine j_iadd M dX7_copy_142 ?_
      refine al_40_3 M dX7_copy_143 (by first | assumption | decide | exact jj.1.1 | exact jj.1.2 | exact k40) (by first | assumption | decide | exact jj.1.1 | exact jj.1.2 | exact k40) ?_
      refine as_40_5 M dX7_copy_144 (by first | assumption | decide | exact jj.1.1 | exact jj.1.2 | exact k40) (by first | assumption | decide | exact jj.1.1 | exact jj.1.2 | exact k40) ?_
      refine j_iinc_6 M dX7_copy_145 (show _ + Int32.ofInt 1 = _ + 1 from rfl) (by exact (by first | trivial | rfl)) ?_
      refine j_goto (tgt := 117) M dX7_copy_148 (by decide) ?_
      refine ih h_121 _ b_1 b_8 h_23 h_32 h_53 h_64 b_81 b_102 (inc_lt hk h_121).2.1 ?_ (frm_up hfr (by decide))
      intro t t0 t1
      rw [up_same, e3]
      by_cases e : t = k
      · rw [e, upI_same]
      · rw [upI_ne _ _ e]; exact hc t t0 (lt_of_inc hk h_121 t1 e)
  refine j_iload_n M dX7_copy_0 rfl ?_
  refine j_invs1 M lk_X7_67 (c_X7_isRow) dX7_copy_1 (Nat.le_of_ble_eq_true rfl) ⟨(Nat.le_of_ble_eq_true rfl), (Nat.le_of_ble_eq_true rfl)⟩ (kP fun r_1 k_1 => ?_)
  refine j_if_eq (tgt := 14) M dX7_copy_4 (by decide) (fun h_4 => ?_) (fun h_4 => ?_)
  · have b_1 := ifF k_1 h_4
    refine j_ldc M k_X7_73 dX7_copy_14 ?_
    exact j_iret M dX7_copy_16 ⟨_, rfl, by (try dsimp only); first | (simp [b_1]; done) | (rw [if_neg (fun q => q ⟨b_1, b_8⟩)]; first | (rw [if_pos (by first | exact Or.inl h_23 | exact Or.inr h_32)]; exact ⟨rfl, rfl⟩) | (rw [if_neg (fun q => q.elim h_23 h_32)]; first | (rw [if_pos h_53]; exact ⟨rfl, rfl⟩) | (rw [if_neg (fun q => q h_53)]; rw [if_pos (fun q => by first | exact b_102 q.2.2 | exact b_81 q.2.1 | exact q.1 h_64)]; exact ⟨rfl, rfl⟩)))⟩
  · have b_1 := ifT k_1 h_4
    refine j_iload_n M dX7_copy_7 rfl ?_
    refine j_invs1 M lk_X7_67 (c_X7_isRow) dX7_copy_8 (Nat.le_of_ble_eq_true rfl) ⟨(Nat.le_of_ble_eq_true rfl), (Nat.le_of_ble_eq_true rfl)⟩ (kP fun r_8 k_8 => ?_)
    refine j_if_ne (tgt := 17) M dX7_copy_11 (by decide) (fun h_11 => ?_) (fun h_11 => ?_)
    · have b_8 := ifT k_8 h_11
      have za := hR a b_1.1 b_1.2
      have zb := hR b b_8.1 b_8.2
      refine j_aload_n M dX7_copy_17 rfl ?_
      refine gf_X7_13 M dX7_copy_18 ?_
      refine j_iload_n M dX7_copy_21 rfl ?_
      refine al_40_2 M dX7_copy_22 (by first | assumption | decide | exact b_1.1 | exact le7 b_1.2 | exact b_8.1 | exact le7 b_8.2) (by first | assumption | decide | exact b_1.1 | exact le7 b_1.2 | exact b_8.1 | exact le7 b_8.2) ?_
      refine j_if_lt (tgt := 35) M dX7_copy_23 (by decide) (fun h_23 => ?_) (fun h_23 => ?_)
      · refine j_aload_n M dX7_copy_35 rfl ?_
        refine j_iconst (v := 1) M dX7_copy_36 rfl ?_
        refine j_inv1 M lk_X7_74 (c_X7_find) rv_X7 dX7_copy_37 (Nat.le_of_ble_eq_true rfl) ⟨(Nat.le_of_ble_eq_true rfl), (Nat.le_of_ble_eq_true rfl)⟩ (kI fun r_37 σ_37 q_37 => ?_)
        obtain ⟨rfl, e37⟩ := q_37
        rw [e37]
        exact j_iret M dX7_copy_40 ⟨_, rfl, by (try dsimp only); first | (simp [b_1, b_8, h_23]; done) | (rw [if_neg (fun q => q ⟨b_1, b_8⟩)]; first | (rw [if_pos (by first | exact Or.inl h_23 | exact Or.inr h_32)]; exact ⟨rfl, rfl⟩) | (rw [if_neg (fun q => q.elim h_23 h_32)]; first | (rw [if_pos h_53]; exact ⟨rfl, rfl⟩) | (rw [if_neg (fun q => q h_53)]; rw [if_pos (fun q => by first | exact b_102 q.2.2 | exact b_81 q.2.1 | exact q.1 h_64)]; exact ⟨rfl, rfl⟩)))⟩
      · refine j_aload_n M dX7_copy_26 rfl ?_
        refine gf_X7_13 M dX7_copy_27 ?_
        refine j_iload_n M dX7_copy_30 rfl ?_
        refine al_40_2 M dX7_copy_31 (by first | assumption | decide | exact b_1.1 | exact le7 b_1.2 | exact b_8.1 | exact le7 b_8.2) (by first | assumption | decide | exact b_1.1 | exact le7 b_1.2 | exact b_8.1 | exact le7 b_8.2) ?_
        refine j_if_ge (tgt := 41) M dX7_copy_32 (by decide) (fun h_32 => ?_) (fun h_32 => ?_)
        · refine j_aload_n M dX7_copy_41 rfl ?_
          refine gf_X7_7 M dX7_copy_42 ?_
          refine j_iload_n M dX7_copy_45 rfl ?_
          refine al_40_1 M dX7_copy_46 (by first | assumption | decide | exact b_1.1 | exact le7 b_1.2 | exact b_8.1 | exact le7 b_8.2) (by first | assumption | decide | exact b_1.1 | exact le7 b_1.2 | exact b_8.1 | exact le7 b_8.2) ?_
          refine j_aload_n M dX7_copy_47 rfl ?_
          refine gf_X7_7 M dX7_copy_48 ?_
          refine j_iload_n M dX7_copy_51 rfl ?_
          refine al_40_1 M dX7_copy_52 (by first | assumption | decide | exact b_1.1 | exact le7 b_1.2 | exact b_8.1 | exact le7 b_8.2) (by first | assumption | decide | exact b_1.1 | exact le7 b_1.2 | exact b_8.1 | exact le7 b_8.2) ?_
          refine j_icmp_eq (tgt := 62) M dX7_copy_53 (by decide) (fun h_53 => ?_) (fun h_53 => ?_)
          · refine j_iload M dX7_copy_62 rfl ?_
            refine j_if_lt (tgt := 108) M dX7_copy_64 (by decide) (fun h_64 => ?_) (fun h_64 => ?_)
            · refine j_aload_n M dX7_copy_108 rfl ?_
              refine j_iconst (v := 2) M dX7_copy_109 rfl ?_
              refine j_inv1 M lk_X7_74 (c_X7_find) rv_X7 dX7_copy_110 (Nat.le_of_ble_eq_true rfl) ⟨(Nat.le_of_ble_eq_true rfl), (Nat.le_of_ble_eq_true rfl)⟩ (kI fun r_110 σ_110 q_110 => ?_)
              obtain ⟨rfl, e110⟩ := q_110
              rw [e110]
              exact j_iret M dX7_copy_113 ⟨_, rfl, by (try dsimp only); first | (simp [b_1, b_8, h_23, h_32, h_53, h_64]; done) | (rw [if_neg (fun q => q ⟨b_1, b_8⟩)]; first | (rw [if_pos (by first | exact Or.inl h_23 | exact Or.inr h_32)]; exact ⟨rfl, rfl⟩) | (rw [if_neg (fun q => q.elim h_23 h_32)]; first | (rw [if_pos h_53]; exact ⟨rfl, rfl⟩) | (rw [if_neg (fun q => q h_53)]; rw [if_pos (fun q => by first | exact b_102 q.2.2 | exact b_81 q.2.1 | exact q.1 h_64)]; exact ⟨rfl, rfl⟩)))⟩
            · refine j_iload_n M dX7_copy_67 rfl ?_
              refine j_i2l M dX7_copy_68 ?_
              refine j_lconst (v := 0) M dX7_copy_69 rfl ?_
              refine j_aload_n M dX7_copy_70 rfl ?_
              refine gf_X7_13 M dX7_copy_71 ?_
              refine j_iload_n M dX7_copy_74 rfl ?_
              refine al_40_2 M dX7_copy_75 (by first | assumption | decide | exact b_1.1 | exact le7 b_1.2 | exact b_8.1 | exact le7 b_8.2) (by first | assumption | decide | exact b_1.1 | exact le7 b_1.2 | exact b_8.1 | exact le7 b_8.2) ?_
              refine j_i2l M dX7_copy_76 ?_
              refine j_iload M dX7_copy_77 rfl ?_
              refine j_i2l M dX7_copy_79 ?_
              refine j_lsub M dX7_copy_80 ?_
              refine j_invs3 M lk_X7_63 (c_X7_inI (a := 0) rfl (by decide) (sub_L za.1 za.2 (Int32.not_lt.mp h_64))) dX7_copy_81 (Nat.le_of_ble_eq_true rfl) ⟨(Nat.le_of_ble_eq_true rfl), (Nat.le_of_ble_eq_true rfl)⟩ (kP fun r_81 k_81 => ?_)
              refine j_if_eq (tgt := 108) M dX7_copy_84 (by decide) (fun h_84 => ?_) (fun h_84 => ?_)
              · have b_81 := ifF k_81 h_84
                refine j_aload_n M dX7_copy_108 rfl ?_
                refine j_iconst (v := 2) M dX7_copy_109 rfl ?_
                refine j_inv1 M lk_X7_74 (c_X7_find) rv_X7 dX7_copy_110 (Nat.le_of_ble_eq_true rfl) ⟨(Nat.le_of_ble_eq_true rfl), (Nat.le_of_ble_eq_true rfl)⟩ (kI fun r_110 σ_110 q_110 => ?_)
                obtain ⟨rfl, e110⟩ := q_110
                rw [e110]
                exact j_iret M dX7_copy_113 ⟨_, rfl, by (try dsimp only); first | (simp [b_1, b_8, h_23, h_32, h_53, h_64, b_81]; done) | (rw [if_neg (fun q => q ⟨b_1, b_8⟩)]; first | (rw [if_pos (by first | exact Or.inl h_23 | exact Or.inr h_32)]; exact ⟨rfl, rfl⟩) | (rw [if_neg (fun q => q.elim h_23 h_32)]; first | (rw [if_pos h_53]; exact ⟨rfl, rfl⟩) | (rw [if_neg (fun q => q h_53)]; rw [if_pos (fun q => by first | exact b_102 q.2.2 | exact b_81 q.2.1 | exact q.1 h_64)]; exact ⟨rfl, rfl⟩)))⟩
              · have b_81 := ifT k_81 h_84
                refine j_iload M dX7_copy_87 rfl ?_
                refine j_i2l M dX7_copy_89 ?_
                refine j_lconst (v := 0) M dX7_copy_90 rfl ?_
                refine j_aload_n M dX7_copy_91 rfl ?_
                refine gf_X7_13 M dX7_copy_92 ?_
                refine j_iload_n M dX7_copy_95 rfl ?_
                refine al_40_2 M dX7_copy_96 (by first | assumption | decide | exact b_1.1 | exact le7 b_1.2 | exact b_8.1 | exact le7 b_8.2) (by first | assumption | decide | exact b_1.1 | exact le7 b_1.2 | exact b_8.1 | exact le7 b_8.2) ?_
                refine j_i2l M dX7_copy_97 ?_
                refine j_iload M dX7_copy_98 rfl ?_
                refine j_i2l M dX7_copy_100 ?_
                refine j_lsub M dX7_copy_101 ?_
                refine j_invs3 M lk_X7_63 (c_X7_inI (a := 0) rfl (by decide) (sub_L zb.1 zb.2 (Int32.not_lt.mp h_64))) dX7_copy_102 (Nat.le_of_ble_eq_true rfl) ⟨(Nat.le_of_ble_eq_true rfl), (Nat.le_of_ble_eq_true rfl)⟩ (kP fun r_102 k_102 => ?_)
                refine j_if_ne (tgt := 114) M dX7_copy_105 (by decide) (fun h_105 => ?_) (fun h_105 => ?_)
                · have b_102 := ifT k_102 h_105
                  refine j_iconst (v := 0) M dX7_copy_114 rfl ?_
                  refine j_istore_6 M dX7_copy_115 (by exact (by first | trivial | rfl)) ?_
                  exact lp 0 (by decide) σ b_1 b_8 h_23 h_32 h_53 h_64 b_81 b_102 (Int32.not_lt.mp h_64) (fun t t0 t1 => absurd (Int32.lt_of_le_of_lt t0 t1) (by decide)) (frm_refl _ _ _)
                · have b_102 := ifF k_102 h_105
                  refine j_aload_n M dX7_copy_108 rfl ?_
                  refine j_iconst (v := 2) M dX7_copy_109 rfl ?_
                  refine j_inv1 M lk_X7_74 (c_X7_find) rv_X7 dX7_copy_110 (Nat.le_of_ble_eq_true rfl) ⟨(Nat.le_of_ble_eq_true rfl), (Nat.le_of_ble_eq_true rfl)⟩ (kI fun r_110 σ_110 q_110 => ?_)
                  obtain ⟨rfl, e110⟩ := q_110
                  rw [e110]
                  exact j_iret M dX7_copy_113 ⟨_, rfl, by (try dsimp only); first | (simp [b_1, b_8, h_23, h_32, h_53, h_64, b_81, b_102]; done) | (rw [if_neg (fun q => q ⟨b_1, b_8⟩)]; first | (rw [if_pos (by first | exact Or.inl h_23 | exact Or.inr h_32)]; exact ⟨rfl, rfl⟩) | (rw [if_neg (fun q => q.elim h_23 h_32)]; first | (rw [if_pos h_53]; exact ⟨rfl, rfl⟩) | (rw [if_neg (fun q => q h_53)]; rw [if_pos (fun q => by first | exact b_102 q.2.2 | exact b_81 q.2.1 | exact q.1 h_64)]; exact ⟨rfl, rfl⟩)))⟩
          · refine j_aload_n M dX7_copy_56 rfl ?_
            refine j_iconst (v := 5) M dX7_copy_57 rfl ?_
            refine j_inv1 M lk_X7_74 (c_X7_find) rv_X7 dX7_copy_58 (Nat.le_of_ble_eq_true rfl) ⟨(Nat.le_of_ble_eq_true rfl), (Nat.le_of_ble_eq_true rfl)⟩ (kI fun r_58 σ_58 q_58 => ?_)
            obtain ⟨rfl, e58⟩ := q_58
            rw [e58]
            exact j_iret M dX7_copy_61 ⟨_, rfl, by (try dsimp only); first | (simp [b_1, b_8, h_23, h_32, h_53]; done) | (rw [if_neg (fun q => q ⟨b_1, b_8⟩)]; first | (rw [if_pos (by first | exact Or.inl h_23 | exact Or.inr h_32)]; exact ⟨rfl, rfl⟩) | (rw [if_neg (fun q => q.elim h_23 h_32)]; first | (rw [if_pos h_53]; exact ⟨rfl, rfl⟩) | (rw [if_neg (fun q => q h_53)]; rw [if_pos (fun q => by first | exact b_102 q.2.2 | exact b_81 q.2.1 | exact q.1 h_64)]; exact ⟨rfl, rfl⟩)))⟩
        · refine j_aload_n M dX7_copy_35 rfl ?_
          refine j_iconst (v := 1) M dX7_copy_36 rfl ?_
          refine j_inv1 M lk_X7_74 (c_X7_find) rv_X7 dX7_copy_37 (Nat.le_of_ble_eq_true rfl) ⟨(Nat.le_of_ble_eq_true rfl), (Nat.le_of_ble_eq_true rfl)⟩ (kI fun r_37 σ_37 q_37 => ?_)
          obtain ⟨rfl, e37⟩ := q_37
          rw [e37]
          exact j_iret M dX7_copy_40 ⟨_, rfl, by (try dsimp only); first | (simp [b_1, b_8, h_23, h_32]; done) | (rw [if_neg (fun q => q ⟨b_1, b_8⟩)]; first | (rw [if_pos (by first | exact Or.inl h_23 | exact Or.inr h_32)]; exact ⟨rfl, rfl⟩) | (rw [if_neg (fun q => q.elim h_23 h_32)]; first | (rw [if_pos h_53]; exact ⟨rfl, rfl⟩) | (rw [if_neg (fun q => q h_53)]; rw [if_pos (fun q => by first | exact b_102 q.2.2 | exact b_81 q.2.1 | exact q.1 h_64)]; exact ⟨rfl, rfl⟩)))⟩
    · have b_8 := ifF k_8 h_11
      refine j_ldc M k_X7_73 dX7_copy_14 ?_
      exact j_iret M dX7_copy_16 ⟨_, rfl, by (try dsimp only); first | (simp [b_1, b_8]; done) | (rw [if_neg (fun q => q ⟨b_1, b_8⟩)]; first | (rw [if_pos (by first | exact Or.inl h_23 | exact Or.inr h_32)]; exact ⟨rfl, rfl⟩) | (rw [if_neg (fun q => q.elim h_23 h_32)]; first | (rw [if_pos h_53]; exact ⟨rfl, rfl⟩) | (rw [if_neg (fun q => q h_53)]; rw [if_pos (fun q => by first | exact b_102 q.2.2 | exact b_81 q.2.1 | exact q.1 h_64)]; exact ⟨rfl, rfl⟩)))⟩
set_option maxRecDepth 100000 in
theorem c_X7_image {l : Launch} {G : Gw} {σ : Sg} {k : Int32}   : Mt l G yX7_image cX7_image 3 (some .int) 1 25 [.ref (ad G 40 0), .int k] σ (pI fun r τ => if ¬ inR 0 k 1 then r = -1000001 ∧ τ = σ else if σ 40 0 4 = 0 then r = -1000002 ∧ τ = σ else r = 1 ∧ τ 40 14 = putB (σ 40 14) (σ 40 4) (41 * k) ∧ τ 40 13 = upI (σ 40 13) k 1 ∧ frm σ τ 40 [13, 14]) := by
  refine mt_intro (by decide +kernel) (Nat.le_of_ble_eq_true rfl) (fun Φ M => ?_)
  show Φ 0 [some (.ref (ad G 40 0)), some (.int k), none] [] σ
  have lp : ∀ i : Int32, 0 ≤ i → ∀ τ : Sg, inR 0 k 1 → ¬ σ 40 0 4 = 0 → i ≤ 41 → (∀ j, 0 ≤ j → j < 82 → τ 40 14 j = if 41 * k ≤ j ∧ j < 41 * k + i then σ 40 4 (j - 41 * k) else σ 40 14 j) → frm σ τ 40 [14] → Φ 25 [some (.ref (ad G 40 0)), some (.int k), some (.int i)] [] τ := by
    refine loop_up 41 (fun i hi ih τ b_4 h_17 hle hc hfr => ?_)
    have es : τ 40 4 = σ 40 4 := hfr 40 4 (by decide)
    have e13 : τ 40 13 = σ 40 13 := hfr 40 13 (by decide)
    refine j_iload_n M dX7_image_25 rfl ?_
    refine j_bipush (v := 41) M dX7_image_26 rfl ?_
    refine j_icmp_ge (tgt := 54) M dX7_image_28 (by decide) (fun h_28 => ?_) (fun h_28 => ?_)
    · refine j_extA M (c := 40) (k := 14) (n := 82) (n' := 82) (f := putB (σ 40 14) (σ 40 4) (41 * k)) (fun _ => rfl) rfl (by decide) (fun j j0 j1 => ?_) ?_
      · have ei : i = 41 := Int32.le_antisymm hle (Int32.not_lt.mp h_28)
        rw [hc j j0 j1, ei]; rfl
      refine j_aload_n M dX7_image_54 rfl ?_
      refine gf_X7_46 M dX7_image_55 ?_
      refine j_iload_n M dX7_image_58 rfl ?_
      refine j_iconst (v := 1) M dX7_image_59 rfl ?_
      refine as_40_13 M dX7_image_60 rfl (by first | assumption | decide | exact ii.1.1 | exact ii.1.2 | exact b_4.1 | exact Int32.lt_of_le_of_lt b_4.2 (by decide)) (by first | assumption | decide | exact ii.1.1 | exact ii.1.2 | exact b_4.1 | exact Int32.lt_of_le_of_lt b_4.2 (by decide)) ?_
      refine j_iconst (v := 1) M dX7_image_61 rfl ?_
      exact j_iret M dX7_image_62 ⟨_, rfl, by (try dsimp only); rw [if_neg (fun q => q b_4), if_neg h_17]; exact ⟨rfl, by simp [up], by simp [up, e13], frm_up (frm_up (frm_mono hfr (by decide)) (by decide)) (by decide)⟩⟩
    · have ii := ix41k b_4.1 b_4.2 hi h_28
      refine j_aload_n M dX7_image_31 rfl ?_
      refine gf_X7_50 M dX7_image_32 ?_
      refine j_bipush (v := 41) M dX7_image_35 rfl ?_
      refine j_iload_n M dX7_image_37 rfl ?_
      refine j_imul M dX7_image_38 ?_
      refine j_iload_n M dX7_image_39 rfl ?_
      refine j_iadd M dX7_image_40 ?_
      refine j_aload_n M dX7_image_41 rfl ?_
      refine gf_X7_19 M dX7_image_42 ?_
      refine j_iload_n M dX7_image_45 rfl ?_
      refine al_40_4 M dX7_image_46 (by first | assumption | decide | exact ii.1.1 | exact ii.1.2 | exact b_4.1 | exact Int32.lt_of_le_of_lt b_4.2 (by decide)) (by first | assumption | decide | exact ii.1.1 | exact ii.1.2 | exact b_4.1 | exact Int32.lt_of_le_of_lt b_4.2 (by decide)) ?_
      refine as_40_14 M dX7_image_47 (by first | assumption | decide | exact ii.1.1 | exact ii.1.2 | exact b_4.1 | exact Int32.lt_of_le_of_lt b_4.2 (by decide)) (by first | assumption | decide | exact ii.1.1 | exact ii.1.2 | exact b_4.1 | exact Int32.lt_of_le_of_lt b_4.2 (by decide)) ?_
      refine j_iinc_2 M dX7_image_48 (show _ + Int32.ofInt 1 = _ + 1 from rfl) (by exact (by first | trivial | rfl)) ?_
      refine j_goto (tgt := 25) M dX7_image_51 (by decide) ?_
      exact ih h_28 _ b_4 h_17 (inc_lt hi h_28).2.1 (by rw [up_same, es]; exact putB_step ii.2.1 ii.2.2 hi h_28 hc) (frm_up hfr (by decide))
  refine j_iload_n M dX7_image_0 rfl ?_
  refine j_i2l M dX7_image_1 ?_
  refine j_lconst (v := 0) M dX7_image_2 rfl ?_
  refine j_lconst (v := 1) M dX7_image_3 rfl ?_
  refine j_invs3 M lk_X7_63 (c_X7_inI (a := 0) (b := 1) rfl (by decide) (by decide)) dX7_image_4 (Nat.le_of_ble_eq_true rfl) ⟨(Nat.le_of_ble_eq_true rfl), (Nat.le_of_ble_eq_true rfl)⟩ (kP fun r_4 k_4 => ?_)
  refine j_if_ne (tgt := 13) M dX7_image_7 (by decide) (fun h_7 => ?_) (fun h_7 => ?_)
  · have b_4 := ifT k_4 h_7
    refine j_aload_n M dX7_image_13 rfl ?_
    refine gf_X7_147 M dX7_image_14 ?_
    refine j_if_ne (tgt := 23) M dX7_image_17 (by decide) (fun h_17 => ?_) (fun h_17 => ?_)
    · refine j_iconst (v := 0) M dX7_image_23 rfl ?_
      refine j_istore_2 M dX7_image_24 (by exact (by first | trivial | rfl)) ?_
      exact lp 0 (by decide) σ b_4 h_17 (by decide) (fun j j0 j1 => putB_0 j) (frm_refl _ _ _)
    · refine j_ldc M k_X7_181 dX7_image_20 ?_
      exact j_iret M dX7_image_22 ⟨_, rfl, by (try dsimp only); simp [b_4, h_17]⟩
  · have b_4 := ifF k_4 h_7
    refine j_ldc M k_X7_73 dX7_image_10 ?_
    exact j_iret M dX7_image_12 ⟨_, rfl, by (try dsimp only); simp [b_4]⟩
set_option maxRecDepth 100000 in
theorem c_X7_restore {l : Launch} {G : Gw} {σ : Sg} {k : Int32}   : Mt l G yX7_restore cX7_restore 3 (some .int) 1 25 [.ref (ad G 40 0), .int k] σ (pI fun r τ => if ¬ inR 0 k 1 then r = -1000001 ∧ τ = σ else if σ 40 13 k = 0 then r = -1000002 ∧ τ = σ else r = 1 ∧ τ 40 4 = getB (σ 40 14) (41 * k) ∧ τ 40 0 = upI (σ 40 0) 18 0 ∧ frm σ τ 40 [0, 4]) := by
  refine mt_intro (by decide +kernel) (Nat.le_of_ble_eq_true rfl) (fun Φ M => ?_)
  show Φ 0 [some (.ref (ad G 40 0)), some (.int k), none] [] σ
  have lp : ∀ i : Int32, 0 ≤ i → ∀ τ : Sg, inR 0 k 1 → ¬ σ 40 13 k = 0 → i ≤ 41 → (∀ j, 0 ≤ j → j < i → τ 40 4 j = σ 40 14 (41 * k + j)) → frm σ τ 40 [4] → Φ 27 [some (.ref (ad G 40 0)), some (.int k), some (.int i)] [] τ := by
    refine loop_up 41 (fun i hi ih τ b_4 h_19 hle hc hfr => ?_)
    have e9 : τ 40 14 = σ 40 14 := hfr 40 14 (by decide)
    have e0 : τ 40 0 = σ 40 0 := hfr 40 0 (by decide)
    refine j_iload_n M dX7_restore_27 rfl ?_
    refine j_bipush (v := 41) M dX7_restore_28 rfl ?_
    refine j_icmp_ge (tgt := 56) M dX7_restore_30 (by decide) (fun h_30 => ?_) (fun h_30 => ?_)
    · refine j_extA M (c := 40) (k := 4) (n := 41) (n' := 41) (f := getB (σ 40 14) (41 * k)) (fun _ => rfl) rfl (by decide) (fun j j0 j1 => (hc j j0 (Int32.lt_of_lt_of_le j1 (Int32.not_lt.mp h_30))).symm) ?_
      refine j_aload_n M dX7_restore_56 rfl ?_
      refine j_iconst (v := 0) M dX7_restore_57 rfl ?_
      refine pf_X7_151 M dX7_restore_58 ?_
      refine j_iconst (v := 1) M dX7_restore_61 rfl ?_
      exact j_iret M dX7_restore_62 ⟨_, rfl, by (try dsimp only); rw [if_neg (fun q => q b_4), if_neg h_19]; exact ⟨rfl, by simp [up], by simp [up, e0], frm_up (frm_up (frm_mono hfr (by decide)) (by decide)) (by decide)⟩⟩
    · have ii := ix41k b_4.1 b_4.2 hi h_30
      refine j_aload_n M dX7_restore_33 rfl ?_
      refine gf_X7_19 M dX7_restore_34 ?_
      refine j_iload_n M dX7_restore_37 rfl ?_
      refine j_aload_n M dX7_restore_38 rfl ?_
      refine gf_X7_50 M dX7_restore_39 ?_
      refine j_bipush (v := 41) M dX7_restore_42 rfl ?_
      refine j_iload_n M dX7_restore_44 rfl ?_
      refine j_imul M dX7_restore_45 ?_
      refine j_iload_n M dX7_restore_46 rfl ?_
      refine j_iadd M dX7_restore_47 ?_
      refine al_40_14 M dX7_restore_48 (by first | assumption | decide | exact ii.1.1 | exact ii.1.2) (by first | assumption | decide | exact ii.1.1 | exact ii.1.2) ?_
      refine as_40_4 M dX7_restore_49 (by first | assumption | decide | exact ii.1.1 | exact ii.1.2) (by first | assumption | decide | exact ii.1.1 | exact ii.1.2) ?_
      refine j_iinc_2 M dX7_restore_50 (show _ + Int32.ofInt 1 = _ + 1 from rfl) (by exact (by first | trivial | rfl)) ?_
      refine j_goto (tgt := 27) M dX7_restore_53 (by decide) ?_
      refine ih h_30 _ b_4 h_19 (inc_lt hi h_30).2.1 ?_ (frm_up hfr (by decide))
      intro j j0 j1
      rw [up_same, e9]
      by_cases e : j = i
      · rw [e, upI_same]
      · rw [upI_ne _ _ e]; exact hc j j0 (lt_of_inc hi h_30 j1 e)
  refine j_iload_n M dX7_restore_0 rfl ?_
  refine j_i2l M dX7_restore_1 ?_
  refine j_lconst (v := 0) M dX7_restore_2 rfl ?_
  refine j_lconst (v := 1) M dX7_restore_3 rfl ?_
  refine j_invs3 M lk_X7_63 (c_X7_inI (a := 0) (b := 1) rfl (by decide) (by decide)) dX7_restore_4 (Nat.le_of_ble_eq_true rfl) ⟨(Nat.le_of_ble_eq_true rfl), (Nat.le_of_ble_eq_true rfl)⟩ (kP fun r_4 k_4 => ?_)
  refine j_if_ne (tgt := 13) M dX7_restore_7 (by decide) (fun h_7 => ?_) (fun h_7 => ?_)
  · have b_4 := ifT k_4 h_7
    refine j_aload_n M dX7_restore_13 rfl ?_
    refine gf_X7_46 M dX7_restore_14 ?_
    refine j_iload_n M dX7_restore_17 rfl ?_
    refine al_40_13 M dX7_restore_18 (by first | assumption | decide | exact b_4.1 | exact Int32.lt_of_le_of_lt b_4.2 (by decide)) (by first | assumption | decide | exact b_4.1 | exact Int32.lt_of_le_of_lt b_4.2 (by decide)) ?_
    refine j_if_ne (tgt := 25) M dX7_restore_19 (by decide) (fun h_19 => ?_) (fun h_19 => ?_)
    · refine j_iconst (v := 0) M dX7_restore_25 rfl ?_
      refine j_istore_2 M dX7_restore_26 (by exact (by first | trivial | rfl)) ?_
      exact lp 0 (by decide) σ b_4 h_19 (by decide) (fun j j0 j1 => absurd (Int32.lt_of_le_of_lt j0 j1) (by decide)) (frm_refl _ _ _)
    · refine j_ldc M k_X7_181 dX7_restore_22 ?_
      exact j_iret M dX7_restore_24 ⟨_, rfl, by (try dsimp only); simp [b_4, h_19]⟩
  · have b_4 := ifF k_4 h_7
    refine j_ldc M k_X7_73 dX7_restore_10 ?_
    exact j_iret M dX7_restore_12 ⟨_, rfl, by (try dsimp only); simp [b_4]⟩
set_option maxRecDepth 100000 in
theorem c_X7_count {l : Launch} {G : Gw} {σ : Sg} {w : Int32}  (hS : SW (σ 40 4)) : Mt l G yX7_count cX7_count 5 (some .int) 1 22 [.ref (ad G 40 0), .int w] σ (pI fun r τ => τ = σ ∧ r = countR (σ 40 2) (σ 40 4) (σ 40 0 18) (σ 40 0 8) w) := by
  refine mt_intro (by decide +kernel) (Nat.le_of_ble_eq_true rfl) (fun Φ M => ?_)
  show Φ 0 [some (.ref (ad G 40 0)), some (.int w), none, none, none] [] σ
  have lp2 : ∀ i : Int32, 0 ≤ i → ∀ z : Int32, i ≤ σ 40 4 1 → z = dustT (σ 40 4) i → Φ 38 [some (.ref (ad G 40 0)), some (.int w), some (.int (rowsC (σ 40 2) 8)), some (.int z), some (.int i)] [] σ := by
    refine loop_up (σ 40 4 1) (fun i hi ih z hle hz => ?_)
    refine j_iload M dX7_count_38 rfl ?_
    refine j_aload_n M dX7_count_40 rfl ?_
    refine gf_X7_19 M dX7_count_41 ?_
    refine j_iconst (v := 1) M dX7_count_44 rfl ?_
    refine al_40_4 M dX7_count_45 (by first | assumption | decide) (by first | assumption | decide) ?_
    refine j_icmp_ge (tgt := 68) M dX7_count_46 (by decide) (fun h_46 => ?_) (fun h_46 => ?_)
    · have ei : i = σ 40 4 1 := Int32.le_antisymm hle (Int32.not_lt.mp h_46)
      rw [ei] at hz
      subst hz
      refine j_iload_n M dX7_count_68 rfl ?_
      refine j_tab8 (t0 := 116) (t1 := 118) (t2 := 125) (t3 := 132) (t4 := 139) (t5 := 144) (t6 := 146) (t7 := 151) (td := 156) M dX7_count_69 (by decide) (by decide) (by decide) (by decide) (by decide) (by decide) (by decide) (by decide) (by decide) (fun h_69 => ?_) (fun h_69 => ?_) (fun h_69 => ?_) (fun h_69 => ?_) (fun h_69 => ?_) (fun h_69 => ?_) (fun h_69 => ?_) (fun h_69 => ?_) (fun h_69 => ?_)
      · refine j_iload_n M dX7_count_116 rfl ?_
        exact j_iret M dX7_count_117 ⟨_, rfl, by (try dsimp only); refine ⟨rfl, ?_⟩; first | (simp [countR, h_69]; done) | (have n := nt8 h_69; simp [countR, n]; done)⟩
      · refine j_aload_n M dX7_count_118 rfl ?_
        refine gf_X7_19 M dX7_count_119 ?_
        refine j_iconst (v := 0) M dX7_count_122 rfl ?_
        refine al_40_4 M dX7_count_123 (by first | assumption | decide) (by first | assumption | decide) ?_
        exact j_iret M dX7_count_124 ⟨_, rfl, by (try dsimp only); refine ⟨rfl, ?_⟩; first | (simp [countR, h_69]; done) | (have n := nt8 h_69; simp [countR, n]; done)⟩
      · refine j_aload_n M dX7_count_125 rfl ?_
        refine gf_X7_19 M dX7_count_126 ?_
        refine j_iconst (v := 1) M dX7_count_129 rfl ?_
        refine al_40_4 M dX7_count_130 (by first | assumption | decide) (by first | assumption | decide) ?_
        exact j_iret M dX7_count_131 ⟨_, rfl, by (try dsimp only); refine ⟨rfl, ?_⟩; first | (simp [countR, h_69]; done) | (have n := nt8 h_69; simp [countR, n]; done)⟩
      · refine j_aload_n M dX7_count_132 rfl ?_
        refine gf_X7_19 M dX7_count_133 ?_
        refine j_iconst (v := 4) M dX7_count_136 rfl ?_
        refine al_40_4 M dX7_count_137 (by first | assumption | decide) (by first | assumption | decide) ?_
        exact j_iret M dX7_count_138 ⟨_, rfl, by (try dsimp only); refine ⟨rfl, ?_⟩; first | (simp [countR, h_69]; done) | (have n := nt8 h_69; simp [countR, n]; done)⟩
      · refine j_aload_n M dX7_count_139 rfl ?_
        refine j_inv0 M lk_X7_190 (c_X7_allPages (hS.z)) rv_X7 dX7_count_140 (Nat.le_of_ble_eq_true rfl) ⟨(Nat.le_of_ble_eq_true rfl), (Nat.le_of_ble_eq_true rfl)⟩ (kE ?_)
        exact j_iret M dX7_count_143 ⟨_, rfl, by (try dsimp only); refine ⟨rfl, ?_⟩; first | (simp [countR, h_69]; done) | (have n := nt8 h_69; simp [countR, n]; done)⟩
      · refine j_iload_n M dX7_count_144 rfl ?_
        exact j_iret M dX7_count_145 ⟨_, rfl, by (try dsimp only); refine ⟨rfl, ?_⟩; first | (simp [countR, h_69]; done) | (have n := nt8 h_69; simp [countR, n]; done)⟩
      · refine j_aload_n M dX7_count_146 rfl ?_
        refine gf_X7_151 M dX7_count_147 ?_
        exact j_iret M dX7_count_150 ⟨_, rfl, by (try dsimp only); refine ⟨rfl, ?_⟩; first | (simp [countR, h_69]; done) | (have n := nt8 h_69; simp [countR, n]; done)⟩
      · refine j_aload_n M dX7_count_151 rfl ?_
        refine gf_X7_87 M dX7_count_152 ?_
        exact j_iret M dX7_count_155 ⟨_, rfl, by (try dsimp only); refine ⟨rfl, ?_⟩; first | (simp [countR, h_69]; done) | (have n := nt8 h_69; simp [countR, n]; done)⟩
      · refine j_ldc M k_X7_73 dX7_count_156 ?_
        exact j_iret M dX7_count_158 ⟨_, rfl, by (try dsimp only); refine ⟨rfl, ?_⟩; first | (simp [countR, h_69]; done) | (have n := nt8 h_69; simp [countR, n]; done)⟩
    · obtain ⟨⟨⟨_, _⟩, ⟨_, _⟩⟩, ⟨_, _⟩⟩ := ixT hi (Int32.lt_of_lt_of_le h_46 hS.z.2.2.2)
      refine j_iload_n M dX7_count_49 rfl ?_
      refine j_aload_n M dX7_count_50 rfl ?_
      refine gf_X7_19 M dX7_count_51 ?_
      refine j_bipush (v := 36) M dX7_count_54 rfl ?_
      refine j_iload M dX7_count_56 rfl ?_
      refine j_iadd M dX7_count_58 ?_
      refine al_40_4 M dX7_count_59 (by first | assumption | decide) (by first | assumption | decide) ?_
      refine j_iadd M dX7_count_60 ?_
      refine j_istore_3 M dX7_count_61 (by exact (by first | trivial | rfl)) ?_
      refine j_iinc_4 M dX7_count_62 (show _ + Int32.ofInt 1 = _ + 1 from rfl) (by exact (by first | trivial | rfl)) ?_
      refine j_goto (tgt := 38) M dX7_count_65 (by decide) ?_
      exact ih h_46 _ (inc_lt hi h_46).2.1 (by unfold dustT at hz ⊢; rw [foldI_s _ _ hi h_46, ← hz])
  have lp : ∀ i : Int32, 0 ≤ i → ∀ z : Int32, i ≤ 8 → z = rowsC (σ 40 2) i → Φ 4 [some (.ref (ad G 40 0)), some (.int w), some (.int z), some (.int i), none] [] σ := by
    refine loop_up 8 (fun i hi ih z hle hz => ?_)
    refine j_iload_n M dX7_count_4 rfl ?_
    refine j_bipush (v := 8) M dX7_count_5 rfl ?_
    refine j_icmp_ge (tgt := 33) M dX7_count_7 (by decide) (fun h_7 => ?_) (fun h_7 => ?_)
    · have ei : i = 8 := Int32.le_antisymm hle (Int32.not_lt.mp h_7)
      rw [ei] at hz
      subst hz
      refine j_iconst (v := 0) M dX7_count_33 rfl ?_
      refine j_istore_3 M dX7_count_34 (by exact (by first | trivial | rfl)) ?_
      refine j_iconst (v := 0) M dX7_count_35 rfl ?_
      refine j_istore_4 M dX7_count_36 (by exact (by first | trivial | rfl)) ?_
      exact lp2 0 (by decide) _ hS.z.2.2.1 rfl
    · refine j_iload_n M dX7_count_10 rfl ?_
      refine j_aload_n M dX7_count_11 rfl ?_
      refine gf_X7_13 M dX7_count_12 ?_
      refine j_iload_n M dX7_count_15 rfl ?_
      refine al_40_2 M dX7_count_16 (by first | assumption | decide) (by first | assumption | decide) ?_
      refine j_if_lt (tgt := 24) M dX7_count_17 (by decide) (fun h_17 => ?_) (fun h_17 => ?_)
      · refine j_iconst (v := 0) M dX7_count_24 rfl ?_
        refine j_iadd M dX7_count_25 ?_
        refine j_istore_2 M dX7_count_26 (by exact (by first | trivial | rfl)) ?_
        refine j_iinc_3 M dX7_count_27 (show _ + Int32.ofInt 1 = _ + 1 from rfl) (by exact (by first | trivial | rfl)) ?_
        refine j_goto (tgt := 4) M dX7_count_30 (by decide) ?_
        exact ih h_7 _ (inc_lt hi h_7).2.1 (by unfold rowsC at hz ⊢; rw [foldI_s _ _ hi h_7, ← hz]; simp [h_17])
      · refine j_iconst (v := 1) M dX7_count_20 rfl ?_
        refine j_goto (tgt := 25) M dX7_count_21 (by decide) ?_
        refine j_iadd M dX7_count_25 ?_
        refine j_istore_2 M dX7_count_26 (by exact (by first | trivial | rfl)) ?_
        refine j_iinc_3 M dX7_count_27 (show _ + Int32.ofInt 1 = _ + 1 from rfl) (by exact (by first | trivial | rfl)) ?_
        refine j_goto (tgt := 4) M dX7_count_30 (by decide) ?_
        exact ih h_7 _ (inc_lt hi h_7).2.1 (by unfold rowsC at hz ⊢; rw [foldI_s _ _ hi h_7, ← hz]; simp [h_17])
  refine j_iconst (v := 0) M dX7_count_0 rfl ?_
  refine j_istore_2 M dX7_count_1 (by exact (by first | trivial | rfl)) ?_
  refine j_iconst (v := 0) M dX7_count_2 rfl ?_
  refine j_istore_3 M dX7_count_3 (by exact (by first | trivial | rfl)) ?_
  exact lp 0 (by decide) _ (by decide) rfl
