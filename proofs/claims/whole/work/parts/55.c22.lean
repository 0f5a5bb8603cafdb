theorem tok_e {T : St} {N k : Nat} {f : St} (h : Tok T N f k) : f 11 = 3 ↔ k = N := by
  obtain ⟨⟨a1, a2, a3, a4⟩, b, d, e⟩ := h
  constructor
  · intro q
    by_cases hN : k = N
    · exact hN
    · by_cases hd : dg T N k
      · by_cases h2 : re T N k ≤ k + 2
        · rw [((d hd).2.1 h2).1] at q; exact absurd q (by decide)
        · rw [(d hd).2.2 h2] at q; exact absurd q (by decide)
      · have g := (e (by omega) hd).2.2
        rw [g] at q
        split at q <;> exact absurd q (by decide)
  · exact fun q => (b q).1
set_option maxRecDepth 100000 in
theorem c_X7_readLibrary {l : Launch} {G : Gw} {σ : Sg}  {N : Nat} (hN : N ≤ 120) (h8 : σ 40 0 8 = nI N) : Mt l G yX7_readLibrary cX7_readLibrary 3 (some .boolean) 5 112 [.ref (ad G 40 0)] σ (pI fun r τ => resP σ τ N r (libP (σ 40 6) N)) := by
  refine mt_intro (by decide +kernel) (Nat.le_of_ble_eq_true rfl) (fun Φ M => ?_)
  show Φ 0 [some (.ref (ad G 40 0)), none, none] [] σ
  have hN31 : N < 2147483648 := by omega
  have lpX : ∀ (x : Option Value) (τ : Sg), resP σ τ N 0 (libP (σ 40 6) N) → Φ 69 [some (.ref (ad G 40 0)), some (.int 0), x] [] τ := by
    intro x τ hq
    refine j_iload_n M dX7_readLibrary_69 rfl ?_
    refine j_if_eq (tgt := 147) M dX7_readLibrary_70 (by decide) (fun h_70 => ?_) (fun h_70 => ?_)
    · refine j_iload_n M dX7_readLibrary_147 rfl ?_
      exact j_zret M dX7_readLibrary_148 (by first | exact Or.inl rfl | exact Or.inr rfl | exact bitv_01 _ _ | assumption | (exact res_01 (by assumption)) | grind) ⟨_, rfl, by (try dsimp only); exact hq⟩
    · exact absurd rfl h_70
  have lp : ∀ (f k : Nat) (τ : Sg), N < k + f → Tok (σ 40 6) N (τ 40 0) k → RI (τ 40 7) → fld4 σ τ → frm σ τ 40 [0, 7] → libP (σ 40 6) N = itm (σ 40 6) N f k (τ 40 7) → Φ 69 [some (.ref (ad G 40 0)), some (.int 1), none] [] τ := by
    intro f
    induction f with
    | zero => intro k τ hf hT; exact absurd hT.1.1 (by omega)
    | succ f ih =>
      intro k τ hf hT hR hfd hfr hl
      have e6 : τ 40 6 = σ 40 6 := hfr 40 6 (by decide)
      have hT6 : Tok (τ 40 6) N (τ 40 0) k := by rw [e6]; exact hT
      have te := tok_e hT
      have tk := tok_k hT
      unfold itm at hl
      refine j_iload_n M dX7_readLibrary_69 rfl ?_
      refine j_if_eq (tgt := 147) M dX7_readLibrary_70 (by decide) (fun h_70 => ?_) (fun h_70 => ?_)
      · exact absurd h_70 (by decide)
      · refine j_aload_n M dX7_readLibrary_73 rfl ?_
        refine gf_X7_97 M dX7_readLibrary_74 ?_
        refine j_iconst (v := 3) M dX7_readLibrary_77 rfl ?_
        refine j_icmp_ne (tgt := 90) M dX7_readLibrary_78 (by decide) (fun h_78 => ?_) (fun h_78 => ?_)
        · refine j_aload_n M dX7_readLibrary_90 rfl ?_
          refine gf_X7_97 M dX7_readLibrary_91 ?_
          refine j_iconst (v := 1) M dX7_readLibrary_94 rfl ?_
          refine j_icmp_ne (tgt := 108) M dX7_readLibrary_95 (by decide) (fun h_95 => ?_) (fun h_95 => ?_)
          · refine j_iconst (v := 0) M dX7_readLibrary_108 rfl ?_
            refine j_istore_2 M dX7_readLibrary_109 (by exact (by first | trivial | rfl)) ?_
            refine j_iload_n M dX7_readLibrary_110 rfl ?_
            refine j_if_le (tgt := 122) M dX7_readLibrary_111 (by decide) (fun h_111 => ?_) (fun h_111 => ?_)
            · have kp : ¬ 0 < kdAt (σ 40 6) N k := by rw [tk.2 h_95]; decide
              rw [if_neg (fun q => h_78 (te.mpr q.1)), if_neg kp] at hl
              refine j_aload_n M dX7_readLibrary_122 rfl ?_
              refine j_bipush (v := 98) M dX7_readLibrary_123 rfl ?_
              refine j_inv1 M lk_X7_114 (c_X7_isLetter) rv_X7 dX7_readLibrary_125 (Nat.le_of_ble_eq_true rfl) ⟨(Nat.le_of_ble_eq_true rfl), (Nat.le_of_ble_eq_true rfl)⟩ (kP fun r_125 k_125 => ?_)
              refine j_if_eq (tgt := 138) M dX7_readLibrary_128 (by decide) (fun h_128 => ?_) (fun h_128 => ?_)
              · have b_125 := ifF k_125 h_128
                rw [if_neg (fun q => b_125 ((tok_l hT (c := 98) (by decide)).mpr q))] at hl
                refine j_aload_n M dX7_readLibrary_138 rfl ?_
                refine j_iconst (v := 1) M dX7_readLibrary_139 rfl ?_
                refine j_inv1 M lk_X7_117 (c_X7_faults) rv_X7 dX7_readLibrary_140 (Nat.le_of_ble_eq_true rfl) ⟨(Nat.le_of_ble_eq_true rfl), (Nat.le_of_ble_eq_true rfl)⟩ (kI fun r_140 σ_140 q_140 => ?_)
                obtain ⟨rfl, e140⟩ := q_140
                rw [e140]
                refine j_istore_1 M dX7_readLibrary_143 (by exact (by first | trivial | rfl)) ?_
                refine j_goto (tgt := 69) M dX7_readLibrary_144 (by decide) ?_
                exact lpX _ _ (by rw [hl]; exact res_fail hT.1.2.2.2 rfl hfd hfr)
              · have b_125 := ifT k_125 h_128
                have kb := (tok_l hT (c := 98) (by decide)).mp b_125
                rw [if_pos kb] at hl
                refine j_aload_n M dX7_readLibrary_131 rfl ?_
                refine j_inv0 M lk_X7_136 (c_X7_readBook (hT6) (kb.1) ((by rw [e6]; exact kb.2)) (hR.1.1)) rv_X7 dX7_readLibrary_132 (Nat.le_of_ble_eq_true rfl) ⟨(Nat.le_of_ble_eq_true rfl), (Nat.le_of_ble_eq_true rfl)⟩ (kI fun r_132 σ_132 q_132 => ?_)
                rw [e6] at q_132
                have q1 := res_tr q_132 e6 hfd hfr
                refine j_goto (tgt := 143) M dX7_readLibrary_135 (by decide) ?_
                refine j_istore_1 M dX7_readLibrary_143 (by exact (by first | trivial | rfl)) ?_
                refine j_goto (tgt := 69) M dX7_readLibrary_144 (by decide) ?_
                refine j_forget M (L' := [some (.ref (ad G 40 0)), some (.int _), none]) (by repeat' (first | exact True.intro | refine ⟨rfl, ?_⟩)) ?_
                rcases res_01 q1 with e | e
                · rw [e]
                  have o := res_0 q1 e
                  exact lpX _ _ (by rw [hl, bind_f o.2]; exact o.1)
                · rw [e]
                  have o := res_1 q1 (by rw [e]; decide)
                  have k1 := book_ok hR o.2
                  exact ih _ σ_132 (by have := k1.1; omega) (o.1.2.1 o.2) (by rw [o.1.2.2.2.1]; exact k1.2) o.1.2.2.2.2.1 o.1.2.2.2.2.2 (by rw [hl, bind_t o.2, o.1.2.2.2.1])
            · exact absurd h_111 (by decide)
          · refine j_aload_n M dX7_readLibrary_98 rfl ?_
            refine gf_X7_100 M dX7_readLibrary_99 ?_
            refine j_invs1 M lk_X7_130 (c_X7_kindBy) dX7_readLibrary_102 (Nat.le_of_ble_eq_true rfl) ⟨(Nat.le_of_ble_eq_true rfl), (Nat.le_of_ble_eq_true rfl)⟩ (kE ?_)
            refine j_goto (tgt := 109) M dX7_readLibrary_105 (by decide) ?_
            refine j_istore_2 M dX7_readLibrary_109 (by exact (by first | trivial | rfl)) ?_
            refine j_iload_n M dX7_readLibrary_110 rfl ?_
            refine j_if_le (tgt := 122) M dX7_readLibrary_111 (by decide) (fun h_111 => ?_) (fun h_111 => ?_)
            · have kp : ¬ 0 < kdAt (σ 40 6) N k := by rw [← tk.1 h_95]; exact h_111
              rw [if_neg (fun q => h_78 (te.mpr q.1)), if_neg kp] at hl
              refine j_aload_n M dX7_readLibrary_122 rfl ?_
              refine j_bipush (v := 98) M dX7_readLibrary_123 rfl ?_
              refine j_inv1 M lk_X7_114 (c_X7_isLetter) rv_X7 dX7_readLibrary_125 (Nat.le_of_ble_eq_true rfl) ⟨(Nat.le_of_ble_eq_true rfl), (Nat.le_of_ble_eq_true rfl)⟩ (kP fun r_125 k_125 => ?_)
              refine j_if_eq (tgt := 138) M dX7_readLibrary_128 (by decide) (fun h_128 => ?_) (fun h_128 => ?_)
              · have b_125 := ifF k_125 h_128
                rw [if_neg (fun q => b_125 ((tok_l hT (c := 98) (by decide)).mpr q))] at hl
                refine j_aload_n M dX7_readLibrary_138 rfl ?_
                refine j_iconst (v := 1) M dX7_readLibrary_139 rfl ?_
                refine j_inv1 M lk_X7_117 (c_X7_faults) rv_X7 dX7_readLibrary_140 (Nat.le_of_ble_eq_true rfl) ⟨(Nat.le_of_ble_eq_true rfl), (Nat.le_of_ble_eq_true rfl)⟩ (kI fun r_140 σ_140 q_140 => ?_)
                obtain ⟨rfl, e140⟩ := q_140
                rw [e140]
                refine j_istore_1 M dX7_readLibrary_143 (by exact (by first | trivial | rfl)) ?_
                refine j_goto (tgt := 69) M dX7_readLibrary_144 (by decide) ?_
                exact lpX _ _ (by rw [hl]; exact res_fail hT.1.2.2.2 rfl hfd hfr)
              · have b_125 := ifT k_125 h_128
                have kb := (tok_l hT (c := 98) (by decide)).mp b_125
                rw [if_pos kb] at hl
                refine j_aload_n M dX7_readLibrary_131 rfl ?_
                refine j_inv0 M lk_X7_136 (c_X7_readBook (hT6) (kb.1) ((by rw [e6]; exact kb.2)) (hR.1.1)) rv_X7 dX7_readLibrary_132 (Nat.le_of_ble_eq_true rfl) ⟨(Nat.le_of_ble_eq_true rfl), (Nat.le_of_ble_eq_true rfl)⟩ (kI fun r_132 σ_132 q_132 => ?_)
                rw [e6] at q_132
                have q1 := res_tr q_132 e6 hfd hfr
                refine j_goto (tgt := 143) M dX7_readLibrary_135 (by decide) ?_
                refine j_istore_1 M dX7_readLibrary_143 (by exact (by first | trivial | rfl)) ?_
                refine j_goto (tgt := 69) M dX7_readLibrary_144 (by decide) ?_
                refine j_forget M (L' := [some (.ref (ad G 40 0)), some (.int _), none]) (by repeat' (first | exact True.intro | refine ⟨rfl, ?_⟩)) ?_
                rcases res_01 q1 with e | e
                · rw [e]
                  have o := res_0 q1 e
                  exact lpX _ _ (by rw [hl, bind_f o.2]; exact o.1)
                · rw [e]
                  have o := res_1 q1 (by rw [e]; decide)
                  have k1 := book_ok hR o.2
                  exact ih _ σ_132 (by have := k1.1; omega) (o.1.2.1 o.2) (by rw [o.1.2.2.2.1]; exact k1.2) o.1.2.2.2.2.1 o.1.2.2.2.2.2 (by rw [hl, bind_t o.2, o.1.2.2.2.1])
            · have ek := tk.1 h_95
              have kp : 0 < kdAt (σ 40 6) N k := by rw [← ek]; exact h_111
              rw [if_neg (fun q => h_78 (te.mpr q.1)), if_pos kp] at hl
              refine j_aload_n M dX7_readLibrary_114 rfl ?_
              refine j_iload_n M dX7_readLibrary_115 rfl ?_
              refine j_inv1 M lk_X7_133 (c_X7_readFish (hT6) ((kd_let kp).1) ((by rw [e6]; exact (kd_let kp).2)) (hR.1.2.1)) rv_X7 dX7_readLibrary_116 (Nat.le_of_ble_eq_true rfl) ⟨(Nat.le_of_ble_eq_true rfl), (Nat.le_of_ble_eq_true rfl)⟩ (kI fun r_116 σ_116 q_116 => ?_)
              rw [e6, ek] at q_116
              have q1 := res_tr q_116 e6 hfd hfr
              refine j_goto (tgt := 143) M dX7_readLibrary_119 (by decide) ?_
              refine j_istore_1 M dX7_readLibrary_143 (by exact (by first | trivial | rfl)) ?_
              refine j_goto (tgt := 69) M dX7_readLibrary_144 (by decide) ?_
              refine j_forget M (L' := [some (.ref (ad G 40 0)), some (.int _), none]) (by repeat' (first | exact True.intro | refine ⟨rfl, ?_⟩)) ?_
              rcases res_01 q1 with e | e
              · rw [e]
                have o := res_0 q1 e
                exact lpX _ _ (by rw [hl, bind_f o.2]; exact o.1)
              · rw [e]
                have o := res_1 q1 (by rw [e]; decide)
                have k1 := fish_ok hR (kd_rng kp).1 (kd_rng kp).2 o.2
                exact ih _ σ_116 (by have := k1.1; omega) (o.1.2.1 o.2) (by rw [o.1.2.2.2.1]; exact k1.2.1) o.1.2.2.2.2.1 o.1.2.2.2.2.2 (by rw [hl, bind_t o.2, o.1.2.2.2.1])
        · refine j_aload_n M dX7_readLibrary_81 rfl ?_
          refine gf_X7_28 M dX7_readLibrary_82 ?_
          refine j_iconst (v := 1) M dX7_readLibrary_85 rfl ?_
          refine al_40_7 M dX7_readLibrary_86 (by first | assumption | decide) (by first | assumption | decide) ?_
          refine j_if_ne (tgt := 147) M dX7_readLibrary_87 (by decide) (fun h_87 => ?_) (fun h_87 => ?_)
          · refine j_iload_n M dX7_readLibrary_147 rfl ?_
            exact j_zret M dX7_readLibrary_148 (by first | exact Or.inl rfl | exact Or.inr rfl | exact bitv_01 _ _ | assumption | (exact res_01 (by assumption)) | grind) ⟨_, rfl, by (try dsimp only); rw [hl, if_pos ⟨te.mp h_78, h_87⟩]; exact ⟨by simp, fun _ => hT, fun e => absurd e (by simp), rfl, hfd, hfr⟩⟩
          · refine j_aload_n M dX7_readLibrary_90 rfl ?_
            refine gf_X7_97 M dX7_readLibrary_91 ?_
            refine j_iconst (v := 1) M dX7_readLibrary_94 rfl ?_
            refine j_icmp_ne (tgt := 108) M dX7_readLibrary_95 (by decide) (fun h_95 => ?_) (fun h_95 => ?_)
            · refine j_iconst (v := 0) M dX7_readLibrary_108 rfl ?_
              refine j_istore_2 M dX7_readLibrary_109 (by exact (by first | trivial | rfl)) ?_
              refine j_iload_n M dX7_readLibrary_110 rfl ?_
              refine j_if_le (tgt := 122) M dX7_readLibrary_111 (by decide) (fun h_111 => ?_) (fun h_111 => ?_)
              · have kp : ¬ 0 < kdAt (σ 40 6) N k := by rw [tk.2 h_95]; decide
                rw [if_neg (fun q => q.2 h_87), if_neg kp] at hl
                refine j_aload_n M dX7_readLibrary_122 rfl ?_
                refine j_bipush (v := 98) M dX7_readLibrary_123 rfl ?_
                refine j_inv1 M lk_X7_114 (c_X7_isLetter) rv_X7 dX7_readLibrary_125 (Nat.le_of_ble_eq_true rfl) ⟨(Nat.le_of_ble_eq_true rfl), (Nat.le_of_ble_eq_true rfl)⟩ (kP fun r_125 k_125 => ?_)
                refine j_if_eq (tgt := 138) M dX7_readLibrary_128 (by decide) (fun h_128 => ?_) (fun h_128 => ?_)
                · have b_125 := ifF k_125 h_128
                  rw [if_neg (fun q => b_125 ((tok_l hT (c := 98) (by decide)).mpr q))] at hl
                  refine j_aload_n M dX7_readLibrary_138 rfl ?_
                  refine j_iconst (v := 1) M dX7_readLibrary_139 rfl ?_
                  refine j_inv1 M lk_X7_117 (c_X7_faults) rv_X7 dX7_readLibrary_140 (Nat.le_of_ble_eq_true rfl) ⟨(Nat.le_of_ble_eq_true rfl), (Nat.le_of_ble_eq_true rfl)⟩ (kI fun r_140 σ_140 q_140 => ?_)
                  obtain ⟨rfl, e140⟩ := q_140
                  rw [e140]
                  refine j_istore_1 M dX7_readLibrary_143 (by exact (by first | trivial | rfl)) ?_
                  refine j_goto (tgt := 69) M dX7_readLibrary_144 (by decide) ?_
                  exact lpX _ _ (by rw [hl]; exact res_fail hT.1.2.2.2 rfl hfd hfr)
                · have b_125 := ifT k_125 h_128
                  have kb := (tok_l hT (c := 98) (by decide)).mp b_125
                  rw [if_pos kb] at hl
                  refine j_aload_n M dX7_readLibrary_131 rfl ?_
                  refine j_inv0 M lk_X7_136 (c_X7_readBook (hT6) (kb.1) ((by rw [e6]; exact kb.2)) (hR.1.1)) rv_X7 dX7_readLibrary_132 (Nat.le_of_ble_eq_true rfl) ⟨(Nat.le_of_ble_eq_true rfl), (Nat.le_of_ble_eq_true rfl)⟩ (kI fun r_132 σ_132 q_132 => ?_)
                  rw [e6] at q_132
                  have q1 := res_tr q_132 e6 hfd hfr
                  refine j_goto (tgt := 143) M dX7_readLibrary_135 (by decide) ?_
                  refine j_istore_1 M dX7_readLibrary_143 (by exact (by first | trivial | rfl)) ?_
                  refine j_goto (tgt := 69) M dX7_readLibrary_144 (by decide) ?_
                  refine j_forget M (L' := [some (.ref (ad G 40 0)), some (.int _), none]) (by repeat' (first | exact True.intro | refine ⟨rfl, ?_⟩)) ?_
                  rcases res_01 q1 with e | e
                  · rw [e]
                    have o := res_0 q1 e
                    exact lpX _ _ (by rw [hl, bind_f o.2]; exact o.1)
                  · rw [e]
                    have o := res_1 q1 (by rw [e]; decide)
                    have k1 := book_ok hR o.2
                    exact ih _ σ_132 (by have := k1.1; omega) (o.1.2.1 o.2) (by rw [o.1.2.2.2.1]; exact k1.2) o.1.2.2.2.2.1 o.1.2.2.2.2.2 (by rw [hl, bind_t o.2, o.1.2.2.2.1])
              · exact absurd h_111 (by decide)
            · refine j_aload_n M dX7_readLibrary_98 rfl ?_
              refine gf_X7_100 M dX7_readLibrary_99 ?_
              refine j_invs1 M lk_X7_130 (c_X7_kindBy) dX7_readLibrary_102 (Nat.le_of_ble_eq_true rfl) ⟨(Nat.le_of_ble_eq_true rfl), (Nat.le_of_ble_eq_true rfl)⟩ (kE ?_)
              refine j_goto (tgt := 109) M dX7_readLibrary_105 (by decide) ?_
              refine j_istore_2 M dX7_readLibrary_109 (by exact (by first | trivial | rfl)) ?_
              refine j_iload_n M dX7_readLibrary_110 rfl ?_
              refine j_if_le (tgt := 122) M dX7_readLibrary_111 (by decide) (fun h_111 => ?_) (fun h_111 => ?_)
              · have kp : ¬ 0 < kdAt (σ 40 6) N k := by rw [← tk.1 h_95]; exact h_111
                rw [if_neg (fun q => q.2 h_87), if_neg kp] at hl
                refine j_aload_n M dX7_readLibrary_122 rfl ?_
                refine j_bipush (v := 98) M dX7_readLibrary_123 rfl ?_
                refine j_inv1 M lk_X7_114 (c_X7_isLetter) rv_X7 dX7_readLibrary_125 (Nat.le_of_ble_eq_true rfl) ⟨(Nat.le_of_ble_eq_true rfl), (Nat.le_of_ble_eq_true rfl)⟩ (kP fun r_125 k_125 => ?_)
                refine j_if_eq (tgt := 138) M dX7_readLibrary_128 (by decide) (fun h_128 => ?_) (fun h_128 => ?_)
                · have b_125 := ifF k_125 h_128
                  rw [if_neg (fun q => b_125 ((tok_l hT (c := 98) (by decide)).mpr q))] at hl
                  refine j_aload_n M dX7_readLibrary_138 rfl ?_
                  refine j_iconst (v := 1) M dX7_readLibrary_139 rfl ?_
                  refine j_inv1 M lk_X7_117 (c_X7_faults) rv_X7 dX7_readLibrary_140 (Nat.le_of_ble_eq_true rfl) ⟨(Nat.le_of_ble_eq_true rfl), (Nat.le_of_ble_eq_true rfl)⟩ (kI fun r_140 σ_140 q_140 => ?_)
                  obtain ⟨rfl, e140⟩ := q_140
                  rw [e140]
                  refine j_istore_1 M dX7_readLibrary_143 (by exact (by first | trivial | rfl)) ?_
                  refine j_goto (tgt := 69) M dX7_readLibrary_144 (by decide) ?_
                  exact lpX _ _ (by rw [hl]; exact res_fail hT.1.2.2.2 rfl hfd hfr)
                · have b_125 := ifT k_125 h_128
                  have kb := (tok_l hT (c := 98) (by decide)).mp b_125
                  rw [if_pos kb] at hl
                  refine j_aload_n M dX7_readLibrary_131 rfl ?_
                  refine j_inv0 M lk_X7_136 (c_X7_readBook (hT6) (kb.1) ((by rw [e6]; exact kb.2)) (hR.1.1)) rv_X7 dX7_readLibrary_132 (Nat.le_of_ble_eq_true rfl) ⟨(Nat.le_of_ble_eq_true rfl), (Nat.le_of_ble_eq_true rfl)⟩ (kI fun r_132 σ_132 q_132 => ?_)
                  rw [e6] at q_132
                  have q1 := res_tr q_132 e6 hfd hfr
                  refine j_goto (tgt := 143) M dX7_readLibrary_135 (by decide) ?_
                  refine j_istore_1 M dX7_readLibrary_143 (by exact (by first | trivial | rfl)) ?_
                  refine j_goto (tgt := 69) M dX7_readLibrary_144 (by decide) ?_
                  refine j_forget M (L' := [some (.ref (ad G 40 0)), some (.int _), none]) (by repeat' (first | exact True.intro | refine ⟨rfl, ?_⟩)) ?_
                  rcases res_01 q1 with e | e
                  · rw [e]
                    have o := res_0 q1 e
                    exact lpX _ _ (by rw [hl, bind_f o.2]; exact o.1)
                  · rw [e]
                    have o := res_1 q1 (by rw [e]; decide)
                    have k1 := book_ok hR o.2
                    exact ih _ σ_132 (by have := k1.1; omega) (o.1.2.1 o.2) (by rw [o.1.2.2.2.1]; exact k1.2) o.1.2.2.2.2.1 o.1.2.2.2.2.2 (by rw [hl, bind_t o.2, o.1.2.2.2.1])
              · have ek := tk.1 h_95
                have kp : 0 < kdAt (σ 40 6) N k := by rw [← ek]; exact h_111
                rw [if_neg (fun q => q.2 h_87), if_pos kp] at hl
                refine j_aload_n M dX7_readLibrary_114 rfl ?_
                refine j_iload_n M dX7_readLibrary_115 rfl ?_
                refine j_inv1 M lk_X7_133 (c_X7_readFish (hT6) ((kd_let kp).1) ((by rw [e6]; exact (kd_let kp).2)) (hR.1.2.1)) rv_X7 dX7_readLibrary_116 (Nat.le_of_ble_eq_true rfl) ⟨(Nat.le_of_ble_eq_true rfl), (Nat.le_of_ble_eq_true rfl)⟩ (kI fun r_116 σ_116 q_116 => ?_)
                rw [e6, ek] at q_116
                have q1 := res_tr q_116 e6 hfd hfr
                refine j_goto (tgt := 143) M dX7_readLibrary_119 (by decide) ?_
                refine j_istore_1 M dX7_readLibrary_143 (by exact (by first | trivial | rfl)) ?_
                refine j_goto (tgt := 69) M dX7_readLibrary_144 (by decide) ?_
                refine j_forget M (L' := [some (.ref (ad G 40 0)), some (.int _), none]) (by repeat' (first | exact True.intro | refine ⟨rfl, ?_⟩)) ?_
                rcases res_01 q1 with e | e
                · rw [e]
                  have o := res_0 q1 e
                  exact lpX _ _ (by rw [hl, bind_f o.2]; exact o.1)
                · rw [e]
                  have o := res_1 q1 (by rw [e]; decide)
                  have k1 := fish_ok hR (kd_rng kp).1 (kd_rng kp).2 o.2
                  exact ih _ σ_116 (by have := k1.1; omega) (o.1.2.1 o.2) (by rw [o.1.2.2.2.1]; exact k1.2.1) o.1.2.2.2.2.1 o.1.2.2.2.2.2 (by rw [hl, bind_t o.2, o.1.2.2.2.1])
  have l26 : Φ 26 [some (.ref (ad G 40 0)), none, none] [] (up (up σ 40 0 (upI (σ 40 0) 10 0)) 40 7 (fun _ : Int32 => (0 : Int32))) := by
    have f0 : fld4 σ (up (up σ 40 0 (upI (σ 40 0) 10 0)) 40 7 (fun _ : Int32 => (0 : Int32))) := fld4_ne (fld4_up (fld4_refl _) (by decide)) (by decide)
    have g0 : frm σ (up (up σ 40 0 (upI (σ 40 0) 10 0)) 40 7 (fun _ : Int32 => (0 : Int32))) 40 [0, 7] := frm_up (frm_up (frm_refl _ _ _) (by decide)) (by decide)
    have v6 : (up (up σ 40 0 (upI (σ 40 0) 10 0)) 40 7 (fun _ : Int32 => (0 : Int32))) 40 6 = σ 40 6 := g0 40 6 (by decide)
    have v7 : (up (up σ 40 0 (upI (σ 40 0) 10 0)) 40 7 (fun _ : Int32 => (0 : Int32))) 40 7 = (fun _ : Int32 => (0 : Int32)) := up_same _ _ _ _
    refine j_aload_n M dX7_readLibrary_26 rfl ?_
    refine j_inv0 M lk_X7_120 (c_X7_nextToken ((by rw [up_ne _ _ (by decide), up_same, upI_same]; rfl : _ = nI 0)) ((Nat.zero_le N)) (hN) ((by rw [f0 8 (by decide)]; exact h8))) rv_X7 dX7_readLibrary_27 (Nat.le_of_ble_eq_true rfl) ⟨(Nat.le_of_ble_eq_true rfl), (Nat.le_of_ble_eq_true rfl)⟩ (kV fun σ_27 q_27 => ?_)
    obtain ⟨t1, t2, t3⟩ := q_27
    rw [v6] at t1
    have w6 : σ_27 40 6 = σ 40 6 := (t3 40 6 (by decide)).trans v6
    have w7 : σ_27 40 7 = (fun _ : Int32 => (0 : Int32)) := (t3 40 7 (by decide)).trans v7
    have f1 := fld4_tr f0 (fld4_of t2)
    have g1 := frm_trans g0 (frm_mono t3 (by decide) : frm _ _ 40 [0, 7])
    refine j_aload_n M dX7_readLibrary_30 rfl ?_
    refine j_bipush (v := 108) M dX7_readLibrary_31 rfl ?_
    refine j_inv1 M lk_X7_123 (c_X7_takes ((by rw [w6]; exact t1)) ((by decide))) rv_X7 dX7_readLibrary_33 (Nat.le_of_ble_eq_true rfl) ⟨(Nat.le_of_ble_eq_true rfl), (Nat.le_of_ble_eq_true rfl)⟩ (kI fun r_33 σ_33 q_33 => ?_)
    rw [w6, w7] at q_33
    have q1 := res_tr q_33 w6 f1 g1
    refine j_if_eq (tgt := 65) M dX7_readLibrary_36 (by decide) (fun h_36 => ?_) (fun h_36 => ?_)
    · refine j_iconst (v := 0) M dX7_readLibrary_65 rfl ?_
      exact j_zret M dX7_readLibrary_66 (by first | exact Or.inl rfl | exact Or.inr rfl | exact bitv_01 _ _ | assumption | (exact res_01 (by assumption)) | grind) ⟨_, rfl, by (try dsimp only); unfold libP lawP; have o := res_0 q1 h_36; rw [bind_f o.2, bind_f o.2, bind_f o.2]; exact o.1⟩
    · have o1 := res_1 q1 h_36
      have x6 : σ_33 40 6 = σ 40 6 := o1.1.2.2.2.2.2 40 6 (by decide)
      refine j_aload_n M dX7_readLibrary_39 rfl ?_
      refine j_iconst (v := 1) M dX7_readLibrary_40 rfl ?_
      refine j_bipush (v := 9) M dX7_readLibrary_41 rfl ?_
      refine j_iconst (v := 2) M dX7_readLibrary_43 rfl ?_
      refine j_bipush (v := 44) M dX7_readLibrary_44 rfl ?_
      refine j_inv4 M lk_X7_126 (c_X7_takesNumber ((by rw [x6]; exact o1.1.2.1 o1.2)) ((by decide)) ((by decide)) ((by decide))) rv_X7 dX7_readLibrary_46 (Nat.le_of_ble_eq_true rfl) ⟨(Nat.le_of_ble_eq_true rfl), (Nat.le_of_ble_eq_true rfl)⟩ (kI fun r_46 σ_46 q_46 => ?_)
      rw [x6, o1.1.2.2.2.1] at q_46
      have q2 := res_tr q_46 x6 o1.1.2.2.2.2.1 o1.1.2.2.2.2.2
      rw [← bind_t (f := numP (σ 40 6) N 1 9 2 44) o1.2] at q2
      refine j_if_eq (tgt := 65) M dX7_readLibrary_49 (by decide) (fun h_49 => ?_) (fun h_49 => ?_)
      · refine j_iconst (v := 0) M dX7_readLibrary_65 rfl ?_
        exact j_zret M dX7_readLibrary_66 (by first | exact Or.inl rfl | exact Or.inr rfl | exact bitv_01 _ _ | assumption | (exact res_01 (by assumption)) | grind) ⟨_, rfl, by (try dsimp only); unfold libP lawP; have o := res_0 q2 h_49; rw [bind_f o.2, bind_f o.2]; exact o.1⟩
      · have o2 := res_1 q2 h_49
        have y6 : σ_46 40 6 = σ 40 6 := o2.1.2.2.2.2.2 40 6 (by decide)
        refine j_aload_n M dX7_readLibrary_52 rfl ?_
        refine j_iconst (v := 0) M dX7_readLibrary_53 rfl ?_
        refine j_bipush (v := 8) M dX7_readLibrary_54 rfl ?_
        refine j_iconst (v := 3) M dX7_readLibrary_56 rfl ?_
        refine j_bipush (v := 59) M dX7_readLibrary_57 rfl ?_
        refine j_inv4 M lk_X7_126 (c_X7_takesNumber ((by rw [y6]; exact o2.1.2.1 o2.2)) ((by decide)) ((by decide)) ((by decide))) rv_X7 dX7_readLibrary_59 (Nat.le_of_ble_eq_true rfl) ⟨(Nat.le_of_ble_eq_true rfl), (Nat.le_of_ble_eq_true rfl)⟩ (kI fun r_59 σ_59 q_59 => ?_)
        rw [y6, o2.1.2.2.2.1] at q_59
        have q3 := res_tr q_59 y6 o2.1.2.2.2.2.1 o2.1.2.2.2.2.2
        rw [← bind_t (f := numP (σ 40 6) N 0 8 3 59) o2.2] at q3
        refine j_if_ne (tgt := 67) M dX7_readLibrary_62 (by decide) (fun h_62 => ?_) (fun h_62 => ?_)
        · have o3 := res_1 q3 h_62
          refine j_iconst (v := 1) M dX7_readLibrary_67 rfl ?_
          refine j_istore_1 M dX7_readLibrary_68 (by exact (by first | trivial | rfl)) ?_
          exact lp (N + 1) _ σ_59 (by omega) (o3.1.2.1 o3.2) (by rw [o3.1.2.2.2.1]; exact (law_ok o3.2).1) o3.1.2.2.2.2.1 o3.1.2.2.2.2.2 (by unfold libP; rw [bind_t (R := lawP (σ 40 6) N) o3.2, o3.1.2.2.2.1]; rfl)
        · refine j_iconst (v := 0) M dX7_readLibrary_65 rfl ?_
          exact j_zret M dX7_readLibrary_66 (by first | exact Or.inl rfl | exact Or.inr rfl | exact bitv_01 _ _ | assumption | (exact res_01 (by assumption)) | grind) ⟨_, rfl, by (try dsimp only); unfold libP lawP; have o := res_0 q3 h_62; rw [bind_f o.2]; exact o.1⟩
  have lz : ∀ i : Int32, 0 ≤ i → ∀ τ : Sg, i ≤ 41 → (∀ j, 0 ≤ j → j < i → τ 40 7 j = 0) → frm (up σ 40 0 (upI (σ 40 0) 10 0)) τ 40 [7] → Φ 7 [some (.ref (ad G 40 0)), some (.int i), none] [] τ := by
    refine loop_up 41 (fun i hi ih τ hle hc hfr => ?_)
    refine j_iload_n M dX7_readLibrary_7 rfl ?_
    refine j_bipush (v := 41) M dX7_readLibrary_8 rfl ?_
    refine j_icmp_ge (tgt := 26) M dX7_readLibrary_10 (by decide) (fun h_10 => ?_) (fun h_10 => ?_)
    · refine j_extA M (c := 40) (k := 7) (n := 41) (n' := 41) (f := (fun _ : Int32 => (0 : Int32))) (fun _ => rfl) rfl (by decide) (fun j j0 j1 => (hc j j0 (Int32.lt_of_lt_of_le j1 (Int32.not_lt.mp h_10))).symm) ?_
      refine j_forget M (L' := [some (.ref (ad G 40 0)), none, none]) (by repeat' (first | exact True.intro | refine ⟨rfl, ?_⟩)) ?_
      rw [frm_1 hfr]
      exact l26
    · have hb := h_10
      refine j_aload_n M dX7_readLibrary_13 rfl ?_
      refine gf_X7_28 M dX7_readLibrary_14 ?_
      refine j_iload_n M dX7_readLibrary_17 rfl ?_
      refine j_iconst (v := 0) M dX7_readLibrary_18 rfl ?_
      refine as_40_7 M dX7_readLibrary_19 (by first | assumption | decide) (by first | assumption | decide) ?_
      refine j_iinc_1 M dX7_readLibrary_20 (show _ + Int32.ofInt 1 = _ + 1 from rfl) (by exact (by first | trivial | rfl)) ?_
      refine j_goto (tgt := 7) M dX7_readLibrary_23 (by decide) ?_
      refine ih hb _ (inc_lt hi hb).2.1 ?_ (frm_up hfr (by decide))
      intro j j0 j1
      rw [up_same]
      by_cases e : j = i
      · rw [e, upI_same]
      · rw [upI_ne _ _ e]; exact hc j j0 (lt_of_inc hi hb j1 e)
  refine j_aload_n M dX7_readLibrary_0 rfl ?_
  refine j_iconst (v := 0) M dX7_readLibrary_1 rfl ?_
  refine pf_X7_91 M dX7_readLibrary_2 ?_
  refine j_iconst (v := 0) M dX7_readLibrary_5 rfl ?_
  refine j_istore_1 M dX7_readLibrary_6 (by exact (by first | trivial | rfl)) ?_
  exact lz 0 (by decide) _ (by decide) (fun j j0 j1 => absurd (Int32.lt_of_le_of_lt j0 j1) (by decide)) (frm_refl _ _ _)
