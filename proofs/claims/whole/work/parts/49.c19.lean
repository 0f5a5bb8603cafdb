set_option maxRecDepth 100000 in
theorem c_X7_nextToken {l : Launch} {G : Gw} {σ : Sg}  {N k : Nat} (hp : σ 40 0 10 = nI k) (hk : k ≤ N) (hN : N ≤ 120) (h8 : σ 40 0 8 = nI N) : Mt l G yX7_nextToken cX7_nextToken 1 none 1 25 [.ref (ad G 40 0)] σ (pV fun τ => Tok (σ 40 6) N (τ 40 0) k ∧ fld σ τ ∧ frm σ τ 40 [0]) := by
  refine mt_intro (by decide +kernel) (Nat.le_of_ble_eq_true rfl) (fun Φ M => ?_)
  show Φ 0 [some (.ref (ad G 40 0))] [] σ
  have l119 : ∀ (tk : Int32) (j : Nat) (τ : Sg), tk = (if k = N then 3 else 0) → k ≤ j → j ≤ N → τ 40 0 10 = nI j → τ 40 0 13 = nI k → τ 40 0 11 = tk → τ 40 0 8 = nI N → vinv (σ 40 6) k j (τ 40 0 12) → (∀ i, k ≤ i → i < j → dg (σ 40 6) N i) → ¬ dg (σ 40 6) N j → fld σ τ → frm σ τ 40 [0] → Φ 119 [some (.ref (ad G 40 0))] [] τ := by
    intro tk j τ htk hkj hjN t10 t13 t11 t8 hv ha hb hfd hfr
    have t6 : τ 40 6 = σ 40 6 := hfr 40 6 (by decide)
    have c1 : τ 40 0 13 < τ 40 0 10 ↔ k < j := by rw [t10, t13]; exact nI_ltI (by omega) (by omega)
    have c2 : 2 < τ 40 0 10 - τ 40 0 13 ↔ 2 < j - k := by rw [t10, t13, nI_sub hkj]; exact nI_ltI (a := 2) (by decide) (by omega)
    refine j_aload_n M dX7_nextToken_119 rfl ?_
    refine gf_X7_91 M dX7_nextToken_120 ?_
    refine j_aload_n M dX7_nextToken_123 rfl ?_
    refine gf_X7_94 M dX7_nextToken_124 ?_
    refine j_icmp_le (tgt := 155) M dX7_nextToken_127 (by decide) (fun h_127 => ?_) (fun h_127 => ?_)
    · have ekj : k = j := by
        have : ¬ k < j := fun q => h_127 (c1.mpr q)
        omega
      subst ekj
      have kb : k < N → 0 ≤ nI k ∧ nI k < 120 := fun q => ⟨nI_pos' (by omega), (nI_ltI (b := 120) (by omega) (by decide)).mpr (by omega)⟩
      refine j_aload_n M dX7_nextToken_155 rfl ?_
      
      refine gf_X7_97 M dX7_nextToken_156 ?_
      refine j_if_ne (tgt := 229) M dX7_nextToken_159 (by decide) (fun h_159 => ?_) (fun h_159 => ?_)
      · refine j_vret M dX7_nextToken_229 ⟨rfl, ?_⟩
        have e : k = N := by
          by_cases e : k = N
          · exact e
          · rw [if_neg e] at htk; rw [t11, htk] at h_159; exact absurd rfl h_159
        subst e
        exact ⟨tok_end hN t8 t13 t10 (by rw [t11, htk, if_pos rfl]), hfd, hfr⟩
      · have kN : k < N := by
          by_cases e : k = N
          · rw [if_pos e] at htk; rw [t11, htk] at h_159; exact absurd h_159 (by decide)
          · omega
        have kb2 := kb kN
        refine j_aload_n M dX7_nextToken_162 rfl ?_
        refine j_aload_n M dX7_nextToken_163 rfl ?_
        refine gf_X7_25 M dX7_nextToken_164 ?_
        refine j_aload_n M dX7_nextToken_167 rfl ?_
        refine gf_X7_91 M dX7_nextToken_168 ?_
        refine al_40_6 M dX7_nextToken_171 (by first | assumption | decide | (rw [t10]; exact kb2.1) | (rw [t10]; exact kb2.2) | (rw [up_same]; simp [upI, t10]; first | exact kb2.1 | exact kb2.2)) (by first | assumption | decide | (rw [t10]; exact kb2.1) | (rw [t10]; exact kb2.2) | (rw [up_same]; simp [upI, t10]; first | exact kb2.1 | exact kb2.2)) ?_
        refine pf_X7_100 M dX7_nextToken_172 ?_
        refine j_aload_n M dX7_nextToken_175 rfl ?_
        refine j_aload_n M dX7_nextToken_176 rfl ?_
        refine gf_X7_100 M dX7_nextToken_177 ?_
        refine j_i2l M dX7_nextToken_180 ?_
        refine j_ldc2 M kl_X7_107 dX7_nextToken_181 ?_
        refine j_ldc2 M kl_X7_109 dX7_nextToken_184 ?_
        refine j_invs3 M lk_X7_63 (c_X7_inI (a := 97) (b := 122) rfl (by decide) (by decide)) dX7_nextToken_187 (Nat.le_of_ble_eq_true rfl) ⟨(Nat.le_of_ble_eq_true rfl), (Nat.le_of_ble_eq_true rfl)⟩ (kP fun r_187 k_187 => ?_)
        refine j_if_ne (tgt := 211) M dX7_nextToken_190 (by decide) (fun h_190 => ?_) (fun h_190 => ?_)
        · have b_187 := ifT k_187 h_190
          refine j_iconst (v := 1) M dX7_nextToken_211 rfl ?_
          refine j_goto (tgt := 216) M dX7_nextToken_212 (by decide) ?_
          refine pf_X7_97 M dX7_nextToken_216 ?_
          refine j_aload_n M dX7_nextToken_219 rfl ?_
          refine j_dup M dX7_nextToken_220 rfl ?_
          refine gf_X7_91 M dX7_nextToken_221 ?_
          refine j_iconst (v := 1) M dX7_nextToken_224 rfl ?_
          refine j_iadd M dX7_nextToken_225 ?_
          refine pf_X7_91 M dX7_nextToken_226 ?_
          refine j_vret M dX7_nextToken_229 ⟨rfl, ?_⟩
          refine ⟨tok_let hN kN hb (by simp [up_same, upI, t8]) (by simp [up_same, upI, t13]) (by simp [up_same, upI, t10, nI_1]) (by simp [up_same, upI, t10, t6]) ?_, (by repeat' (first | assumption | apply fld_up | exact fld_refl _ | decide)), (by repeat' (first | assumption | apply frm_up | exact frm_refl _ _ _ | decide))⟩
          simp only [up_same, upI] at *
          simp [t10, t6, letT] at *
          first | (simp [b_187]; done) | grind
        · have b_187 := ifF k_187 h_190
          refine j_aload_n M dX7_nextToken_193 rfl ?_
          refine gf_X7_100 M dX7_nextToken_194 ?_
          refine j_bipush (v := 44) M dX7_nextToken_197 rfl ?_
          refine j_icmp_eq (tgt := 211) M dX7_nextToken_199 (by decide) (fun h_199 => ?_) (fun h_199 => ?_)
          · refine j_iconst (v := 1) M dX7_nextToken_211 rfl ?_
            refine j_goto (tgt := 216) M dX7_nextToken_212 (by decide) ?_
            refine pf_X7_97 M dX7_nextToken_216 ?_
            refine j_aload_n M dX7_nextToken_219 rfl ?_
            refine j_dup M dX7_nextToken_220 rfl ?_
            refine gf_X7_91 M dX7_nextToken_221 ?_
            refine j_iconst (v := 1) M dX7_nextToken_224 rfl ?_
            refine j_iadd M dX7_nextToken_225 ?_
            refine pf_X7_91 M dX7_nextToken_226 ?_
            refine j_vret M dX7_nextToken_229 ⟨rfl, ?_⟩
            refine ⟨tok_let hN kN hb (by simp [up_same, upI, t8]) (by simp [up_same, upI, t13]) (by simp [up_same, upI, t10, nI_1]) (by simp [up_same, upI, t10, t6]) ?_, (by repeat' (first | assumption | apply fld_up | exact fld_refl _ | decide)), (by repeat' (first | assumption | apply frm_up | exact frm_refl _ _ _ | decide))⟩
            simp only [up_same, upI] at *
            simp [t10, t6, letT] at *
            first | (simp [b_187, h_199]; done) | grind
          · refine j_aload_n M dX7_nextToken_202 rfl ?_
            refine gf_X7_100 M dX7_nextToken_203 ?_
            refine j_bipush (v := 59) M dX7_nextToken_206 rfl ?_
            refine j_icmp_ne (tgt := 215) M dX7_nextToken_208 (by decide) (fun h_208 => ?_) (fun h_208 => ?_)
            · refine j_iconst (v := 0) M dX7_nextToken_215 rfl ?_
              refine pf_X7_97 M dX7_nextToken_216 ?_
              refine j_aload_n M dX7_nextToken_219 rfl ?_
              refine j_dup M dX7_nextToken_220 rfl ?_
              refine gf_X7_91 M dX7_nextToken_221 ?_
              refine j_iconst (v := 1) M dX7_nextToken_224 rfl ?_
              refine j_iadd M dX7_nextToken_225 ?_
              refine pf_X7_91 M dX7_nextToken_226 ?_
              refine j_vret M dX7_nextToken_229 ⟨rfl, ?_⟩
              refine ⟨tok_let hN kN hb (by simp [up_same, upI, t8]) (by simp [up_same, upI, t13]) (by simp [up_same, upI, t10, nI_1]) (by simp [up_same, upI, t10, t6]) ?_, (by repeat' (first | assumption | apply fld_up | exact fld_refl _ | decide)), (by repeat' (first | assumption | apply frm_up | exact frm_refl _ _ _ | decide))⟩
              simp only [up_same, upI] at *
              simp [t10, t6, letT] at *
              first | (simp [b_187, h_199, h_208]; done) | grind
            · refine j_iconst (v := 1) M dX7_nextToken_211 rfl ?_
              refine j_goto (tgt := 216) M dX7_nextToken_212 (by decide) ?_
              refine pf_X7_97 M dX7_nextToken_216 ?_
              refine j_aload_n M dX7_nextToken_219 rfl ?_
              refine j_dup M dX7_nextToken_220 rfl ?_
              refine gf_X7_91 M dX7_nextToken_221 ?_
              refine j_iconst (v := 1) M dX7_nextToken_224 rfl ?_
              refine j_iadd M dX7_nextToken_225 ?_
              refine pf_X7_91 M dX7_nextToken_226 ?_
              refine j_vret M dX7_nextToken_229 ⟨rfl, ?_⟩
              refine ⟨tok_let hN kN hb (by simp [up_same, upI, t8]) (by simp [up_same, upI, t13]) (by simp [up_same, upI, t10, nI_1]) (by simp [up_same, upI, t10, t6]) ?_, (by repeat' (first | assumption | apply fld_up | exact fld_refl _ | decide)), (by repeat' (first | assumption | apply frm_up | exact frm_refl _ _ _ | decide))⟩
              simp only [up_same, upI] at *
              simp [t10, t6, letT] at *
              first | (simp [b_187, h_199, h_208]; done) | grind
    · refine j_aload_n M dX7_nextToken_130 rfl ?_
      refine j_aload_n M dX7_nextToken_131 rfl ?_
      refine gf_X7_91 M dX7_nextToken_132 ?_
      refine j_aload_n M dX7_nextToken_135 rfl ?_
      refine gf_X7_94 M dX7_nextToken_136 ?_
      refine j_isub M dX7_nextToken_139 ?_
      refine j_iconst (v := 2) M dX7_nextToken_140 rfl ?_
      refine j_icmp_le (tgt := 148) M dX7_nextToken_141 (by decide) (fun h_141 => ?_) (fun h_141 => ?_)
      · refine j_iconst (v := 2) M dX7_nextToken_148 rfl ?_
        refine pf_X7_97 M dX7_nextToken_149 ?_
        refine j_goto (tgt := 229) M dX7_nextToken_152 (by decide) ?_
        refine j_vret M dX7_nextToken_229 ⟨rfl, ?_⟩
        have hkj2 := c1.mp h_127
        refine ⟨tok_num hN hkj2 hjN ha hb (by simp [up_same, upI, t8, t13, t10]) (by simp [up_same, upI, t8, t13, t10]) (by simp [up_same, upI, t8, t13, t10]) ?_ (by simp [up_same, upI]; exact hv), (by repeat' (first | assumption | apply fld_up | exact fld_refl _ | decide)), (by repeat' (first | assumption | apply frm_up | exact frm_refl _ _ _ | decide))⟩
        rw [if_pos (by have : ¬ 2 < j - k := (fun q => h_141 (c2.mpr q)); omega)]; simp [up_same, upI]
      · refine j_iconst (v := 0) M dX7_nextToken_144 rfl ?_
        refine j_goto (tgt := 149) M dX7_nextToken_145 (by decide) ?_
        refine pf_X7_97 M dX7_nextToken_149 ?_
        refine j_goto (tgt := 229) M dX7_nextToken_152 (by decide) ?_
        refine j_vret M dX7_nextToken_229 ⟨rfl, ?_⟩
        have hkj2 := c1.mp h_127
        refine ⟨tok_num hN hkj2 hjN ha hb (by simp [up_same, upI, t8, t13, t10]) (by simp [up_same, upI, t8, t13, t10]) (by simp [up_same, upI, t8, t13, t10]) ?_ (by simp [up_same, upI]; exact hv), (by repeat' (first | assumption | apply fld_up | exact fld_refl _ | decide)), (by repeat' (first | assumption | apply frm_up | exact frm_refl _ _ _ | decide))⟩
        rw [if_neg (by have := c2.mp h_141; omega)]; simp [up_same, upI]
  have lp : ∀ (tk : Int32), tk = (if k = N then 3 else 0) → ∀ j, j ≤ N → ∀ τ : Sg, k ≤ j → τ 40 0 10 = nI j → τ 40 0 13 = nI k → τ 40 0 11 = tk → τ 40 0 8 = nI N → vinv (σ 40 6) k j (τ 40 0 12) → (∀ i, k ≤ i → i < j → dg (σ 40 6) N i) → fld σ τ → frm σ τ 40 [0] → Φ 33 [some (.ref (ad G 40 0))] [] τ := by
    intro tk htk
    refine loop_upN N (fun j hjN ih τ hkj t10 t13 t11 t8 hv ha hfd hfr => ?_)
    have t6 : τ 40 6 = σ 40 6 := hfr 40 6 (by decide)
    have c1 : τ 40 0 10 < τ 40 0 8 ↔ j < N := by rw [t10, t8]; exact nI_ltI (by omega) (by omega)
    refine j_aload_n M dX7_nextToken_33 rfl ?_
    refine gf_X7_91 M dX7_nextToken_34 ?_
    refine j_aload_n M dX7_nextToken_37 rfl ?_
    refine gf_X7_87 M dX7_nextToken_38 ?_
    refine j_icmp_ge (tgt := 119) M dX7_nextToken_41 (by decide) (fun h_41 => ?_) (fun h_41 => ?_)
    · exact l119 tk j τ htk hkj hjN t10 t13 t11 t8 hv ha (fun q => h_41 (c1.mpr q.1)) hfd hfr
    · have jN := c1.mp h_41
      have jb : 0 ≤ nI j ∧ nI j < 120 := ⟨nI_pos' (by omega), (nI_ltI (b := 120) (by omega) (by decide)).mpr (by omega)⟩
      refine j_aload_n M dX7_nextToken_44 rfl ?_
      refine gf_X7_25 M dX7_nextToken_45 ?_
      refine j_aload_n M dX7_nextToken_48 rfl ?_
      refine gf_X7_91 M dX7_nextToken_49 ?_
      refine al_40_6 M dX7_nextToken_52 (by first | assumption | decide | (rw [t10]; first | exact jb.1 | exact jb.2)) (by first | assumption | decide | (rw [t10]; first | exact jb.1 | exact jb.2)) ?_
      refine j_i2l M dX7_nextToken_53 ?_
      refine j_ldc2 M kl_X7_103 dX7_nextToken_54 ?_
      refine j_ldc2 M kl_X7_105 dX7_nextToken_57 ?_
      refine j_invs3 M lk_X7_63 (c_X7_inI (a := 48) (b := 57) rfl (by decide) (by decide)) dX7_nextToken_60 (Nat.le_of_ble_eq_true rfl) ⟨(Nat.le_of_ble_eq_true rfl), (Nat.le_of_ble_eq_true rfl)⟩ (kP fun r_60 k_60 => ?_)
      refine j_if_eq (tgt := 119) M dX7_nextToken_63 (by decide) (fun h_63 => ?_) (fun h_63 => ?_)
      · have b_60 := ifF k_60 h_63
        exact l119 tk j τ htk hkj hjN t10 t13 t11 t8 hv ha (fun q => b_60 (by rw [t10, t6]; exact q.2)) hfd hfr
      · have b_60 := ifT k_60 h_63
        have hd : dg (σ 40 6) N j := by rw [t10, t6] at b_60; exact ⟨jN, b_60⟩
        have ha2 : ∀ i, k ≤ i → i < j + 1 → dg (σ 40 6) N i := fun i a b => by
          by_cases e : i = j
          · rw [e]; exact hd
          · exact ha i a (by omega)
        refine j_aload_n M dX7_nextToken_66 rfl ?_
        refine j_aload_n M dX7_nextToken_67 rfl ?_
        refine gf_X7_100 M dX7_nextToken_68 ?_
        refine j_bipush (v := 99) M dX7_nextToken_71 rfl ?_
        refine j_icmp_le (tgt := 83) M dX7_nextToken_73 (by decide) (fun h_73 => ?_) (fun h_73 => ?_)
        · refine j_bipush (v := 10) M dX7_nextToken_83 rfl ?_
          refine j_aload_n M dX7_nextToken_85 rfl ?_
          refine gf_X7_100 M dX7_nextToken_86 ?_
          refine j_imul M dX7_nextToken_89 ?_
          refine j_aload_n M dX7_nextToken_90 rfl ?_
          refine gf_X7_25 M dX7_nextToken_91 ?_
          refine j_aload_n M dX7_nextToken_94 rfl ?_
          refine gf_X7_91 M dX7_nextToken_95 ?_
          refine al_40_6 M dX7_nextToken_98 (by first | assumption | decide | (rw [t10]; first | exact jb.1 | exact jb.2)) (by first | assumption | decide | (rw [t10]; first | exact jb.1 | exact jb.2)) ?_
          refine j_iadd M dX7_nextToken_99 ?_
          refine j_bipush (v := 48) M dX7_nextToken_100 rfl ?_
          refine j_isub M dX7_nextToken_102 ?_
          refine pf_X7_100 M dX7_nextToken_103 ?_
          refine j_aload_n M dX7_nextToken_106 rfl ?_
          refine j_dup M dX7_nextToken_107 rfl ?_
          refine gf_X7_91 M dX7_nextToken_108 ?_
          refine j_iconst (v := 1) M dX7_nextToken_111 rfl ?_
          refine j_iadd M dX7_nextToken_112 ?_
          refine pf_X7_91 M dX7_nextToken_113 ?_
          refine j_goto (tgt := 33) M dX7_nextToken_116 (by decide) ?_
          exact ih jN _ (by omega) (by simp only [up_same, upI]; simp [t10, nI_1]) (by simp only [up_same, upI]; simp [t13]) (by simp only [up_same, upI]; simp [t11]) (by simp only [up_same, upI]; simp [t8]) (by simp only [up_same, upI]; simp [t10, t6]; exact vinv_t hkj hv) ha2 (by repeat' (first | assumption | apply fld_up | exact fld_refl _ | decide)) (by repeat' (first | assumption | apply frm_up | exact frm_refl _ _ _ | decide))
        · refine j_aload_n M dX7_nextToken_76 rfl ?_
          refine gf_X7_100 M dX7_nextToken_77 ?_
          refine j_goto (tgt := 103) M dX7_nextToken_80 (by decide) ?_
          refine pf_X7_100 M dX7_nextToken_103 ?_
          refine j_aload_n M dX7_nextToken_106 rfl ?_
          refine j_dup M dX7_nextToken_107 rfl ?_
          refine gf_X7_91 M dX7_nextToken_108 ?_
          refine j_iconst (v := 1) M dX7_nextToken_111 rfl ?_
          refine j_iadd M dX7_nextToken_112 ?_
          refine pf_X7_91 M dX7_nextToken_113 ?_
          refine j_goto (tgt := 33) M dX7_nextToken_116 (by decide) ?_
          exact ih jN _ (by omega) (by simp only [up_same, upI]; simp [t10, nI_1]) (by simp only [up_same, upI]; simp [t13]) (by simp only [up_same, upI]; simp [t11]) (by simp only [up_same, upI]; simp [t8]) (by simp only [up_same, upI] at h_73 ⊢; simp at h_73 ⊢; exact vinv_s hkj ha hv h_73) ha2 (by repeat' (first | assumption | apply fld_up | exact fld_refl _ | decide)) (by repeat' (first | assumption | apply frm_up | exact frm_refl _ _ _ | decide))
  have ekN : σ 40 0 10 = σ 40 0 8 ↔ k = N := by rw [hp, h8]; exact nI_eq (by omega) (by omega)
  refine j_aload_n M dX7_nextToken_0 rfl ?_
  refine j_aload_n M dX7_nextToken_1 rfl ?_
  refine gf_X7_91 M dX7_nextToken_2 ?_
  refine pf_X7_94 M dX7_nextToken_5 ?_
  refine j_aload_n M dX7_nextToken_8 rfl ?_
  refine j_aload_n M dX7_nextToken_9 rfl ?_
  refine gf_X7_91 M dX7_nextToken_10 ?_
  refine j_aload_n M dX7_nextToken_13 rfl ?_
  refine gf_X7_87 M dX7_nextToken_14 ?_
  refine j_icmp_ne (tgt := 24) M dX7_nextToken_17 (by decide) (fun h_17 => ?_) (fun h_17 => ?_)
  · refine j_iconst (v := 0) M dX7_nextToken_24 rfl ?_
    refine pf_X7_97 M dX7_nextToken_25 ?_
    refine j_aload_n M dX7_nextToken_28 rfl ?_
    refine j_iconst (v := 0) M dX7_nextToken_29 rfl ?_
    refine pf_X7_100 M dX7_nextToken_30 ?_
    exact lp 0 (by rw [if_neg (fun q => h_17 (by simpa [up_same, upI] using ekN.mpr q))]) k hk _ (Nat.le_refl _) (by simp only [up_same, upI]; simp [hp]) (by simp only [up_same, upI]; simp [hp]) (by simp only [up_same, upI]; simp []) (by simp only [up_same, upI]; simp [h8]) ⟨fun _ => by simp [up_same, upI], fun q => absurd q (by omega), fun q => absurd q (by omega)⟩ (fun i a b => absurd a (by omega)) (by repeat' (first | assumption | apply fld_up | exact fld_refl _ | decide)) (by repeat' (first | assumption | apply frm_up | exact frm_refl _ _ _ | decide))
  · refine j_iconst (v := 3) M dX7_nextToken_20 rfl ?_
    refine j_goto (tgt := 25) M dX7_nextToken_21 (by decide) ?_
    refine pf_X7_97 M dX7_nextToken_25 ?_
    refine j_aload_n M dX7_nextToken_28 rfl ?_
    refine j_iconst (v := 0) M dX7_nextToken_29 rfl ?_
    refine pf_X7_100 M dX7_nextToken_30 ?_
    exact lp 3 (by rw [if_pos (ekN.mp (by simpa [up_same, upI] using h_17))]) k hk _ (Nat.le_refl _) (by simp only [up_same, upI]; simp [hp]) (by simp only [up_same, upI]; simp [hp]) (by simp only [up_same, upI]; simp []) (by simp only [up_same, upI]; simp [h8]) ⟨fun _ => by simp [up_same, upI], fun q => absurd q (by omega), fun q => absurd q (by omega)⟩ (fun i a b => absurd a (by omega)) (by repeat' (first | assumption | apply fld_up | exact fld_refl _ | decide)) (by repeat' (first | assumption | apply frm_up | exact frm_refl _ _ _ | decide))
