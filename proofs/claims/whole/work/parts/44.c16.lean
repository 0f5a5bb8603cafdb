theorem dec_eq (k : Int32) : k - 1 = k + (-1) := Int32.sub_eq_add_neg k 1
theorem v_i64 {c i : Int32} (c0 : 0 ≤ c) (c1 : c < 64) (h : i < c + 1) : i < 64 := Int32.lt_of_lt_of_le h (inc_lt c0 c1).2.1
theorem inc_ge {c : Int32} (h : 0 ≤ c ∧ c < 64) : (0 : Int32) ≤ c + 1 := (inc_lt h.1 h.2).1
theorem dec_rng {k : Int32} (h0 : 0 ≤ k) (h : 0 < k) : 0 ≤ k - 1 ∧ k - 1 < k := by
  obtain ⟨j, hj, rfl⟩ := nI_of (Int32.not_lt.mpr h0)
  have j0 : 0 < j := (nI_ltI (a := 0) (by decide) hj).mp h
  obtain ⟨m, rfl⟩ : ∃ m, j = m + 1 := ⟨j - 1, by omega⟩
  rw [nI_pred]
  exact ⟨(nI_leI (a := 0) (by decide) (by omega)).mpr (by omega), (nI_ltI (by omega) hj).mpr (by omega)⟩
set_option maxRecDepth 100000 in
theorem c_X7_dark {l : Launch} {G : Gw} {σ : Sg} {b : Int32} {n : Int32} {p : Int32} {w : Int32}  (hS : SW (σ 40 4)) : Mt l G yX7_dark cX7_dark 16 (some .long) 7 159 [.ref (ad G 40 0), .int b, .int n, .int p, .int w] σ (pL fun r τ => r = darkR (σ 40 4) b n p w ∧ frm σ τ 40 [8, 10]) := by
  refine mt_intro (by decide +kernel) (Nat.le_of_ble_eq_true rfl) (fun Φ M => ?_)
  show Φ 0 [some (.ref (ad G 40 0)), some (.int b), some (.int n), some (.int p), some (.int w), none, none, none, none, none, none, none, none, none, none, none] [] σ
  have lp4 : isB (σ 40 4) b → inR 0 n 60 → inR 0 p 10 → inR 0 w 1 → ∀ τ : Sg, frm σ τ 40 [8, 10] → ∀ (m : Nat) (x y : Int64), glf m x y = true → gl m x y = darkG (σ 40 4) b n p → Φ 217 [some (.ref (ad G 40 0)), some (.int b), some (.int n), some (.int p), some (.int w), some (.int (σ 40 4 5)), some (.long (darkA (σ 40 4) b n p (σ 40 4 5 + 1))), none, some (.long (pw10 1 (ones (σ 40 4 5)))), none, some (.long x), none, some (.long y), none, none, none] [] τ := by
    intro b_2 b_14 b_26 b_34 τ hfr
    have hB := hS.b b_2
    have dk := dark_ok hB.1 (b := b) (n := n) b_26
    have dp : 0 < darkG (σ 40 4) b n p := gl_spec 1000 _ _ dk.1 (Int64.le_of_lt dk.2.1) (Or.inr dk.2.1) dk.2.2
    have dz : ¬ darkG (σ 40 4) b n p = 0 := fun e => absurd dp (by rw [e]; decide)
    intro m
    induction m with
    | zero =>
      intro x y hf hG
      refine j_lload M dX7_dark_217 rfl ?_
      refine j_lconst (v := 0) M dX7_dark_219 rfl ?_
      refine j_lcmp M dX7_dark_220 ?_
      refine j_if_eq (tgt := 242) M dX7_dark_221 (by decide) (fun h_221 => ?_) (fun h_221 => ?_)
      · rw [lg_eq] at h_221
        have hg : x = darkG (σ 40 4) b n p := by rw [← hG]; simp [gl, h_221]
        have xz : ¬ x = 0 := by rw [hg]; exact dz
        refine j_iload M dX7_dark_242 rfl ?_
        refine j_if_ne (tgt := 255) M dX7_dark_244 (by decide) (fun h_244 => ?_) (fun h_244 => ?_)
        · refine j_lload M dX7_dark_255 rfl ?_
          refine j_lload M dX7_dark_257 rfl ?_
          refine j_ldiv M dX7_dark_259 (by first | decide | assumption | grind) ?_
          exact j_lret M dX7_dark_260 ⟨_, rfl, by (try dsimp only); refine ⟨?_, hfr⟩; unfold darkR; rw [if_pos ⟨b_2, b_14, b_26, b_34⟩, ← hg]; simp [h_221, h_244]⟩
        · refine j_lload M dX7_dark_247 rfl ?_
          refine j_lload M dX7_dark_249 rfl ?_
          refine j_ldiv M dX7_dark_251 (by first | decide | assumption | grind) ?_
          refine j_goto (tgt := 260) M dX7_dark_252 (by decide) ?_
          exact j_lret M dX7_dark_260 ⟨_, rfl, by (try dsimp only); refine ⟨?_, hfr⟩; unfold darkR; rw [if_pos ⟨b_2, b_14, b_26, b_34⟩, ← hg]; simp [h_221, h_244]⟩
      · exact absurd (by simpa [glf] using hf) (fun e => h_221 (by rw [lg_eq]; exact e))
    | succ m ih =>
      intro x y hf hG
      refine j_lload M dX7_dark_217 rfl ?_
      refine j_lconst (v := 0) M dX7_dark_219 rfl ?_
      refine j_lcmp M dX7_dark_220 ?_
      refine j_if_eq (tgt := 242) M dX7_dark_221 (by decide) (fun h_221 => ?_) (fun h_221 => ?_)
      · rw [lg_eq] at h_221
        have hg : x = darkG (σ 40 4) b n p := by rw [← hG]; simp [gl, h_221]
        have xz : ¬ x = 0 := by rw [hg]; exact dz
        refine j_iload M dX7_dark_242 rfl ?_
        refine j_if_ne (tgt := 255) M dX7_dark_244 (by decide) (fun h_244 => ?_) (fun h_244 => ?_)
        · refine j_lload M dX7_dark_255 rfl ?_
          refine j_lload M dX7_dark_257 rfl ?_
          refine j_ldiv M dX7_dark_259 (by first | decide | assumption | grind) ?_
          exact j_lret M dX7_dark_260 ⟨_, rfl, by (try dsimp only); refine ⟨?_, hfr⟩; unfold darkR; rw [if_pos ⟨b_2, b_14, b_26, b_34⟩, ← hg]; simp [h_221, h_244]⟩
        · refine j_lload M dX7_dark_247 rfl ?_
          refine j_lload M dX7_dark_249 rfl ?_
          refine j_ldiv M dX7_dark_251 (by first | decide | assumption | grind) ?_
          refine j_goto (tgt := 260) M dX7_dark_252 (by decide) ?_
          exact j_lret M dX7_dark_260 ⟨_, rfl, by (try dsimp only); refine ⟨?_, hfr⟩; unfold darkR; rw [if_pos ⟨b_2, b_14, b_26, b_34⟩, ← hg]; simp [h_221, h_244]⟩
      · rw [lg_eq] at h_221
        refine j_lload M dX7_dark_224 rfl ?_
        refine j_lload M dX7_dark_226 rfl ?_
        refine j_lrem M dX7_dark_228 (by first | decide | assumption | grind) ?_
        refine j_lstore_14 M dX7_dark_229 (by exact (by first | trivial | rfl)) ?_
        refine j_lload M dX7_dark_231 rfl ?_
        refine j_lstore_10 M dX7_dark_233 (by exact (by first | trivial | rfl)) ?_
        refine j_lload M dX7_dark_235 rfl ?_
        refine j_lstore_12 M dX7_dark_237 (by exact (by first | trivial | rfl)) ?_
        refine j_goto (tgt := 217) M dX7_dark_239 (by decide) ?_
        refine j_forget M (L' := [some (.ref (ad G 40 0)), some (.int b), some (.int n), some (.int p), some (.int w), some (.int (σ 40 4 5)), some (.long _), none, some (.long _), none, some (.long _), none, some (.long _), none, none, none]) (by repeat' (first | exact True.intro | refine ⟨rfl, ?_⟩)) ?_
        unfold glf at hf
        unfold gl at hG
        rw [if_neg h_221] at hf hG
        exact ih _ _ hf hG
  have lp2 : ∀ i : Int32, 0 ≤ i → ∀ τ : Sg, isB (σ 40 4) b → inR 0 n 60 → inR 0 p 10 → inR 0 w 1 → i ≤ σ 40 4 5 + 1 → τ 40 10 = σ 40 4 → frm σ τ 40 [8, 10] → Φ 91 [some (.ref (ad G 40 0)), some (.int b), some (.int n), some (.int p), some (.int w), some (.int (σ 40 4 5)), some (.long (darkA (σ 40 4) b n p i)), none, some (.long (pw10 1 (ones (σ 40 4 5)))), none, some (.int i), none, none, none, none, none] [] τ := by
    refine loop_up (σ 40 4 5 + 1) (fun i hi ih τ b_2 b_14 b_26 b_34 hle e10 hfr => ?_)
    have hB := hS.b b_2
    have e4 : τ 40 4 = σ 40 4 := hfr 40 4 (by decide)
    have l := hB.1.1.2.2.2.2.1
    have lp3 : i < σ 40 4 5 + 1 → i &&& (σ 40 4 5 ^^^ (-1)) = 0 → ∀ j : Int32, 0 ≤ j → j ≤ σ 40 4 0 → Φ 114 [some (.ref (ad G 40 0)), some (.int b), some (.int n), some (.int p), some (.int w), some (.int (σ 40 4 5)), some (.long (darkA (σ 40 4) b n p i)), none, some (.long (pw10 1 (ones (σ 40 4 5)))), none, some (.int i), some (.long (partD (σ 40 4 5) i p j)), none, some (.int j), none, none] [] τ := by
      intro hi2 hz
      have i63 : i < 64 := v_i64 l.1 l.2 hi2
      refine loop_up (σ 40 4 0) (fun j hj jh jle => ?_)
      have w2 : WF (upI (σ 40 4) 5 (σ 40 4 5 &&& (i ^^^ (-1)))) := hB.1.li (sub64 l.1 l.2 hi i63).1 (sub64 l.1 l.2 hi i63).2
      refine j_iload M dX7_dark_114 rfl ?_
      refine j_aload_n M dX7_dark_116 rfl ?_
      refine gf_X7_19 M dX7_dark_117 ?_
      refine j_iconst (v := 0) M dX7_dark_120 rfl ?_
      refine al_40_4 M dX7_dark_121 (by first | assumption | decide) (by first | assumption | decide) ?_
      refine j_icmp_ge (tgt := 170) M dX7_dark_122 (by decide) (fun h_122 => ?_) (fun h_122 => ?_)
      · rw [e4] at h_122
        refine j_aload_n M dX7_dark_170 rfl ?_
        refine gf_X7_19 M dX7_dark_171 ?_
        refine j_iconst (v := 5) M dX7_dark_174 rfl ?_
        refine j_iload M dX7_dark_175 rfl ?_
        refine j_iload M dX7_dark_177 rfl ?_
        refine j_iconst (v := (-1)) M dX7_dark_179 rfl ?_
        refine j_ixor M dX7_dark_180 ?_
        refine j_iand M dX7_dark_181 ?_
        refine as_40_4 M dX7_dark_182 (by first | assumption | decide) (by first | assumption | decide) ?_
        refine j_lload M dX7_dark_183 rfl ?_
        refine j_aload_n M dX7_dark_185 rfl ?_
        refine j_iload_n M dX7_dark_186 rfl ?_
        refine j_iload_n M dX7_dark_187 rfl ?_
        refine j_inv2 M lk_X7_242 (c_X7_pagesBehind ((by rw [up_same, e4]; exact w2)) (b_14.1) (b_2.1) (hB.2.2)) rv_X7 dX7_dark_188 (Nat.le_of_ble_eq_true rfl) ⟨(Nat.le_of_ble_eq_true rfl), (Nat.le_of_ble_eq_true rfl)⟩ (kI fun r_188 σ_188 q_188 => ?_)
        obtain ⟨g1, g2, g3, g4⟩ := q_188
        rw [up_same, gon_fst, e4] at g1
        rw [up_ne _ _ (by decide), e10] at g2
        have f2 : frm σ σ_188 40 [8, 10] := frm_lamp hfr g4 g2
        have f10 : σ_188 40 10 = σ 40 4 := by rw [g4 40 10 (by decide), up_ne _ _ (by decide)]; exact e10
        refine j_if_le (tgt := 199) M dX7_dark_191 (by decide) (fun h_191 => ?_) (fun h_191 => ?_)
        · refine j_lconst (v := 0) M dX7_dark_199 rfl ?_
          refine j_ladd M dX7_dark_200 ?_
          refine j_lstore_6 M dX7_dark_201 (by exact (by first | trivial | rfl)) ?_
          refine j_iinc_10 M dX7_dark_203 (show _ + Int32.ofInt 1 = _ + 1 from rfl) (by exact (by first | trivial | rfl)) ?_
          refine j_goto (tgt := 91) M dX7_dark_206 (by decide) ?_
          have ej : j = σ 40 4 0 := Int32.le_antisymm jle (Int32.not_lt.mp h_122)
          have q := ih hi2 σ_188 b_2 b_14 b_26 b_34 (inc_lt hi hi2).2.1 f10 f2
          have ep : darkA (σ 40 4) b n p (i + 1) = darkF (σ 40 4) b n p (σ 40 4 5) i (darkA (σ 40 4) b n p i) := by unfold darkA; rw [foldI_s _ _ hi hi2]
          rw [ep] at q
          unfold darkF at q
          rw [if_pos hz, ← g1, ← ej] at q
          simp only [h_122, h_191, if_true, if_false] at q
          refine j_forget M (L' := [some (.ref (ad G 40 0)), some (.int b), some (.int n), some (.int p), some (.int w), some (.int (σ 40 4 5)), some (.long _), none, some (.long _), none, some (.int _), none, none, none, none, none]) (by repeat' (first | exact True.intro | refine ⟨rfl, ?_⟩)) ?_
          exact q
        · refine j_lload M dX7_dark_194 rfl ?_
          refine j_goto (tgt := 200) M dX7_dark_196 (by decide) ?_
          refine j_ladd M dX7_dark_200 ?_
          refine j_lstore_6 M dX7_dark_201 (by exact (by first | trivial | rfl)) ?_
          refine j_iinc_10 M dX7_dark_203 (show _ + Int32.ofInt 1 = _ + 1 from rfl) (by exact (by first | trivial | rfl)) ?_
          refine j_goto (tgt := 91) M dX7_dark_206 (by decide) ?_
          have ej : j = σ 40 4 0 := Int32.le_antisymm jle (Int32.not_lt.mp h_122)
          have q := ih hi2 σ_188 b_2 b_14 b_26 b_34 (inc_lt hi hi2).2.1 f10 f2
          have ep : darkA (σ 40 4) b n p (i + 1) = darkF (σ 40 4) b n p (σ 40 4 5) i (darkA (σ 40 4) b n p i) := by unfold darkA; rw [foldI_s _ _ hi hi2]
          rw [ep] at q
          unfold darkF at q
          rw [if_pos hz, ← g1, ← ej] at q
          simp only [h_122, h_191, if_true, if_false] at q
          refine j_forget M (L' := [some (.ref (ad G 40 0)), some (.int b), some (.int n), some (.int p), some (.int w), some (.int (σ 40 4 5)), some (.long _), none, some (.long _), none, some (.int _), none, none, none, none, none]) (by repeat' (first | exact True.intro | refine ⟨rfl, ?_⟩)) ?_
          exact q
      · rw [e4] at h_122
        refine j_lload M dX7_dark_125 rfl ?_
        refine j_iload M dX7_dark_127 rfl ?_
        refine j_iload M dX7_dark_129 rfl ?_
        refine j_invs2 M lk_X7_154 (c_X7_has) dX7_dark_131 (Nat.le_of_ble_eq_true rfl) ⟨(Nat.le_of_ble_eq_true rfl), (Nat.le_of_ble_eq_true rfl)⟩ (kE ?_)
        refine j_if_ne (tgt := 141) M dX7_dark_134 (by decide) (fun h_134 => ?_) (fun h_134 => ?_)
        · refine j_iload M dX7_dark_141 rfl ?_
          refine j_iload M dX7_dark_143 rfl ?_
          refine j_invs2 M lk_X7_154 (c_X7_has) dX7_dark_145 (Nat.le_of_ble_eq_true rfl) ⟨(Nat.le_of_ble_eq_true rfl), (Nat.le_of_ble_eq_true rfl)⟩ (kE ?_)
          refine j_if_eq (tgt := 156) M dX7_dark_148 (by decide) (fun h_148 => ?_) (fun h_148 => ?_)
          · refine j_bipush (v := 10) M dX7_dark_156 rfl ?_
            refine j_iload_n M dX7_dark_158 rfl ?_
            refine j_isub M dX7_dark_159 ?_
            refine j_i2l M dX7_dark_160 ?_
            refine j_lmul M dX7_dark_161 ?_
            refine j_lstore_11 M dX7_dark_162 (by exact (by first | trivial | rfl)) ?_
            refine j_iinc_13 M dX7_dark_164 (show _ + Int32.ofInt 1 = _ + 1 from rfl) (by exact (by first | trivial | rfl)) ?_
            refine j_goto (tgt := 114) M dX7_dark_167 (by decide) ?_
            have ep : partD (σ 40 4 5) i p (j + 1) = partD (σ 40 4 5) i p j * facD (σ 40 4 5) i p j := by unfold partD; rw [foldI_s _ _ hj h_122]
            have q := jh h_122 (inc_lt hj h_122).2.1
            rw [ep] at q
            unfold facD at q
            simp only [h_122, h_134, h_148, if_true, if_false] at q
            exact q
          · refine j_iload_n M dX7_dark_151 rfl ?_
            refine j_i2l M dX7_dark_152 ?_
            refine j_goto (tgt := 161) M dX7_dark_153 (by decide) ?_
            refine j_lmul M dX7_dark_161 ?_
            refine j_lstore_11 M dX7_dark_162 (by exact (by first | trivial | rfl)) ?_
            refine j_iinc_13 M dX7_dark_164 (show _ + Int32.ofInt 1 = _ + 1 from rfl) (by exact (by first | trivial | rfl)) ?_
            refine j_goto (tgt := 114) M dX7_dark_167 (by decide) ?_
            have ep : partD (σ 40 4 5) i p (j + 1) = partD (σ 40 4 5) i p j * facD (σ 40 4 5) i p j := by unfold partD; rw [foldI_s _ _ hj h_122]
            have q := jh h_122 (inc_lt hj h_122).2.1
            rw [ep] at q
            unfold facD at q
            simp only [h_122, h_134, h_148, if_true, if_false] at q
            exact q
        · refine j_lconst (v := 1) M dX7_dark_137 rfl ?_
          refine j_goto (tgt := 161) M dX7_dark_138 (by decide) ?_
          refine j_lmul M dX7_dark_161 ?_
          refine j_lstore_11 M dX7_dark_162 (by exact (by first | trivial | rfl)) ?_
          refine j_iinc_13 M dX7_dark_164 (show _ + Int32.ofInt 1 = _ + 1 from rfl) (by exact (by first | trivial | rfl)) ?_
          refine j_goto (tgt := 114) M dX7_dark_167 (by decide) ?_
          have ep : partD (σ 40 4 5) i p (j + 1) = partD (σ 40 4 5) i p j * facD (σ 40 4 5) i p j := by unfold partD; rw [foldI_s _ _ hj h_122]
          have q := jh h_122 (inc_lt hj h_122).2.1
          rw [ep] at q
          unfold facD at q
          simp only [h_122, h_134, if_true, if_false] at q
          exact q
    refine j_iload M dX7_dark_91 rfl ?_
    refine j_iload M dX7_dark_93 rfl ?_
    refine j_icmp_gt (tgt := 209) M dX7_dark_95 (by decide) (fun h_95 => ?_) (fun h_95 => ?_)
    · have ei : i = σ 40 4 5 + 1 := Int32.le_antisymm hle (v_ge l.1 l.2 h_95)
      subst ei
      refine j_lload M dX7_dark_209 rfl ?_
      refine j_lstore_10 M dX7_dark_211 (by exact (by first | trivial | rfl)) ?_
      refine j_lload M dX7_dark_213 rfl ?_
      refine j_lstore_12 M dX7_dark_215 (by exact (by first | trivial | rfl)) ?_
      exact lp4 b_2 b_14 b_26 b_34 τ hfr 1000 _ _ (dark_ok hB.1 (b := b) (n := n) b_26).2.2 rfl
    · have hi2 := v_le l.1 l.2 hle h_95
      refine j_iload M dX7_dark_98 rfl ?_
      refine j_iload M dX7_dark_100 rfl ?_
      refine j_iconst (v := (-1)) M dX7_dark_102 rfl ?_
      refine j_ixor M dX7_dark_103 ?_
      refine j_iand M dX7_dark_104 ?_
      refine j_if_ne (tgt := 203) M dX7_dark_105 (by decide) (fun h_105 => ?_) (fun h_105 => ?_)
      · refine j_iinc_10 M dX7_dark_203 (show _ + Int32.ofInt 1 = _ + 1 from rfl) (by exact (by first | trivial | rfl)) ?_
        refine j_goto (tgt := 91) M dX7_dark_206 (by decide) ?_
        have q := ih hi2 τ b_2 b_14 b_26 b_34 (inc_lt hi hi2).2.1 e10 hfr
        have ep : darkA (σ 40 4) b n p (i + 1) = darkF (σ 40 4) b n p (σ 40 4 5) i (darkA (σ 40 4) b n p i) := by unfold darkA; rw [foldI_s _ _ hi hi2]
        rw [ep] at q
        unfold darkF at q
        rw [if_neg h_105] at q
        exact q
      · refine j_lconst (v := 1) M dX7_dark_108 rfl ?_
        refine j_lstore_11 M dX7_dark_109 (by exact (by first | trivial | rfl)) ?_
        refine j_iconst (v := 0) M dX7_dark_111 rfl ?_
        refine j_istore_13 M dX7_dark_112 (by exact (by first | trivial | rfl)) ?_
        exact lp3 hi2 h_105 0 (by decide) (le0_of hB.1.1.1.1)
  have lp1 : isB (σ 40 4) b → inR 0 n 60 → inR 0 p 10 → inR 0 w 1 → ∀ k : Int32, 0 ≤ k → ∀ a : Int64, pw10 a k = pw10 1 (ones (σ 40 4 5)) → Φ 69 [some (.ref (ad G 40 0)), some (.int b), some (.int n), some (.int p), some (.int w), some (.int (σ 40 4 5)), some (.long 0), none, some (.long a), none, some (.int k), none, none, none, none, none] [] (up σ 40 10 (σ 40 4)) := by
    intro b_2 b_14 b_26 b_34
    refine loop_dn (fun k hk ih a ha => ?_)
    refine j_iload M dX7_dark_69 rfl ?_
    refine j_if_le (tgt := 88) M dX7_dark_71 (by decide) (fun h_71 => ?_) (fun h_71 => ?_)
    · refine j_iconst (v := 0) M dX7_dark_88 rfl ?_
      refine j_istore_10 M dX7_dark_89 (by exact (by first | trivial | rfl)) ?_
      have ek : k = 0 := Int32.le_antisymm (Int32.not_lt.mp h_71) hk
      have ea : a = pw10 1 (ones (σ 40 4 5)) := by rw [← ha, ek]; rfl
      rw [ea]
      exact lp2 0 (by decide) _ b_2 b_14 b_26 b_34 (inc_ge ((hS.b b_2).1.1.2.2.2.2.1)) (by rw [up_same]) (frm_up (frm_refl _ _ _) (by decide))
    · refine j_lload M dX7_dark_74 rfl ?_
      refine j_ldc2 M kl_X7_262 dX7_dark_76 ?_
      refine j_lmul M dX7_dark_79 ?_
      refine j_lstore_8 M dX7_dark_80 (by exact (by first | trivial | rfl)) ?_
      refine j_iinc_10 M dX7_dark_82 (show _ + Int32.ofInt (-1) = _ + (-1) from rfl) (by exact (by first | trivial | rfl)) ?_
      refine j_goto (tgt := 69) M dX7_dark_85 (by decide) ?_
      have e1 : pw10 (a * 10) (k - 1) = pw10 1 (ones (σ 40 4 5)) := (pw10_s h_71).trans ha
      have q := ih (k - 1) (dec_rng hk h_71).1 (dec_rng hk h_71).2 (a * 10) e1
      rw [dec_eq] at q
      exact q
  refine j_aload_n M dX7_dark_0 rfl ?_
  refine j_iload_n M dX7_dark_1 rfl ?_
  refine j_inv1 M lk_X7_194 (c_X7_isBook) rv_X7 dX7_dark_2 (Nat.le_of_ble_eq_true rfl) ⟨(Nat.le_of_ble_eq_true rfl), (Nat.le_of_ble_eq_true rfl)⟩ (kP fun r_2 k_2 => ?_)
  refine j_if_eq (tgt := 40) M dX7_dark_5 (by decide) (fun h_5 => ?_) (fun h_5 => ?_)
  · have b_2 := ifF k_2 h_5
    refine j_ldc2 M kl_X7_264 dX7_dark_40 ?_
    exact j_lret M dX7_dark_43 ⟨_, rfl, by (try dsimp only); refine ⟨?_, frm_refl _ _ _⟩; unfold darkR; rw [if_neg (fun q => by first | exact b_2 q.1 | exact b_14 q.2.1 | exact b_26 q.2.2.1 | exact b_34 q.2.2.2)]⟩
  · have b_2 := ifT k_2 h_5
    refine j_iload_n M dX7_dark_8 rfl ?_
    refine j_i2l M dX7_dark_9 ?_
    refine j_lconst (v := 0) M dX7_dark_10 rfl ?_
    refine j_ldc2 M kl_X7_214 dX7_dark_11 ?_
    refine j_invs3 M lk_X7_63 (c_X7_inI (a := 0) (b := 60) rfl (by decide) (by decide)) dX7_dark_14 (Nat.le_of_ble_eq_true rfl) ⟨(Nat.le_of_ble_eq_true rfl), (Nat.le_of_ble_eq_true rfl)⟩ (kP fun r_14 k_14 => ?_)
    refine j_if_eq (tgt := 40) M dX7_dark_17 (by decide) (fun h_17 => ?_) (fun h_17 => ?_)
    · have b_14 := ifF k_14 h_17
      refine j_ldc2 M kl_X7_264 dX7_dark_40 ?_
      exact j_lret M dX7_dark_43 ⟨_, rfl, by (try dsimp only); refine ⟨?_, frm_refl _ _ _⟩; unfold darkR; rw [if_neg (fun q => by first | exact b_2 q.1 | exact b_14 q.2.1 | exact b_26 q.2.2.1 | exact b_34 q.2.2.2)]⟩
    · have b_14 := ifT k_14 h_17
      refine j_iload_n M dX7_dark_20 rfl ?_
      refine j_i2l M dX7_dark_21 ?_
      refine j_lconst (v := 0) M dX7_dark_22 rfl ?_
      refine j_ldc2 M kl_X7_262 dX7_dark_23 ?_
      refine j_invs3 M lk_X7_63 (c_X7_inI (a := 0) (b := 10) rfl (by decide) (by decide)) dX7_dark_26 (Nat.le_of_ble_eq_true rfl) ⟨(Nat.le_of_ble_eq_true rfl), (Nat.le_of_ble_eq_true rfl)⟩ (kP fun r_26 k_26 => ?_)
      refine j_if_eq (tgt := 40) M dX7_dark_29 (by decide) (fun h_29 => ?_) (fun h_29 => ?_)
      · have b_26 := ifF k_26 h_29
        refine j_ldc2 M kl_X7_264 dX7_dark_40 ?_
        exact j_lret M dX7_dark_43 ⟨_, rfl, by (try dsimp only); refine ⟨?_, frm_refl _ _ _⟩; unfold darkR; rw [if_neg (fun q => by first | exact b_2 q.1 | exact b_14 q.2.1 | exact b_26 q.2.2.1 | exact b_34 q.2.2.2)]⟩
      · have b_26 := ifT k_26 h_29
        refine j_iload M dX7_dark_32 rfl ?_
        refine j_invs1 M lk_X7_216 (c_X7_isWhat) dX7_dark_34 (Nat.le_of_ble_eq_true rfl) ⟨(Nat.le_of_ble_eq_true rfl), (Nat.le_of_ble_eq_true rfl)⟩ (kP fun r_34 k_34 => ?_)
        refine j_if_ne (tgt := 44) M dX7_dark_37 (by decide) (fun h_37 => ?_) (fun h_37 => ?_)
        · have b_34 := ifT k_34 h_37
          refine j_aload_n M dX7_dark_44 rfl ?_
          refine j_inv0 M lk_X7_219 (c_X7_putAside) rv_X7 dX7_dark_45 (Nat.le_of_ble_eq_true rfl) ⟨(Nat.le_of_ble_eq_true rfl), (Nat.le_of_ble_eq_true rfl)⟩ (kV fun σ_45 q_45 => ?_)
          subst q_45
          refine j_aload_n M dX7_dark_48 rfl ?_
          refine gf_X7_19 M dX7_dark_49 ?_
          refine j_iconst (v := 5) M dX7_dark_52 rfl ?_
          refine al_40_4 M dX7_dark_53 (by first | assumption | decide) (by first | assumption | decide) ?_
          refine j_istore_5 M dX7_dark_54 (by exact (by first | trivial | rfl)) ?_
          refine j_lconst (v := 0) M dX7_dark_56 rfl ?_
          refine j_lstore_6 M dX7_dark_57 (by exact (by first | trivial | rfl)) ?_
          refine j_lconst (v := 1) M dX7_dark_59 rfl ?_
          refine j_lstore_8 M dX7_dark_60 (by exact (by first | trivial | rfl)) ?_
          have l5 := ((hS.b b_2).1.1.2.2.2.2.1)
          refine j_iload M dX7_dark_62 rfl ?_
          refine j_invs1 M lk_X7_197 (c_X7_ones (l5.1) (l5.2)) dX7_dark_64 (Nat.le_of_ble_eq_true rfl) ⟨(Nat.le_of_ble_eq_true rfl), (Nat.le_of_ble_eq_true rfl)⟩ (kE ?_)
          refine j_istore_10 M dX7_dark_67 (by exact (by first | trivial | rfl)) ?_
          exact lp1 b_2 b_14 b_26 b_34 _ (ones_rng _).1 1 rfl
        · have b_34 := ifF k_34 h_37
          refine j_ldc2 M kl_X7_264 dX7_dark_40 ?_
          exact j_lret M dX7_dark_43 ⟨_, rfl, by (try dsimp only); refine ⟨?_, frm_refl _ _ _⟩; unfold darkR; rw [if_neg (fun q => by first | exact b_2 q.1 | exact b_14 q.2.1 | exact b_26 q.2.2.1 | exact b_34 q.2.2.2)]⟩
