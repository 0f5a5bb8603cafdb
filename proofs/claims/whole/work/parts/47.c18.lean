theorem loop_upN {P : Nat → Prop} (N : Nat) (h : ∀ k, k ≤ N → (k < N → P (k + 1)) → P k) : ∀ k, k ≤ N → P k := by
  have : ∀ d k, k + d = N → P k := by
    intro d
    induction d with
    | zero => intro k e; exact h k (by omega) (fun q => absurd q (by omega))
    | succ d ih => intro k e; exact h k (by omega) (fun _ => ih (k + 1) (by omega))
  intro k hk
  exact this (N - k) k (by omega)
theorem chk_s {m N : Nat} {l : List Nat} (h : chk (m + 1) N l = true) : perm N l = true ∧ (match nxl l with | none => true | some l' => chk m N l') = true := by
  unfold chk at h
  exact Bool.and_eq_true_iff.mp h
theorem chk_N {N : Nat} (h1 : 1 ≤ N) (h6 : N ≤ 6) : chk 721 N (List.range N) = true := by
  obtain ⟨k, rfl⟩ : ∃ k, N = k + 1 := ⟨N - 1, by omega⟩
  exact chkF ⟨k, by omega⟩
theorem gt_range {N k : Nat} (h : k < N) : gt (List.range N) k = k := by
  unfold gt
  simp [List.getD_eq_getElem?_getD, h]
theorem p20_rng {k : Nat} (h : k < 6) : 0 ≤ 20 + nI k ∧ 20 + nI k < 41 := by
  rw [show (20 : Int32) = nI 20 from rfl, nI_add]
  exact ⟨nI_pos' (by omega), (nI_ltI (b := 41) (by omega) (by decide)).mpr (by omega)⟩
theorem frm_ord {σ τ υ χ : Sg} (h1 : frm σ τ 40 [8, 10, 11, 12]) (h2 : frm τ υ 40 [4]) (h3 : frm υ χ 40 [4, 8]) : frm σ (up χ 40 4 (σ 40 4)) 40 [8, 10, 11, 12] := by
  intro c k hn
  by_cases e : c = 40 ∧ k = 4
  · obtain ⟨rfl, rfl⟩ := e
    rw [up_same]
  · rw [up_ne _ _ e, h3 c k (fun q => by
      have := q.2
      simp at this
      rcases this with r | r
      · exact e ⟨q.1, r⟩
      · exact hn ⟨q.1, by simp [r]⟩), h2 c k (fun q => e ⟨q.1, by simpa using q.2⟩), h1 c k hn]
set_option maxRecDepth 100000 in
theorem c_X7_order {l : Launch} {G : Gw} {σ : Sg} {v : Int32} {n : Int32} {i : Int32}  (hS : ¬ σ 40 0 4 = 0 → WF (σ 40 4)) : Mt l G yX7_order cX7_order 8 (some .int) 6 136 [.ref (ad G 40 0), .int v, .int n, .int i] σ (pI fun r τ => if σ 40 0 4 = 0 then r = -1000002 ∧ τ = σ else if ¬ (inR 0 v (shl32 1 (σ 40 4 0) - 1) ∧ inR 1 n 12 ∧ inR (-1) i (σ 40 4 0 - 1)) then r = -1000001 ∧ τ = σ else r = ordR (σ 40 4) v n i ∧ frm σ τ 40 [8, 10, 11, 12]) := by
  refine mt_intro (by decide +kernel) (Nat.le_of_ble_eq_true rfl) (fun Φ M => ?_)
  show Φ 0 [some (.ref (ad G 40 0)), some (.int v), some (.int n), some (.int i), none, none, none, none] [] σ
  have main : ∀ N : Nat, σ 40 4 0 = nI N → 1 ≤ N → N ≤ 6 → WF (σ 40 4) → ¬ σ 40 0 4 = 0 → inR 0 v (shl32 1 (σ 40 4 0) - 1) → inR 1 n 12 → inR (-1) i (σ 40 4 0 - 1) → Φ 72 [some (.ref (ad G 40 0)), some (.int v), some (.int n), some (.int i), some (.int 0), none, none, none] [] (up σ 40 10 (σ 40 4)) := by
    intro N hN N1 N6 hW h_4 b_24 b_36 b_56
    have n0 : 0 ≤ n := Int32.le_trans (by decide) b_36.1
    have bd : ∀ k, k < N → 0 ≤ nI k ∧ nI k < 6 := fun k hk => ⟨nI_pos' (by omega), (nI_ltI (b := 6) (by omega) (by decide)).mpr (by omega)⟩
    have ltN : ∀ k, k ≤ N → (nI k < nI N ↔ k < N) := fun k hk => nI_ltI (by omega) (by omega)
    have cl : (σ 40 4 0).toNatClampNeg = N := by rw [hN]; exact nI_clamp (by omega)
    have lpE : ∀ (z : Int32 × List Nat) (τ : Sg), z = ordL (σ 40 4) v n 721 (List.range N) (-1, []) → 0 ≤ z.1 → isL (τ 40 12) z.2 → z.2.length = N → frm σ τ 40 [8, 10, 11, 12] → Φ 104 [some (.ref (ad G 40 0)), some (.int v), some (.int n), some (.int i), some (.int z.1), some (.int 0), none, none] [] τ := by
      intro z τ hz z0 hL hlen hfr
      refine j_iload M dX7_order_104 rfl ?_
      refine j_if_eq (tgt := 222) M dX7_order_106 (by decide) (fun h_106 => ?_) (fun h_106 => ?_)
      · refine j_iload_n M dX7_order_222 rfl ?_
        refine j_if_ge (tgt := 231) M dX7_order_223 (by decide) (fun h_223 => ?_) (fun h_223 => ?_)
        · have i0 : 0 ≤ i := Int32.not_lt.mp h_223
          obtain ⟨x, hx, hi⟩ := nI_of h_223
          have ix : x < N := by
            have q := b_56.2
            rw [hN, hi, show nI N - 1 = nI (N - 1) by obtain ⟨k, rfl⟩ : ∃ k, N = k + 1 := ⟨N - 1, by omega⟩; exact nI_pred k] at q
            have := (nI_leI hx (by omega)).mp q
            omega
          have i6 : i < 6 := by rw [hi]; exact (bd x ix).2
          refine j_aload_n M dX7_order_231 rfl ?_
          refine gf_X7_43 M dX7_order_232 ?_
          refine j_iload_n M dX7_order_235 rfl ?_
          refine al_40_12 M dX7_order_236 (by first | assumption | decide) (by first | assumption | decide) ?_
          exact j_iret M dX7_order_237 ⟨_, rfl, by (try dsimp only); rw [if_neg h_4, if_neg (fun q => q ⟨b_24, b_36, b_56⟩)]; refine ⟨?_, hfr⟩; unfold ordR; rw [cl, ← hz]; rw [if_neg h_223, hi, nI_clamp hx]; exact hL x (by omega)⟩
        · refine j_iload M dX7_order_226 rfl ?_
          refine j_goto (tgt := 237) M dX7_order_228 (by decide) ?_
          exact j_iret M dX7_order_237 ⟨_, rfl, by (try dsimp only); rw [if_neg h_4, if_neg (fun q => q ⟨b_24, b_36, b_56⟩)]; refine ⟨?_, hfr⟩; unfold ordR; rw [cl, ← hz]; rw [if_pos h_223]⟩
      · exact absurd rfl h_106
    have lp : ∀ (m : Nat) (l : List Nat) (z : Int32 × List Nat) (τ : Sg), chk m N l = true → ordL (σ 40 4) v n m l z = ordL (σ 40 4) v n 721 (List.range N) (-1, []) → (z.1 = -1 ∨ (0 ≤ z.1 ∧ isL (τ 40 12) z.2 ∧ z.2.length = N)) → isL (τ 40 11) l → τ 40 10 = σ 40 4 → frm σ τ 40 [8, 10, 11, 12] → Φ 104 [some (.ref (ad G 40 0)), some (.int v), some (.int n), some (.int i), some (.int z.1), some (.int 1), none, none] [] τ := by
      intro m
      induction m with
      | zero => intro l z τ hc; exact absurd hc (by simp [chk])
      | succ m ih =>
        intro l z τ hc hz hzz hL h10 hfr
        have ck := chk_s hc
        have pp := perm_spec ck.1
        have len := pp.1
        have e4 : τ 40 4 = σ 40 4 := hfr 40 4 (by decide)
        have wp := WF_plc hW N6 hN ck.1
        have j207 : ∀ (y : Int32 × List Nat) (υ : Sg), υ 40 10 = σ 40 4 → frm σ υ 40 [8, 10, 11, 12] → isL (υ 40 11) l → 0 ≤ y.1 → isL (υ 40 12) y.2 → y.2.length = N → y = ordF (σ 40 4) v n l z → Φ 207 [some (.ref (ad G 40 0)), some (.int v), some (.int n), some (.int i), some (.int y.1), some (.int 1), none, none] [] υ := by
          intro y υ u10 ufr uL y0 yL yN hy
          have u4 : υ 40 4 = σ 40 4 := ufr 40 4 (by decide)
          refine j_aload_n M dX7_order_207 rfl ?_
          refine j_aload_n M dX7_order_208 rfl ?_
          refine gf_X7_19 M dX7_order_209 ?_
          refine j_iconst (v := 0) M dX7_order_212 rfl ?_
          refine al_40_4 M dX7_order_213 (by first | assumption | decide) (by first | assumption | decide) ?_
          refine j_inv1 M lk_X7_239 (c_X7_isNext (uL) ((by rw [u4, hN, len])) ((by omega)) ((by omega)) ((fun k hk => by have := pp.2.1 k (by omega); omega))) rv_X7 dX7_order_214 (Nat.le_of_ble_eq_true rfl) ⟨(Nat.le_of_ble_eq_true rfl), (Nat.le_of_ble_eq_true rfl)⟩ (kI fun r_214 σ_214 q_214 => ?_)
          obtain ⟨q1, q2⟩ := q_214
          refine j_istore_5 M dX7_order_217 (by exact (by first | trivial | rfl)) ?_
          refine j_goto (tgt := 104) M dX7_order_219 (by decide) ?_
          rcases hx : nxl l with _ | l2
          · obtain ⟨rfl, rfl⟩ := q1 hx
            refine lpE y σ_214 ?_ y0 yL yN ufr
            rw [← hz]
            unfold ordL
            rw [hx, hy]
          · obtain ⟨rfl, s1, s2⟩ := q2 l2 hx
            refine ih l2 y σ_214 ?_ ?_ (Or.inr ⟨y0, by rw [s2 40 12 (by decide)]; exact yL, yN⟩) s1 (by rw [s2 40 10 (by decide)]; exact u10) (frm_trans ufr (frm_mono s2 (by decide)))
            · have := ck.2
              rw [hx] at this
              exact this
            · rw [← hz]
              conv => rhs; unfold ordL
              rw [hx, hy]
        have lpD : ∀ (p : Int32) (υ : Sg), υ 40 10 = σ 40 4 → frm σ υ 40 [8, 10, 11, 12] → isL (υ 40 11) l → 0 ≤ p → (p, l) = ordF (σ 40 4) v n l z → ∀ k, k ≤ N → ∀ χ : Sg, (∀ a, a < k → χ 40 12 (nI a) = nI (gt l a)) → frm υ χ 40 [12] → Φ 176 [some (.ref (ad G 40 0)), some (.int v), some (.int n), some (.int i), some (.int p), some (.int 1), some (.int p), some (.int (nI k))] [] χ := by
          intro p υ u10 ufr uL p0 hp
          refine loop_upN N (fun k hk jh χ hc cfr => ?_)
          have xfr := frm_trans ufr (frm_mono cfr (by decide) : frm υ χ 40 [8, 10, 11, 12])
          have x4 : χ 40 4 = σ 40 4 := xfr 40 4 (by decide)
          have x11 : χ 40 11 = υ 40 11 := cfr 40 11 (by decide)
          refine j_iload M dX7_order_176 rfl ?_
          refine j_aload_n M dX7_order_178 rfl ?_
          refine gf_X7_19 M dX7_order_179 ?_
          refine j_iconst (v := 0) M dX7_order_182 rfl ?_
          refine al_40_4 M dX7_order_183 (by first | assumption | decide | exact (bd k kn).1 | exact (bd k kn).2) (by first | assumption | decide | exact (bd k kn).1 | exact (bd k kn).2) ?_
          refine j_icmp_ge (tgt := 207) M dX7_order_184 (by decide) (fun h_184 => ?_) (fun h_184 => ?_)
          · have kn : k = N := by
              have : ¬ k < N := fun q => h_184 (by rw [x4, hN]; exact (ltN k hk).mpr q)
              omega
            refine j_forget M (L' := [some (.ref (ad G 40 0)), some (.int v), some (.int n), some (.int i), some (.int _), some (.int _), none, none]) (by repeat' (first | exact True.intro | refine ⟨rfl, ?_⟩)) ?_
            exact j207 (p, l) χ (by rw [cfr 40 10 (by decide)]; exact u10) xfr (by rw [x11]; exact uL) p0 (fun a ha => hc a (by have : a < l.length := ha; omega)) len hp
          · have kn := (ltN k hk).mp (by rw [x4, hN] at h_184; exact h_184)
            refine j_aload_n M dX7_order_187 rfl ?_
            refine gf_X7_43 M dX7_order_188 ?_
            refine j_iload M dX7_order_191 rfl ?_
            refine j_aload_n M dX7_order_193 rfl ?_
            refine gf_X7_40 M dX7_order_194 ?_
            refine j_iload M dX7_order_197 rfl ?_
            refine al_40_11 M dX7_order_199 (by first | assumption | decide | exact (bd k kn).1 | exact (bd k kn).2) (by first | assumption | decide | exact (bd k kn).1 | exact (bd k kn).2) ?_
            refine as_40_12 M dX7_order_200 (by first | assumption | decide | exact (bd k kn).1 | exact (bd k kn).2) (by first | assumption | decide | exact (bd k kn).1 | exact (bd k kn).2) ?_
            refine j_iinc_7 M dX7_order_201 (show _ + Int32.ofInt 1 = _ + 1 from rfl) (by exact (by first | trivial | rfl)) ?_
            refine j_goto (tgt := 176) M dX7_order_204 (by decide) ?_
            have q := jh kn (up χ 40 12 (upI (χ 40 12) (nI k) (χ 40 11 (nI k)))) (by
              intro a ha
              rw [up_same]
              by_cases e : a = k
              · rw [e, upI_same, x11]; exact uL k (by omega)
              · rw [upI_ne _ _ (fun q => e ((nI_eq (by omega) (by omega)).mp q))]; exact hc a (by omega)) (frm_up cfr (by decide))
            rw [nI_succ] at q
            exact q
        have lpB : ∀ k, k ≤ N → ∀ υ : Sg, υ 40 4 = plcN l (σ 40 4) k → frm τ υ 40 [4] → Φ 112 [some (.ref (ad G 40 0)), some (.int v), some (.int n), some (.int i), some (.int z.1), some (.int 1), some (.int (nI k)), none] [] υ := by
          refine loop_upN N (fun k hk jh υ u4 ufr => ?_)
          have u11 : υ 40 11 = τ 40 11 := ufr 40 11 (by decide)
          have u10 : υ 40 10 = σ 40 4 := by rw [ufr 40 10 (by decide)]; exact h10
          have u0 : υ 40 4 0 = nI N := by rw [u4, ← hN]; exact plcN_ne _ (fun a ha => (ix_c 20 6 0 (bd _ (pp.2.1 a (by omega))).1 (bd _ (pp.2.1 a (by omega))).2 (by omega) (by omega)).symm)
          refine j_iload M dX7_order_112 rfl ?_
          refine j_aload_n M dX7_order_114 rfl ?_
          refine gf_X7_19 M dX7_order_115 ?_
          refine j_iconst (v := 0) M dX7_order_118 rfl ?_
          refine al_40_4 M dX7_order_119 (by first | assumption | decide | exact (bd k kn).1 | exact (bd k kn).2 | exact ix2.1 | exact ix2.2) (by first | assumption | decide | exact (bd k kn).1 | exact (bd k kn).2 | exact ix2.1 | exact ix2.2) ?_
          refine j_icmp_ge (tgt := 146) M dX7_order_120 (by decide) (fun h_120 => ?_) (fun h_120 => ?_)
          · have kn : k = N := by
              have : ¬ k < N := fun q => h_120 (by rw [u0]; exact (ltN k hk).mpr q)
              omega
            have ep : υ 40 4 = plc (σ 40 4) l := by rw [u4, kn, ← len]; rfl
            have wu : WF (υ 40 4) := by rw [ep]; exact wp.1
            refine j_aload_n M dX7_order_146 rfl ?_
            refine j_iload_n M dX7_order_147 rfl ?_
            refine j_inv1 M lk_X7_208 (c_X7_goOn (wu) (n0)) rv_X7 dX7_order_148 (Nat.le_of_ble_eq_true rfl) ⟨(Nat.le_of_ble_eq_true rfl), (Nat.le_of_ble_eq_true rfl)⟩ (kV fun σ_148 q_148 => ?_)
            obtain ⟨g1, g2, g3⟩ := q_148
            have wg : WF (σ_148 40 4) ∧ σ_148 40 4 0 = υ 40 4 0 := by rw [g1]; exact ⟨(gon_WF (p := (υ 40 4, υ 40 8)) wu n).1, (gon_WF (p := (υ 40 4, υ 40 8)) wu n).2.1⟩
            have sb := sum_bd wg.1 v
            have es : sumSet (σ_148 40 4) v (σ_148 40 4 0) = sumSet (gS (plc (σ 40 4) l) n) v (σ 40 4 0) := by rw [wg.2, g1, gon_fst, ep, wp.2]
            refine j_aload_n M dX7_order_151 rfl ?_
            refine j_iload_n M dX7_order_152 rfl ?_
            refine j_inv1 M lk_X7_236 (c_X7_pagesOf (wg.1.z)) rv_X7 dX7_order_153 (Nat.le_of_ble_eq_true rfl) ⟨(Nat.le_of_ble_eq_true rfl), (Nat.le_of_ble_eq_true rfl)⟩ (kE ?_)
            refine j_istore_6 M dX7_order_156 (by exact (by first | trivial | rfl)) ?_
            rw [es]
            rw [es] at sb
            have f0 : σ_148 40 10 = σ 40 4 := by rw [g3 40 10 (by decide)]; exact u10
            refine j_aload_n M dX7_order_158 rfl ?_
            refine j_inv0 M lk_X7_211 (c_X7_takeBack) rv_X7 dX7_order_159 (Nat.le_of_ble_eq_true rfl) ⟨(Nat.le_of_ble_eq_true rfl), (Nat.le_of_ble_eq_true rfl)⟩ (kV fun σ_159 q_159 => ?_)
            subst q_159
            rw [f0]
            have f1 : frm σ (up σ_148 40 4 (σ 40 4)) 40 [8, 10, 11, 12] := frm_ord hfr ufr g3
            have f2 : (up σ_148 40 4 (σ 40 4)) 40 10 = σ 40 4 := by rw [up_ne _ _ (by decide)]; exact f0
            have f3 : isL ((up σ_148 40 4 (σ 40 4)) 40 11) l := by rw [up_ne _ _ (by decide), g3 40 11 (by decide), u11]; exact hL
            have f4 : (up σ_148 40 4 (σ 40 4)) 40 12 = τ 40 12 := by rw [up_ne _ _ (by decide), g3 40 12 (by decide), ufr 40 12 (by decide)]
            refine j_iload M dX7_order_162 rfl ?_
            refine j_iload M dX7_order_164 rfl ?_
            refine j_icmp_le (tgt := 207) M dX7_order_166 (by decide) (fun h_166 => ?_) (fun h_166 => ?_)
            · have zz : 0 ≤ z.1 ∧ isL (τ 40 12) z.2 ∧ z.2.length = N := by
                rcases hzz with e | e
                · exact absurd (Int32.lt_of_lt_of_le (by rw [e]; decide) sb) h_166
                · exact e
              refine j_forget M (L' := [some (.ref (ad G 40 0)), some (.int v), some (.int n), some (.int i), some (.int _), some (.int _), none, none]) (by repeat' (first | exact True.intro | refine ⟨rfl, ?_⟩)) ?_
              exact j207 z _ f2 f1 f3 zz.1 (by rw [f4]; exact zz.2.1) zz.2.2 (by unfold ordF; rw [if_neg h_166])
            · refine j_iload M dX7_order_169 rfl ?_
              refine j_istore_4 M dX7_order_171 (by exact (by first | trivial | rfl)) ?_
              refine j_iconst (v := 0) M dX7_order_173 rfl ?_
              refine j_istore_7 M dX7_order_174 (by exact (by first | trivial | rfl)) ?_
              exact lpD _ (up σ_148 40 4 (σ 40 4)) f2 f1 f3 sb (by unfold ordF; rw [if_pos h_166]) 0 (by omega) _ (fun a ha => absurd ha (by omega)) (frm_refl _ _ _)
          · have kn := (ltN k hk).mp (by rw [u0] at h_120; exact h_120)
            have eg : υ 40 11 (nI k) = nI (gt l k) := by rw [u11]; exact hL k (by omega)
            have ix2 : 0 ≤ 20 + υ 40 11 (nI k) ∧ 20 + υ 40 11 (nI k) < 41 := by rw [eg]; exact p20_rng (by have := pp.2.1 k kn; omega)
            refine j_aload_n M dX7_order_123 rfl ?_
            refine gf_X7_19 M dX7_order_124 ?_
            refine j_bipush (v := 20) M dX7_order_127 rfl ?_
            refine j_aload_n M dX7_order_129 rfl ?_
            refine gf_X7_40 M dX7_order_130 ?_
            refine j_iload M dX7_order_133 rfl ?_
            refine al_40_11 M dX7_order_135 (by first | assumption | decide | exact (bd k kn).1 | exact (bd k kn).2 | exact ix2.1 | exact ix2.2) (by first | assumption | decide | exact (bd k kn).1 | exact (bd k kn).2 | exact ix2.1 | exact ix2.2) ?_
            refine j_iadd M dX7_order_136 ?_
            refine j_iload M dX7_order_137 rfl ?_
            refine as_40_4 M dX7_order_139 (by first | assumption | decide | exact (bd k kn).1 | exact (bd k kn).2 | exact ix2.1 | exact ix2.2) (by first | assumption | decide | exact (bd k kn).1 | exact (bd k kn).2 | exact ix2.1 | exact ix2.2) ?_
            refine j_iinc_6 M dX7_order_140 (show _ + Int32.ofInt 1 = _ + 1 from rfl) (by exact (by first | trivial | rfl)) ?_
            refine j_goto (tgt := 112) M dX7_order_143 (by decide) ?_
            have q := jh kn (up υ 40 4 (upI (υ 40 4) (20 + υ 40 11 (nI k)) (nI k))) (by rw [up_same, eg, u4]; exact plc_step _ _ _) (frm_up ufr (by decide))
            rw [nI_succ] at q
            exact q
        refine j_iload M dX7_order_104 rfl ?_
        refine j_if_eq (tgt := 222) M dX7_order_106 (by decide) (fun h_106 => ?_) (fun h_106 => ?_)
        · exact absurd h_106 (by decide)
        · refine j_iconst (v := 0) M dX7_order_109 rfl ?_
          refine j_istore_6 M dX7_order_110 (by exact (by first | trivial | rfl)) ?_
          exact lpB 0 (by omega) τ e4 (frm_refl _ _ _)
    have lpA : ∀ k, k ≤ N → ∀ τ : Sg, (∀ a, a < k → τ 40 11 (nI a) = nI a) → τ 40 10 = σ 40 4 → frm σ τ 40 [10, 11] → Φ 72 [some (.ref (ad G 40 0)), some (.int v), some (.int n), some (.int i), some (.int (nI k)), none, none, none] [] τ := by
      refine loop_upN N (fun k hk jh τ hc h10 hfr => ?_)
      have e4 : τ 40 4 = σ 40 4 := hfr 40 4 (by decide)
      refine j_iload M dX7_order_72 rfl ?_
      refine j_aload_n M dX7_order_74 rfl ?_
      refine gf_X7_19 M dX7_order_75 ?_
      refine j_iconst (v := 0) M dX7_order_78 rfl ?_
      refine al_40_4 M dX7_order_79 (by first | assumption | decide | exact (bd k kn).1 | exact (bd k kn).2) (by first | assumption | decide | exact (bd k kn).1 | exact (bd k kn).2) ?_
      refine j_icmp_ge (tgt := 98) M dX7_order_80 (by decide) (fun h_80 => ?_) (fun h_80 => ?_)
      · refine j_iconst (v := (-1)) M dX7_order_98 rfl ?_
        refine j_istore_4 M dX7_order_99 (by exact (by first | trivial | rfl)) ?_
        refine j_iconst (v := 1) M dX7_order_101 rfl ?_
        refine j_istore_5 M dX7_order_102 (by exact (by first | trivial | rfl)) ?_
        have kn : k = N := by
          have : ¬ k < N := fun q => h_80 (by rw [e4, hN]; exact (ltN k hk).mpr q)
          omega
        exact lp 721 (List.range N) (-1, []) τ (chk_N N1 N6) rfl (Or.inl rfl) (fun a ha => by rw [List.length_range] at ha; rw [gt_range ha]; exact hc a (by omega)) h10 (frm_mono hfr (by decide))
      · have kn := (ltN k hk).mp (by rw [e4, hN] at h_80; exact h_80)
        refine j_aload_n M dX7_order_83 rfl ?_
        refine gf_X7_40 M dX7_order_84 ?_
        refine j_iload M dX7_order_87 rfl ?_
        refine j_iload M dX7_order_89 rfl ?_
        refine as_40_11 M dX7_order_91 (by first | assumption | decide | exact (bd k kn).1 | exact (bd k kn).2) (by first | assumption | decide | exact (bd k kn).1 | exact (bd k kn).2) ?_
        refine j_iinc_4 M dX7_order_92 (show _ + Int32.ofInt 1 = _ + 1 from rfl) (by exact (by first | trivial | rfl)) ?_
        refine j_goto (tgt := 72) M dX7_order_95 (by decide) ?_
        have q := jh kn (up τ 40 11 (upI (τ 40 11) (nI k) (nI k))) (by
          intro a ha
          rw [up_same]
          by_cases e : a = k
          · rw [e, upI_same]
          · rw [upI_ne _ _ (fun q => e ((nI_eq (by omega) (by omega)).mp q))]; exact hc a (by omega)) (by rw [up_ne _ _ (by decide)]; exact h10) (frm_up hfr (by decide))
        rw [nI_succ] at q
        exact q
    exact lpA 0 (by omega) _ (fun a ha => absurd ha (by omega)) (by rw [up_same]) (frm_up (frm_refl _ _ _) (by decide))
  refine j_aload_n M dX7_order_0 rfl ?_
  refine gf_X7_147 M dX7_order_1 ?_
  refine j_if_ne (tgt := 10) M dX7_order_4 (by decide) (fun h_4 => ?_) (fun h_4 => ?_)
  · refine j_iload_n M dX7_order_10 rfl ?_
    refine j_i2l M dX7_order_11 ?_
    refine j_lconst (v := 0) M dX7_order_12 rfl ?_
    refine j_iconst (v := 1) M dX7_order_13 rfl ?_
    refine j_aload_n M dX7_order_14 rfl ?_
    refine gf_X7_19 M dX7_order_15 ?_
    refine j_iconst (v := 0) M dX7_order_18 rfl ?_
    refine al_40_4 M dX7_order_19 (by first | assumption | decide) (by first | assumption | decide) ?_
    refine j_ishl M dX7_order_20 ?_
    refine j_iconst (v := 1) M dX7_order_21 rfl ?_
    refine j_isub M dX7_order_22 ?_
    refine j_i2l M dX7_order_23 ?_
    refine j_invs3 M lk_X7_63 (c_X7_inI (a := 0) rfl (by decide) rfl) dX7_order_24 (Nat.le_of_ble_eq_true rfl) ⟨(Nat.le_of_ble_eq_true rfl), (Nat.le_of_ble_eq_true rfl)⟩ (kP fun r_24 k_24 => ?_)
    refine j_if_eq (tgt := 62) M dX7_order_27 (by decide) (fun h_27 => ?_) (fun h_27 => ?_)
    · have b_24 := ifF k_24 h_27
      refine j_ldc M k_X7_73 dX7_order_62 ?_
      exact j_iret M dX7_order_64 ⟨_, rfl, by (try dsimp only); first | (simp [h_4, b_24]; done) | (rw [if_neg h_4, if_pos (fun q => by first | exact b_24 q.1 | exact b_36 q.2.1 | exact b_56 q.2.2)]; exact ⟨rfl, rfl⟩)⟩
    · have b_24 := ifT k_24 h_27
      refine j_iload_n M dX7_order_30 rfl ?_
      refine j_i2l M dX7_order_31 ?_
      refine j_lconst (v := 1) M dX7_order_32 rfl ?_
      refine j_ldc2 M kl_X7_232 dX7_order_33 ?_
      refine j_invs3 M lk_X7_63 (c_X7_inI (a := 1) (b := 12) rfl (by decide) (by decide)) dX7_order_36 (Nat.le_of_ble_eq_true rfl) ⟨(Nat.le_of_ble_eq_true rfl), (Nat.le_of_ble_eq_true rfl)⟩ (kP fun r_36 k_36 => ?_)
      refine j_if_eq (tgt := 62) M dX7_order_39 (by decide) (fun h_39 => ?_) (fun h_39 => ?_)
      · have b_36 := ifF k_36 h_39
        refine j_ldc M k_X7_73 dX7_order_62 ?_
        exact j_iret M dX7_order_64 ⟨_, rfl, by (try dsimp only); first | (simp [h_4, b_24, b_36]; done) | (rw [if_neg h_4, if_pos (fun q => by first | exact b_24 q.1 | exact b_36 q.2.1 | exact b_56 q.2.2)]; exact ⟨rfl, rfl⟩)⟩
      · have b_36 := ifT k_36 h_39
        refine j_iload_n M dX7_order_42 rfl ?_
        refine j_i2l M dX7_order_43 ?_
        refine j_ldc2 M kl_X7_234 dX7_order_44 ?_
        refine j_aload_n M dX7_order_47 rfl ?_
        refine gf_X7_19 M dX7_order_48 ?_
        refine j_iconst (v := 0) M dX7_order_51 rfl ?_
        refine al_40_4 M dX7_order_52 (by first | assumption | decide) (by first | assumption | decide) ?_
        refine j_iconst (v := 1) M dX7_order_53 rfl ?_
        refine j_isub M dX7_order_54 ?_
        refine j_i2l M dX7_order_55 ?_
        refine j_invs3 M lk_X7_63 (c_X7_inI (a := (-1)) rfl (by decide) rfl) dX7_order_56 (Nat.le_of_ble_eq_true rfl) ⟨(Nat.le_of_ble_eq_true rfl), (Nat.le_of_ble_eq_true rfl)⟩ (kP fun r_56 k_56 => ?_)
        refine j_if_ne (tgt := 65) M dX7_order_59 (by decide) (fun h_59 => ?_) (fun h_59 => ?_)
        · have b_56 := ifT k_56 h_59
          refine j_aload_n M dX7_order_65 rfl ?_
          refine j_inv0 M lk_X7_219 (c_X7_putAside) rv_X7 dX7_order_66 (Nat.le_of_ble_eq_true rfl) ⟨(Nat.le_of_ble_eq_true rfl), (Nat.le_of_ble_eq_true rfl)⟩ (kV fun σ_66 q_66 => ?_)
          subst q_66
          refine j_iconst (v := 0) M dX7_order_69 rfl ?_
          refine j_istore_4 M dX7_order_70 (by exact (by first | trivial | rfl)) ?_
          have hW := hS h_4
          obtain ⟨N, hN', hN⟩ := nI_of (x := σ 40 4 0) (Int32.not_lt.mpr (le0_of hW.1.1.1))
          have a1 := hW.1.1.1
          have a2 := hW.1.1.2
          rw [hN] at a1 a2
          exact main N hN ((nI_leI (a := 1) (by decide) hN').mp a1) ((nI_leI (b := 6) hN' (by decide)).mp a2) hW h_4 b_24 b_36 b_56
        · have b_56 := ifF k_56 h_59
          refine j_ldc M k_X7_73 dX7_order_62 ?_
          exact j_iret M dX7_order_64 ⟨_, rfl, by (try dsimp only); first | (simp [h_4, b_24, b_36, b_56]; done) | (rw [if_neg h_4, if_pos (fun q => by first | exact b_24 q.1 | exact b_36 q.2.1 | exact b_56 q.2.2)]; exact ⟨rfl, rfl⟩)⟩
  · refine j_ldc M k_X7_181 dX7_order_7 ?_
    exact j_iret M dX7_order_9 ⟨_, rfl, by (try dsimp only); first | (simp [h_4]; done) | (rw [if_neg h_4, if_pos (fun q => by first | exact b_24 q.1 | exact b_36 q.2.1 | exact b_56 q.2.2)]; exact ⟨rfl, rfl⟩)⟩
