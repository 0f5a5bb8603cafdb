theorem add_sub_l (x : Int32) : 20 + x - 20 = x := by grind
set_option maxRecDepth 100000 in
theorem c_X2_bestOrder {l : Launch} {G : Gw} {σ : Sg} {d : Nat} (hd : isLib d) {v : Int32} {n : Int32} {s : St} (hL0 : LibF (σ d) s) (hW : WF s) (hd10 : d ≠ 10) (n0 : 0 ≤ n) : Mt l G yX2_bestOrder cX2_bestOrder 7 (some .int) 5 116 [.ref (ad G 5 0), .ref (ad G d 0), .int v, .int n] σ (pI fun r τ => r = (ordL s v n 721 (List.range (s 0).toNatClampNeg) (-1, [])).1 ∧ isL (τ 5 2) (ordL s v n 721 (List.range (s 0).toNatClampNeg) (-1, [])).2 ∧ (ordL s v n 721 (List.range (s 0).toNatClampNeg) (-1, [])).2.length = (s 0).toNatClampNeg ∧ fr2 σ τ) := by
  refine mt_intro (by decide +kernel) (Nat.le_of_ble_eq_true rfl) (fun Φ M => ?_)
  show Φ 0 [some (.ref (ad G 5 0)), some (.ref (ad G d 0)), some (.int v), some (.int n), none, none, none] [] σ
  have d5 : d ≠ 5 := fun e => absurd hd.1 (by omega)
  have main : ∀ N : Nat, s 0 = nI N → 1 ≤ N → N ≤ 6 → Φ 3 [some (.ref (ad G 5 0)), some (.ref (ad G d 0)), some (.int v), some (.int n), some (.int 0), none, none] [] σ := by
    intro N hN N1 N6
    have bd : ∀ k, k < 6 → 0 ≤ nI k ∧ nI k < 6 := fun k hk => ⟨nI_pos' (by omega), (nI_ltI (b := 6) (by omega) (by decide)).mpr (by omega)⟩
    have ltN : ∀ k, k ≤ 6 → (nI k < nI N ↔ k < N) := fun k hk => nI_ltI (by omega) (by omega)
    have cl : (s 0).toNatClampNeg = N := by rw [hN]; exact nI_clamp (by omega)
    have lp : ∀ (m : Nat) (l : List Nat) (z : Int32 × List Nat) (τ : Sg), m ≤ 720 → chk m N l = true → ordL s v n (m + 1) l z = ordL s v n 721 (List.range N) (-1, []) → (z.1 = -1 ∨ (0 ≤ z.1 ∧ isL (τ 5 2) z.2 ∧ z.2.length = N)) → isL (τ 5 1) l → fr2 σ τ → Φ 31 [some (.ref (ad G 5 0)), some (.ref (ad G d 0)), some (.int v), some (.int n), some (.int z.1), some (.int (nI (720 - m))), none] [] τ := by
      intro m
      induction m with
      | zero => intro l z τ _ hc; exact absurd hc (by simp [chk])
      | succ m ih =>
        intro l z τ hm hc hz hzz hL hfr
        have ck := chk_s hc
        have pp := perm_spec ck.1
        have len := pp.1
        have wp := WF_plc hW N6 hN ck.1
        have k7 : nI (720 - (m + 1)) < 720 := (nI_ltI (b := 720) (by omega) (by decide)).mpr (by omega)
        have j123 : ∀ (y : Int32 × List Nat) (υ : Sg), fr2 σ υ → isL (υ 5 1) l → 0 ≤ y.1 → isL (υ 5 2) y.2 → y.2.length = N → y = ordF s v n l z → Φ 123 [some (.ref (ad G 5 0)), some (.ref (ad G d 0)), some (.int v), some (.int n), some (.int y.1), some (.int (nI (720 - (m + 1)))), none] [] υ := by
          intro y υ ufr uL y0 yL yN hy
          have ud : υ d = σ d := funext (fun k => ufr d k hd10 d5)
          have uB : υ d 0 0 = s 0 := by rw [ud]; exact hL0.1.1
          refine j_aload_n M dX2_bestOrder_123 rfl ?_
          refine j_aload_n M dX2_bestOrder_124 rfl ?_
          refine gf_X2_55 M hd dX2_bestOrder_125 ?_
          rw [uB]
          refine j_bipush (v := 6) M dX2_bestOrder_128 rfl ?_
          refine j_min M mm_X2_59 sm_mmin in_J9 cd_mmin (Nat.le_of_ble_eq_true rfl) (Nat.le_of_ble_eq_true rfl) dX2_bestOrder_130 ?_
          rw [min6 hW.1.1.2]
          refine j_inv1 M lk_X2_65 (c_X2_nextOrder (uL) ((by rw [hN, len])) ((by omega)) ((by omega)) ((fun k hk => by have := pp.2.1 k (by omega); omega))) rv_X2 dX2_bestOrder_133 (Nat.le_of_ble_eq_true rfl) ⟨(Nat.le_of_ble_eq_true rfl), (Nat.le_of_ble_eq_true rfl)⟩ (kI fun r_133 σ_133 q_133 => ?_)
          obtain ⟨q1, q2⟩ := q_133
          refine j_if_ne (tgt := 142) M dX2_bestOrder_136 (by decide) (fun h_136 => ?_) (fun h_136 => ?_)
          · refine j_iinc_5 M dX2_bestOrder_142 (show _ + Int32.ofInt 1 = _ + 1 from rfl) (by exact (by first | trivial | rfl)) ?_
            refine j_goto (tgt := 31) M dX2_bestOrder_145 (by decide) ?_
            rcases hx : nxl l with _ | l2
            · exact absurd (q1 hx).1 h_136
            · obtain ⟨_, s1, s2⟩ := q2 l2 hx
              have q := ih l2 y σ_133 (by omega) ?_ ?_ (Or.inr ⟨y0, by rw [s2 5 2 (by decide)]; exact yL, yN⟩) s1 (fr2_t ufr (fr2_5 s2))
              · rw [show 720 - m = 720 - (m + 1) + 1 by omega, nI_succ] at q
                exact q
              · have := ck.2
                rw [hx] at this
                exact this
              · rw [← hz]
                conv => rhs; unfold ordL
                rw [hx, hy]
          · refine j_goto (tgt := 148) M dX2_bestOrder_139 (by decide) ?_
            refine j_iload M dX2_bestOrder_148 rfl ?_
            exact j_iret M dX2_bestOrder_150 ⟨_, rfl, by (try dsimp only); have hx : nxl l = none := (by rcases hx : nxl l with _ | l2; rfl; exact absurd (q2 l2 hx).1 (by rw [h_136]; decide)); obtain ⟨_, rfl⟩ := q1 hx; have hf : y = ordL s v n 721 (List.range N) (-1, []) := (by rw [← hz]; unfold ordL; rw [hx, hy]); rw [cl, ← hf]; exact ⟨rfl, yL, yN, ufr⟩⟩
        have lpB : ∀ υ0 : Sg, LibF (υ0 10) s → HolF (υ0 10 8) (fun _ => 0) → frm τ υ0 10 [0, 1, 2, 3, 4, 5, 6, 7, 8] → ∀ k, k ≤ 6 → ∀ υ : Sg, (∀ b, 0 ≤ b → b < s 0 → υ 10 3 b = plcN l s (min k N) (20 + b)) → (∀ i, i < k → i < N → υ 10 4 (nI i) = nI (gt l i)) → frm υ0 υ 10 [3, 4] → Φ 50 [some (.ref (ad G 5 0)), some (.ref (ad G d 0)), some (.int v), some (.int n), some (.int z.1), some (.int (nI (720 - (m + 1)))), some (.int (nI k))] [] υ := by
          intro υ0 g0 gH gF
          refine loop_upN 6 (fun k hk jh υ h3 h4 ufr => ?_)
          have xfr : fr2 σ υ := fr2_t hfr (fr2_t (fr2_10 gF) (fr2_10 ufr))
          have u51 : υ 5 1 = τ 5 1 := by rw [ufr 5 1 (by decide), gF 5 1 (by decide)]
          have u52 : υ 5 2 = τ 5 2 := by rw [ufr 5 2 (by decide), gF 5 2 (by decide)]
          have u0 : υ 10 0 0 = nI N := by rw [ufr 10 0 (by decide), g0.1.1, hN]
          refine j_iload M dX2_bestOrder_50 rfl ?_
          refine j_bipush (v := 6) M dX2_bestOrder_52 rfl ?_
          refine j_icmp_ge (tgt := 79) M dX2_bestOrder_54 (by decide) (fun h_54 => ?_) (fun h_54 => ?_)
          · have kn : k = 6 := by
              have : ¬ k < 6 := fun q => h_54 ((nI_ltI (b := 6) (by omega) (by decide)).mpr q)
              omega
            have eL : LibF (υ 10) (plc s l) := put_fin hW N6 hN ck.1 g0 (fun j j3 j4 => ufr 10 j (by simp [j3, j4])) (fun b b0 b1 => by rw [h3 b b0 b1, kn, show min 6 N = N by omega]) (fun i hi => h4 i (by omega) hi)
            have eH : HolF (υ 10 8) (fun _ => 0) := by rw [ufr 10 8 (by decide)]; exact gH
            refine j_aload_n M dX2_bestOrder_79 rfl ?_
            refine gf_X2_12 M dX2_bestOrder_80 ?_
            refine j_iload_n M dX2_bestOrder_83 rfl ?_
            refine j_inv1 M lk_X2_29 (c_X3_passNights lib_then (eL) (wp.1) (eH) (n0)) (rv_X3 lib_then) dX2_bestOrder_84 (Nat.le_of_ble_eq_true rfl) ⟨(Nat.le_of_ble_eq_true rfl), (Nat.le_of_ble_eq_true rfl)⟩ (kV fun σ_84 q_84 => ?_)
            obtain ⟨g1, g2, g3⟩ := q_84
            have wg := gon_WF (p := (plc s l, fun _ => 0)) wp.1 n
            have sb := sum_bd wg.1 v
            have es : sumSet (gon (plc s l, fun _ => 0) n).1 v ((gon (plc s l, fun _ => 0) n).1 0) = sumSet (gS (plc s l) n) v (s 0) := by rw [wg.2.1]; show sumSet _ v (plc s l 0) = _; rw [wp.2]; rfl
            refine j_aload_n M dX2_bestOrder_87 rfl ?_
            refine gf_X2_12 M dX2_bestOrder_88 ?_
            refine j_iload_n M dX2_bestOrder_91 rfl ?_
            refine j_inv1 M lk_X2_45 (c_X3_pagesOf lib_then (g1) (wg.1.z)) (rv_X3 lib_then) dX2_bestOrder_92 (Nat.le_of_ble_eq_true rfl) ⟨(Nat.le_of_ble_eq_true rfl), (Nat.le_of_ble_eq_true rfl)⟩ (kE ?_)
            rw [es]
            rw [es] at sb
            have f1 : fr2 σ σ_84 := fr2_t xfr (fr2_10 g3)
            have f5 : σ_84 5 1 = τ 5 1 := by rw [g3 5 1 (by decide), u51]
            have f6 : σ_84 5 2 = τ 5 2 := by rw [g3 5 2 (by decide), u52]
            refine j_istore_6 M dX2_bestOrder_95 (by exact (by first | trivial | rfl)) ?_
            refine j_iload M dX2_bestOrder_97 rfl ?_
            refine j_iload M dX2_bestOrder_99 rfl ?_
            refine j_icmp_le (tgt := 123) M dX2_bestOrder_101 (by decide) (fun h_101 => ?_) (fun h_101 => ?_)
            · refine j_forget M (L' := [some (.ref (ad G 5 0)), some (.ref (ad G d 0)), some (.int v), some (.int n), some (.int _), some (.int _), none]) (by repeat' (first | exact True.intro | refine ⟨rfl, ?_⟩)) ?_
              have zz : 0 ≤ z.1 ∧ isL (τ 5 2) z.2 ∧ z.2.length = N := by
                rcases hzz with e | e
                · exact absurd (Int32.lt_of_lt_of_le (by rw [e]; decide) sb) h_101
                · exact e
              exact j123 z _ f1 (by rw [f5]; exact hL) zz.1 (by rw [f6]; exact zz.2.1) zz.2.2 (by unfold ordF; rw [if_neg h_101])
            · refine j_iload M dX2_bestOrder_104 rfl ?_
              refine j_istore_4 M dX2_bestOrder_106 (by exact (by first | trivial | rfl)) ?_
              refine j_aload_n M dX2_bestOrder_108 rfl ?_
              refine gf_X2_18 M dX2_bestOrder_109 ?_
              refine j_iconst (v := 0) M dX2_bestOrder_112 rfl ?_
              refine j_aload_n M dX2_bestOrder_113 rfl ?_
              refine gf_X2_22 M dX2_bestOrder_114 ?_
              refine j_iconst (v := 0) M dX2_bestOrder_117 rfl ?_
              refine j_bipush (v := 6) M dX2_bestOrder_118 rfl ?_
              refine j_acopy M (by decide) (by decide) rfl (fun _ => rfl) (by decide) (by decide) mm_X2_49 nt_acopy sm_acopy in_J10 (Nat.le_of_ble_eq_true rfl) (Nat.le_of_ble_eq_true rfl) dX2_bestOrder_120 ((by decide)) ((by decide)) ((by decide)) ((by decide)) ((by decide)) ?_
              refine j_forget M (L' := [some (.ref (ad G 5 0)), some (.ref (ad G d 0)), some (.int v), some (.int n), some (.int _), some (.int _), none]) (by repeat' (first | exact True.intro | refine ⟨rfl, ?_⟩)) ?_
              exact j123 (sumSet (gS (plc s l) n) v (s 0), l) _ (fr2_t f1 (fr2_5 (frm_up (frm_refl _ _ _) (show (2 : Nat) ∈ [2] by decide)))) (by rw [up_ne _ _ (by decide), f5]; exact hL) sb (by rw [up_same, f5]; exact cpy_isL hL (show l.length ≤ 6 by omega)) len (by unfold ordF; rw [if_pos h_101])
          · have kn : k < 6 := (nI_ltI (b := 6) (by omega) (by decide)).mp h_54
            refine j_aload_n M dX2_bestOrder_57 rfl ?_
            refine gf_X2_12 M dX2_bestOrder_58 ?_
            refine j_aload_n M dX2_bestOrder_61 rfl ?_
            refine gf_X2_18 M dX2_bestOrder_62 ?_
            refine j_iload M dX2_bestOrder_65 rfl ?_
            refine al_5_1 M dX2_bestOrder_67 (by first | assumption | decide | exact (bd k kn).1 | exact (bd k kn).2) (by first | assumption | decide | exact (bd k kn).1 | exact (bd k kn).2) ?_
            refine j_iload M dX2_bestOrder_68 rfl ?_
            refine j_inv2 M lk_X2_41 (c_X3_put lib_then) (rv_X3 lib_then) dX2_bestOrder_70 (Nat.le_of_ble_eq_true rfl) ⟨(Nat.le_of_ble_eq_true rfl), (Nat.le_of_ble_eq_true rfl)⟩ (kV fun σ_70 q_70 => ?_)
            refine j_iinc_6 M dX2_bestOrder_73 (show _ + Int32.ofInt 1 = _ + 1 from rfl) (by exact (by first | trivial | rfl)) ?_
            refine j_goto (tgt := 50) M dX2_bestOrder_76 (by decide) ?_
            by_cases hkN : k < N
            · have eg : υ 5 1 (nI k) = nI (gt l k) := by rw [u51]; exact hL k (by omega)
              have gk := pp.2.1 k hkN
              rw [eg, if_pos ⟨⟨nI_pos' (by omega), by rw [u0]; exact (nI_ltI (by omega) (by omega)).mpr gk, (bd _ (by omega)).2⟩, (bd k kn).1, by rw [u0]; exact (ltN k (by omega)).mpr hkN, (bd k kn).2⟩] at q_70
              subst q_70
              have q := jh kn (up (up υ 10 3 (upI (υ 10 3) (nI (gt l k)) (nI k))) 10 4 (upI (υ 10 4) (nI k) (nI (gt l k)))) ?_ ?_ (frm_up (frm_up ufr (by decide)) (by decide))
              · rw [nI_succ] at q
                exact q
              · intro b b0 b1
                rw [up_ne _ _ (by decide), up_same, show min (k + 1) N = k + 1 by omega]
                show upI (υ 10 3) _ _ b = upI (plcN l s k) (20 + nI (gt l k)) (nI k) (20 + b)
                by_cases e : b = nI (gt l k)
                · rw [e, upI_same, upI_same]
                · rw [upI_ne _ _ e, upI_ne _ _ (fun q => e (by have := congrArg (fun z => z - 20) q; simpa [add_sub_l] using this)), h3 b b0 b1, show min k N = k by omega]
              · intro i i1 i2
                rw [up_same]
                by_cases e : i = k
                · rw [e, upI_same]
                · rw [upI_ne _ _ (fun q => e ((nI_eq (by omega) (by omega)).mp q))]
                  exact h4 i (by omega) i2
            · rw [if_neg (fun q => hkN ((ltN k (by omega)).mp (by rw [← u0]; exact q.2.2.1)))] at q_70
              rw [q_70]
              have q := jh kn υ (fun b b0 b1 => by rw [h3 b b0 b1, show min (k + 1) N = min k N by omega]) (fun i i1 i2 => h4 i (by omega) i2) ufr
              rw [nI_succ] at q
              exact q
        refine j_iload M dX2_bestOrder_31 rfl ?_
        refine j_sipush (v := 720) M dX2_bestOrder_33 rfl ?_
        refine j_icmp_ge (tgt := 148) M dX2_bestOrder_36 (by decide) (fun h_36 => ?_) (fun h_36 => ?_)
        · exact absurd k7 h_36
        · have ed : τ d = σ d := funext (fun k => hfr d k hd10 d5)
          refine j_aload_n M dX2_bestOrder_39 rfl ?_
          refine gf_X2_12 M dX2_bestOrder_40 ?_
          refine j_aload_n M dX2_bestOrder_43 rfl ?_
          refine j_inv1 M lk_X2_25 (c_X3_take lib_then hd ((Ne.symm hd10))) (rv_X3 lib_then) dX2_bestOrder_44 (Nat.le_of_ble_eq_true rfl) ⟨(Nat.le_of_ble_eq_true rfl), (Nat.le_of_ble_eq_true rfl)⟩ (kV fun σ_44 q_44 => ?_)
          obtain ⟨t1, t2, t3⟩ := q_44
          have t4 := t1 s hW.z (by rw [ed]; exact hL0)
          refine j_iconst (v := 0) M dX2_bestOrder_47 rfl ?_
          refine j_istore_6 M dX2_bestOrder_48 (by exact (by first | trivial | rfl)) ?_
          exact lpB σ_44 t4 t2 t3 0 (by omega) σ_44 (fun b b0 b1 => by rw [show min 0 N = 0 by omega]; exact (t4.2.1 b b0 b1).2.2.1) (fun i i1 _ => absurd i1 (by omega)) (frm_refl _ _ _)
    have lpA : ∀ k, k ≤ 6 → ∀ τ : Sg, (∀ a, a < k → τ 5 1 (nI a) = nI a) → frm σ τ 5 [1] → Φ 3 [some (.ref (ad G 5 0)), some (.ref (ad G d 0)), some (.int v), some (.int n), some (.int (nI k)), none, none] [] τ := by
      refine loop_upN 6 (fun k hk jh τ hc hfr => ?_)
      refine j_iload M dX2_bestOrder_3 rfl ?_
      refine j_bipush (v := 6) M dX2_bestOrder_5 rfl ?_
      refine j_icmp_ge (tgt := 25) M dX2_bestOrder_7 (by decide) (fun h_7 => ?_) (fun h_7 => ?_)
      · refine j_iconst (v := (-1)) M dX2_bestOrder_25 rfl ?_
        refine j_istore_4 M dX2_bestOrder_26 (by exact (by first | trivial | rfl)) ?_
        refine j_iconst (v := 0) M dX2_bestOrder_28 rfl ?_
        refine j_istore_5 M dX2_bestOrder_29 (by exact (by first | trivial | rfl)) ?_
        have kn : k = 6 := by
          have : ¬ k < 6 := fun q => h_7 ((nI_ltI (b := 6) (by omega) (by decide)).mpr q)
          omega
        exact lp 720 (List.range N) (-1, []) τ (by omega) (chk_M N1 N6) rfl (Or.inl rfl) (fun a ha => by rw [List.length_range] at ha; rw [gt_range ha]; exact hc a (by omega)) (fr2_5 hfr)
      · have kn : k < 6 := (nI_ltI (b := 6) (by omega) (by decide)).mp h_7
        refine j_aload_n M dX2_bestOrder_10 rfl ?_
        refine gf_X2_18 M dX2_bestOrder_11 ?_
        refine j_iload M dX2_bestOrder_14 rfl ?_
        refine j_iload M dX2_bestOrder_16 rfl ?_
        refine as_5_1 M dX2_bestOrder_18 (by first | assumption | decide | exact (bd k kn).1 | exact (bd k kn).2) (by first | assumption | decide | exact (bd k kn).1 | exact (bd k kn).2) ?_
        refine j_iinc_4 M dX2_bestOrder_19 (show _ + Int32.ofInt 1 = _ + 1 from rfl) (by exact (by first | trivial | rfl)) ?_
        refine j_goto (tgt := 3) M dX2_bestOrder_22 (by decide) ?_
        have q := jh kn (up τ 5 1 (upI (τ 5 1) (nI k) (nI k))) (by
          intro a ha
          rw [up_same]
          by_cases e : a = k
          · rw [e, upI_same]
          · rw [upI_ne _ _ (fun q => e ((nI_eq (by omega) (by omega)).mp q))]; exact hc a (by omega)) (frm_up hfr (by decide))
        rw [nI_succ] at q
        exact q
    exact lpA 0 (by omega) _ (fun a ha => absurd ha (by omega)) (frm_refl _ _ _)
  refine j_iconst (v := 0) M dX2_bestOrder_0 rfl ?_
  refine j_istore_4 M dX2_bestOrder_1 (by exact (by first | trivial | rfl)) ?_
  obtain ⟨N, hN', hN⟩ := nI_of (x := s 0) (Int32.not_lt.mpr (le0_of hW.1.1.1))
  have a1 := hW.1.1.1
  have a2 := hW.1.1.2
  rw [hN] at a1 a2
  exact main N hN ((nI_leI (a := 1) (by decide) hN').mp a1) ((nI_leI (b := 6) hN' (by decide)).mp a2)
