theorem cinv_rng {s : St} (hw : WF s) {b n i p : Int32} (i0 : 0 ≤ i) (i1 : i ≤ shl32 1 (s 1)) (h : cinv s b n i p) : 0 ≤ p ∧ p < 64 := by
  have c7 := hw.1.2.2.2.2.2.2
  have f1 := hw.1.2.1
  have p5 := pow5 f1.1 f1.2
  have u := rest_spec c7.1 c7.2 f1.1 f1.2
  rcases h with ⟨_, h2⟩ | ⟨h1, h2⟩
  · rw [h2]
    exact ⟨u.1.1, Int32.lt_of_lt_of_le (Int32.lt_of_lt_of_le u.1.2 p5.2) (by decide)⟩
  · rw [h2]
    refine ⟨h1, ?_⟩
    rcases catch_rng s b n i0 i1 p5.2 with q | q
    · rw [q]; decide
    · exact Int32.lt_of_lt_of_le q.2 (Int32.le_trans i1 (Int32.le_trans p5.2 (by decide)))
set_option maxRecDepth 100000 in
theorem c_X2_fewestCaught {l : Launch} {G : Gw} {σ : Sg} {d : Nat} (hd : isLib d) {b : Int32} {n : Int32} {s : St} (hL : LibF (σ d) s) (hW : WF s) (hd10 : d ≠ 10) (n0 : 0 ≤ n) (b0 : 0 ≤ b) (b1 : b < s 0) : Mt l G yX2_fewestCaught cX2_fewestCaught 7 (some .int) 5 116 [.ref (ad G 5 0), .ref (ad G d 0), .int b, .int n] σ (pI fun r τ => r = catchP s b n (shl32 1 (s 1)) ∧ frm σ τ 10 [0, 1, 2, 3, 4, 5, 6, 7, 8]) := by
  refine mt_intro (by decide +kernel) (Nat.le_of_ble_eq_true rfl) (fun Φ M => ?_)
  show Φ 0 [some (.ref (ad G 5 0)), some (.ref (ad G d 0)), some (.int b), some (.int n), none, none, none] [] σ
  have f1 := hW.1.2.1
  have pw := pow5 f1.1 f1.2
  have c7 := hW.1.2.2.2.2.2.2
  have u := rest_spec c7.1 c7.2 f1.1 f1.2
  have lp : ∀ i : Int32, 0 ≤ i → ∀ (τ : Sg) (p : Int32), i ≤ shl32 1 (s 1) → cinv s b n i p → frm σ τ 10 [0, 1, 2, 3, 4, 5, 6, 7, 8] → Φ 20 [some (.ref (ad G 5 0)), some (.ref (ad G d 0)), some (.int b), some (.int n), some (.int p), some (.int i), none] [] τ := by
    refine loop_up (shl32 1 (s 1)) (fun i hi ih τ p hle hp hfr => ?_)
    have ed : τ d = σ d := funext (fun k => hfr d k (fun e => hd10 e.1))
    have eL : LibF (τ d) s := by rw [ed]; exact hL
    have k7 : τ d 0 7 = s 7 := eL.1.2.2.2.2.2.2.2
    have p64 : 0 ≤ p ∧ p < 64 := cinv_rng hW hi hle hp
    refine j_iload M dX2_fewestCaught_20 rfl ?_
    refine j_iconst (v := 1) M dX2_fewestCaught_22 rfl ?_
    refine j_aload_n M dX2_fewestCaught_23 rfl ?_
    refine gf_X2_93 M hd dX2_fewestCaught_24 ?_
    refine j_ishl M dX2_fewestCaught_27 ?_
    refine j_icmp_ge (tgt := 129) M dX2_fewestCaught_28 (by decide) (fun h_28 => ?_) (fun h_28 => ?_)
    · refine j_iload M dX2_fewestCaught_129 rfl ?_
      exact j_iret M dX2_fewestCaught_131 ⟨_, rfl, by (try dsimp only); have e : i = shl32 1 (s 1) := Int32.le_antisymm hle (by rw [eL.1.2.1] at h_28; exact Int32.not_lt.mp h_28); subst_vars; exact ⟨(hp.resolve_left (fun q => absurd q.1 (Int32.not_lt.mpr (catch_end hW b0 b1).1))).2, hfr⟩⟩
    · rw [eL.1.2.1] at h_28
      have i32 := Int32.lt_of_lt_of_le h_28 pw.2
      have i64 : i < 64 := Int32.lt_trans i32 (by decide)
      refine j_iload M dX2_fewestCaught_31 rfl ?_
      refine j_aload_n M dX2_fewestCaught_33 rfl ?_
      refine gf_X2_96 M hd dX2_fewestCaught_34 ?_
      refine j_iand M dX2_fewestCaught_37 ?_
      refine j_if_ne (tgt := 45) M dX2_fewestCaught_38 (by decide) (fun h_38 => ?_) (fun h_38 => ?_)
      · refine j_iconst (v := 0) M dX2_fewestCaught_45 rfl ?_
        refine j_istore_6 M dX2_fewestCaught_46 (by exact (by first | trivial | rfl)) ?_
        refine j_iload M dX2_fewestCaught_48 rfl ?_
        refine j_if_eq (tgt := 123) M dX2_fewestCaught_50 (by decide) (fun h_50 => ?_) (fun h_50 => ?_)
        · refine j_iinc_5 M dX2_fewestCaught_123 (show _ + Int32.ofInt 1 = _ + 1 from rfl) (by exact (by first | trivial | rfl)) ?_
          refine j_goto (tgt := 20) M dX2_fewestCaught_126 (by decide) ?_
          refine j_forget M (L' := [some (.ref (ad G 5 0)), some (.ref (ad G d 0)), some (.int _), some (.int _), some (.int _), some (.int _), none]) (by repeat' (first | exact True.intro | refine ⟨rfl, ?_⟩)) ?_
          rw [k7] at h_38
          exact ih h_28 _ _ (inc_lt hi h_28).2.1 (cinv_no hW b0 b1 hi h_28 hp (fun q => h_38 q.1)) hfr
        · exact absurd rfl h_50
      · refine j_iconst (v := 1) M dX2_fewestCaught_41 rfl ?_
        refine j_goto (tgt := 46) M dX2_fewestCaught_42 (by decide) ?_
        refine j_istore_6 M dX2_fewestCaught_46 (by exact (by first | trivial | rfl)) ?_
        refine j_iload M dX2_fewestCaught_48 rfl ?_
        refine j_if_eq (tgt := 123) M dX2_fewestCaught_50 (by decide) (fun h_50 => ?_) (fun h_50 => ?_)
        · refine j_iinc_5 M dX2_fewestCaught_123 (show _ + Int32.ofInt 1 = _ + 1 from rfl) (by exact (by first | trivial | rfl)) ?_
          refine j_goto (tgt := 20) M dX2_fewestCaught_126 (by decide) ?_
          exact absurd h_50 (by decide)
        · refine j_iload M dX2_fewestCaught_53 rfl ?_
          refine j_invs1 M lk_X2_81 (c_J6_bitCount_0f7a4 (hi) (i64)) dX2_fewestCaught_55 (Nat.le_of_ble_eq_true rfl) ⟨(Nat.le_of_ble_eq_true rfl), (Nat.le_of_ble_eq_true rfl)⟩ (kE ?_)
          refine j_iload M dX2_fewestCaught_58 rfl ?_
          refine j_invs1 M lk_X2_81 (c_J6_bitCount_0f7a4 (p64.1) (p64.2)) dX2_fewestCaught_60 (Nat.le_of_ble_eq_true rfl) ⟨(Nat.le_of_ble_eq_true rfl), (Nat.le_of_ble_eq_true rfl)⟩ (kE ?_)
          refine j_icmp_ge (tgt := 123) M dX2_fewestCaught_63 (by decide) (fun h_63 => ?_) (fun h_63 => ?_)
          · refine j_iinc_5 M dX2_fewestCaught_123 (show _ + Int32.ofInt 1 = _ + 1 from rfl) (by exact (by first | trivial | rfl)) ?_
            refine j_goto (tgt := 20) M dX2_fewestCaught_126 (by decide) ?_
            refine j_forget M (L' := [some (.ref (ad G 5 0)), some (.ref (ad G d 0)), some (.int _), some (.int _), some (.int _), some (.int _), none]) (by repeat' (first | exact True.intro | refine ⟨rfl, ?_⟩)) ?_
            exact ih h_28 _ _ (inc_lt hi h_28).2.1 (cinv_no hW b0 b1 hi h_28 hp (fun q => h_63 q.2)) hfr
          · rw [k7] at h_38
            have yes := cinv_yes hi h_28 hp h_38 h_63
            have o := or32 c7.1 c7.2 hi i32
            have w2 := hW.ca o.1 o.2
            refine j_aload_n M dX2_fewestCaught_66 rfl ?_
            refine gf_X2_12 M dX2_fewestCaught_67 ?_
            refine j_aload_n M dX2_fewestCaught_70 rfl ?_
            refine j_inv1 M lk_X2_25 (c_X3_take lib_then hd ((Ne.symm hd10))) (rv_X3 lib_then) dX2_fewestCaught_71 (Nat.le_of_ble_eq_true rfl) ⟨(Nat.le_of_ble_eq_true rfl), (Nat.le_of_ble_eq_true rfl)⟩ (kV fun σ_71 q_71 => ?_)
            obtain ⟨t1, t2, t3⟩ := q_71
            have t4 := t1 s hW.z eL
            refine j_aload_n M dX2_fewestCaught_74 rfl ?_
            refine gf_X2_12 M dX2_fewestCaught_75 ?_
            refine j_dup M dX2_fewestCaught_78 rfl ?_
            refine gf_X2_96 M lib_then dX2_fewestCaught_79 ?_
            refine j_iload M dX2_fewestCaught_82 rfl ?_
            rw [t4.1.2.2.2.2.2.2.2]
            refine j_ior M dX2_fewestCaught_84 ?_
            refine pf_X2_96 M lib_then dX2_fewestCaught_85 ?_
            refine j_aload_n M dX2_fewestCaught_88 rfl ?_
            refine gf_X2_12 M dX2_fewestCaught_89 ?_
            refine j_iload_n M dX2_fewestCaught_92 rfl ?_
            refine j_inv1 M lk_X2_29 (c_X3_passNights lib_then ((by rw [up_at]; exact LibF_w (k := 7) t4 (by omega) hW.z)) (w2) ((by rw [up_ne _ _ (by decide)]; exact t2)) (n0)) (rv_X3 lib_then) dX2_fewestCaught_93 (Nat.le_of_ble_eq_true rfl) ⟨(Nat.le_of_ble_eq_true rfl), (Nat.le_of_ble_eq_true rfl)⟩ (kV fun σ_93 q_93 => ?_)
            obtain ⟨g1, g2, g3⟩ := q_93
            have gw := gon_WF (p := (upI s 7 (s 7 ||| i), fun _ => 0)) w2 n
            have f2 : frm σ σ_93 10 [0, 1, 2, 3, 4, 5, 6, 7, 8] := frm_trans hfr (frm_trans (frm_up t3 (by decide)) (frm_mono g3 (by decide)))
            have gs : σ_93 10 1 b = gS (upI s 7 (s 7 ||| i)) n (8 + b) := (g1.2.1 b b0 (by rw [gw.2.1]; exact b1)).1
            have nw : σ_93 d 1 b = s (8 + b) := by rw [show σ_93 d = σ d from funext (fun k => f2 d k (fun e => hd10 e.1))]; exact (hL.2.1 b b0 b1).1
            refine j_aload_n M dX2_fewestCaught_96 rfl ?_
            refine gf_X2_12 M dX2_fewestCaught_97 ?_
            refine gf_X2_75 M lib_then dX2_fewestCaught_100 ?_
            refine j_iload_n M dX2_fewestCaught_103 rfl ?_
            refine al_L_1 M lib_then dX2_fewestCaught_104 (by first | assumption | decide | exact hW.b6 b1) (by first | assumption | decide | exact hW.b6 b1) ?_
            rw [gs]
            refine j_aload_n M dX2_fewestCaught_105 rfl ?_
            refine gf_X2_75 M hd dX2_fewestCaught_106 ?_
            refine j_iload_n M dX2_fewestCaught_109 rfl ?_
            refine al_L_1 M hd dX2_fewestCaught_110 (by first | assumption | decide | exact hW.b6 b1) (by first | assumption | decide | exact hW.b6 b1) ?_
            rw [nw]
            refine j_icmp_ne (tgt := 119) M dX2_fewestCaught_111 (by decide) (fun h_111 => ?_) (fun h_111 => ?_)
            · refine j_iload M dX2_fewestCaught_119 rfl ?_
              refine j_istore_4 M dX2_fewestCaught_121 (by exact (by first | trivial | rfl)) ?_
              refine j_iinc_5 M dX2_fewestCaught_123 (show _ + Int32.ofInt 1 = _ + 1 from rfl) (by exact (by first | trivial | rfl)) ?_
              refine j_goto (tgt := 20) M dX2_fewestCaught_126 (by decide) ?_
              refine j_forget M (L' := [some (.ref (ad G 5 0)), some (.ref (ad G d 0)), some (.int _), some (.int _), some (.int _), some (.int _), none]) (by repeat' (first | exact True.intro | refine ⟨rfl, ?_⟩)) ?_
              rw [if_neg h_111] at yes
              exact ih h_28 _ _ (inc_lt hi h_28).2.1 yes f2
            · refine j_iload M dX2_fewestCaught_114 rfl ?_
              refine j_goto (tgt := 121) M dX2_fewestCaught_116 (by decide) ?_
              refine j_istore_4 M dX2_fewestCaught_121 (by exact (by first | trivial | rfl)) ?_
              refine j_iinc_5 M dX2_fewestCaught_123 (show _ + Int32.ofInt 1 = _ + 1 from rfl) (by exact (by first | trivial | rfl)) ?_
              refine j_goto (tgt := 20) M dX2_fewestCaught_126 (by decide) ?_
              refine j_forget M (L' := [some (.ref (ad G 5 0)), some (.ref (ad G d 0)), some (.int _), some (.int _), some (.int _), some (.int _), none]) (by repeat' (first | exact True.intro | refine ⟨rfl, ?_⟩)) ?_
              rw [if_pos h_111] at yes
              exact ih h_28 _ _ (inc_lt hi h_28).2.1 yes f2
  refine j_iconst (v := 1) M dX2_fewestCaught_0 rfl ?_
  refine j_aload_n M dX2_fewestCaught_1 rfl ?_
  refine gf_X2_93 M hd dX2_fewestCaught_2 ?_
  refine j_ishl M dX2_fewestCaught_5 ?_
  refine j_iconst (v := 1) M dX2_fewestCaught_6 rfl ?_
  refine j_isub M dX2_fewestCaught_7 ?_
  refine j_aload_n M dX2_fewestCaught_8 rfl ?_
  refine gf_X2_96 M hd dX2_fewestCaught_9 ?_
  refine j_iconst (v := (-1)) M dX2_fewestCaught_12 rfl ?_
  refine j_ixor M dX2_fewestCaught_13 ?_
  refine j_iand M dX2_fewestCaught_14 ?_
  refine j_istore_4 M dX2_fewestCaught_15 (by exact (by first | trivial | rfl)) ?_
  refine j_iconst (v := 0) M dX2_fewestCaught_17 rfl ?_
  refine j_istore_5 M dX2_fewestCaught_18 (by exact (by first | trivial | rfl)) ?_
  exact lp 0 (by decide) _ _ pw.1 (Or.inl ⟨(show (-1000000 : Int32) < 0 by decide), by rw [hL.1.2.1, hL.1.2.2.2.2.2.2.2]; rfl⟩) (frm_refl _ _ _)
