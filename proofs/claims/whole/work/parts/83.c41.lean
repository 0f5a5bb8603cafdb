theorem powBF : ∀ n : Fin 7, 1 ≤ n.val → 0 < shl32 1 (nI n.val) ∧ shl32 1 (nI n.val) ≤ 64 := by decide +kernel
theorem powB {x : Int32} (h : 1 ≤ x ∧ x ≤ 6) : 0 < shl32 1 x ∧ shl32 1 x ≤ 64 ∧ 0 ≤ shl32 1 x := by
  obtain ⟨k, hk, rfl⟩ := nI_of (Int32.not_lt.mpr (Int32.le_trans (by decide) h.1))
  have h6 := (nI_leI (b := 6) hk (by decide)).mp h.2
  have h1 := (nI_leI (a := 1) (by decide) hk).mp h.1
  have q := powBF ⟨k, by omega⟩ h1
  exact ⟨q.1, q.2, Int32.le_of_lt q.1⟩
theorem lt_of_le1 {i m : Int32} (hle : i ≤ m) (h : ¬ m - 1 < i) (h0 : 0 ≤ m) : i < m := by grind
theorem ge_of_le1 {i m : Int32} (hi : 0 ≤ i) (h : m - 1 < i) (h0 : 0 ≤ m) : m ≤ i := by grind
theorem and_bF : ∀ (v : Fin 64) (k : Fin 6), (nI v.val &&& shl32 1 (nI k.val) = 0 ↔ bitv (nI v.val) (nI k.val) = 0) := by decide +kernel
theorem and_b {v k : Int32} (v0 : 0 ≤ v) (v6 : v < 64) (k0 : 0 ≤ k) (k6 : k < 6) : (v &&& shl32 1 k = 0 ↔ bitv v k = 0) := by
  obtain ⟨x, rfl⟩ := as64 v0 v6
  obtain ⟨y, rfl⟩ := as6 k0 k6
  exact and_bF x y
theorem dl_same {σ : Sg} {s : St} {v : Int32} (h : LibF (σ 10) s) (e : v = s 5) : LibF (σ 10) (upI s 5 v) ∧ frm σ σ 10 [0] := by
  rw [e, upI_self]
  exact ⟨h, frm_refl _ _ _⟩
theorem dl_fin {σ : Sg} {s : St} {v w : Int32} (h : LibF (σ 10) s) (hW : WF0 s) (e : w = v) : LibF ((up σ 10 0 (upI (σ 10 0) 5 v)) 10) (upI s 5 w) ∧ frm σ (up σ 10 0 (upI (σ 10 0) 5 v)) 10 [0] := by
  rw [e, up_at]
  exact ⟨LibF_w (k := 5) h (by omega) hW, frm_up (frm_refl _ _ _) (by decide)⟩
set_option maxRecDepth 100000 in
theorem c_X2_casesWithPages {l : Launch} {G : Gw} {σ : Sg} {d : Nat} (hd : isLib d) {b : Int32} {n : Int32} {p : Int32} {s : St} (hL : LibF (σ d) s) (hW : WF s) (hd10 : d ≠ 10) (n0 : 0 ≤ n) (b0 : 0 ≤ b) (b1 : b < s 0) (hl : s 5 < shl32 1 (s 0)) : Mt l G yX2_casesWithPages cX2_casesWithPages 9 (some .long) 6 140 [.ref (ad G 5 0), .ref (ad G d 0), .int b, .int n, .int p] σ (pL fun r τ => r = darkA s b n p (s 5 + 1) ∧ frm σ τ 10 [0, 1, 2, 3, 4, 5, 6, 7, 8]) := by
  refine mt_intro (by decide +kernel) (Nat.le_of_ble_eq_true rfl) (fun Φ M => ?_)
  show Φ 0 [some (.ref (ad G 5 0)), some (.ref (ad G d 0)), some (.int b), some (.int n), some (.int p), none, none, none, none] [] σ
  have l5 := hW.1.2.2.2.2.1
  have pb := powB hW.1.1
  have lp : ∀ i : Int32, 0 ≤ i → ∀ τ : Sg, i ≤ shl32 1 (s 0) → frm σ τ 10 [0, 1, 2, 3, 4, 5, 6, 7, 8] → Φ 6 [some (.ref (ad G 5 0)), some (.ref (ad G d 0)), some (.int b), some (.int n), some (.int p), some (.long (darkA s b n p i)), none, some (.int i), none] [] τ := by
    refine loop_up (shl32 1 (s 0)) (fun i hi ih τ hle hfr => ?_)
    have ed : τ d = σ d := funext (fun k => hfr d k (fun e => hd10 e.1))
    have eL : LibF (τ d) s := by rw [ed]; exact hL
    have k5 : τ d 0 5 = s 5 := eL.1.2.2.2.2.2.1
    have es : i < shl32 1 (s 0) → darkA s b n p (i + 1) = darkF s b n p (s 5) i (darkA s b n p i) := fun q => foldI_s _ _ hi q
    refine j_iload M dX2_casesWithPages_6 rfl ?_
    refine j_aload_n M dX2_casesWithPages_8 rfl ?_
    refine j_inv0 M lk_X2_78 (c_X3_allBooks hd) (rv_X3 hd) dX2_casesWithPages_9 (Nat.le_of_ble_eq_true rfl) ⟨(Nat.le_of_ble_eq_true rfl), (Nat.le_of_ble_eq_true rfl)⟩ (kE ?_)
    rw [eL.1.1]
    refine j_icmp_gt (tgt := 93) M dX2_casesWithPages_12 (by decide) (fun h_12 => ?_) (fun h_12 => ?_)
    · refine j_lload M dX2_casesWithPages_93 rfl ?_
      exact j_lret M dX2_casesWithPages_95 ⟨_, rfl, by (try dsimp only); have ei : i = shl32 1 (s 0) := Int32.le_antisymm hle (ge_of_le1 hi h_12 pb.2.2); refine ⟨?_, hfr⟩; rw [ei]; exact dark_up l5.1 l5.2 pb.2.1 hl⟩
    · have hlt : i < shl32 1 (s 0) := lt_of_le1 hle h_12 pb.2.2
      have i64 : i < 64 := Int32.lt_of_lt_of_le hlt pb.2.1
      have ez := es hlt
      unfold darkF at ez
      refine j_iload M dX2_casesWithPages_15 rfl ?_
      refine j_aload_n M dX2_casesWithPages_17 rfl ?_
      refine gf_X2_72 M hd dX2_casesWithPages_18 ?_
      refine j_iconst (v := (-1)) M dX2_casesWithPages_21 rfl ?_
      refine j_ixor M dX2_casesWithPages_22 ?_
      refine j_iand M dX2_casesWithPages_23 ?_
      rw [k5]
      refine j_if_eq (tgt := 30) M dX2_casesWithPages_24 (by decide) (fun h_24 => ?_) (fun h_24 => ?_)
      · have sb := sub64 l5.1 l5.2 hi i64
        have pe := part_eq (p := p) l5.1 l5.2 hi i64 (le0_of hW.1.1.1) hW.1.1.2 hl h_24
        refine j_aload_n M dX2_casesWithPages_30 rfl ?_
        refine j_aload_n M dX2_casesWithPages_31 rfl ?_
        refine j_aload_n M dX2_casesWithPages_32 rfl ?_
        refine gf_X2_72 M hd dX2_casesWithPages_33 ?_
        refine j_iload M dX2_casesWithPages_36 rfl ?_
        refine j_iconst (v := (-1)) M dX2_casesWithPages_38 rfl ?_
        refine j_ixor M dX2_casesWithPages_39 ?_
        rw [k5]
        refine j_iand M dX2_casesWithPages_40 ?_
        refine j_iload_n M dX2_casesWithPages_41 rfl ?_
        refine j_iload_n M dX2_casesWithPages_42 rfl ?_
        refine j_inv4 M lk_X2_89 (c_X2_pagesIfLit hd (eL) (hW) (hd10) (n0) (sb.1) (sb.2) (b0) (b1)) rv_X2 dX2_casesWithPages_43 (Nat.le_of_ble_eq_true rfl) ⟨(Nat.le_of_ble_eq_true rfl), (Nat.le_of_ble_eq_true rfl)⟩ (kI fun r_43 σ_43 q_43 => ?_)
        obtain ⟨rfl, g3⟩ := q_43
        have hf2 := frm_trans hfr g3
        refine j_if_le (tgt := 87) M dX2_casesWithPages_46 (by decide) (fun h_46 => ?_) (fun h_46 => ?_)
        · refine j_iinc_7 M dX2_casesWithPages_87 (show _ + Int32.ofInt 1 = _ + 1 from rfl) (by exact (by first | trivial | rfl)) ?_
          refine j_goto (tgt := 6) M dX2_casesWithPages_90 (by decide) ?_
          refine j_forget M (L' := [some (.ref (ad G 5 0)), some (.ref (ad G d 0)), some (.int b), some (.int n), some (.int p), some (.long _), none, some (.int _), none]) (by repeat' (first | exact True.intro | refine ⟨rfl, ?_⟩)) ?_
          rw [if_pos h_24, if_neg h_46, Int64.add_zero] at ez
          rw [← ez]
          exact ih hlt σ_43 (inc_lt hi hlt).2.1 hf2
        · refine j_iload M dX2_casesWithPages_49 rfl ?_
          refine j_invs1 M lk_X2_81 (c_J6_bitCount_0f7a4 (hi) (i64)) dX2_casesWithPages_51 (Nat.le_of_ble_eq_true rfl) ⟨(Nat.le_of_ble_eq_true rfl), (Nat.le_of_ble_eq_true rfl)⟩ (kE ?_)
          refine j_istore_8 M dX2_casesWithPages_54 (by exact (by first | trivial | rfl)) ?_
          refine j_lload M dX2_casesWithPages_56 rfl ?_
          refine j_iload M dX2_casesWithPages_58 rfl ?_
          refine j_iload M dX2_casesWithPages_60 rfl ?_
          refine j_invn2 M lk_X2_123 (c_X6_power (pe.2.1)) dX2_casesWithPages_62 (Nat.le_of_ble_eq_true rfl) ⟨(Nat.le_of_ble_eq_true rfl), (Nat.le_of_ble_eq_true rfl)⟩ (kEL ?_)
          refine j_bipush (v := 10) M dX2_casesWithPages_65 rfl ?_
          refine j_iload M dX2_casesWithPages_67 rfl ?_
          refine j_isub M dX2_casesWithPages_69 ?_
          refine j_aload_n M dX2_casesWithPages_70 rfl ?_
          refine gf_X2_72 M hd dX2_casesWithPages_71 ?_
          rw [show σ_43 d = σ d from funext (fun k => hf2 d k (fun e => hd10 e.1)), hL.1.2.2.2.2.2.1]
          refine j_invs1 M lk_X2_81 (c_J6_bitCount_0f7a4 (l5.1) (l5.2)) dX2_casesWithPages_74 (Nat.le_of_ble_eq_true rfl) ⟨(Nat.le_of_ble_eq_true rfl), (Nat.le_of_ble_eq_true rfl)⟩ (kE ?_)
          refine j_iload M dX2_casesWithPages_77 rfl ?_
          refine j_isub M dX2_casesWithPages_79 ?_
          refine j_invn2 M lk_X2_123 (c_X6_power (pe.2.2)) dX2_casesWithPages_80 (Nat.le_of_ble_eq_true rfl) ⟨(Nat.le_of_ble_eq_true rfl), (Nat.le_of_ble_eq_true rfl)⟩ (kEL ?_)
          refine j_lmul M dX2_casesWithPages_83 ?_
          refine j_ladd M dX2_casesWithPages_84 ?_
          refine j_lstore_5 M dX2_casesWithPages_85 (by exact (by first | trivial | rfl)) ?_
          refine j_iinc_7 M dX2_casesWithPages_87 (show _ + Int32.ofInt 1 = _ + 1 from rfl) (by exact (by first | trivial | rfl)) ?_
          refine j_goto (tgt := 6) M dX2_casesWithPages_90 (by decide) ?_
          refine j_forget M (L' := [some (.ref (ad G 5 0)), some (.ref (ad G d 0)), some (.int b), some (.int n), some (.int p), some (.long _), none, some (.int _), none]) (by repeat' (first | exact True.intro | refine ⟨rfl, ?_⟩)) ?_
          rw [if_pos h_24, if_pos h_46, ← pe.1] at ez
          rw [← ez]
          exact ih hlt σ_43 (inc_lt hi hlt).2.1 hf2
      · refine j_goto (tgt := 87) M dX2_casesWithPages_27 (by decide) ?_
        refine j_iinc_7 M dX2_casesWithPages_87 (show _ + Int32.ofInt 1 = _ + 1 from rfl) (by exact (by first | trivial | rfl)) ?_
        refine j_goto (tgt := 6) M dX2_casesWithPages_90 (by decide) ?_
        rw [if_neg h_24] at ez
        rw [← ez]
        exact ih hlt τ (inc_lt hi hlt).2.1 hfr
  refine j_lconst (v := 0) M dX2_casesWithPages_0 rfl ?_
  refine j_lstore_5 M dX2_casesWithPages_1 (by exact (by first | trivial | rfl)) ?_
  refine j_iconst (v := 0) M dX2_casesWithPages_3 rfl ?_
  refine j_istore_7 M dX2_casesWithPages_4 (by exact (by first | trivial | rfl)) ?_
  exact lp 0 (by decide) σ (Int32.le_of_lt pb.1) (frm_refl _ _ _)
set_option maxRecDepth 100000 in
theorem c_X2_drawLamp {l : Launch} {G : Gw} {σ : Sg} {x : Int64} {s : St} (hL : LibF (σ 10) s) (hW : WF s) (x0 : 0 ≤ x) : Mt l G yX2_drawLamp cX2_drawLamp 5 none 1 20 [.ref (ad G 5 0), .long x] σ (pV fun τ => LibF (τ 10) (upI s 5 (litD s x)) ∧ frm σ τ 10 [0]) := by
  refine mt_intro (by decide +kernel) (Nat.le_of_ble_eq_true rfl) (fun Φ M => ?_)
  show Φ 0 [some (.ref (ad G 5 0)), some (.long x), none, none, none] [] σ
  have e5 : σ 10 0 5 = s 5 := hL.1.2.2.2.2.2.1
  have l5 := hW.1.2.2.2.2.1
  have bd := bD_rng hW.1.1.1 hW.1.1.2 x0
  have nz : ¬ (s 0).toInt64 = 0 := L0 hW.1.1.1
  have ab := and_b l5.1 l5.2 bd.1 (hW.b6 bd.2)
  refine j_aload_n M dX2_drawLamp_0 rfl ?_
  refine gf_X2_12 M dX2_drawLamp_1 ?_
  refine gf_X2_55 M lib_then dX2_drawLamp_4 ?_
  refine j_if_gt (tgt := 11) M dX2_drawLamp_7 (by decide) (fun h_7 => ?_) (fun h_7 => ?_)
  · refine j_iconst (v := 1) M dX2_drawLamp_11 rfl ?_
    refine j_lload_n M dX2_drawLamp_12 rfl ?_
    refine j_aload_n M dX2_drawLamp_13 rfl ?_
    refine gf_X2_12 M dX2_drawLamp_14 ?_
    refine gf_X2_55 M lib_then dX2_drawLamp_17 ?_
    rw [hL.1.1]
    refine j_i2l M dX2_drawLamp_20 ?_
    refine j_lrem M dX2_drawLamp_21 (by first | decide | assumption | grind) ?_
    refine j_l2i M dX2_drawLamp_22 ?_
    refine j_ishl M dX2_drawLamp_23 ?_
    rw [show (rem64 x (s 0).toInt64).toInt32 = bD s x from rfl]
    refine j_istore_3 M dX2_drawLamp_24 (by exact (by first | trivial | rfl)) ?_
    refine j_aload_n M dX2_drawLamp_25 rfl ?_
    refine gf_X2_12 M dX2_drawLamp_26 ?_
    refine gf_X2_72 M lib_then dX2_drawLamp_29 ?_
    rw [e5]
    refine j_iload_n M dX2_drawLamp_32 rfl ?_
    refine j_iand M dX2_drawLamp_33 ?_
    refine j_if_eq (tgt := 41) M dX2_drawLamp_34 (by decide) (fun h_34 => ?_) (fun h_34 => ?_)
    · refine j_iconst (v := 0) M dX2_drawLamp_41 rfl ?_
      refine j_istore_4 M dX2_drawLamp_42 (by exact (by first | trivial | rfl)) ?_
      refine j_iload M dX2_drawLamp_44 rfl ?_
      refine j_if_ne (tgt := 92) M dX2_drawLamp_46 (by decide) (fun h_46 => ?_) (fun h_46 => ?_)
      · exact absurd rfl h_46
      · refine j_lload_n M dX2_drawLamp_49 rfl ?_
        refine j_ldc2 M kl_X2_135 dX2_drawLamp_50 ?_
        refine j_lrem M dX2_drawLamp_53 (by first | decide | assumption | grind) ?_
        refine j_lconst (v := 0) M dX2_drawLamp_54 rfl ?_
        refine j_lcmp M dX2_drawLamp_55 ?_
        refine j_if_ne (tgt := 92) M dX2_drawLamp_56 (by decide) (fun h_56 => ?_) (fun h_56 => ?_)
        · refine j_iload M dX2_drawLamp_92 rfl ?_
          refine j_if_eq (tgt := 122) M dX2_drawLamp_94 (by decide) (fun h_94 => ?_) (fun h_94 => ?_)
          · exact j_vret M dX2_drawLamp_122 ⟨rfl, by exact dl_same hL (by unfold litD; rw [if_pos (ab.mp h_34), if_neg (fun q => h_56 ((lg_eq _ _).mpr q.1))])⟩
          · exact absurd rfl h_94
        · refine j_aload_n M dX2_drawLamp_59 rfl ?_
          refine gf_X2_12 M dX2_drawLamp_60 ?_
          refine gf_X2_72 M lib_then dX2_drawLamp_63 ?_
          rw [e5]
          refine j_invs1 M lk_X2_81 (c_J6_bitCount_0f7a4 (l5.1) (l5.2)) dX2_drawLamp_66 (Nat.le_of_ble_eq_true rfl) ⟨(Nat.le_of_ble_eq_true rfl), (Nat.le_of_ble_eq_true rfl)⟩ (kE ?_)
          refine j_aload_n M dX2_drawLamp_69 rfl ?_
          refine gf_X2_12 M dX2_drawLamp_70 ?_
          refine gf_X2_86 M lib_then dX2_drawLamp_73 ?_
          rw [hL.1.2.2.2.1]
          refine j_icmp_ge (tgt := 92) M dX2_drawLamp_76 (by decide) (fun h_76 => ?_) (fun h_76 => ?_)
          · refine j_iload M dX2_drawLamp_92 rfl ?_
            refine j_if_eq (tgt := 122) M dX2_drawLamp_94 (by decide) (fun h_94 => ?_) (fun h_94 => ?_)
            · exact j_vret M dX2_drawLamp_122 ⟨rfl, by exact dl_same hL (by unfold litD; rw [if_pos (ab.mp h_34), if_neg (fun q => h_76 q.2)])⟩
            · exact absurd rfl h_94
          · refine j_aload_n M dX2_drawLamp_79 rfl ?_
            refine gf_X2_12 M dX2_drawLamp_80 ?_
            refine j_dup M dX2_drawLamp_83 rfl ?_
            refine gf_X2_72 M lib_then dX2_drawLamp_84 ?_
            rw [e5]
            refine j_iload_n M dX2_drawLamp_87 rfl ?_
            refine j_ior M dX2_drawLamp_88 ?_
            refine pf_X2_72 M lib_then dX2_drawLamp_89 ?_
            refine j_iload M dX2_drawLamp_92 rfl ?_
            refine j_if_eq (tgt := 122) M dX2_drawLamp_94 (by decide) (fun h_94 => ?_) (fun h_94 => ?_)
            · exact j_vret M dX2_drawLamp_122 ⟨rfl, by exact dl_fin hL hW.z (by unfold litD; rw [if_pos (ab.mp h_34), if_pos ⟨(lg_eq _ _).mp h_56, h_76⟩])⟩
            · exact absurd rfl h_94
    · refine j_iconst (v := 1) M dX2_drawLamp_37 rfl ?_
      refine j_goto (tgt := 42) M dX2_drawLamp_38 (by decide) ?_
      refine j_istore_4 M dX2_drawLamp_42 (by exact (by first | trivial | rfl)) ?_
      refine j_iload M dX2_drawLamp_44 rfl ?_
      refine j_if_ne (tgt := 92) M dX2_drawLamp_46 (by decide) (fun h_46 => ?_) (fun h_46 => ?_)
      · refine j_iload M dX2_drawLamp_92 rfl ?_
        refine j_if_eq (tgt := 122) M dX2_drawLamp_94 (by decide) (fun h_94 => ?_) (fun h_94 => ?_)
        · exact j_vret M dX2_drawLamp_122 ⟨rfl, by exact absurd h_94 (by decide)⟩
        · refine j_lload_n M dX2_drawLamp_97 rfl ?_
          refine j_ldc2 M kl_X2_137 dX2_drawLamp_98 ?_
          refine j_lrem M dX2_drawLamp_101 (by first | decide | assumption | grind) ?_
          refine j_lconst (v := 0) M dX2_drawLamp_102 rfl ?_
          refine j_lcmp M dX2_drawLamp_103 ?_
          refine j_if_ne (tgt := 122) M dX2_drawLamp_104 (by decide) (fun h_104 => ?_) (fun h_104 => ?_)
          · exact j_vret M dX2_drawLamp_122 ⟨rfl, by exact dl_same hL (by unfold litD; rw [if_neg (fun q => h_34 (ab.mpr q)), if_neg (fun q => h_104 ((lg_eq _ _).mpr q))])⟩
          · refine j_aload_n M dX2_drawLamp_107 rfl ?_
            refine gf_X2_12 M dX2_drawLamp_108 ?_
            refine j_dup M dX2_drawLamp_111 rfl ?_
            refine gf_X2_72 M lib_then dX2_drawLamp_112 ?_
            rw [e5]
            refine j_iload_n M dX2_drawLamp_115 rfl ?_
            refine j_iconst (v := (-1)) M dX2_drawLamp_116 rfl ?_
            refine j_ixor M dX2_drawLamp_117 ?_
            refine j_iand M dX2_drawLamp_118 ?_
            refine pf_X2_72 M lib_then dX2_drawLamp_119 ?_
            exact j_vret M dX2_drawLamp_122 ⟨rfl, by exact dl_fin hL hW.z (by unfold litD; rw [if_neg (fun q => h_34 (ab.mpr q)), if_pos ((lg_eq _ _).mp h_104)])⟩
      · exact absurd h_46 (by decide)
  · exact absurd (by rw [hL.1.1]; exact Int32.lt_of_lt_of_le (by decide) hW.1.1.1) h_7
set_option maxRecDepth 100000 in
theorem c_X2_behindCenturies {l : Launch} {G : Gw} {σ : Sg} {d : Nat} (hd : isLib d) {n : Int32} {q : Int32} {s : St} (hL : LibF (σ d) s) (hW : WF s) (hd10 : d ≠ 10) (n0 : 0 ≤ n) (hq : 0 ≤ q.toInt64 ∧ q.toInt64 < 2147483647) : Mt l G yX2_behindCenturies cX2_behindCenturies 7 (some (.object RX3)) 4 94 [.ref (ad G 5 0), .ref (ad G d 0), .int n, .int q] σ (pR fun v τ => v = ad G 10 0 ∧ LibF (τ 10) (drawS s q.toInt64 n).1 ∧ frm σ τ 10 [0, 1, 2, 3, 4, 5, 6, 7, 8]) := by
  refine mt_intro (by decide +kernel) (Nat.le_of_ble_eq_true rfl) (fun Φ M => ?_)
  show Φ 0 [some (.ref (ad G 5 0)), some (.ref (ad G d 0)), some (.int n), some (.int q), none, none, none] [] σ
  have lp : ∀ i : Int32, 0 ≤ i → ∀ τ : Sg, i ≤ n → LibF (τ 10) (drawS s q.toInt64 i).1 → frm σ τ 10 [0, 1, 2, 3, 4, 5, 6, 7, 8] → Φ 15 [some (.ref (ad G 5 0)), some (.ref (ad G d 0)), some (.int n), some (.int q), some (.long (drawS s q.toInt64 i).2), none, some (.int i)] [] τ := by
    refine loop_up n (fun i hi ih τ hle hQ hfr => ?_)
    have wq := drawS_WF hW hq.1 hq.2 i
    have xn := x_next wq.2.1 wq.2.2
    have ld := litD_rng wq.1.1 xn.1
    refine j_iload M dX2_behindCenturies_15 rfl ?_
    refine j_iload_n M dX2_behindCenturies_17 rfl ?_
    refine j_icmp_ge (tgt := 52) M dX2_behindCenturies_18 (by decide) (fun h_18 => ?_) (fun h_18 => ?_)
    · refine j_aload_n M dX2_behindCenturies_52 rfl ?_
      refine gf_X2_12 M dX2_behindCenturies_53 ?_
      exact j_aret M dX2_behindCenturies_56 ⟨_, rfl, by (try dsimp only); have ei : i = n := Int32.le_antisymm hle (Int32.not_lt.mp h_18); rw [ei] at hQ; exact ⟨rfl, hQ, hfr⟩⟩
    · refine j_lload M dX2_behindCenturies_21 rfl ?_
      refine j_ldc2 M kl_X2_127 dX2_behindCenturies_23 ?_
      refine j_lmul M dX2_behindCenturies_26 ?_
      refine j_ldc2 M kl_X2_129 dX2_behindCenturies_27 ?_
      refine j_lrem M dX2_behindCenturies_30 (by first | decide | assumption | grind) ?_
      refine j_lstore_4 M dX2_behindCenturies_31 (by exact (by first | trivial | rfl)) ?_
      refine j_aload_n M dX2_behindCenturies_33 rfl ?_
      refine j_lload M dX2_behindCenturies_34 rfl ?_
      refine j_inv1 M lk_X2_131 (c_X2_drawLamp (hQ) (wq.1.1) (xn.1)) rv_X2 dX2_behindCenturies_36 (Nat.le_of_ble_eq_true rfl) ⟨(Nat.le_of_ble_eq_true rfl), (Nat.le_of_ble_eq_true rfl)⟩ (kV fun σ_36 q_36 => ?_)
      obtain ⟨q1, q2⟩ := q_36
      refine j_aload_n M dX2_behindCenturies_39 rfl ?_
      refine gf_X2_12 M dX2_behindCenturies_40 ?_
      refine j_inv0 M lk_X2_37 (c_X3_passNight lib_then (h := σ_36 10 8) q1 (wq.1.1.li ld.1 ld.2) (fun _ _ _ => rfl)) (rv_X3 lib_then) dX2_behindCenturies_43 (Nat.le_of_ble_eq_true rfl) ⟨(Nat.le_of_ble_eq_true rfl), (Nat.le_of_ble_eq_true rfl)⟩ (kV fun σ_43 q_43 => ?_)
      obtain ⟨q3, q4, q5⟩ := q_43
      refine j_iinc_6 M dX2_behindCenturies_46 (show _ + Int32.ofInt 1 = _ + 1 from rfl) (by exact (by first | trivial | rfl)) ?_
      refine j_goto (tgt := 15) M dX2_behindCenturies_49 (by decide) ?_
      have es : drawS s q.toInt64 (i + 1) = drawF (drawS s q.toInt64 i) := drawS_s hi h_18
      have x2 : (drawS s q.toInt64 (i + 1)).2 = rem64 ((drawS s q.toInt64 i).2 * 16807) 2147483647 := by rw [es]; rfl
      rw [← x2]
      exact ih h_18 _ (inc_lt hi h_18).2.1 (by rw [es]; unfold drawF; rw [show (night (upI (drawS s q.toInt64 i).1 5 (litD (drawS s q.toInt64 i).1 (rem64 ((drawS s q.toInt64 i).2 * 16807) 2147483647)), fun _ => 0)).1 = _ from night_fst _ _ (σ_36 10 8)]; exact q3) (frm_trans (frm_trans hfr (frm_mono q2 (by decide))) (frm_mono q5 (by decide)))
  refine j_aload_n M dX2_behindCenturies_0 rfl ?_
  refine gf_X2_12 M dX2_behindCenturies_1 ?_
  refine j_aload_n M dX2_behindCenturies_4 rfl ?_
  refine j_inv1 M lk_X2_25 (c_X3_take lib_then hd ((Ne.symm hd10))) (rv_X3 lib_then) dX2_behindCenturies_5 (Nat.le_of_ble_eq_true rfl) ⟨(Nat.le_of_ble_eq_true rfl), (Nat.le_of_ble_eq_true rfl)⟩ (kV fun σ_5 q_5 => ?_)
  obtain ⟨t1, t2, t3⟩ := q_5
  have t4 := t1 s hW.z hL
  refine j_iload_n M dX2_behindCenturies_8 rfl ?_
  refine j_i2l M dX2_behindCenturies_9 ?_
  refine j_lstore_4 M dX2_behindCenturies_10 (by exact (by first | trivial | rfl)) ?_
  refine j_iconst (v := 0) M dX2_behindCenturies_12 rfl ?_
  refine j_istore_6 M dX2_behindCenturies_13 (by exact (by first | trivial | rfl)) ?_
  exact lp 0 (by decide) _ n0 t4 t3
