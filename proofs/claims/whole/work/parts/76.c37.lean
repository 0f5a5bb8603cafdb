set_option maxRecDepth 100000 in
theorem c_X3_gramsOf {l : Launch} {G : Gw} {σ : Sg} {c : Nat} (hc : isLib c) {f : Int32} {n : Int32} {s : St} (hL : LibF (σ c) s) (hW : WF s) (f0 : 0 ≤ f) (f1 : f < s 1) : Mt l G yX3_gramsOf cX3_gramsOf 7 (some .int) 1 23 [.ref (ad G c 0), .int f, .int n] σ (pI fun r τ => τ = σ ∧ r = if ¬ 0 < (dustA s (s 1)) then 0 else n * s (36 + f) / (dustA s (s 1)) + (if 0 < s (36 + f) ∧ befA s f < overA s n (dustA s (s 1)) (s 1) then 1 else 0)) := by
  refine mt_intro (by decide +kernel) (Nat.le_of_ble_eq_true rfl) (fun Φ M => ?_)
  show Φ 0 [some (.ref (ad G c 0)), some (.int f), some (.int n), none, none, none, none] [] σ
  have fe := hL.2.2 f f0 f1
  have f5 := hW.f5 f1
  have k7 : σ c 0 7 = s 7 := hL.1.2.2.2.2.2.2.2
  have e9 : (if s 1 < f then befA s (s 1) else befA s f) = befA s f := if_neg (Int32.not_lt.mpr (Int32.le_of_lt f1))
  have lp : ∀ i : Int32, 0 ≤ i → i ≤ s 1 → 0 < (dustA s (s 1)) → Φ 32 [some (.ref (ad G c 0)), some (.int f), some (.int n), some (.int (dustA s (s 1))), some (.int (overA s n (dustA s (s 1)) i)), some (.int (if i < f then befA s i else befA s f)), some (.int i)] [] σ := by
    refine loop_up (s 1) (fun i hi ih hle hpos => ?_)
    have dz : ¬ (dustA s (s 1)) = 0 := fun e => by rw [e] at hpos; exact absurd hpos (by decide)
    refine j_iload M dX3_gramsOf_32 rfl ?_
    refine j_aload_n M dX3_gramsOf_34 rfl ?_
    refine gf_X3_15 M hc dX3_gramsOf_35 ?_
    refine j_icmp_ge (tgt := 104) M dX3_gramsOf_38 (by decide) (fun h_38 => ?_) (fun h_38 => ?_)
    · have ei : i = s 1 := Int32.le_antisymm hle (by rw [hL.1.2.1] at h_38; exact Int32.not_lt.mp h_38)
      subst ei
      rw [e9]
      refine j_aload_n M dX3_gramsOf_104 rfl ?_
      refine gf_X3_55 M hc dX3_gramsOf_105 ?_
      refine j_iload_n M dX3_gramsOf_108 rfl ?_
      refine al_L_7 M hc dX3_gramsOf_109 (by first | assumption | decide) (by first | assumption | decide) ?_
      rw [fe.2.2]
      refine j_if_le (tgt := 124) M dX3_gramsOf_110 (by decide) (fun h_110 => ?_) (fun h_110 => ?_)
      · refine j_iconst (v := 0) M dX3_gramsOf_124 rfl ?_
        refine j_istore_6 M dX3_gramsOf_125 (by exact (by first | trivial | rfl)) ?_
        refine j_iload_n M dX3_gramsOf_127 rfl ?_
        refine j_aload_n M dX3_gramsOf_128 rfl ?_
        refine gf_X3_55 M hc dX3_gramsOf_129 ?_
        refine j_iload_n M dX3_gramsOf_132 rfl ?_
        refine al_L_7 M hc dX3_gramsOf_133 (by first | assumption | decide) (by first | assumption | decide) ?_
        rw [fe.2.2]
        refine j_imul M dX3_gramsOf_134 ?_
        refine j_iload_n M dX3_gramsOf_135 rfl ?_
        refine j_idiv M dX3_gramsOf_136 (by first | decide | assumption | grind) ?_
        refine j_iload M dX3_gramsOf_137 rfl ?_
        refine j_if_eq (tgt := 146) M dX3_gramsOf_139 (by decide) (fun h_139 => ?_) (fun h_139 => ?_)
        · refine j_iconst (v := 0) M dX3_gramsOf_146 rfl ?_
          refine j_iadd M dX3_gramsOf_147 ?_
          exact j_iret M dX3_gramsOf_148 ⟨_, rfl, by (try dsimp only); exact ⟨rfl, by rw [if_neg (fun e => e hpos), if_neg (show ¬ (0 < s (36 + f) ∧ befA s f < overA s n (dustA s (s 1)) (s 1)) from fun e => h_110 e.1)]⟩⟩
        · refine j_iconst (v := 1) M dX3_gramsOf_142 rfl ?_
          refine j_goto (tgt := 147) M dX3_gramsOf_143 (by decide) ?_
          refine j_iadd M dX3_gramsOf_147 ?_
          exact j_iret M dX3_gramsOf_148 ⟨_, rfl, by (try dsimp only); first | exact absurd rfl h_139 | exact absurd h_139 (by decide)⟩
      · refine j_iload M dX3_gramsOf_113 rfl ?_
        refine j_iload M dX3_gramsOf_115 rfl ?_
        refine j_icmp_ge (tgt := 124) M dX3_gramsOf_117 (by decide) (fun h_117 => ?_) (fun h_117 => ?_)
        · refine j_iconst (v := 0) M dX3_gramsOf_124 rfl ?_
          refine j_istore_6 M dX3_gramsOf_125 (by exact (by first | trivial | rfl)) ?_
          refine j_iload_n M dX3_gramsOf_127 rfl ?_
          refine j_aload_n M dX3_gramsOf_128 rfl ?_
          refine gf_X3_55 M hc dX3_gramsOf_129 ?_
          refine j_iload_n M dX3_gramsOf_132 rfl ?_
          refine al_L_7 M hc dX3_gramsOf_133 (by first | assumption | decide) (by first | assumption | decide) ?_
          rw [fe.2.2]
          refine j_imul M dX3_gramsOf_134 ?_
          refine j_iload_n M dX3_gramsOf_135 rfl ?_
          refine j_idiv M dX3_gramsOf_136 (by first | decide | assumption | grind) ?_
          refine j_iload M dX3_gramsOf_137 rfl ?_
          refine j_if_eq (tgt := 146) M dX3_gramsOf_139 (by decide) (fun h_139 => ?_) (fun h_139 => ?_)
          · refine j_iconst (v := 0) M dX3_gramsOf_146 rfl ?_
            refine j_iadd M dX3_gramsOf_147 ?_
            exact j_iret M dX3_gramsOf_148 ⟨_, rfl, by (try dsimp only); exact ⟨rfl, by rw [if_neg (fun e => e hpos), if_neg (show ¬ (0 < s (36 + f) ∧ befA s f < overA s n (dustA s (s 1)) (s 1)) from fun e => h_117 e.2)]⟩⟩
          · refine j_iconst (v := 1) M dX3_gramsOf_142 rfl ?_
            refine j_goto (tgt := 147) M dX3_gramsOf_143 (by decide) ?_
            refine j_iadd M dX3_gramsOf_147 ?_
            exact j_iret M dX3_gramsOf_148 ⟨_, rfl, by (try dsimp only); first | exact absurd rfl h_139 | exact absurd h_139 (by decide)⟩
        · refine j_iconst (v := 1) M dX3_gramsOf_120 rfl ?_
          refine j_goto (tgt := 125) M dX3_gramsOf_121 (by decide) ?_
          refine j_istore_6 M dX3_gramsOf_125 (by exact (by first | trivial | rfl)) ?_
          refine j_iload_n M dX3_gramsOf_127 rfl ?_
          refine j_aload_n M dX3_gramsOf_128 rfl ?_
          refine gf_X3_55 M hc dX3_gramsOf_129 ?_
          refine j_iload_n M dX3_gramsOf_132 rfl ?_
          refine al_L_7 M hc dX3_gramsOf_133 (by first | assumption | decide) (by first | assumption | decide) ?_
          rw [fe.2.2]
          refine j_imul M dX3_gramsOf_134 ?_
          refine j_iload_n M dX3_gramsOf_135 rfl ?_
          refine j_idiv M dX3_gramsOf_136 (by first | decide | assumption | grind) ?_
          refine j_iload M dX3_gramsOf_137 rfl ?_
          refine j_if_eq (tgt := 146) M dX3_gramsOf_139 (by decide) (fun h_139 => ?_) (fun h_139 => ?_)
          · refine j_iconst (v := 0) M dX3_gramsOf_146 rfl ?_
            refine j_iadd M dX3_gramsOf_147 ?_
            exact j_iret M dX3_gramsOf_148 ⟨_, rfl, by (try dsimp only); first | exact absurd rfl h_139 | exact absurd h_139 (by decide)⟩
          · refine j_iconst (v := 1) M dX3_gramsOf_142 rfl ?_
            refine j_goto (tgt := 147) M dX3_gramsOf_143 (by decide) ?_
            refine j_iadd M dX3_gramsOf_147 ?_
            exact j_iret M dX3_gramsOf_148 ⟨_, rfl, by (try dsimp only); exact ⟨rfl, by rw [if_neg (fun e => e hpos), if_pos (show (0 < s (36 + f) ∧ befA s f < overA s n (dustA s (s 1)) (s 1)) from ⟨h_110, h_117⟩)]⟩⟩
    · rw [hL.1.2.1] at h_38
      have ge := hL.2.2 i hi h_38
      refine j_iload M dX3_gramsOf_41 rfl ?_
      refine j_iconst (v := 5) M dX3_gramsOf_43 rfl ?_
      refine j_icmp_ge (tgt := 104) M dX3_gramsOf_44 (by decide) (fun h_44 => ?_) (fun h_44 => ?_)
      · exact absurd (hW.f5 h_38) h_44
      · refine j_aload_n M dX3_gramsOf_47 rfl ?_
        refine j_iload M dX3_gramsOf_48 rfl ?_
        refine j_inv1 M lk_X3_69 (c_X3_isCaught hc) (rv_X3 hc) dX3_gramsOf_50 (Nat.le_of_ble_eq_true rfl) ⟨(Nat.le_of_ble_eq_true rfl), (Nat.le_of_ble_eq_true rfl)⟩ (kE ?_)
        refine j_if_ne (tgt := 98) M dX3_gramsOf_53 (by decide) (fun h_53 => ?_) (fun h_53 => ?_)
        · refine j_iinc_6 M dX3_gramsOf_98 (show _ + Int32.ofInt 1 = _ + 1 from rfl) (by exact (by first | trivial | rfl)) ?_
          refine j_goto (tgt := 32) M dX3_gramsOf_101 (by decide) ?_
          have q := ih h_38 (inc_lt hi h_38).2.1 hpos
          rw [k7] at h_53
          rw [ov_c hi h_38 h_53, bf_c hi h_38 h_53] at q
          exact q
        · rw [k7] at h_53
          refine j_iload M dX3_gramsOf_56 rfl ?_
          refine j_iload_n M dX3_gramsOf_58 rfl ?_
          refine j_aload_n M dX3_gramsOf_59 rfl ?_
          refine gf_X3_55 M hc dX3_gramsOf_60 ?_
          refine j_iload M dX3_gramsOf_63 rfl ?_
          refine al_L_7 M hc dX3_gramsOf_65 (by first | assumption | decide) (by first | assumption | decide) ?_
          rw [ge.2.2]
          refine j_imul M dX3_gramsOf_66 ?_
          refine j_iload_n M dX3_gramsOf_67 rfl ?_
          refine j_idiv M dX3_gramsOf_68 (by first | decide | assumption | grind) ?_
          refine j_isub M dX3_gramsOf_69 ?_
          refine j_istore_4 M dX3_gramsOf_70 (by exact (by first | trivial | rfl)) ?_
          refine j_iload M dX3_gramsOf_72 rfl ?_
          refine j_iload M dX3_gramsOf_74 rfl ?_
          refine j_iload_n M dX3_gramsOf_76 rfl ?_
          refine j_icmp_ge (tgt := 94) M dX3_gramsOf_77 (by decide) (fun h_77 => ?_) (fun h_77 => ?_)
          · refine j_iconst (v := 0) M dX3_gramsOf_94 rfl ?_
            refine j_iadd M dX3_gramsOf_95 ?_
            refine j_istore_5 M dX3_gramsOf_96 (by exact (by first | trivial | rfl)) ?_
            refine j_iinc_6 M dX3_gramsOf_98 (show _ + Int32.ofInt 1 = _ + 1 from rfl) (by exact (by first | trivial | rfl)) ?_
            refine j_goto (tgt := 32) M dX3_gramsOf_101 (by decide) ?_
            have q := ih h_38 (inc_lt hi h_38).2.1 hpos
            rw [ov_s hi h_38, bf_s hi h_38, dv1 h_53, if_neg (show ¬ (i < f ∧ 0 < s (36 + i)) from fun e => h_77 e.1)] at q
            exact q
          · refine j_aload_n M dX3_gramsOf_80 rfl ?_
            refine gf_X3_55 M hc dX3_gramsOf_81 ?_
            refine j_iload M dX3_gramsOf_84 rfl ?_
            refine al_L_7 M hc dX3_gramsOf_86 (by first | assumption | decide) (by first | assumption | decide) ?_
            rw [ge.2.2]
            refine j_if_le (tgt := 94) M dX3_gramsOf_87 (by decide) (fun h_87 => ?_) (fun h_87 => ?_)
            · refine j_iconst (v := 0) M dX3_gramsOf_94 rfl ?_
              refine j_iadd M dX3_gramsOf_95 ?_
              refine j_istore_5 M dX3_gramsOf_96 (by exact (by first | trivial | rfl)) ?_
              refine j_iinc_6 M dX3_gramsOf_98 (show _ + Int32.ofInt 1 = _ + 1 from rfl) (by exact (by first | trivial | rfl)) ?_
              refine j_goto (tgt := 32) M dX3_gramsOf_101 (by decide) ?_
              have q := ih h_38 (inc_lt hi h_38).2.1 hpos
              rw [ov_s hi h_38, bf_s hi h_38, dv1 h_53, if_neg (show ¬ (i < f ∧ 0 < s (36 + i)) from fun e => h_87 e.2)] at q
              exact q
            · refine j_iconst (v := 1) M dX3_gramsOf_90 rfl ?_
              refine j_goto (tgt := 95) M dX3_gramsOf_91 (by decide) ?_
              refine j_iadd M dX3_gramsOf_95 ?_
              refine j_istore_5 M dX3_gramsOf_96 (by exact (by first | trivial | rfl)) ?_
              refine j_iinc_6 M dX3_gramsOf_98 (show _ + Int32.ofInt 1 = _ + 1 from rfl) (by exact (by first | trivial | rfl)) ?_
              refine j_goto (tgt := 32) M dX3_gramsOf_101 (by decide) ?_
              have q := ih h_38 (inc_lt hi h_38).2.1 hpos
              rw [ov_s hi h_38, bf_s hi h_38, dv1 h_53, if_pos (show (i < f ∧ 0 < s (36 + i)) from ⟨h_77, h_87⟩)] at q
              exact q
  refine j_aload_n M dX3_gramsOf_0 rfl ?_
  refine j_aload_n M dX3_gramsOf_1 rfl ?_
  refine gf_X3_33 M hc dX3_gramsOf_2 ?_
  refine j_inv1 M lk_X3_80 (c_X3_dustOf hc (hL) (hW.z)) (rv_X3 hc) dX3_gramsOf_5 (Nat.le_of_ble_eq_true rfl) ⟨(Nat.le_of_ble_eq_true rfl), (Nat.le_of_ble_eq_true rfl)⟩ (kE ?_)
  rw [k7, show dustS s (s 7) (s 1) = dustA s (s 1) from rfl]
  refine j_istore_3 M dX3_gramsOf_8 (by exact (by first | trivial | rfl)) ?_
  refine j_iload_n M dX3_gramsOf_9 rfl ?_
  refine j_if_le (tgt := 21) M dX3_gramsOf_10 (by decide) (fun h_10 => ?_) (fun h_10 => ?_)
  · refine j_iconst (v := 0) M dX3_gramsOf_21 rfl ?_
    exact j_iret M dX3_gramsOf_22 ⟨_, rfl, by (try dsimp only); exact ⟨rfl, by rw [if_pos h_10]⟩⟩
  · refine j_aload_n M dX3_gramsOf_13 rfl ?_
    refine j_iload_n M dX3_gramsOf_14 rfl ?_
    refine j_inv1 M lk_X3_83 (c_X3_isFish hc) (rv_X3 hc) dX3_gramsOf_15 (Nat.le_of_ble_eq_true rfl) ⟨(Nat.le_of_ble_eq_true rfl), (Nat.le_of_ble_eq_true rfl)⟩ (kP fun r_15 k_15 => ?_)
    refine j_if_ne (tgt := 23) M dX3_gramsOf_18 (by decide) (fun h_18 => ?_) (fun h_18 => ?_)
    · have b_15 := ifT k_15 h_18
      refine j_iload_n M dX3_gramsOf_23 rfl ?_
      refine j_istore_4 M dX3_gramsOf_24 (by exact (by first | trivial | rfl)) ?_
      refine j_iconst (v := 0) M dX3_gramsOf_26 rfl ?_
      refine j_istore_5 M dX3_gramsOf_27 (by exact (by first | trivial | rfl)) ?_
      refine j_iconst (v := 0) M dX3_gramsOf_29 rfl ?_
      refine j_istore_6 M dX3_gramsOf_30 (by exact (by first | trivial | rfl)) ?_
      have q := lp 0 (by decide) hW.1.2.1.1 h_10
      rw [bf_0 f0] at q
      exact q
    · exact absurd (show 0 ≤ f ∧ f < σ c 0 1 ∧ f < 5 from ⟨f0, by rw [hL.1.2.1]; exact f1, f5⟩) (ifF k_15 h_18)
