theorem cs_tr {N : Nat} {F0 : Int32} {g : St} {R : PT} (h : CS N F0 g R) (hr : R.1 = true) : CS N F0 g (true, R.2.1, 0) := ⟨h.1, fun _ => h.2.1 hr, fun e => absurd e (show ¬ true = false by decide)⟩
theorem nx_dg {T : St} {N k : Nat} : (48 ≤ nxT T N (true, k, 0) ∧ nxT T N (true, k, 0) ≤ 57) ↔ dg T N k := by
  unfold nxT
  by_cases h : k < N
  · rw [if_pos ⟨rfl, h⟩]
    exact ⟨fun q => ⟨h, q⟩, fun q => q.2⟩
  · rw [if_neg (fun q => h q.2)]
    exact ⟨fun q => absurd q.1 (by decide), fun q => absurd q.1 h⟩
theorem num_b1 {T : St} {N k j : Nat} {a b : Int32} (e : re T N k = k + j) (hb : ¬ dg T N (k + j)) (h : j < 1 ∨ 2 < j) : numT T N a b k = (false, k, 1) := by
  unfold numT
  refine if_neg (fun q => ?_)
  rcases h with h | h
  · rw [show k + j = k by omega] at hb
    exact hb q.1
  · have := q.2
    omega
theorem num_b2 {T : St} {N k j : Nat} {a b : Int32} (hd : dg T N k) (e : re T N k = k + j) (h : j ≤ 2) (hv : ¬ (a ≤ nv T k (k + j) ∧ nv T k (k + j) ≤ b)) : numT T N a b k = (false, k, 2) := by
  unfold numT
  rw [if_pos ⟨hd, by omega⟩, e, if_neg hv]
theorem num_b3 {T : St} {N k j : Nat} {a b : Int32} (hd : dg T N k) (e : re T N k = k + j) (h : j ≤ 2) (hv : a ≤ nv T k (k + j) ∧ nv T k (k + j) ≤ b) : numT T N a b k = (true, k + j, 0) := by
  unfold numT
  rw [if_pos ⟨hd, by omega⟩, e, if_pos hv]
set_option maxRecDepth 100000 in
theorem c_X5_number {l : Launch} {G : Gw} {σ : Sg} {a : Int32} {b : Int32} {N : Nat} {F0 : Int32} {R : PT} {T : St} (hC : CS N F0 (σ 2 0) R) (hT : σ 2 1 = T) : Mt l G yX5_number cX5_number 7 (some .int) 2 41 [.ref (ad G 2 0), .int a, .int b] σ (pI fun r τ => CS N F0 (τ 2 0) (bindT R (numT T N a b)) ∧ ((bindT R (numT T N a b)).1 = true → r = nv T R.2.1 (re T N R.2.1)) ∧ frm σ τ 2 [0]) := by
  refine mt_intro (by decide +kernel) (Nat.le_of_ble_eq_true rfl) (fun Φ M => ?_)
  show Φ 0 [some (.ref (ad G 2 0)), some (.int a), some (.int b), none, none, none, none] [] σ
  subst hT
  rcases Bool.eq_false_or_eq_true R.1 with hr | hr
  · have hC2 := cs_tr hC hr
    have h120 := hC.1.1
    have kN := hC.1.2.2
    have eg := hC.2.1 hr
    have e0 : bindT R (numT (σ 2 1) N a b) = numT (σ 2 1) N a b R.2.1 := bindT_t hr
    generalize R.2.1 = k at *
    have lxE : ∀ (j : Nat) (v x : Int32) (τ : Sg), k + j ≤ N → (∀ i, k ≤ i → i < k + j → dg (σ 2 1) N i) → ¬ dg (σ 2 1) N (k + j) → vI (σ 2 1) k j v → CS N F0 (τ 2 0) (true, k + j, 0) → frm σ τ 2 [0] → Φ 75 [some (.ref (ad G 2 0)), some (.int a), some (.int b), some (.int (nI j)), some (.int v), some (.int (nI k)), some (.int x)] [] τ := by
      intro j v x τ hj ha hb2 hv hq hfr
      have e := re_of (T := (σ 2 1)) (by omega) ha hb2
      have c0 : CS N F0 ((up τ 2 0 (upI (τ 2 0) 3 (nI k))) 2 0) (true, k, 0) := by rw [up_same]; exact cs_at hq (by omega)
      have f0 : frm σ (up τ 2 0 (upI (τ 2 0) 3 (nI k))) 2 [0] := frm_up hfr (by decide)
      refine j_aload_n M dX5_number_75 rfl ?_
      refine gf_X5_22 M dX5_number_76 ?_
      refine j_istore_6 M dX5_number_79 (by exact (by first | trivial | rfl)) ?_
      refine j_aload_n M dX5_number_81 rfl ?_
      refine j_iload M dX5_number_82 rfl ?_
      refine pf_X5_22 M dX5_number_84 ?_
      refine j_iload_n M dX5_number_87 rfl ?_
      refine j_iconst (v := 1) M dX5_number_88 rfl ?_
      refine j_icmp_lt (tgt := 97) M dX5_number_89 (by decide) (fun h_89 => ?_) (fun h_89 => ?_)
      · refine j_aload_n M dX5_number_97 rfl ?_
        refine j_iconst (v := 1) M dX5_number_98 rfl ?_
        refine j_inv1 M lk_X5_62 (c_X5_fail (c0)) rv_X5 dX5_number_99 (Nat.le_of_ble_eq_true rfl) ⟨(Nat.le_of_ble_eq_true rfl), (Nat.le_of_ble_eq_true rfl)⟩ (kV fun σ_99 q_99 => ?_)
        obtain ⟨d1, d2⟩ := q_99
        refine j_goto (tgt := 131) M dX5_number_102 (by decide) ?_
        refine j_iload M dX5_number_131 rfl ?_
        exact j_iret M dX5_number_133 ⟨_, rfl, by (try dsimp only); have z := num_b1 (a := a) (b := b) (N := N) e hb2 (Or.inl ((nI_ltI (b := 1) (by omega) (by decide)).mp h_89)); rw [e0, z]; exact ⟨d1, fun q => absurd q (show ¬ false = true by decide), frm_trans f0 d2⟩⟩
      · refine j_iload_n M dX5_number_92 rfl ?_
        refine j_iconst (v := 2) M dX5_number_93 rfl ?_
        refine j_icmp_le (tgt := 105) M dX5_number_94 (by decide) (fun h_94 => ?_) (fun h_94 => ?_)
        · refine j_iload M dX5_number_105 rfl ?_
          refine j_iload_n M dX5_number_107 rfl ?_
          refine j_icmp_lt (tgt := 117) M dX5_number_108 (by decide) (fun h_108 => ?_) (fun h_108 => ?_)
          · refine j_aload_n M dX5_number_117 rfl ?_
            refine j_iconst (v := 2) M dX5_number_118 rfl ?_
            refine j_inv1 M lk_X5_62 (c_X5_fail (c0)) rv_X5 dX5_number_119 (Nat.le_of_ble_eq_true rfl) ⟨(Nat.le_of_ble_eq_true rfl), (Nat.le_of_ble_eq_true rfl)⟩ (kV fun σ_119 q_119 => ?_)
            obtain ⟨d1, d2⟩ := q_119
            refine j_goto (tgt := 131) M dX5_number_122 (by decide) ?_
            refine j_iload M dX5_number_131 rfl ?_
            exact j_iret M dX5_number_133 ⟨_, rfl, by (try dsimp only); have j1 : 1 ≤ j := (by have q : ¬ j < 1 := fun q => h_89 ((nI_ltI (b := 1) (by omega) (by decide)).mpr q); omega); have j2 : j ≤ 2 := (by have q : ¬ 2 < j := fun q => h_94 ((nI_ltI (a := 2) (by decide) (by omega)).mpr q); omega); have ev := vI_nv hv j1 j2; have dk : dg (σ 2 1) N k := ha k (by omega) (by omega); have z := num_b2 (a := a) (b := b) dk e j2 (by rw [← ev]; exact fun q => absurd h_108 (Int32.not_lt.mpr q.1)); rw [e0, z]; exact ⟨d1, fun q => absurd q (show ¬ false = true by decide), frm_trans f0 d2⟩⟩
          · refine j_iload M dX5_number_111 rfl ?_
            refine j_iload_n M dX5_number_113 rfl ?_
            refine j_icmp_le (tgt := 125) M dX5_number_114 (by decide) (fun h_114 => ?_) (fun h_114 => ?_)
            · refine j_aload_n M dX5_number_125 rfl ?_
              refine j_iload M dX5_number_126 rfl ?_
              refine pf_X5_22 M dX5_number_128 ?_
              refine j_iload M dX5_number_131 rfl ?_
              exact j_iret M dX5_number_133 ⟨_, rfl, by (try dsimp only); have j1 : 1 ≤ j := (by have q : ¬ j < 1 := fun q => h_89 ((nI_ltI (b := 1) (by omega) (by decide)).mpr q); omega); have j2 : j ≤ 2 := (by have q : ¬ 2 < j := fun q => h_94 ((nI_ltI (a := 2) (by decide) (by omega)).mpr q); omega); have ev := vI_nv hv j1 j2; have dk : dg (σ 2 1) N k := ha k (by omega) (by omega); have z := num_b3 (a := a) (b := b) dk e j2 (by rw [← ev]; exact ⟨Int32.not_lt.mp h_108, Int32.not_lt.mp h_114⟩); rw [e0, z]; exact ⟨by rw [up_same, up_same, (hq.2.1 rfl).2.1]; exact cs_at (cs_at hq (by omega)) hj, fun _ => by rw [e]; exact ev, frm_up f0 (by decide)⟩⟩
            · refine j_aload_n M dX5_number_117 rfl ?_
              refine j_iconst (v := 2) M dX5_number_118 rfl ?_
              refine j_inv1 M lk_X5_62 (c_X5_fail (c0)) rv_X5 dX5_number_119 (Nat.le_of_ble_eq_true rfl) ⟨(Nat.le_of_ble_eq_true rfl), (Nat.le_of_ble_eq_true rfl)⟩ (kV fun σ_119 q_119 => ?_)
              obtain ⟨d1, d2⟩ := q_119
              refine j_goto (tgt := 131) M dX5_number_122 (by decide) ?_
              refine j_iload M dX5_number_131 rfl ?_
              exact j_iret M dX5_number_133 ⟨_, rfl, by (try dsimp only); have j1 : 1 ≤ j := (by have q : ¬ j < 1 := fun q => h_89 ((nI_ltI (b := 1) (by omega) (by decide)).mpr q); omega); have j2 : j ≤ 2 := (by have q : ¬ 2 < j := fun q => h_94 ((nI_ltI (a := 2) (by decide) (by omega)).mpr q); omega); have ev := vI_nv hv j1 j2; have dk : dg (σ 2 1) N k := ha k (by omega) (by omega); have z := num_b2 (a := a) (b := b) dk e j2 (by rw [← ev]; exact fun q => absurd h_114 (Int32.not_lt.mpr q.2)); rw [e0, z]; exact ⟨d1, fun q => absurd q (show ¬ false = true by decide), frm_trans f0 d2⟩⟩
        · refine j_aload_n M dX5_number_97 rfl ?_
          refine j_iconst (v := 1) M dX5_number_98 rfl ?_
          refine j_inv1 M lk_X5_62 (c_X5_fail (c0)) rv_X5 dX5_number_99 (Nat.le_of_ble_eq_true rfl) ⟨(Nat.le_of_ble_eq_true rfl), (Nat.le_of_ble_eq_true rfl)⟩ (kV fun σ_99 q_99 => ?_)
          obtain ⟨d1, d2⟩ := q_99
          refine j_goto (tgt := 131) M dX5_number_102 (by decide) ?_
          refine j_iload M dX5_number_131 rfl ?_
          exact j_iret M dX5_number_133 ⟨_, rfl, by (try dsimp only); have z := num_b1 (a := a) (b := b) (N := N) e hb2 (Or.inr ((nI_ltI (a := 2) (by decide) (by omega)).mp h_94)); rw [e0, z]; exact ⟨d1, fun q => absurd q (show ¬ false = true by decide), frm_trans f0 d2⟩⟩
    have lp : ∀ j, j ≤ N - k → ∀ (v : Int32) (τ : Sg), (∀ i, k ≤ i → i < k + j → dg (σ 2 1) N i) → vI (σ 2 1) k j v → CS N F0 (τ 2 0) (true, k + j, 0) → frm σ τ 2 [0] → Φ 14 [some (.ref (ad G 2 0)), some (.int a), some (.int b), some (.int (nI j)), some (.int v), some (.int (nI k)), some (.int (nI j))] [] τ := by
      refine loop_upN (N - k) (fun j hj jh v τ ha hv hq hfr => ?_)
      have e1 : τ 2 1 = σ 2 1 := hfr 2 1 (by decide)
      refine j_iload M dX5_number_14 rfl ?_
      refine j_bipush (v := 120) M dX5_number_16 rfl ?_
      refine j_icmp_ge (tgt := 75) M dX5_number_18 (by decide) (fun h_18 => ?_) (fun h_18 => ?_)
      · exact lxE j v _ τ (by omega) ha (fun q => h_18 ((nI_ltI (b := 120) (by omega) (by decide)).mpr (by have := q.1; omega))) hv hq hfr
      · refine j_aload_n M dX5_number_21 rfl ?_
        refine j_inv0 M lk_X5_58 (c_X5_next (hq) (e1)) rv_X5 dX5_number_22 (Nat.le_of_ble_eq_true rfl) ⟨(Nat.le_of_ble_eq_true rfl), (Nat.le_of_ble_eq_true rfl)⟩ (kE ?_)
        refine j_invs1 M lk_X5_86 (c_X5_isFigure) dX5_number_25 (Nat.le_of_ble_eq_true rfl) ⟨(Nat.le_of_ble_eq_true rfl), (Nat.le_of_ble_eq_true rfl)⟩ (kP fun r_25 k_25 => ?_)
        refine j_if_eq (tgt := 75) M dX5_number_28 (by decide) (fun h_28 => ?_) (fun h_28 => ?_)
        · have b_25 := ifF k_25 h_28
          exact lxE j v _ τ (by omega) ha (fun q => b_25 (nx_dg.mpr q)) hv hq hfr
        · have b_25 := ifT k_25 h_28
          have hd := (nx_dg (T := (σ 2 1)) (N := N) (k := k + j)).mp b_25
          have jlt : j < N - k := (by have := hd.1; omega)
          refine j_iload_n M dX5_number_31 rfl ?_
          refine j_iconst (v := 2) M dX5_number_32 rfl ?_
          refine j_icmp_ge (tgt := 52) M dX5_number_33 (by decide) (fun h_33 => ?_) (fun h_33 => ?_)
          · refine j_iload M dX5_number_52 rfl ?_
            refine j_istore_4 M dX5_number_54 (by exact (by first | trivial | rfl)) ?_
            refine j_iinc_3 M dX5_number_56 (show _ + Int32.ofInt 1 = _ + 1 from rfl) (by exact (by first | trivial | rfl)) ?_
            refine j_aload_n M dX5_number_59 rfl ?_
            refine j_dup M dX5_number_60 rfl ?_
            refine gf_X5_22 M dX5_number_61 ?_
            refine j_iconst (v := 1) M dX5_number_64 rfl ?_
            refine j_iadd M dX5_number_65 ?_
            refine pf_X5_22 M dX5_number_66 ?_
            refine j_iinc_6 M dX5_number_69 (show _ + Int32.ofInt 1 = _ + 1 from rfl) (by exact (by first | trivial | rfl)) ?_
            refine j_goto (tgt := 14) M dX5_number_72 (by decide) ?_
            have q := jh jlt v (up τ 2 0 (upI (τ 2 0) 3 (τ 2 0 3 + 1))) (fun i i0 i1 => by
              by_cases ei : i = k + j
              · rw [ei]; exact hd
              · exact ha i i0 (by omega)) (vI_k hv (fun q => h_33 ((nI_ltI (b := 2) (by omega) (by decide)).mpr q))) (by rw [up_same, (hq.2.1 rfl).2.1, ← nI_succ]; exact cs_at hq (show k + j + 1 ≤ N by omega)) (frm_up hfr (by decide))
            rw [nI_succ] at q
            exact q
          · refine j_iload M dX5_number_36 rfl ?_
            refine j_bipush (v := 10) M dX5_number_38 rfl ?_
            refine j_imul M dX5_number_40 ?_
            refine j_aload_n M dX5_number_41 rfl ?_
            refine j_inv0 M lk_X5_58 (c_X5_next (hq) (e1)) rv_X5 dX5_number_42 (Nat.le_of_ble_eq_true rfl) ⟨(Nat.le_of_ble_eq_true rfl), (Nat.le_of_ble_eq_true rfl)⟩ (kE ?_)
            refine j_iadd M dX5_number_45 ?_
            refine j_bipush (v := 48) M dX5_number_46 rfl ?_
            refine j_isub M dX5_number_48 ?_
            refine j_goto (tgt := 54) M dX5_number_49 (by decide) ?_
            refine j_istore_4 M dX5_number_54 (by exact (by first | trivial | rfl)) ?_
            refine j_iinc_3 M dX5_number_56 (show _ + Int32.ofInt 1 = _ + 1 from rfl) (by exact (by first | trivial | rfl)) ?_
            refine j_aload_n M dX5_number_59 rfl ?_
            refine j_dup M dX5_number_60 rfl ?_
            refine gf_X5_22 M dX5_number_61 ?_
            refine j_iconst (v := 1) M dX5_number_64 rfl ?_
            refine j_iadd M dX5_number_65 ?_
            refine pf_X5_22 M dX5_number_66 ?_
            refine j_iinc_6 M dX5_number_69 (show _ + Int32.ofInt 1 = _ + 1 from rfl) (by exact (by first | trivial | rfl)) ?_
            refine j_goto (tgt := 14) M dX5_number_72 (by decide) ?_
            have en : nxT (σ 2 1) N (true, k + j, 0) = σ 2 1 (nI (k + j)) := if_pos ⟨rfl, show k + j < N by omega⟩
            rw [en]
            have q := jh jlt (v * 10 + σ 2 1 (nI (k + j)) - 48) (up τ 2 0 (upI (τ 2 0) 3 (τ 2 0 3 + 1))) (fun i i0 i1 => by
              by_cases ei : i = k + j
              · rw [ei]; exact hd
              · exact ha i i0 (by omega)) (vI_s hv ((nI_ltI (b := 2) (by omega) (by decide)).mp h_33)) (by rw [up_same, (hq.2.1 rfl).2.1, ← nI_succ]; exact cs_at hq (show k + j + 1 ≤ N by omega)) (frm_up hfr (by decide))
            rw [nI_succ] at q
            exact q
    refine j_iconst (v := 0) M dX5_number_0 rfl ?_
    refine j_istore_3 M dX5_number_1 (by exact (by first | trivial | rfl)) ?_
    refine j_iconst (v := 0) M dX5_number_2 rfl ?_
    refine j_istore_4 M dX5_number_3 (by exact (by first | trivial | rfl)) ?_
    refine j_aload_n M dX5_number_5 rfl ?_
    refine gf_X5_22 M dX5_number_6 ?_
    rw [eg.2.1]
    refine j_istore_5 M dX5_number_9 (by exact (by first | trivial | rfl)) ?_
    refine j_iconst (v := 0) M dX5_number_11 rfl ?_
    refine j_istore_6 M dX5_number_12 (by exact (by first | trivial | rfl)) ?_
    exact lp 0 (by omega) 0 σ (fun i i0 i1 => absurd i1 (by omega)) ⟨fun _ => rfl, fun e => absurd e (by decide), fun e => absurd e (by decide)⟩ hC2 (frm_refl _ _ _)
  · have e0 : bindT R (numT (σ 2 1) N a b) = R := bindT_f hr
    have nn : nxT (σ 2 1) N R = -1 := if_neg (fun q => absurd (q.1.symm.trans hr) (by decide))
    have c0 : CS N F0 ((up σ 2 0 (upI (σ 2 0) 3 (σ 2 0 3))) 2 0) R := by rw [up_same]; exact cs_f3 hC hr
    refine j_iconst (v := 0) M dX5_number_0 rfl ?_
    refine j_istore_3 M dX5_number_1 (by exact (by first | trivial | rfl)) ?_
    refine j_iconst (v := 0) M dX5_number_2 rfl ?_
    refine j_istore_4 M dX5_number_3 (by exact (by first | trivial | rfl)) ?_
    refine j_aload_n M dX5_number_5 rfl ?_
    refine gf_X5_22 M dX5_number_6 ?_
    refine j_istore_5 M dX5_number_9 (by exact (by first | trivial | rfl)) ?_
    refine j_iconst (v := 0) M dX5_number_11 rfl ?_
    refine j_istore_6 M dX5_number_12 (by exact (by first | trivial | rfl)) ?_
    refine j_iload M dX5_number_14 rfl ?_
    refine j_bipush (v := 120) M dX5_number_16 rfl ?_
    refine j_icmp_ge (tgt := 75) M dX5_number_18 (by decide) (fun h_18 => ?_) (fun h_18 => ?_)
    · exact absurd (by decide) h_18
    · refine j_aload_n M dX5_number_21 rfl ?_
      refine j_inv0 M lk_X5_58 (c_X5_next (hC) (rfl)) rv_X5 dX5_number_22 (Nat.le_of_ble_eq_true rfl) ⟨(Nat.le_of_ble_eq_true rfl), (Nat.le_of_ble_eq_true rfl)⟩ (kE ?_)
      rw [nn]
      refine j_invs1 M lk_X5_86 (c_X5_isFigure) dX5_number_25 (Nat.le_of_ble_eq_true rfl) ⟨(Nat.le_of_ble_eq_true rfl), (Nat.le_of_ble_eq_true rfl)⟩ (kP fun r_25 k_25 => ?_)
      refine j_if_eq (tgt := 75) M dX5_number_28 (by decide) (fun h_28 => ?_) (fun h_28 => ?_)
      · have b_25 := ifF k_25 h_28
        refine j_aload_n M dX5_number_75 rfl ?_
        refine gf_X5_22 M dX5_number_76 ?_
        refine j_istore_6 M dX5_number_79 (by exact (by first | trivial | rfl)) ?_
        refine j_aload_n M dX5_number_81 rfl ?_
        refine j_iload M dX5_number_82 rfl ?_
        refine pf_X5_22 M dX5_number_84 ?_
        refine j_iload_n M dX5_number_87 rfl ?_
        refine j_iconst (v := 1) M dX5_number_88 rfl ?_
        refine j_icmp_lt (tgt := 97) M dX5_number_89 (by decide) (fun h_89 => ?_) (fun h_89 => ?_)
        · refine j_aload_n M dX5_number_97 rfl ?_
          refine j_iconst (v := 1) M dX5_number_98 rfl ?_
          refine j_inv1 M lk_X5_62 (c_X5_fail (c0)) rv_X5 dX5_number_99 (Nat.le_of_ble_eq_true rfl) ⟨(Nat.le_of_ble_eq_true rfl), (Nat.le_of_ble_eq_true rfl)⟩ (kV fun σ_99 q_99 => ?_)
          obtain ⟨d1, d2⟩ := q_99
          refine j_goto (tgt := 131) M dX5_number_102 (by decide) ?_
          refine j_iload M dX5_number_131 rfl ?_
          exact j_iret M dX5_number_133 ⟨_, rfl, by (try dsimp only); rw [e0]; rw [bindT_f hr] at d1; exact ⟨d1, fun q => absurd (q.symm.trans hr) (by decide), frm_trans (frm_up (frm_refl _ _ _) (by decide)) d2⟩⟩
        · exact absurd (by decide) h_89
      · have b_25 := ifT k_25 h_28
        exact absurd b_25.1 (by decide)
