theorem chg_fin {σ a b' c : Sg} {A s : St} {m b o : Int32} (hA : AR (σ 3 0 1) (σ 3 0 2) σ A m) (hO : OK s) (hL : LibF (σ 6) s) (eL : LibF (a 6) s) (q : Tk0 σ a (11 + (σ 3 0 1).toNatClampNeg) 6 ∧ a 3 0 1 = rem32 (σ 3 0 1 + 1) 24 ∧ a 3 0 2 = (if 24 < σ 3 0 2 + 1 then 24 else σ 3 0 2 + 1) ∧ (∀ c k, c ≠ 3 → c ≠ 11 + (σ 3 0 1).toNatClampNeg → a c k = σ c k)) (b0 : 0 ≤ b) (b1 : b < s 0) (o0 : 0 ≤ o) (o1 : o < s 0) (hbo : ¬ b = o)
    (q1 : b' = if (0 ≤ b ∧ b < a 6 0 0 ∧ b < 6) ∧ (0 ≤ s (20 + o) ∧ s (20 + o) < a 6 0 0 ∧ s (20 + o) < 6) then up (up a 6 3 (upI (a 6 3) b (s (20 + o)))) 6 4 (upI (a 6 4) (s (20 + o)) b) else a)
    (q2 : c = if (0 ≤ o ∧ o < b' 6 0 0 ∧ o < 6) ∧ (0 ≤ s (20 + b) ∧ s (20 + b) < b' 6 0 0 ∧ s (20 + b) < 6) then up (up b' 6 3 (upI (b' 6 3) o (s (20 + b)))) 6 4 (upI (b' 6 4) (s (20 + b)) o) else b') : actC A m s σ c (chgS s b o) := by
  have hW := hO.1
  have po := (hW.2.1 o o0 o1).2.2.1
  have pb := (hW.2.1 b b0 b1).2.2.1
  have e0 : a 6 0 0 = s 0 := eL.1.1
  rw [e0, if_pos ⟨⟨b0, b1, hW.b6 b1⟩, po.1, po.2, hW.b6 po.2⟩] at q1
  have e1 : b' 6 0 0 = s 0 := by rw [q1, up_ne _ _ (by decide), up_ne _ _ (by decide)]; exact e0
  rw [e1, if_pos ⟨⟨o0, o1, hW.b6 o1⟩, pb.1, pb.2, hW.b6 pb.2⟩] at q2
  have b3 : b' 6 3 = upI (a 6 3) b (s (20 + o)) := by rw [q1, up_ne _ _ (by decide), up_same]
  have b4 : b' 6 4 = upI (a 6 4) (s (20 + o)) b := by rw [q1, up_same]
  refine act_fin hA hO hL q (fun x k hx => ?_) (chg_L hW eL b0 b1 o0 o1 hbo (fun k k3 k4 => ?_) ?_ ?_)
  · rw [q2, up_ne _ _ (fun e => hx e.1), up_ne _ _ (fun e => hx e.1), q1, up_ne _ _ (fun e => hx e.1), up_ne _ _ (fun e => hx e.1)]
  · rw [q2, up_ne _ _ (fun e => k4 e.2), up_ne _ _ (fun e => k3 e.2), q1, up_ne _ _ (fun e => k4 e.2), up_ne _ _ (fun e => k3 e.2)]
  · rw [q2, up_ne _ _ (by decide), up_same, b3]
  · rw [q2, up_same, b4]
set_option maxRecDepth 100000 in
theorem c_X6_change {l : Launch} {G : Gw} {σ : Sg} {b : Int32} {o : Int32} {s A : St} {t m : Int32} (hS : SO t s) (hL : LibF (σ 6) s) (hA : AR (σ 3 0 1) (σ 3 0 2) σ A m) : Mt l G yX6_change cX6_change 5 (some .int) 3 64 [.ref (ad G 0 0), .int b, .int o] σ (pI fun r τ => if ¬ (isB s b ∧ isB s o ∧ ¬ b = o) then r = -1000001 ∧ τ = σ else r = s (20 + o) ∧ actC A m s σ τ (chgS s b o)) := by
  refine mt_intro (by decide +kernel) (Nat.le_of_ble_eq_true rfl) (fun Φ M => ?_)
  show Φ 0 [some (.ref (ad G 0 0)), some (.int b), some (.int o), none, none] [] σ
  have ar := AR_rng hA
  
  refine j_aload_n M dX6_change_0 rfl ?_
  refine gf_X6_26 M dX6_change_1 ?_
  refine j_iload_n M dX6_change_4 rfl ?_
  refine j_inv1 M lk_X6_158 (n_isBook hS hL) (rv_X3 lib_now) dX6_change_5 (Nat.le_of_ble_eq_true rfl) ⟨(Nat.le_of_ble_eq_true rfl), (Nat.le_of_ble_eq_true rfl)⟩ (kP fun r_5 k_5 => ?_)
  refine j_if_eq (tgt := 27) M dX6_change_8 (by decide) (fun h_8 => ?_) (fun h_8 => ?_)
  · have b_5 := ifF k_5 h_8
    refine j_ldc M k_X6_71 dX6_change_27 ?_
    exact j_iret M dX6_change_29 ⟨_, rfl, by (try dsimp only); rw [if_pos (fun q => b_5 q.1)]; exact ⟨rfl, rfl⟩⟩
  · have b_5 := ifT k_5 h_8
    refine j_aload_n M dX6_change_11 rfl ?_
    refine gf_X6_26 M dX6_change_12 ?_
    refine j_iload_n M dX6_change_15 rfl ?_
    refine j_inv1 M lk_X6_158 (n_isBook hS hL) (rv_X3 lib_now) dX6_change_16 (Nat.le_of_ble_eq_true rfl) ⟨(Nat.le_of_ble_eq_true rfl), (Nat.le_of_ble_eq_true rfl)⟩ (kP fun r_16 k_16 => ?_)
    refine j_if_eq (tgt := 27) M dX6_change_19 (by decide) (fun h_19 => ?_) (fun h_19 => ?_)
    · have b_16 := ifF k_16 h_19
      refine j_ldc M k_X6_71 dX6_change_27 ?_
      exact j_iret M dX6_change_29 ⟨_, rfl, by (try dsimp only); rw [if_pos (fun q => b_16 q.2.1)]; exact ⟨rfl, rfl⟩⟩
    · have b_16 := ifT k_16 h_19
      refine j_iload_n M dX6_change_22 rfl ?_
      refine j_iload_n M dX6_change_23 rfl ?_
      refine j_icmp_ne (tgt := 30) M dX6_change_24 (by decide) (fun h_24 => ?_) (fun h_24 => ?_)
      · have hB := hS.w.b b_5
        have hB2 := hS.w.b b_16
        have hO := hS.o (Int32.lt_of_le_of_lt b_5.1 hB.2.1)
        have b0 := b_5.1
        have b1 := hB.2.1
        have b6 := hB.2.2
        have o0 := b_16.1
        have o1 := hB2.2.1
        have o6 := hB2.2.2
        refine j_aload_n M dX6_change_30 rfl ?_
        refine gf_X6_42 M dX6_change_31 ?_
        refine j_aload_n M dX6_change_34 rfl ?_
        refine gf_X6_26 M dX6_change_35 ?_
        refine j_inv1 M lk_X6_148 (c_X0_remember lib_now ((by decide)) (ar.1.1) (ar.1.2)) rv_X0 dX6_change_38 (Nat.le_of_ble_eq_true rfl) ⟨(Nat.le_of_ble_eq_true rfl), (Nat.le_of_ble_eq_true rfl)⟩ (kV fun σ_38 q_38 => ?_)
        have eL := act_L ar.1 (fun c k h1 h2 => q_38.2.2.2 c k h1 h2) hL
        refine j_aload_n M dX6_change_41 rfl ?_
        refine gf_X6_26 M dX6_change_42 ?_
        refine gf_X6_177 M lib_now dX6_change_45 ?_
        refine j_iload_n M dX6_change_48 rfl ?_
        refine al_L_3 M lib_now dX6_change_49 (by first | assumption | decide) (by first | assumption | decide) ?_
        rw [(eL.2.1 b b0 b1).2.2.1]
        refine j_istore_3 M dX6_change_50 (by exact (by first | trivial | rfl)) ?_
        refine j_aload_n M dX6_change_51 rfl ?_
        refine gf_X6_26 M dX6_change_52 ?_
        refine gf_X6_177 M lib_now dX6_change_55 ?_
        refine j_iload_n M dX6_change_58 rfl ?_
        refine al_L_3 M lib_now dX6_change_59 (by first | assumption | decide) (by first | assumption | decide) ?_
        rw [(eL.2.1 o o0 o1).2.2.1]
        refine j_istore_4 M dX6_change_60 (by exact (by first | trivial | rfl)) ?_
        refine j_aload_n M dX6_change_62 rfl ?_
        refine gf_X6_26 M dX6_change_63 ?_
        refine j_iload_n M dX6_change_66 rfl ?_
        refine j_iload M dX6_change_67 rfl ?_
        refine j_inv2 M lk_X6_181 (c_X3_put lib_now) (rv_X3 lib_now) dX6_change_69 (Nat.le_of_ble_eq_true rfl) ⟨(Nat.le_of_ble_eq_true rfl), (Nat.le_of_ble_eq_true rfl)⟩ (kV fun σ_69 q_69 => ?_)
        refine j_aload_n M dX6_change_72 rfl ?_
        refine gf_X6_26 M dX6_change_73 ?_
        refine j_iload_n M dX6_change_76 rfl ?_
        refine j_iload_n M dX6_change_77 rfl ?_
        refine j_inv2 M lk_X6_181 (c_X3_put lib_now) (rv_X3 lib_now) dX6_change_78 (Nat.le_of_ble_eq_true rfl) ⟨(Nat.le_of_ble_eq_true rfl), (Nat.le_of_ble_eq_true rfl)⟩ (kV fun σ_78 q_78 => ?_)
        refine j_iload M dX6_change_81 rfl ?_
        exact j_iret M dX6_change_83 ⟨_, rfl, by (try dsimp only); rw [if_neg (fun q => q ⟨b_5, b_16, h_24⟩)]; exact ⟨rfl, chg_fin hA hO hL eL q_38 b0 b1 o0 o1 h_24 q_69 q_78⟩⟩
      · refine j_ldc M k_X6_71 dX6_change_27 ?_
        exact j_iret M dX6_change_29 ⟨_, rfl, by (try dsimp only); rw [if_pos (fun q => q.2.2 h_24)]; exact ⟨rfl, rfl⟩⟩
set_option maxRecDepth 100000 in
theorem c_X6_nights {l : Launch} {G : Gw} {σ : Sg} {n : Int32} {s A h : St} {t m : Int32} (hS : SO t s) (hL : LibF (σ 6) s) (hA : AR (σ 3 0 1) (σ 3 0 2) σ A m) : Mt l G yX6_nights cX6_nights 3 (some .int) 4 94 [.ref (ad G 0 0), .int n] σ (pI fun r τ => if t = 0 then r = -1000002 ∧ τ = σ else if ¬ inR 1 n 24 then r = -1000001 ∧ τ = σ else if 999 < s 4 + n then r = -1000003 ∧ τ = σ else r = sumP (nst (s, A, m, h) n).1 ((nst (s, A, m, h) n).1 0) ∧ LibF (τ 6) (nst (s, A, m, h) n).1 ∧ OK (nst (s, A, m, h) n).1 ∧ AR (τ 3 0 1) (τ 3 0 2) τ (nst (s, A, m, h) n).2.1 (nst (s, A, m, h) n).2.2.1 ∧ frA σ τ) := by
  refine mt_intro (by decide +kernel) (Nat.le_of_ble_eq_true rfl) (fun Φ M => ?_)
  show Φ 0 [some (.ref (ad G 0 0)), some (.int n), none] [] σ
  have lp : 0 ≤ n → ¬ t = 0 → inR 1 n 24 → ¬ 999 < s 4 + n → ∀ i : Int32, 0 ≤ i → ∀ τ : Sg, i ≤ n → OK (nst (s, A, m, h) i).1 → LibF (τ 6) (nst (s, A, m, h) i).1 → AR (τ 3 0 1) (τ 3 0 2) τ (nst (s, A, m, h) i).2.1 (nst (s, A, m, h) i).2.2.1 → frA σ τ → Φ 46 [some (.ref (ad G 0 0)), some (.int n), some (.int i)] [] τ := by
    intro n0 b_4 b_17 h_38
    refine loop_up n (fun i hi ih τ hle hOq hLq hAq hfr => ?_)
    have es : i < n → nst (s, A, m, h) (i + 1) = nstep (nst (s, A, m, h) i) := fun q => nst_s hi q
    generalize hz : nst (s, A, m, h) i = z at *
    refine j_iload_n M dX6_nights_46 rfl ?_
    refine j_iload_n M dX6_nights_47 rfl ?_
    refine j_icmp_ge (tgt := 75) M dX6_nights_48 (by decide) (fun h_48 => ?_) (fun h_48 => ?_)
    · refine j_aload_n M dX6_nights_75 rfl ?_
      refine gf_X6_26 M dX6_nights_76 ?_
      refine j_inv0 M lk_X6_154 (c_X3_pagesOfAll lib_now (hLq) (hOq.1.z)) (rv_X3 lib_now) dX6_nights_79 (Nat.le_of_ble_eq_true rfl) ⟨(Nat.le_of_ble_eq_true rfl), (Nat.le_of_ble_eq_true rfl)⟩ (kE ?_)
      exact j_iret M dX6_nights_82 ⟨_, rfl, by (try dsimp only); have ei : i = n := Int32.le_antisymm hle (Int32.not_lt.mp h_48); rw [if_neg b_4, if_neg (fun q => q b_17), if_neg h_38, ← ei, hz]; exact ⟨sumAll hOq.1.z.1 hOq.1.z.2.1, hLq, hOq, hAq, hfr⟩⟩
    · have ar := AR_rng hAq
      refine j_aload_n M dX6_nights_51 rfl ?_
      refine gf_X6_42 M dX6_nights_52 ?_
      refine j_aload_n M dX6_nights_55 rfl ?_
      refine gf_X6_26 M dX6_nights_56 ?_
      refine j_inv1 M lk_X6_148 (c_X0_remember lib_now ((by decide)) (ar.1.1) (ar.1.2)) rv_X0 dX6_nights_59 (Nat.le_of_ble_eq_true rfl) ⟨(Nat.le_of_ble_eq_true rfl), (Nat.le_of_ble_eq_true rfl)⟩ (kV fun σ_59 q_59 => ?_)
      have eL := act_L ar.1 (fun c k h1 h2 => q_59.2.2.2 c k h1 h2) hLq
      have eA := AR_note hAq hOq hLq q_59
      refine j_aload_n M dX6_nights_62 rfl ?_
      refine gf_X6_26 M dX6_nights_63 ?_
      refine j_inv0 M lk_X6_151 (c_X3_passNight lib_now (h := σ_59 6 8) eL hOq.1 (fun _ _ _ => rfl)) (rv_X3 lib_now) dX6_nights_66 (Nat.le_of_ble_eq_true rfl) ⟨(Nat.le_of_ble_eq_true rfl), (Nat.le_of_ble_eq_true rfl)⟩ (kV fun σ_66 q_66 => ?_)
      obtain ⟨g1, g2, g3⟩ := q_66
      refine j_iinc_2 M dX6_nights_69 (show _ + Int32.ofInt 1 = _ + 1 from rfl) (by exact (by first | trivial | rfl)) ?_
      refine j_goto (tgt := 46) M dX6_nights_72 (by decide) ?_
      have e2 := es h_48
      exact ih h_48 σ_66 (inc_lt hi h_48).2.1 (by rw [e2]; exact nst_OK hOq) (by rw [e2]; show LibF (σ_66 6) (night (z.1, z.2.2.2)).1; rw [night_fst z.1 z.2.2.2 (σ_59 6 8)]; exact g1) (by rw [e2]; exact AR_cg eA (g3 3 0 (by decide)) (fun c c1 c2 => funext (fun k => g3 c k (by omega)))) (frA_t hfr (frA_n ar.1 (fun c k h1 h2 => q_59.2.2.2 c k h1 h2) g3))
  refine j_aload_n M dX6_nights_0 rfl ?_
  refine gf_X6_26 M dX6_nights_1 ?_
  refine j_inv0 M lk_X6_141 (n_isTold hS hL) (rv_X3 lib_now) dX6_nights_4 (Nat.le_of_ble_eq_true rfl) ⟨(Nat.le_of_ble_eq_true rfl), (Nat.le_of_ble_eq_true rfl)⟩ (kP fun r_4 k_4 => ?_)
  refine j_if_ne (tgt := 13) M dX6_nights_7 (by decide) (fun h_7 => ?_) (fun h_7 => ?_)
  · have b_4 := ifT k_4 h_7
    refine j_iload_n M dX6_nights_13 rfl ?_
    refine j_iconst (v := 1) M dX6_nights_14 rfl ?_
    refine j_bipush (v := 24) M dX6_nights_15 rfl ?_
    refine j_invs3 M lk_X6_104 (c_X6_isWithin) dX6_nights_17 (Nat.le_of_ble_eq_true rfl) ⟨(Nat.le_of_ble_eq_true rfl), (Nat.le_of_ble_eq_true rfl)⟩ (kP fun r_17 k_17 => ?_)
    refine j_if_ne (tgt := 26) M dX6_nights_20 (by decide) (fun h_20 => ?_) (fun h_20 => ?_)
    · have b_17 := ifT k_17 h_20
      refine j_aload_n M dX6_nights_26 rfl ?_
      refine gf_X6_26 M dX6_nights_27 ?_
      refine gf_X6_145 M lib_now dX6_nights_30 ?_
      rw [hL.1.2.2.2.2.1]
      refine j_iload_n M dX6_nights_33 rfl ?_
      refine j_iadd M dX6_nights_34 ?_
      refine j_sipush (v := 999) M dX6_nights_35 rfl ?_
      refine j_icmp_le (tgt := 44) M dX6_nights_38 (by decide) (fun h_38 => ?_) (fun h_38 => ?_)
      · refine j_iconst (v := 0) M dX6_nights_44 rfl ?_
        refine j_istore_2 M dX6_nights_45 (by exact (by first | trivial | rfl)) ?_
        exact lp (Int32.le_trans (by decide) b_17.1) b_4 b_17 h_38 0 (by decide) σ (Int32.le_trans (by decide) b_17.1) (hS.ok b_4) hL hA (frA_r _)
      · refine j_ldc M k_X6_114 dX6_nights_41 ?_
        exact j_iret M dX6_nights_43 ⟨_, rfl, by (try dsimp only); rw [if_neg b_4, if_neg (fun q => q b_17), if_pos h_38]; exact ⟨rfl, rfl⟩⟩
    · have b_17 := ifF k_17 h_20
      refine j_ldc M k_X6_71 dX6_nights_23 ?_
      exact j_iret M dX6_nights_25 ⟨_, rfl, by (try dsimp only); rw [if_neg b_4, if_pos b_17]; exact ⟨rfl, rfl⟩⟩
  · have b_4 := ifF k_4 h_7
    refine j_ldc M k_X6_137 dX6_nights_10 ?_
    exact j_iret M dX6_nights_12 ⟨_, rfl, by (try dsimp only); rw [if_pos (Classical.not_not.mp b_4)]; exact ⟨rfl, rfl⟩⟩
