theorem so_zero {s I : St} {b a : Int32} {i n : Int32} (hi : 0 ≤ i) (hn : i ≤ n) (h : soR s I b a i = 0) : soR s I b a n = 0 := by
  refine loop_up (P := fun i => i ≤ n → soR s I b a i = 0 → soR s I b a n = 0) n (fun i hi ih hle hz => ?_) i hi hn h
  by_cases e : i < n
  · refine ih e (inc_lt hi e).2.1 ?_
    unfold soR at hz ⊢
    rw [foldI_s _ _ hi e, hz]
    rfl
  · rw [show n = i from Int32.le_antisymm (Int32.not_lt.mp e) hle]
    exact hz
set_option maxRecDepth 100000 in
theorem c_X2_fits {l : Launch} {G : Gw} {σ : Sg} {b : Int32} {s h : St} (hL : LibF (σ 10) s) (hW : WF s) (hH : HolF (σ 10 8) h) (b0 : 0 ≤ b) (b1 : b < s 0) (hP : ∀ k, 0 ≤ k → k < σ 1 0 4 → 0 ≤ σ 1 0 3 + k ∧ σ 1 0 3 + k < 320) (q0 : 0 ≤ σ 1 0 4) : Mt l G yX2_fits cX2_fits 4 (some .boolean) 4 94 [.ref (ad G 5 0), .int b, .ref (ad G 1 0)] σ (pI fun r τ => r = soR s (σ 1 3) b (σ 1 0 3) (σ 1 0 4) ∧ frm σ τ 10 [0, 1, 2, 3, 4, 5, 6, 7, 8]) := by
  refine mt_intro (by decide +kernel) (Nat.le_of_ble_eq_true rfl) (fun Φ M => ?_)
  show Φ 0 [some (.ref (ad G 5 0)), some (.int b), some (.ref (ad G 1 0)), none] [] σ
  have lp : ∀ i : Int32, 0 ≤ i → ∀ τ : Sg, i ≤ (σ 1 0 4) → LibF (τ 10) (gon (s, h) i).1 → HolF (τ 10 8) (gon (s, h) i).2 → frm σ τ 10 [0, 1, 2, 3, 4, 5, 6, 7, 8] → soR s (σ 1 3) b (σ 1 0 3) i = 1 → Φ 2 [some (.ref (ad G 5 0)), some (.int b), some (.ref (ad G 1 0)), some (.int i)] [] τ := by
    refine loop_up (σ 1 0 4) (fun i hi ih τ hle hQ hH2 hfr hso => ?_)
    have wq := gon_WF (p := (s, h)) hW i
    have e1 : τ 1 0 = σ 1 0 := hfr 1 0 (by decide)
    have e13 : τ 1 3 = σ 1 3 := hfr 1 3 (by decide)
    refine j_iload_n M dX2_fits_2 rfl ?_
    refine j_aload_n M dX2_fits_3 rfl ?_
    refine j_inv0 M lk_X2_115 (c_X4_howManyTold) rv_X4 dX2_fits_4 (Nat.le_of_ble_eq_true rfl) ⟨(Nat.le_of_ble_eq_true rfl), (Nat.le_of_ble_eq_true rfl)⟩ (kE ?_)
    refine j_icmp_ge (tgt := 42) M dX2_fits_7 (by decide) (fun h_7 => ?_) (fun h_7 => ?_)
    · refine j_iconst (v := 1) M dX2_fits_42 rfl ?_
      exact j_zret M dX2_fits_43 (by first | exact Or.inl rfl | exact Or.inr rfl | exact bitv_01 _ _ | assumption | (exact res_01 (by assumption)) | grind) ⟨_, rfl, by (try dsimp only); have ei : i = σ 1 0 4 := Int32.le_antisymm hle (by rw [e1] at h_7; exact Int32.not_lt.mp h_7); rw [ei] at hso; exact ⟨hso.symm, hfr⟩⟩
    · rw [e1] at h_7
      refine j_aload_n M dX2_fits_10 rfl ?_
      refine gf_X2_12 M dX2_fits_11 ?_
      refine j_inv0 M lk_X2_37 (c_X3_passNight lib_then (hQ) (wq.1) (hH2)) (rv_X3 lib_then) dX2_fits_14 (Nat.le_of_ble_eq_true rfl) ⟨(Nat.le_of_ble_eq_true rfl), (Nat.le_of_ble_eq_true rfl)⟩ (kV fun σ_14 q_14 => ?_)
      obtain ⟨q1, q2, q3⟩ := q_14
      have f2 : frm σ σ_14 10 [0, 1, 2, 3, 4, 5, 6, 7, 8] := frm_trans hfr (frm_mono q3 (by decide))
      have d1 : σ_14 1 0 = σ 1 0 := f2 1 0 (by decide)
      have d3 : σ_14 1 3 = σ 1 3 := f2 1 3 (by decide)
      rw [← gon_s hi h_7] at q1 q2
      have wr := gon_WF (p := (s, h)) hW (i + 1)
      have pg : σ_14 10 1 b = gS s (i + 1) (8 + b) := by rw [(q1.2.1 b b0 (by rw [wr.2.1]; exact b1)).1, gon_fst]
      have tv : (if 0 ≤ i ∧ i < σ_14 1 0 4 then σ_14 1 3 (σ_14 1 0 3 + i) else -1000000) = σ 1 3 (σ 1 0 3 + i) := by rw [d1, d3, if_pos ⟨hi, h_7⟩]
      refine j_aload_n M dX2_fits_17 rfl ?_
      refine gf_X2_12 M dX2_fits_18 ?_
      refine gf_X2_75 M lib_then dX2_fits_21 ?_
      refine j_iload_n M dX2_fits_24 rfl ?_
      refine al_L_1 M lib_then dX2_fits_25 (by first | assumption | decide | exact hW.b6 b1) (by first | assumption | decide | exact hW.b6 b1) ?_
      refine j_aload_n M dX2_fits_26 rfl ?_
      refine j_iload_n M dX2_fits_27 rfl ?_
      refine j_inv1 M lk_X2_120 (c_X4_told ((by rw [d1]; exact hP))) rv_X4 dX2_fits_28 (Nat.le_of_ble_eq_true rfl) ⟨(Nat.le_of_ble_eq_true rfl), (Nat.le_of_ble_eq_true rfl)⟩ (kE ?_)
      rw [pg, tv]
      refine j_icmp_eq (tgt := 36) M dX2_fits_31 (by decide) (fun h_31 => ?_) (fun h_31 => ?_)
      · refine j_iinc_3 M dX2_fits_36 (show _ + Int32.ofInt 1 = _ + 1 from rfl) (by exact (by first | trivial | rfl)) ?_
        refine j_goto (tgt := 2) M dX2_fits_39 (by decide) ?_
        refine ih h_7 _ (inc_lt hi h_7).2.1 q1 q2 f2 ?_
        unfold soR at hso ⊢
        rw [foldI_s _ _ hi h_7, hso]
        unfold soF
        rw [if_neg (by decide), if_pos h_31.symm]
      · refine j_iconst (v := 0) M dX2_fits_34 rfl ?_
        exact j_zret M dX2_fits_35 (by first | exact Or.inl rfl | exact Or.inr rfl | exact bitv_01 _ _ | assumption | (exact res_01 (by assumption)) | grind) ⟨_, rfl, by (try dsimp only); exact ⟨(so_zero (i := i + 1) (Int32.le_trans hi (Int32.le_of_lt (inc_lt hi h_7).2.2)) (inc_lt hi h_7).2.1 (by unfold soR at hso ⊢; rw [foldI_s _ _ hi h_7, hso]; unfold soF; rw [if_neg (by decide), if_neg (fun e => h_31 e.symm)])).symm, f2⟩⟩
  refine j_iconst (v := 0) M dX2_fits_0 rfl ?_
  refine j_istore_3 M dX2_fits_1 (by exact (by first | trivial | rfl)) ?_
  exact lp 0 (by decide) _ q0 hL hH (frm_refl _ _ _) rfl
set_option maxRecDepth 100000 in
theorem c_X2_kindsThatFit {l : Launch} {G : Gw} {σ : Sg} {d : Nat} (hd : isLib d) {f : Int32} {b : Int32} {s : St} (hL : LibF (σ d) s) (hW : WF s) (hd10 : d ≠ 10) (f0 : 0 ≤ f) (f1 : f < s 1) (b0 : 0 ≤ b) (b1 : b < s 0) (hP : ∀ k, 0 ≤ k → k < σ 1 0 4 → 0 ≤ σ 1 0 3 + k ∧ σ 1 0 3 + k < 320) (q0 : 0 ≤ σ 1 0 4) : Mt l G yX2_kindsThatFit cX2_kindsThatFit 7 (some .int) 5 117 [.ref (ad G 5 0), .ref (ad G d 0), .int f, .int b, .ref (ad G 1 0)] σ (pI fun r τ => r = fitR s (σ 1 3) (26 + f) 1 5 b (σ 1 0 3) (σ 1 0 4) ∧ frm σ τ 10 [0, 1, 2, 3, 4, 5, 6, 7, 8]) := by
  refine mt_intro (by decide +kernel) (Nat.le_of_ble_eq_true rfl) (fun Φ M => ?_)
  show Φ 0 [some (.ref (ad G 5 0)), some (.ref (ad G d 0)), some (.int f), some (.int b), some (.ref (ad G 1 0)), none, none] [] σ
  have lp : ∀ i : Int32, 0 ≤ i → ∀ τ : Sg, 1 ≤ i → i ≤ (5 + 1) → frm σ τ 10 [0, 1, 2, 3, 4, 5, 6, 7, 8] → Φ 6 [some (.ref (ad G 5 0)), some (.ref (ad G d 0)), some (.int f), some (.int b), some (.ref (ad G 1 0)), some (.int (foldI (fitF s (σ 1 3) (26 + f) 1 b (σ 1 0 3) (σ 1 0 4)) 0 i)), some (.int i)] [] τ := by
    refine loop_up ((5 + 1)) (fun i hi ih τ hlv hle hfr => ?_)
    have ed : τ d = σ d := funext (fun k => hfr d k (fun e => hd10 e.1))
    have e13 : τ 1 3 = σ 1 3 := hfr 1 3 (by decide)
    have e1 : τ 1 0 = σ 1 0 := hfr 1 0 (by decide)
    refine j_iload M dX2_kindsThatFit_6 rfl ?_
    refine j_iconst (v := 5) M dX2_kindsThatFit_8 rfl ?_
    refine j_icmp_gt (tgt := 60) M dX2_kindsThatFit_9 (by decide) (fun h_9 => ?_) (fun h_9 => ?_)
    · refine j_iload M dX2_kindsThatFit_60 rfl ?_
      exact j_iret M dX2_kindsThatFit_62 ⟨_, rfl, by (try dsimp only); have ei : i = (5 + 1) := Int32.le_antisymm hle (v5b i h_9); refine ⟨?_, hfr⟩; unfold fitR; rw [← ei]⟩
    · have hlt : i < (5 + 1) := v5a i h_9
      refine j_aload_n M dX2_kindsThatFit_12 rfl ?_
      refine gf_X2_12 M dX2_kindsThatFit_13 ?_
      refine j_aload_n M dX2_kindsThatFit_16 rfl ?_
      refine j_inv1 M lk_X2_25 (c_X3_take lib_then hd ((Ne.symm hd10))) (rv_X3 lib_then) dX2_kindsThatFit_17 (Nat.le_of_ble_eq_true rfl) ⟨(Nat.le_of_ble_eq_true rfl), (Nat.le_of_ble_eq_true rfl)⟩ (kV fun σ_17 q_17 => ?_)
      obtain ⟨t1, t2, t3⟩ := q_17
      have t4 := t1 s hW.z (by rw [ed]; exact hL)
      have w2 := hW.ki f0 f1 hlv (Int32.not_lt.mp h_9)
      have u0 : upI s (26 + f) i 0 = s 0 := upI_ne _ _ (show (0 : Int32) ≠ 26 + f from (ix_c 26 5 0 f0 (hW.f5 f1)).symm)
      refine j_aload_n M dX2_kindsThatFit_20 rfl ?_
      refine gf_X2_12 M dX2_kindsThatFit_21 ?_
      refine gf_X2_99 M lib_then dX2_kindsThatFit_24 ?_
      refine j_iload_n M dX2_kindsThatFit_27 rfl ?_
      refine j_iload M dX2_kindsThatFit_28 rfl ?_
      refine as_L_5 M lib_then dX2_kindsThatFit_30 (by first | assumption | decide | exact hW.f5 f1) (by first | assumption | decide | exact hW.f5 f1) ?_
      refine j_iload M dX2_kindsThatFit_31 rfl ?_
      refine j_aload_n M dX2_kindsThatFit_33 rfl ?_
      refine j_iload_n M dX2_kindsThatFit_34 rfl ?_
      refine j_aload M dX2_kindsThatFit_35 rfl ?_
      refine j_inv2 M lk_X2_102 (c_X2_fits ((by rw [up_at]; exact LibF_f (A := 26) (k := 5) t4 hW.z (by omega) f0 f1)) (w2) ((by rw [up_ne _ _ (by decide)]; exact t2)) (b0) ((by rw [u0]; exact b1)) ((by rw [up_ne _ _ (by decide), t3 1 0 (by decide), e1]; exact hP)) ((by rw [up_ne _ _ (by decide), t3 1 0 (by decide), e1]; exact q0))) rv_X2 dX2_kindsThatFit_37 (Nat.le_of_ble_eq_true rfl) ⟨(Nat.le_of_ble_eq_true rfl), (Nat.le_of_ble_eq_true rfl)⟩ (kI fun r_37 σ_37 q_37 => ?_)
      obtain ⟨e9, g3⟩ := q_37
      rw [up_ne _ _ (by decide), up_ne _ _ (by decide), t3 1 3 (by decide), t3 1 0 (by decide), e13, e1] at e9
      subst e9
      have f2 : frm σ σ_37 10 [0, 1, 2, 3, 4, 5, 6, 7, 8] := frm_trans hfr (frm_trans (frm_up t3 (by decide)) g3)
      refine j_if_eq (tgt := 50) M dX2_kindsThatFit_40 (by decide) (fun h_40 => ?_) (fun h_40 => ?_)
      · refine j_iconst (v := 0) M dX2_kindsThatFit_50 rfl ?_
        refine j_ior M dX2_kindsThatFit_51 ?_
        refine j_istore_5 M dX2_kindsThatFit_52 (by exact (by first | trivial | rfl)) ?_
        refine j_iinc_6 M dX2_kindsThatFit_54 (show _ + Int32.ofInt 1 = _ + 1 from rfl) (by exact (by first | trivial | rfl)) ?_
        refine j_goto (tgt := 6) M dX2_kindsThatFit_57 (by decide) ?_
        have q := ih hlt σ_37 (Int32.le_trans hlv (Int32.le_of_lt (inc_lt hi hlt).2.2)) (inc_lt hi hlt).2.1 f2
        rw [foldI_s _ _ hi hlt] at q
        unfold fitF at q
        rw [if_neg (Int32.not_lt.mpr hlv), if_pos h_40] at q
        exact q
      · refine j_iconst (v := 1) M dX2_kindsThatFit_43 rfl ?_
        refine j_iload M dX2_kindsThatFit_44 rfl ?_
        refine j_ishl M dX2_kindsThatFit_46 ?_
        refine j_goto (tgt := 51) M dX2_kindsThatFit_47 (by decide) ?_
        refine j_ior M dX2_kindsThatFit_51 ?_
        refine j_istore_5 M dX2_kindsThatFit_52 (by exact (by first | trivial | rfl)) ?_
        refine j_iinc_6 M dX2_kindsThatFit_54 (show _ + Int32.ofInt 1 = _ + 1 from rfl) (by exact (by first | trivial | rfl)) ?_
        refine j_goto (tgt := 6) M dX2_kindsThatFit_57 (by decide) ?_
        have q := ih hlt σ_37 (Int32.le_trans hlv (Int32.le_of_lt (inc_lt hi hlt).2.2)) (inc_lt hi hlt).2.1 f2
        rw [foldI_s _ _ hi hlt] at q
        unfold fitF at q
        rw [if_neg (Int32.not_lt.mpr hlv), if_neg h_40] at q
        exact q
  refine j_iconst (v := 0) M dX2_kindsThatFit_0 rfl ?_
  refine j_istore_5 M dX2_kindsThatFit_1 (by exact (by first | trivial | rfl)) ?_
  refine j_iconst (v := 1) M dX2_kindsThatFit_3 rfl ?_
  refine j_istore_6 M dX2_kindsThatFit_4 (by exact (by first | trivial | rfl)) ?_
  have q := lp 1 (by decide) σ (Int32.le_refl _) (by decide) (frm_refl _ _ _)
  rw [← fit_skip _ _ _ _ _ _ _ (by decide)] at q
  exact q
set_option maxRecDepth 100000 in
theorem c_X2_placesThatFit {l : Launch} {G : Gw} {σ : Sg} {d : Nat} (hd : isLib d) {f : Int32} {b : Int32} {s : St} (hL : LibF (σ d) s) (hW : WF s) (hd10 : d ≠ 10) (f0 : 0 ≤ f) (f1 : f < s 1) (b0 : 0 ≤ b) (b1 : b < s 0) (hP : ∀ k, 0 ≤ k → k < σ 1 0 4 → 0 ≤ σ 1 0 3 + k ∧ σ 1 0 3 + k < 320) (q0 : 0 ≤ σ 1 0 4) : Mt l G yX2_placesThatFit cX2_placesThatFit 7 (some .int) 5 117 [.ref (ad G 5 0), .ref (ad G d 0), .int f, .int b, .ref (ad G 1 0)] σ (pI fun r τ => r = fitR s (σ 1 3) (31 + f) 0 (s 0 - 1) b (σ 1 0 3) (σ 1 0 4) ∧ frm σ τ 10 [0, 1, 2, 3, 4, 5, 6, 7, 8]) := by
  refine mt_intro (by decide +kernel) (Nat.le_of_ble_eq_true rfl) (fun Φ M => ?_)
  show Φ 0 [some (.ref (ad G 5 0)), some (.ref (ad G d 0)), some (.int f), some (.int b), some (.ref (ad G 1 0)), none, none] [] σ
  have dB : ∀ τ : Sg, frm σ τ 10 [0, 1, 2, 3, 4, 5, 6, 7, 8] → τ d 0 0 = s 0 := fun τ hfr => by rw [show τ d = σ d from funext (fun k => hfr d k (fun e => hd10 e.1))]; exact hL.1.1
  have lp : ∀ i : Int32, 0 ≤ i → ∀ τ : Sg, 0 ≤ i → i ≤ (s 0) → frm σ τ 10 [0, 1, 2, 3, 4, 5, 6, 7, 8] → Φ 6 [some (.ref (ad G 5 0)), some (.ref (ad G d 0)), some (.int f), some (.int b), some (.ref (ad G 1 0)), some (.int (foldI (fitF s (σ 1 3) (31 + f) 0 b (σ 1 0 3) (σ 1 0 4)) 0 i)), some (.int i)] [] τ := by
    refine loop_up ((s 0)) (fun i hi ih τ hlv hle hfr => ?_)
    have ed : τ d = σ d := funext (fun k => hfr d k (fun e => hd10 e.1))
    have e13 : τ 1 3 = σ 1 3 := hfr 1 3 (by decide)
    have e1 : τ 1 0 = σ 1 0 := hfr 1 0 (by decide)
    refine j_iload M dX2_placesThatFit_6 rfl ?_
    refine j_aload_n M dX2_placesThatFit_8 rfl ?_
    refine gf_X2_55 M hd dX2_placesThatFit_9 ?_
    refine j_icmp_ge (tgt := 63) M dX2_placesThatFit_12 (by decide) (fun h_12 => ?_) (fun h_12 => ?_)
    · refine j_iload M dX2_placesThatFit_63 rfl ?_
      exact j_iret M dX2_placesThatFit_65 ⟨_, rfl, by (try dsimp only); have ei : i = (s 0) := Int32.le_antisymm hle (by rw [dB τ hfr] at h_12; exact Int32.not_lt.mp h_12); refine ⟨?_, hfr⟩; unfold fitR; rw [nn1, ← ei]⟩
    · have hlt : i < (s 0) := by rw [dB τ hfr] at h_12; exact h_12
      refine j_aload_n M dX2_placesThatFit_15 rfl ?_
      refine gf_X2_12 M dX2_placesThatFit_16 ?_
      refine j_aload_n M dX2_placesThatFit_19 rfl ?_
      refine j_inv1 M lk_X2_25 (c_X3_take lib_then hd ((Ne.symm hd10))) (rv_X3 lib_then) dX2_placesThatFit_20 (Nat.le_of_ble_eq_true rfl) ⟨(Nat.le_of_ble_eq_true rfl), (Nat.le_of_ble_eq_true rfl)⟩ (kV fun σ_20 q_20 => ?_)
      obtain ⟨t1, t2, t3⟩ := q_20
      have t4 := t1 s hW.z (by rw [ed]; exact hL)
      have w2 := hW.at f0 f1 hi hlt
      have u0 : upI s (31 + f) i 0 = s 0 := upI_ne _ _ (show (0 : Int32) ≠ 31 + f from (ix_c 31 5 0 f0 (hW.f5 f1)).symm)
      refine j_aload_n M dX2_placesThatFit_23 rfl ?_
      refine gf_X2_12 M dX2_placesThatFit_24 ?_
      refine gf_X2_106 M lib_then dX2_placesThatFit_27 ?_
      refine j_iload_n M dX2_placesThatFit_30 rfl ?_
      refine j_iload M dX2_placesThatFit_31 rfl ?_
      refine as_L_6 M lib_then dX2_placesThatFit_33 (by first | assumption | decide | exact hW.f5 f1) (by first | assumption | decide | exact hW.f5 f1) ?_
      refine j_iload M dX2_placesThatFit_34 rfl ?_
      refine j_aload_n M dX2_placesThatFit_36 rfl ?_
      refine j_iload_n M dX2_placesThatFit_37 rfl ?_
      refine j_aload M dX2_placesThatFit_38 rfl ?_
      refine j_inv2 M lk_X2_102 (c_X2_fits ((by rw [up_at]; exact LibF_f (A := 31) (k := 6) t4 hW.z (by omega) f0 f1)) (w2) ((by rw [up_ne _ _ (by decide)]; exact t2)) (b0) ((by rw [u0]; exact b1)) ((by rw [up_ne _ _ (by decide), t3 1 0 (by decide), e1]; exact hP)) ((by rw [up_ne _ _ (by decide), t3 1 0 (by decide), e1]; exact q0))) rv_X2 dX2_placesThatFit_40 (Nat.le_of_ble_eq_true rfl) ⟨(Nat.le_of_ble_eq_true rfl), (Nat.le_of_ble_eq_true rfl)⟩ (kI fun r_40 σ_40 q_40 => ?_)
      obtain ⟨e9, g3⟩ := q_40
      rw [up_ne _ _ (by decide), up_ne _ _ (by decide), t3 1 3 (by decide), t3 1 0 (by decide), e13, e1] at e9
      subst e9
      have f2 : frm σ σ_40 10 [0, 1, 2, 3, 4, 5, 6, 7, 8] := frm_trans hfr (frm_trans (frm_up t3 (by decide)) g3)
      refine j_if_eq (tgt := 53) M dX2_placesThatFit_43 (by decide) (fun h_43 => ?_) (fun h_43 => ?_)
      · refine j_iconst (v := 0) M dX2_placesThatFit_53 rfl ?_
        refine j_ior M dX2_placesThatFit_54 ?_
        refine j_istore_5 M dX2_placesThatFit_55 (by exact (by first | trivial | rfl)) ?_
        refine j_iinc_6 M dX2_placesThatFit_57 (show _ + Int32.ofInt 1 = _ + 1 from rfl) (by exact (by first | trivial | rfl)) ?_
        refine j_goto (tgt := 6) M dX2_placesThatFit_60 (by decide) ?_
        have q := ih hlt σ_40 (Int32.le_trans hlv (Int32.le_of_lt (inc_lt hi hlt).2.2)) (inc_lt hi hlt).2.1 f2
        rw [foldI_s _ _ hi hlt] at q
        unfold fitF at q
        rw [if_neg (Int32.not_lt.mpr hlv), if_pos h_43] at q
        exact q
      · refine j_iconst (v := 1) M dX2_placesThatFit_46 rfl ?_
        refine j_iload M dX2_placesThatFit_47 rfl ?_
        refine j_ishl M dX2_placesThatFit_49 ?_
        refine j_goto (tgt := 54) M dX2_placesThatFit_50 (by decide) ?_
        refine j_ior M dX2_placesThatFit_54 ?_
        refine j_istore_5 M dX2_placesThatFit_55 (by exact (by first | trivial | rfl)) ?_
        refine j_iinc_6 M dX2_placesThatFit_57 (show _ + Int32.ofInt 1 = _ + 1 from rfl) (by exact (by first | trivial | rfl)) ?_
        refine j_goto (tgt := 6) M dX2_placesThatFit_60 (by decide) ?_
        have q := ih hlt σ_40 (Int32.le_trans hlv (Int32.le_of_lt (inc_lt hi hlt).2.2)) (inc_lt hi hlt).2.1 f2
        rw [foldI_s _ _ hi hlt] at q
        unfold fitF at q
        rw [if_neg (Int32.not_lt.mpr hlv), if_neg h_43] at q
        exact q
  refine j_iconst (v := 0) M dX2_placesThatFit_0 rfl ?_
  refine j_istore_5 M dX2_placesThatFit_1 (by exact (by first | trivial | rfl)) ?_
  refine j_iconst (v := 0) M dX2_placesThatFit_3 rfl ?_
  refine j_istore_6 M dX2_placesThatFit_4 (by exact (by first | trivial | rfl)) ?_
  have q := lp 0 (by decide) σ (Int32.le_refl _) (le0_of hW.1.1.1) (frm_refl _ _ _)
  rw [← fit_skip _ _ _ _ _ _ _ (by decide)] at q
  exact q
set_option maxRecDepth 100000 in
theorem c_X2_pastesThatFit {l : Launch} {G : Gw} {σ : Sg} {d : Nat} (hd : isLib d) {f : Int32} {b : Int32} {s : St} (hL : LibF (σ d) s) (hW : WF s) (hd10 : d ≠ 10) (f0 : 0 ≤ f) (f1 : f < s 0) (b0 : 0 ≤ b) (b1 : b < s 0) (hP : ∀ k, 0 ≤ k → k < σ 1 0 4 → 0 ≤ σ 1 0 3 + k ∧ σ 1 0 3 + k < 320) (q0 : 0 ≤ σ 1 0 4) : Mt l G yX2_pastesThatFit cX2_pastesThatFit 7 (some .int) 5 117 [.ref (ad G 5 0), .ref (ad G d 0), .int f, .int b, .ref (ad G 1 0)] σ (pI fun r τ => r = fitR s (σ 1 3) (14 + f) 0 9 b (σ 1 0 3) (σ 1 0 4) ∧ frm σ τ 10 [0, 1, 2, 3, 4, 5, 6, 7, 8]) := by
  refine mt_intro (by decide +kernel) (Nat.le_of_ble_eq_true rfl) (fun Φ M => ?_)
  show Φ 0 [some (.ref (ad G 5 0)), some (.ref (ad G d 0)), some (.int f), some (.int b), some (.ref (ad G 1 0)), none, none] [] σ
  have lp : ∀ i : Int32, 0 ≤ i → ∀ τ : Sg, 0 ≤ i → i ≤ (9 + 1) → frm σ τ 10 [0, 1, 2, 3, 4, 5, 6, 7, 8] → Φ 6 [some (.ref (ad G 5 0)), some (.ref (ad G d 0)), some (.int f), some (.int b), some (.ref (ad G 1 0)), some (.int (foldI (fitF s (σ 1 3) (14 + f) 0 b (σ 1 0 3) (σ 1 0 4)) 0 i)), some (.int i)] [] τ := by
    refine loop_up ((9 + 1)) (fun i hi ih τ hlv hle hfr => ?_)
    have ed : τ d = σ d := funext (fun k => hfr d k (fun e => hd10 e.1))
    have e13 : τ 1 3 = σ 1 3 := hfr 1 3 (by decide)
    have e1 : τ 1 0 = σ 1 0 := hfr 1 0 (by decide)
    refine j_iload M dX2_pastesThatFit_6 rfl ?_
    refine j_bipush (v := 9) M dX2_pastesThatFit_8 rfl ?_
    refine j_icmp_gt (tgt := 61) M dX2_pastesThatFit_10 (by decide) (fun h_10 => ?_) (fun h_10 => ?_)
    · refine j_iload M dX2_pastesThatFit_61 rfl ?_
      exact j_iret M dX2_pastesThatFit_63 ⟨_, rfl, by (try dsimp only); have ei : i = (9 + 1) := Int32.le_antisymm hle (v9b i h_10); refine ⟨?_, hfr⟩; unfold fitR; rw [← ei]⟩
    · have hlt : i < (9 + 1) := v9a i h_10
      refine j_aload_n M dX2_pastesThatFit_13 rfl ?_
      refine gf_X2_12 M dX2_pastesThatFit_14 ?_
      refine j_aload_n M dX2_pastesThatFit_17 rfl ?_
      refine j_inv1 M lk_X2_25 (c_X3_take lib_then hd ((Ne.symm hd10))) (rv_X3 lib_then) dX2_pastesThatFit_18 (Nat.le_of_ble_eq_true rfl) ⟨(Nat.le_of_ble_eq_true rfl), (Nat.le_of_ble_eq_true rfl)⟩ (kV fun σ_18 q_18 => ?_)
      obtain ⟨t1, t2, t3⟩ := q_18
      have t4 := t1 s hW.z (by rw [ed]; exact hL)
      have w2 := hW.ps f0 f1 hi (Int32.not_lt.mp h_10)
      have u0 : upI s (14 + f) i 0 = s 0 := upI_ne _ _ (show (0 : Int32) ≠ 14 + f from (ix_c 14 6 0 f0 (hW.b6 f1)).symm)
      refine j_aload_n M dX2_pastesThatFit_21 rfl ?_
      refine gf_X2_12 M dX2_pastesThatFit_22 ?_
      refine gf_X2_109 M lib_then dX2_pastesThatFit_25 ?_
      refine j_iload_n M dX2_pastesThatFit_28 rfl ?_
      refine j_iload M dX2_pastesThatFit_29 rfl ?_
      refine as_L_2 M lib_then dX2_pastesThatFit_31 (by first | assumption | decide | exact hW.b6 f1) (by first | assumption | decide | exact hW.b6 f1) ?_
      refine j_iload M dX2_pastesThatFit_32 rfl ?_
      refine j_aload_n M dX2_pastesThatFit_34 rfl ?_
      refine j_iload_n M dX2_pastesThatFit_35 rfl ?_
      refine j_aload M dX2_pastesThatFit_36 rfl ?_
      refine j_inv2 M lk_X2_102 (c_X2_fits ((by rw [up_at]; exact LibF_b (A := 14) (k := 2) t4 hW.z (by omega) f0 f1)) (w2) ((by rw [up_ne _ _ (by decide)]; exact t2)) (b0) ((by rw [u0]; exact b1)) ((by rw [up_ne _ _ (by decide), t3 1 0 (by decide), e1]; exact hP)) ((by rw [up_ne _ _ (by decide), t3 1 0 (by decide), e1]; exact q0))) rv_X2 dX2_pastesThatFit_38 (Nat.le_of_ble_eq_true rfl) ⟨(Nat.le_of_ble_eq_true rfl), (Nat.le_of_ble_eq_true rfl)⟩ (kI fun r_38 σ_38 q_38 => ?_)
      obtain ⟨e9, g3⟩ := q_38
      rw [up_ne _ _ (by decide), up_ne _ _ (by decide), t3 1 3 (by decide), t3 1 0 (by decide), e13, e1] at e9
      subst e9
      have f2 : frm σ σ_38 10 [0, 1, 2, 3, 4, 5, 6, 7, 8] := frm_trans hfr (frm_trans (frm_up t3 (by decide)) g3)
      refine j_if_eq (tgt := 51) M dX2_pastesThatFit_41 (by decide) (fun h_41 => ?_) (fun h_41 => ?_)
      · refine j_iconst (v := 0) M dX2_pastesThatFit_51 rfl ?_
        refine j_ior M dX2_pastesThatFit_52 ?_
        refine j_istore_5 M dX2_pastesThatFit_53 (by exact (by first | trivial | rfl)) ?_
        refine j_iinc_6 M dX2_pastesThatFit_55 (show _ + Int32.ofInt 1 = _ + 1 from rfl) (by exact (by first | trivial | rfl)) ?_
        refine j_goto (tgt := 6) M dX2_pastesThatFit_58 (by decide) ?_
        have q := ih hlt σ_38 (Int32.le_trans hlv (Int32.le_of_lt (inc_lt hi hlt).2.2)) (inc_lt hi hlt).2.1 f2
        rw [foldI_s _ _ hi hlt] at q
        unfold fitF at q
        rw [if_neg (Int32.not_lt.mpr hlv), if_pos h_41] at q
        exact q
      · refine j_iconst (v := 1) M dX2_pastesThatFit_44 rfl ?_
        refine j_iload M dX2_pastesThatFit_45 rfl ?_
        refine j_ishl M dX2_pastesThatFit_47 ?_
        refine j_goto (tgt := 52) M dX2_pastesThatFit_48 (by decide) ?_
        refine j_ior M dX2_pastesThatFit_52 ?_
        refine j_istore_5 M dX2_pastesThatFit_53 (by exact (by first | trivial | rfl)) ?_
        refine j_iinc_6 M dX2_pastesThatFit_55 (show _ + Int32.ofInt 1 = _ + 1 from rfl) (by exact (by first | trivial | rfl)) ?_
        refine j_goto (tgt := 6) M dX2_pastesThatFit_58 (by decide) ?_
        have q := ih hlt σ_38 (Int32.le_trans hlv (Int32.le_of_lt (inc_lt hi hlt).2.2)) (inc_lt hi hlt).2.1 f2
        rw [foldI_s _ _ hi hlt] at q
        unfold fitF at q
        rw [if_neg (Int32.not_lt.mpr hlv), if_neg h_41] at q
        exact q
  refine j_iconst (v := 0) M dX2_pastesThatFit_0 rfl ?_
  refine j_istore_5 M dX2_pastesThatFit_1 (by exact (by first | trivial | rfl)) ?_
  refine j_iconst (v := 0) M dX2_pastesThatFit_3 rfl ?_
  refine j_istore_6 M dX2_pastesThatFit_4 (by exact (by first | trivial | rfl)) ?_
  have q := lp 0 (by decide) σ (Int32.le_refl _) (by decide) (frm_refl _ _ _)
  rw [← fit_skip _ _ _ _ _ _ _ (by decide)] at q
  exact q
set_option maxRecDepth 100000 in
theorem c_X2_hungersThatFit {l : Launch} {G : Gw} {σ : Sg} {d : Nat} (hd : isLib d) {b : Int32} {s : St} (hL : LibF (σ d) s) (hW : WF s) (hd10 : d ≠ 10) (b0 : 0 ≤ b) (b1 : b < s 0) (hP : ∀ k, 0 ≤ k → k < σ 1 0 4 → 0 ≤ σ 1 0 3 + k ∧ σ 1 0 3 + k < 320) (q0 : 0 ≤ σ 1 0 4) : Mt l G yX2_hungersThatFit cX2_hungersThatFit 6 (some .int) 5 117 [.ref (ad G 5 0), .ref (ad G d 0), .int b, .ref (ad G 1 0)] σ (pI fun r τ => r = fitR s (σ 1 3) (2) 1 9 b (σ 1 0 3) (σ 1 0 4) ∧ frm σ τ 10 [0, 1, 2, 3, 4, 5, 6, 7, 8]) := by
  refine mt_intro (by decide +kernel) (Nat.le_of_ble_eq_true rfl) (fun Φ M => ?_)
  show Φ 0 [some (.ref (ad G 5 0)), some (.ref (ad G d 0)), some (.int b), some (.ref (ad G 1 0)), none, none] [] σ
  have lp : ∀ i : Int32, 0 ≤ i → ∀ τ : Sg, 1 ≤ i → i ≤ (9 + 1) → frm σ τ 10 [0, 1, 2, 3, 4, 5, 6, 7, 8] → Φ 6 [some (.ref (ad G 5 0)), some (.ref (ad G d 0)), some (.int b), some (.ref (ad G 1 0)), some (.int (foldI (fitF s (σ 1 3) (2) 1 b (σ 1 0 3) (σ 1 0 4)) 0 i)), some (.int i)] [] τ := by
    refine loop_up ((9 + 1)) (fun i hi ih τ hlv hle hfr => ?_)
    have ed : τ d = σ d := funext (fun k => hfr d k (fun e => hd10 e.1))
    have e13 : τ 1 3 = σ 1 3 := hfr 1 3 (by decide)
    have e1 : τ 1 0 = σ 1 0 := hfr 1 0 (by decide)
    refine j_iload M dX2_hungersThatFit_6 rfl ?_
    refine j_bipush (v := 9) M dX2_hungersThatFit_8 rfl ?_
    refine j_icmp_gt (tgt := 58) M dX2_hungersThatFit_10 (by decide) (fun h_10 => ?_) (fun h_10 => ?_)
    · refine j_iload M dX2_hungersThatFit_58 rfl ?_
      exact j_iret M dX2_hungersThatFit_60 ⟨_, rfl, by (try dsimp only); have ei : i = (9 + 1) := Int32.le_antisymm hle (v9b i h_10); refine ⟨?_, hfr⟩; unfold fitR; rw [← ei]⟩
    · have hlt : i < (9 + 1) := v9a i h_10
      refine j_aload_n M dX2_hungersThatFit_13 rfl ?_
      refine gf_X2_12 M dX2_hungersThatFit_14 ?_
      refine j_aload_n M dX2_hungersThatFit_17 rfl ?_
      refine j_inv1 M lk_X2_25 (c_X3_take lib_then hd ((Ne.symm hd10))) (rv_X3 lib_then) dX2_hungersThatFit_18 (Nat.le_of_ble_eq_true rfl) ⟨(Nat.le_of_ble_eq_true rfl), (Nat.le_of_ble_eq_true rfl)⟩ (kV fun σ_18 q_18 => ?_)
      obtain ⟨t1, t2, t3⟩ := q_18
      have t4 := t1 s hW.z (by rw [ed]; exact hL)
      have w2 := hW.hu hlv (Int32.not_lt.mp h_10)
      have u0 : upI s (2) i 0 = s 0 := upI_ne _ _ (by decide)
      refine j_aload_n M dX2_hungersThatFit_21 rfl ?_
      refine gf_X2_12 M dX2_hungersThatFit_22 ?_
      refine j_iload M dX2_hungersThatFit_25 rfl ?_
      refine pf_X2_112 M lib_then dX2_hungersThatFit_27 ?_
      refine j_iload M dX2_hungersThatFit_30 rfl ?_
      refine j_aload_n M dX2_hungersThatFit_32 rfl ?_
      refine j_iload_n M dX2_hungersThatFit_33 rfl ?_
      refine j_aload_n M dX2_hungersThatFit_34 rfl ?_
      refine j_inv2 M lk_X2_102 (c_X2_fits ((by rw [up_at]; exact LibF_w (k := 2) t4 (by omega) hW.z)) (w2) ((by rw [up_ne _ _ (by decide)]; exact t2)) (b0) ((by rw [u0]; exact b1)) ((by rw [up_ne _ _ (by decide), t3 1 0 (by decide), e1]; exact hP)) ((by rw [up_ne _ _ (by decide), t3 1 0 (by decide), e1]; exact q0))) rv_X2 dX2_hungersThatFit_35 (Nat.le_of_ble_eq_true rfl) ⟨(Nat.le_of_ble_eq_true rfl), (Nat.le_of_ble_eq_true rfl)⟩ (kI fun r_35 σ_35 q_35 => ?_)
      obtain ⟨e9, g3⟩ := q_35
      rw [up_ne _ _ (by decide), up_ne _ _ (by decide), t3 1 3 (by decide), t3 1 0 (by decide), e13, e1] at e9
      subst e9
      have f2 : frm σ σ_35 10 [0, 1, 2, 3, 4, 5, 6, 7, 8] := frm_trans hfr (frm_trans (frm_up t3 (by decide)) g3)
      refine j_if_eq (tgt := 48) M dX2_hungersThatFit_38 (by decide) (fun h_38 => ?_) (fun h_38 => ?_)
      · refine j_iconst (v := 0) M dX2_hungersThatFit_48 rfl ?_
        refine j_ior M dX2_hungersThatFit_49 ?_
        refine j_istore_4 M dX2_hungersThatFit_50 (by exact (by first | trivial | rfl)) ?_
        refine j_iinc_5 M dX2_hungersThatFit_52 (show _ + Int32.ofInt 1 = _ + 1 from rfl) (by exact (by first | trivial | rfl)) ?_
        refine j_goto (tgt := 6) M dX2_hungersThatFit_55 (by decide) ?_
        have q := ih hlt σ_35 (Int32.le_trans hlv (Int32.le_of_lt (inc_lt hi hlt).2.2)) (inc_lt hi hlt).2.1 f2
        rw [foldI_s _ _ hi hlt] at q
        unfold fitF at q
        rw [if_neg (Int32.not_lt.mpr hlv), if_pos h_38] at q
        exact q
      · refine j_iconst (v := 1) M dX2_hungersThatFit_41 rfl ?_
        refine j_iload M dX2_hungersThatFit_42 rfl ?_
        refine j_ishl M dX2_hungersThatFit_44 ?_
        refine j_goto (tgt := 49) M dX2_hungersThatFit_45 (by decide) ?_
        refine j_ior M dX2_hungersThatFit_49 ?_
        refine j_istore_4 M dX2_hungersThatFit_50 (by exact (by first | trivial | rfl)) ?_
        refine j_iinc_5 M dX2_hungersThatFit_52 (show _ + Int32.ofInt 1 = _ + 1 from rfl) (by exact (by first | trivial | rfl)) ?_
        refine j_goto (tgt := 6) M dX2_hungersThatFit_55 (by decide) ?_
        have q := ih hlt σ_35 (Int32.le_trans hlv (Int32.le_of_lt (inc_lt hi hlt).2.2)) (inc_lt hi hlt).2.1 f2
        rw [foldI_s _ _ hi hlt] at q
        unfold fitF at q
        rw [if_neg (Int32.not_lt.mpr hlv), if_neg h_38] at q
        exact q
  refine j_iconst (v := 0) M dX2_hungersThatFit_0 rfl ?_
  refine j_istore_4 M dX2_hungersThatFit_1 (by exact (by first | trivial | rfl)) ?_
  refine j_iconst (v := 1) M dX2_hungersThatFit_3 rfl ?_
  refine j_istore_5 M dX2_hungersThatFit_4 (by exact (by first | trivial | rfl)) ?_
  have q := lp 1 (by decide) σ (Int32.le_refl _) (by decide) (frm_refl _ _ _)
  rw [← fit_skip _ _ _ _ _ _ _ (by decide)] at q
  exact q
