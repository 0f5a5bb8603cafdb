theorem pn_fin {σ τ : Sg} {c : Nat} {s h : St} {z : St × St} (hz : z = foldI nightF (s, h) (s 1)) (hQ : LibF (τ c) (dampS z.1)) (hH : HolF (τ c 8) z.2) (hw : WF0 (dampS z.1)) (hfr : frm σ τ c [0, 1, 2, 6, 7, 8]) :
  LibF ((up τ c 0 (upI (τ c 0) 4 (τ c 0 4 + 1))) c) (night (s, h)).1 ∧ HolF ((up τ c 0 (upI (τ c 0) 4 (τ c 0 4 + 1))) c 8) (night (s, h)).2 ∧ frm σ (up τ c 0 (upI (τ c 0) 4 (τ c 0 4 + 1))) c [0, 1, 2, 6, 7, 8] := by
  unfold night
  rw [show (s, h).1 1 = s 1 from rfl, ← hz]
  refine ⟨?_, ?_, frm_up hfr (by simp)⟩
  · rw [up_at, hQ.1.2.2.2.2.1]
    exact LibF_w (k := 4) hQ (by omega) hw
  · rw [up_ne _ _ (by omega)]
    exact hH
set_option maxRecDepth 100000 in
theorem c_X3_passNight {l : Launch} {G : Gw} {σ : Sg} {c : Nat} (hc : isLib c) {s h : St} (hL : LibF (σ c) s) (hW : WF s) (hH : HolF (σ c 8) h) : Mt l G yX3_passNight cX3_passNight 2 none 3 73 [.ref (ad G c 0)] σ (pV fun τ => LibF (τ c) (night (s, h)).1 ∧ HolF (τ c 8) (night (s, h)).2 ∧ frm σ τ c [0, 1, 2, 6, 7, 8]) := by
  refine mt_intro (by decide +kernel) (Nat.le_of_ble_eq_true rfl) (fun Φ M => ?_)
  show Φ 0 [some (.ref (ad G c 0)), none] [] σ
  have l59 : ∀ (τ : Sg) (z : St × St), z = foldI nightF (s, h) (s 1) → LibF (τ c) (dampS z.1) → HolF (τ c 8) z.2 → WF0 (dampS z.1) → frm σ τ c [0, 1, 2, 6, 7, 8] → Φ 59 [some (.ref (ad G c 0)), none] [] τ := by
    intro τ z hz hQ hH2 hw hfr
    refine j_aload_n M dX3_passNight_59 rfl ?_
    refine j_dup M dX3_passNight_60 rfl ?_
    refine gf_X3_24 M hc dX3_passNight_61 ?_
    refine j_iconst (v := 1) M dX3_passNight_64 rfl ?_
    refine j_iadd M dX3_passNight_65 ?_
    refine pf_X3_24 M hc dX3_passNight_66 ?_
    exact j_vret M dX3_passNight_69 ⟨rfl, by exact pn_fin hz hQ hH2 hw hfr⟩
  have lp : ∀ i : Int32, 0 ≤ i → ∀ τ : Sg, i ≤ s 1 → LibF (τ c) (foldI nightF (s, h) i).1 → HolF (τ c 8) (foldI nightF (s, h) i).2 → frm σ τ c [0, 1, 2, 6, 7, 8] → Φ 2 [some (.ref (ad G c 0)), some (.int i)] [] τ := by
    refine loop_up (s 1) (fun i hi ih τ hle hQ hH2 hfr => ?_)
    have wz := nightFs_WF (p := (s, h)) hW i hi hle
    have es : i < s 1 → foldI nightF (s, h) (i + 1) = nightF i (foldI nightF (s, h) i) := fun q => foldI_s _ _ hi q
    generalize hz : foldI nightF (s, h) i = z at *
    have z0 : z.1 0 = s 0 := wz.2.1
    have z1 : z.1 1 = s 1 := wz.2.2
    refine j_iload_n M dX3_passNight_2 rfl ?_
    refine j_aload_n M dX3_passNight_3 rfl ?_
    refine gf_X3_15 M hc dX3_passNight_4 ?_
    refine j_icmp_ge (tgt := 45) M dX3_passNight_7 (by decide) (fun h_7 => ?_) (fun h_7 => ?_)
    · have ei : i = s 1 := Int32.le_antisymm hle (by rw [hQ.1.2.1, z1] at h_7; exact Int32.not_lt.mp h_7)
      have k4 : τ c 0 4 = z.1 4 := hQ.1.2.2.2.2.1
      rw [ei] at hz
      have dw := (damp_WF wz.1).1.z
      refine j_aload_n M dX3_passNight_45 rfl ?_
      refine gf_X3_24 M hc dX3_passNight_46 ?_
      refine j_iconst (v := 4) M dX3_passNight_49 rfl ?_
      refine j_irem M dX3_passNight_50 (by first | decide | assumption | grind) ?_
      refine j_iconst (v := 3) M dX3_passNight_51 rfl ?_
      refine j_icmp_ne (tgt := 59) M dX3_passNight_52 (by decide) (fun h_52 => ?_) (fun h_52 => ?_)
      · refine j_forget M (L' := [some (.ref (ad G c 0)), none]) (by repeat' (first | exact True.intro | refine ⟨rfl, ?_⟩)) ?_
        exact l59 τ z hz.symm (by unfold dampS; rw [if_neg (fun q => h_52 (by rw [k4]; exact q))]; exact hQ) hH2 dw hfr
      · rw [k4] at h_52
        refine j_aload_n M dX3_passNight_55 rfl ?_
        refine j_inv0 M lk_X3_96 (c_X3_dampen hc (hQ) (wz.1)) (rv_X3 hc) dX3_passNight_56 (Nat.le_of_ble_eq_true rfl) ⟨(Nat.le_of_ble_eq_true rfl), (Nat.le_of_ble_eq_true rfl)⟩ (kV fun σ_56 q_56 => ?_)
        obtain ⟨q1, q2⟩ := q_56
        refine j_forget M (L' := [some (.ref (ad G c 0)), none]) (by repeat' (first | exact True.intro | refine ⟨rfl, ?_⟩)) ?_
        exact l59 σ_56 z hz.symm (by unfold dampS; rw [if_pos h_52]; exact q1) (by rw [q2 c 8 (by simp)]; exact hH2) dw (frm_trans hfr (frm_mono q2 (by simp)))
    · rw [hQ.1.2.1, z1] at h_7
      have i1 : i < z.1 1 := by rw [z1]; exact h_7
      have k7 : τ c 0 7 = z.1 7 := hQ.1.2.2.2.2.2.2.2
      have gr := goesTo_rng wz.1 hi i1
      refine j_iload_n M dX3_passNight_10 rfl ?_
      refine j_iconst (v := 5) M dX3_passNight_11 rfl ?_
      refine j_icmp_ge (tgt := 45) M dX3_passNight_12 (by decide) (fun h_12 => ?_) (fun h_12 => ?_)
      · exact absurd (hW.f5 h_7) h_12
      · refine j_aload_n M dX3_passNight_15 rfl ?_
        refine j_iload_n M dX3_passNight_16 rfl ?_
        refine j_inv1 M lk_X3_69 (c_X3_isCaught hc) (rv_X3 hc) dX3_passNight_17 (Nat.le_of_ble_eq_true rfl) ⟨(Nat.le_of_ble_eq_true rfl), (Nat.le_of_ble_eq_true rfl)⟩ (kE ?_)
        refine j_if_ne (tgt := 39) M dX3_passNight_20 (by decide) (fun h_20 => ?_) (fun h_20 => ?_)
        · refine j_iinc_1 M dX3_passNight_39 (show _ + Int32.ofInt 1 = _ + 1 from rfl) (by exact (by first | trivial | rfl)) ?_
          refine j_goto (tgt := 2) M dX3_passNight_42 (by decide) ?_
          have b1 := (bt1 _ _).mpr h_20
          rw [k7] at b1
          exact ih h_7 _ (inc_lt hi h_7).2.1 (by rw [es h_7]; unfold nightF; rw [if_pos b1]; exact hQ) (by rw [es h_7]; unfold nightF; rw [if_pos b1]; exact hH2) hfr
        · refine j_aload_n M dX3_passNight_23 rfl ?_
          refine gf_X3_52 M hc dX3_passNight_24 ?_
          refine j_iload_n M dX3_passNight_27 rfl ?_
          refine j_aload_n M dX3_passNight_28 rfl ?_
          refine j_iload_n M dX3_passNight_29 rfl ?_
          refine j_inv1 M lk_X3_89 (c_X3_nextPlace hc (hQ) (wz.1) (hi) (i1)) (rv_X3 hc) dX3_passNight_30 (Nat.le_of_ble_eq_true rfl) ⟨(Nat.le_of_ble_eq_true rfl), (Nat.le_of_ble_eq_true rfl)⟩ (kE ?_)
          refine as_L_6 M hc dX3_passNight_33 (by first | assumption | decide | exact hW.f5 h_7) (by first | assumption | decide | exact hW.f5 h_7) ?_
          have wu := wz.1.at hi i1 gr.1 gr.2
          have u1 : i < upI z.1 (31 + i) (goesTo z.1 i) 1 := by rw [upI_ne _ _ (show (1 : Int32) ≠ 31 + i from (ix_c 31 5 1 hi (hW.f5 h_7)).symm)]; exact i1
          refine j_aload_n M dX3_passNight_34 rfl ?_
          refine j_iload_n M dX3_passNight_35 rfl ?_
          refine j_inv1 M lk_X3_92 (c_X3_eat hc ((by rw [up_at]; exact LibF_f (A := 31) (k := 6) hQ wz.1.z (by omega) hi i1)) (wu) (hi) (u1) ((by rw [up_ne _ _ (by omega)]; exact hH2))) (rv_X3 hc) dX3_passNight_36 (Nat.le_of_ble_eq_true rfl) ⟨(Nat.le_of_ble_eq_true rfl), (Nat.le_of_ble_eq_true rfl)⟩ (kV fun σ_36 q_36 => ?_)
          obtain ⟨q1, q2, q3⟩ := q_36
          refine j_iinc_1 M dX3_passNight_39 (show _ + Int32.ofInt 1 = _ + 1 from rfl) (by exact (by first | trivial | rfl)) ?_
          refine j_goto (tgt := 2) M dX3_passNight_42 (by decide) ?_
          have b1 : ¬ bitv (z.1 7) i = 1 := fun q => by rw [k7] at h_20; rw [h_20] at q; exact absurd q (by decide)
          exact ih h_7 _ (inc_lt hi h_7).2.1 (by rw [es h_7]; unfold nightF; rw [if_neg b1]; exact q1) (by rw [es h_7]; unfold nightF; rw [if_neg b1]; exact q2) (frm_trans (frm_up hfr (by simp)) (frm_mono q3 (by simp)))
  refine j_iconst (v := 0) M dX3_passNight_0 rfl ?_
  refine j_istore_1 M dX3_passNight_1 (by exact (by first | trivial | rfl)) ?_
  exact lp 0 (by decide) _ hW.1.2.1.1 hL hH (frm_refl _ _ _)
set_option maxRecDepth 100000 in
theorem c_X3_passNights {l : Launch} {G : Gw} {σ : Sg} {c : Nat} (hc : isLib c) {n : Int32} {s h : St} (hL : LibF (σ c) s) (hW : WF s) (hH : HolF (σ c 8) h) (hn : 0 ≤ n) : Mt l G yX3_passNights cX3_passNights 3 none 4 94 [.ref (ad G c 0), .int n] σ (pV fun τ => LibF (τ c) (gon (s, h) n).1 ∧ HolF (τ c 8) (gon (s, h) n).2 ∧ frm σ τ c [0, 1, 2, 6, 7, 8]) := by
  refine mt_intro (by decide +kernel) (Nat.le_of_ble_eq_true rfl) (fun Φ M => ?_)
  show Φ 0 [some (.ref (ad G c 0)), some (.int n), none] [] σ
  have lp : ∀ i : Int32, 0 ≤ i → ∀ τ : Sg, i ≤ n → LibF (τ c) (gon (s, h) i).1 → HolF (τ c 8) (gon (s, h) i).2 → frm σ τ c [0, 1, 2, 6, 7, 8] → Φ 2 [some (.ref (ad G c 0)), some (.int n), some (.int i)] [] τ := by
    refine loop_up n (fun i hi ih τ hle hQ hH2 hfr => ?_)
    have wq := gon_WF (p := (s, h)) hW i
    refine j_iload_n M dX3_passNights_2 rfl ?_
    refine j_iload_n M dX3_passNights_3 rfl ?_
    refine j_icmp_ge (tgt := 17) M dX3_passNights_4 (by decide) (fun h_4 => ?_) (fun h_4 => ?_)
    · exact j_vret M dX3_passNights_17 ⟨rfl, by have e : i = n := Int32.le_antisymm hle (Int32.not_lt.mp h_4); subst e; exact ⟨hQ, hH2, hfr⟩⟩
    · refine j_aload_n M dX3_passNights_7 rfl ?_
      refine j_inv0 M lk_X3_86 (c_X3_passNight hc (hQ) (wq.1) (hH2)) (rv_X3 hc) dX3_passNights_8 (Nat.le_of_ble_eq_true rfl) ⟨(Nat.le_of_ble_eq_true rfl), (Nat.le_of_ble_eq_true rfl)⟩ (kV fun σ_8 q_8 => ?_)
      refine j_iinc_2 M dX3_passNights_11 (show _ + Int32.ofInt 1 = _ + 1 from rfl) (by exact (by first | trivial | rfl)) ?_
      refine j_goto (tgt := 2) M dX3_passNights_14 (by decide) ?_
      obtain ⟨q1, q2, q3⟩ := q_8
      exact ih h_4 _ (inc_lt hi h_4).2.1 (by rw [gon_s hi h_4]; exact q1) (by rw [gon_s hi h_4]; exact q2) (frm_trans hfr q3)
  refine j_iconst (v := 0) M dX3_passNights_0 rfl ?_
  refine j_istore_2 M dX3_passNights_1 (by exact (by first | trivial | rfl)) ?_
  exact lp 0 (by decide) σ hn hL hH (frm_refl _ _ _)
