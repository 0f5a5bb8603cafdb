set_option maxRecDepth 100000 in
theorem c_X7_first {l : Launch} {G : Gw} {σ : Sg} {w : Int32}  (hS : ¬ σ 40 0 4 = 0 → WF (σ 40 4)) : Mt l G yX7_first cX7_first 5 (some .int) 5 114 [.ref (ad G 40 0), .int w] σ (pI fun r τ => firstQ (σ 40 0 4) (σ 40 4) w r ∧ frm σ τ 40 [8, 10]) := by
  refine mt_intro (by decide +kernel) (Nat.le_of_ble_eq_true rfl) (fun Φ M => ?_)
  show Φ 0 [some (.ref (ad G 40 0)), some (.int w), none, none, none] [] σ
  have fin : ∀ (n : Int32) (τ : Sg), ¬ σ 40 0 4 = 0 → inR 0 w 1 → 0 ≤ n → n ≤ 60 → τ 40 4 = gS (σ 40 4) n → frm (up σ 40 10 (σ 40 4)) τ 40 [4, 8] → (∀ m, 0 ≤ m → m < n → firstP (σ 40 4) m = 0) → (¬ emptyM (gS (σ 40 4) n) (σ 40 4 0) = emptyM (σ 40 4) (σ 40 4 0) ∨ n = 60) → Φ 55 [some (.ref (ad G 40 0)), some (.int w), some (.int (emptyM (σ 40 4) (σ 40 4 0))), some (.int n), none] [] τ := by
    intro n τ h_4 b_11 n0 n60 et hfr hm hor
    have hW := hS h_4
    have wq := gS_WF hW n
    have e0 : τ 40 4 0 = σ 40 4 0 := by rw [et]; exact wq.2.1
    have ep : emptyM (τ 40 4) (τ 40 4 0) &&& (emptyM (σ 40 4) (σ 40 4 0) ^^^ (-1)) = firstP (σ 40 4) n := by rw [e0, et]; rfl
    refine j_aload_n M dX7_first_55 rfl ?_
    refine j_inv0 M lk_X7_222 (c_X7_emptySet ((by rw [et]; exact wq.1.z))) rv_X7 dX7_first_56 (Nat.le_of_ble_eq_true rfl) ⟨(Nat.le_of_ble_eq_true rfl), (Nat.le_of_ble_eq_true rfl)⟩ (kE ?_)
    refine j_iload_n M dX7_first_59 rfl ?_
    refine j_iconst (v := (-1)) M dX7_first_60 rfl ?_
    refine j_ixor M dX7_first_61 ?_
    refine j_iand M dX7_first_62 ?_
    refine j_istore_4 M dX7_first_63 (by exact (by first | trivial | rfl)) ?_
    refine j_aload_n M dX7_first_65 rfl ?_
    refine j_inv0 M lk_X7_211 (c_X7_takeBack) rv_X7 dX7_first_66 (Nat.le_of_ble_eq_true rfl) ⟨(Nat.le_of_ble_eq_true rfl), (Nat.le_of_ble_eq_true rfl)⟩ (kV fun σ_66 q_66 => ?_)
    subst q_66
    refine j_iload M dX7_first_69 rfl ?_
    refine j_if_ne (tgt := 79) M dX7_first_71 (by decide) (fun h_71 => ?_) (fun h_71 => ?_)
    · refine j_iload_n M dX7_first_79 rfl ?_
      refine j_if_ne (tgt := 91) M dX7_first_80 (by decide) (fun h_80 => ?_) (fun h_80 => ?_)
      · refine j_iload_n M dX7_first_91 rfl ?_
        exact j_iret M dX7_first_92 ⟨_, rfl, by refine ⟨?_, frm_back hfr⟩; unfold firstQ; rw [if_neg h_4, if_pos b_11]; rw [ep] at h_71 ; first | exact ⟨-1000000, Or.inr ⟨rfl, firstZ hW hm hor h_71⟩, rfl⟩ | exact ⟨n, Or.inl ⟨n0, n60, h_71, fun m m0 m1 => fun q => q (hm m m0 m1)⟩, by rw [if_neg (none_ne n0), if_pos h_80]⟩ | exact ⟨n, Or.inl ⟨n0, n60, h_71, fun m m0 m1 => fun q => q (hm m m0 m1)⟩, by rw [if_neg (none_ne n0), if_neg h_80]⟩⟩
      · refine j_iload M dX7_first_83 rfl ?_
        refine j_invs1 M lk_X7_225 (c_X7_least ((by rw [ep] at h_71 ⊢; exact (firstP_rng hW n).2 h_71))) dX7_first_85 (Nat.le_of_ble_eq_true rfl) ⟨(Nat.le_of_ble_eq_true rfl), (Nat.le_of_ble_eq_true rfl)⟩ (kE ?_)
        refine j_goto (tgt := 92) M dX7_first_88 (by decide) ?_
        exact j_iret M dX7_first_92 ⟨_, rfl, by refine ⟨?_, frm_back hfr⟩; unfold firstQ; rw [if_neg h_4, if_pos b_11]; rw [ep] at h_71 ⊢; first | exact ⟨-1000000, Or.inr ⟨rfl, firstZ hW hm hor h_71⟩, rfl⟩ | exact ⟨n, Or.inl ⟨n0, n60, h_71, fun m m0 m1 => fun q => q (hm m m0 m1)⟩, by rw [if_neg (none_ne n0), if_pos h_80]⟩ | exact ⟨n, Or.inl ⟨n0, n60, h_71, fun m m0 m1 => fun q => q (hm m m0 m1)⟩, by rw [if_neg (none_ne n0), if_neg h_80]⟩⟩
    · refine j_ldc M k_X7_158 dX7_first_74 ?_
      refine j_goto (tgt := 92) M dX7_first_76 (by decide) ?_
      exact j_iret M dX7_first_92 ⟨_, rfl, by refine ⟨?_, frm_back hfr⟩; unfold firstQ; rw [if_neg h_4, if_pos b_11]; rw [ep] at h_71 ; first | exact ⟨-1000000, Or.inr ⟨rfl, firstZ hW hm hor h_71⟩, rfl⟩ | exact ⟨n, Or.inl ⟨n0, n60, h_71, fun m m0 m1 => fun q => q (hm m m0 m1)⟩, by rw [if_neg (none_ne n0), if_pos h_80]⟩ | exact ⟨n, Or.inl ⟨n0, n60, h_71, fun m m0 m1 => fun q => q (hm m m0 m1)⟩, by rw [if_neg (none_ne n0), if_neg h_80]⟩⟩
  have lp : ∀ n : Int32, 0 ≤ n → ∀ τ : Sg, ¬ σ 40 0 4 = 0 → inR 0 w 1 → n ≤ 60 → τ 40 4 = gS (σ 40 4) n → frm (up σ 40 10 (σ 40 4)) τ 40 [4, 8] → (∀ m, 0 ≤ m → m < n → firstP (σ 40 4) m = 0) → Φ 31 [some (.ref (ad G 40 0)), some (.int w), some (.int (emptyM (σ 40 4) (σ 40 4 0))), some (.int n), none] [] τ := by
    refine loop_up 60 (fun n hn ih τ h_4 b_11 n60 et hfr hm => ?_)
    have hW := hS h_4
    have wq := gS_WF hW n
    have e0 : τ 40 4 0 = σ 40 4 0 := by rw [et]; exact wq.2.1
    refine j_aload_n M dX7_first_31 rfl ?_
    refine j_inv0 M lk_X7_222 (c_X7_emptySet ((by rw [et]; exact wq.1.z))) rv_X7 dX7_first_32 (Nat.le_of_ble_eq_true rfl) ⟨(Nat.le_of_ble_eq_true rfl), (Nat.le_of_ble_eq_true rfl)⟩ (kE ?_)
    rw [e0, et]
    refine j_iload_n M dX7_first_35 rfl ?_
    refine j_icmp_ne (tgt := 55) M dX7_first_36 (by decide) (fun h_36 => ?_) (fun h_36 => ?_)
    · exact fin _ _ h_4 b_11 hn n60 et hfr hm (Or.inl h_36)
    · refine j_iload_n M dX7_first_39 rfl ?_
      refine j_bipush (v := 60) M dX7_first_40 rfl ?_
      refine j_icmp_ge (tgt := 55) M dX7_first_42 (by decide) (fun h_42 => ?_) (fun h_42 => ?_)
      · exact fin _ _ h_4 b_11 hn n60 et hfr hm (Or.inr (Int32.le_antisymm n60 (Int32.not_lt.mp h_42)))
      · refine j_aload_n M dX7_first_45 rfl ?_
        refine j_inv0 M lk_X7_187 (c_X7_oneNight ((by rw [et]; exact wq.1))) rv_X7 dX7_first_46 (Nat.le_of_ble_eq_true rfl) ⟨(Nat.le_of_ble_eq_true rfl), (Nat.le_of_ble_eq_true rfl)⟩ (kV fun σ_46 q_46 => ?_)
        refine j_iinc_3 M dX7_first_49 (show _ + Int32.ofInt 1 = _ + 1 from rfl) (by exact (by first | trivial | rfl)) ?_
        refine j_goto (tgt := 31) M dX7_first_52 (by decide) ?_
        obtain ⟨g1, g2, g3⟩ := q_46
        refine ih h_42 _ h_4 b_11 (inc_lt hn h_42).2.1 (by rw [g1, gS_s hn h_42, et]; exact night_fst _ _ _) (frm_trans hfr g3) (fun m m0 m1 => ?_)
        by_cases e : m = n
        · rw [e]; exact firstP_eq h_36
        · exact hm m m0 (lt_of_inc hn h_42 m1 e)
  refine j_aload_n M dX7_first_0 rfl ?_
  refine gf_X7_147 M dX7_first_1 ?_
  refine j_if_ne (tgt := 10) M dX7_first_4 (by decide) (fun h_4 => ?_) (fun h_4 => ?_)
  · refine j_iload_n M dX7_first_10 rfl ?_
    refine j_invs1 M lk_X7_216 (c_X7_isWhat) dX7_first_11 (Nat.le_of_ble_eq_true rfl) ⟨(Nat.le_of_ble_eq_true rfl), (Nat.le_of_ble_eq_true rfl)⟩ (kP fun r_11 k_11 => ?_)
    refine j_if_ne (tgt := 20) M dX7_first_14 (by decide) (fun h_14 => ?_) (fun h_14 => ?_)
    · have b_11 := ifT k_11 h_14
      refine j_aload_n M dX7_first_20 rfl ?_
      refine j_inv0 M lk_X7_219 (c_X7_putAside) rv_X7 dX7_first_21 (Nat.le_of_ble_eq_true rfl) ⟨(Nat.le_of_ble_eq_true rfl), (Nat.le_of_ble_eq_true rfl)⟩ (kV fun σ_21 q_21 => ?_)
      subst q_21
      refine j_aload_n M dX7_first_24 rfl ?_
      refine j_inv0 M lk_X7_222 (c_X7_emptySet ((by rw [up_ne _ _ (by decide)]; exact (hS h_4).z))) rv_X7 dX7_first_25 (Nat.le_of_ble_eq_true rfl) ⟨(Nat.le_of_ble_eq_true rfl), (Nat.le_of_ble_eq_true rfl)⟩ (kE ?_)
      refine j_istore_2 M dX7_first_28 (by exact (by first | trivial | rfl)) ?_
      refine j_iconst (v := 0) M dX7_first_29 rfl ?_
      refine j_istore_3 M dX7_first_30 (by exact (by first | trivial | rfl)) ?_
      rw [up_ne _ _ (by decide)]
      exact lp 0 (by decide) _ h_4 b_11 (by decide) (by rw [up_ne _ _ (by decide)]; rfl) (frm_refl _ _ _) (fun m m0 m1 => absurd (Int32.lt_of_le_of_lt m0 m1) (by decide))
    · have b_11 := ifF k_11 h_14
      refine j_ldc M k_X7_73 dX7_first_17 ?_
      exact j_iret M dX7_first_19 ⟨_, rfl, by exact ⟨by simp [firstQ, h_4, b_11], frm_refl _ _ _⟩⟩
  · refine j_ldc M k_X7_181 dX7_first_7 ?_
    exact j_iret M dX7_first_9 ⟨_, rfl, by exact ⟨by simp [firstQ, h_4], frm_refl _ _ _⟩⟩
set_option maxRecDepth 100000 in
theorem c_X7_note {l : Launch} {G : Gw} {σ : Sg}   (hm : 0 ≤ σ 40 0 18 ∧ σ 40 0 18 ≤ 24) : Mt l G yX7_note cX7_note 2 none 0 0 [.ref (ad G 40 0)] σ (pV fun τ => τ 40 0 = upI (σ 40 0) 18 (noteM (σ 40 0 18)) ∧ τ 40 9 = noteA (σ 40 9) (σ 40 4) (σ 40 0 18) ∧ frm σ τ 40 [0, 9]) := by
  refine mt_intro (by decide +kernel) (Nat.le_of_ble_eq_true rfl) (fun Φ M => ?_)
  show Φ 0 [some (.ref (ad G 40 0)), none] [] σ
  have lp2 : ∀ i : Int32, 0 ≤ i → ∀ τ : Sg, i ≤ 41 → (∀ j, 0 ≤ j → j < 984 → τ 40 9 j = if 41 * (if σ 40 0 18 = 24 then 23 else σ 40 0 18) ≤ j ∧ j < 41 * (if σ 40 0 18 = 24 then 23 else σ 40 0 18) + i then σ 40 4 (j - 41 * (if σ 40 0 18 = 24 then 23 else σ 40 0 18)) else (if σ 40 0 18 = 24 then shA (σ 40 9) else σ 40 9) j) → τ 40 0 = (if σ 40 0 18 = 24 then upI (σ 40 0) 18 23 else σ 40 0) → frm σ τ 40 [0, 9] → Φ 51 [some (.ref (ad G 40 0)), some (.int i)] [] τ := by
    refine loop_up 41 (fun i hi ih τ hle hc e0 hfr => ?_)
    have es : τ 40 4 = σ 40 4 := hfr 40 4 (by decide)
    have em : τ 40 0 18 = (if σ 40 0 18 = 24 then 23 else σ 40 0 18) := by rw [e0]; split <;> simp [upI]
    have mr : 0 ≤ (if σ 40 0 18 = 24 then 23 else σ 40 0 18) ∧ (if σ 40 0 18 = 24 then 23 else σ 40 0 18) ≤ 23 := noteM_rng hm.1 hm.2
    refine j_iload_n M dX7_note_51 rfl ?_
    refine j_bipush (v := 41) M dX7_note_52 rfl ?_
    refine j_icmp_ge (tgt := 83) M dX7_note_54 (by decide) (fun h_54 => ?_) (fun h_54 => ?_)
    · refine j_extA M (c := 40) (k := 9) (n := 984) (n' := 984) (f := noteA (σ 40 9) (σ 40 4) (σ 40 0 18)) (fun _ => rfl) rfl (by decide) (fun j j0 j1 => ?_) ?_
      · have ei : i = 41 := Int32.le_antisymm hle (Int32.not_lt.mp h_54)
        rw [hc j j0 j1, ei]; rfl
      refine j_aload_n M dX7_note_83 rfl ?_
      refine j_dup M dX7_note_84 rfl ?_
      refine gf_X7_151 M dX7_note_85 ?_
      refine j_iconst (v := 1) M dX7_note_88 rfl ?_
      refine j_iadd M dX7_note_89 ?_
      refine pf_X7_151 M dX7_note_90 ?_
      exact j_vret M dX7_note_93 ⟨rfl, by refine ⟨?_, by simp [up], frm_up (frm_up hfr (by decide)) (by decide)⟩; simp only [up_same]; rw [up_ne _ _ (by decide), em, e0]; unfold noteM; split <;> simp [upI_upI]⟩
    · have ii := ix41 (m := τ 40 0 18) (by rw [em]; exact mr.1) (by rw [em]; exact mr.2) hi h_54
      refine j_aload_n M dX7_note_57 rfl ?_
      refine gf_X7_34 M dX7_note_58 ?_
      refine j_bipush (v := 41) M dX7_note_61 rfl ?_
      refine j_aload_n M dX7_note_63 rfl ?_
      refine gf_X7_151 M dX7_note_64 ?_
      refine j_imul M dX7_note_67 ?_
      refine j_iload_n M dX7_note_68 rfl ?_
      refine j_iadd M dX7_note_69 ?_
      refine j_aload_n M dX7_note_70 rfl ?_
      refine gf_X7_19 M dX7_note_71 ?_
      refine j_iload_n M dX7_note_74 rfl ?_
      refine al_40_4 M dX7_note_75 (by first | assumption | exact ii.1.1 | exact ii.1.2 | decide | exact Int32.lt_of_lt_of_le h_54 (by decide)) (by first | assumption | exact ii.1.1 | exact ii.1.2 | decide | exact Int32.lt_of_lt_of_le h_54 (by decide)) ?_
      refine as_40_9 M dX7_note_76 (by first | assumption | exact ii.1.1 | exact ii.1.2 | decide | exact Int32.lt_of_lt_of_le h_54 (by decide)) (by first | assumption | exact ii.1.1 | exact ii.1.2 | decide | exact Int32.lt_of_lt_of_le h_54 (by decide)) ?_
      refine j_iinc_1 M dX7_note_77 (show _ + Int32.ofInt 1 = _ + 1 from rfl) (by exact (by first | trivial | rfl)) ?_
      refine j_goto (tgt := 51) M dX7_note_80 (by decide) ?_
      refine ih h_54 _ (inc_lt hi h_54).2.1 ?_ (by rw [up_ne _ _ (by decide)]; exact e0) (frm_up hfr (by decide))
      rw [up_same, es, em]
      exact putB_step (ix41 mr.1 mr.2 hi h_54).2.1 (ix41 mr.1 mr.2 hi h_54).2.2 hi h_54 hc
  have lp : ∀ i : Int32, 0 ≤ i → ∀ τ : Sg, σ 40 0 18 = 24 → i ≤ 943 → (∀ j, 0 ≤ j → j < 984 → τ 40 9 j = if j < i then σ 40 9 (j + 41) else σ 40 9 j) → frm σ τ 40 [9] → Φ 11 [some (.ref (ad G 40 0)), some (.int i)] [] τ := by
    refine loop_up 943 (fun i hi ih τ h_6 hle hc hfr => ?_)
    have e0 : τ 40 0 = σ 40 0 := hfr 40 0 (by decide)
    refine j_iload_n M dX7_note_11 rfl ?_
    refine j_sipush (v := 943) M dX7_note_12 rfl ?_
    refine j_icmp_ge (tgt := 39) M dX7_note_15 (by decide) (fun h_15 => ?_) (fun h_15 => ?_)
    · refine j_aload_n M dX7_note_39 rfl ?_
      refine j_dup M dX7_note_40 rfl ?_
      refine gf_X7_151 M dX7_note_41 ?_
      refine j_iconst (v := 1) M dX7_note_44 rfl ?_
      refine j_isub M dX7_note_45 ?_
      refine pf_X7_151 M dX7_note_46 ?_
      refine j_iconst (v := 0) M dX7_note_49 rfl ?_
      refine j_istore_1 M dX7_note_50 (by exact (by first | trivial | rfl)) ?_
      refine lp2 0 (by decide) _ (by decide) (fun j j0 j1 => ?_) (by rw [up_same, e0, if_pos h_6, h_6]; rfl) (frm_up (frm_mono hfr (by decide)) (by decide))
      rw [up_ne _ _ (by decide), hc j j0 j1, if_pos h_6, ← putB_0]
      have ei : i = 943 := Int32.le_antisymm hle (Int32.not_lt.mp h_15)
      rw [ei, if_pos h_6]
      unfold shA
      simp [j0]
    · have ii := ixp41 hi h_15
      refine j_aload_n M dX7_note_18 rfl ?_
      refine gf_X7_34 M dX7_note_19 ?_
      refine j_iload_n M dX7_note_22 rfl ?_
      refine j_aload_n M dX7_note_23 rfl ?_
      refine gf_X7_34 M dX7_note_24 ?_
      refine j_iload_n M dX7_note_27 rfl ?_
      refine j_bipush (v := 41) M dX7_note_28 rfl ?_
      refine j_iadd M dX7_note_30 ?_
      refine al_40_9 M dX7_note_31 (by first | assumption | exact ii.1 | exact ii.2 | decide | exact i984 h_15) (by first | assumption | exact ii.1 | exact ii.2 | decide | exact i984 h_15) ?_
      refine as_40_9 M dX7_note_32 (by first | assumption | exact ii.1 | exact ii.2 | decide | exact i984 h_15) (by first | assumption | exact ii.1 | exact ii.2 | decide | exact i984 h_15) ?_
      refine j_iinc_1 M dX7_note_33 (show _ + Int32.ofInt 1 = _ + 1 from rfl) (by exact (by first | trivial | rfl)) ?_
      refine j_goto (tgt := 11) M dX7_note_36 (by decide) ?_
      exact ih h_15 _ h_6 (inc_lt hi h_15).2.1 (by rw [up_same]; exact sh_step hi h_15 hc) (frm_up hfr (by decide))
  refine j_aload_n M dX7_note_0 rfl ?_
  refine gf_X7_151 M dX7_note_1 ?_
  refine j_bipush (v := 24) M dX7_note_4 rfl ?_
  refine j_icmp_ne (tgt := 49) M dX7_note_6 (by decide) (fun h_6 => ?_) (fun h_6 => ?_)
  · refine j_iconst (v := 0) M dX7_note_49 rfl ?_
    refine j_istore_1 M dX7_note_50 (by exact (by first | trivial | rfl)) ?_
    exact lp2 0 (by decide) σ (by decide) (fun j j0 j1 => by rw [← putB_0]; simp [h_6]) (by rw [if_neg h_6]) (frm_refl _ _ _)
  · refine j_iconst (v := 0) M dX7_note_9 rfl ?_
    refine j_istore_1 M dX7_note_10 (by exact (by first | trivial | rfl)) ?_
    exact lp 0 (by decide) σ h_6 (by decide) (fun j j0 j1 => by rw [if_neg (Int32.not_lt.mpr j0)]) (frm_refl _ _ _)
