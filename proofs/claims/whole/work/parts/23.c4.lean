set_option maxRecDepth 100000 in
theorem c_X7_eats {l : Launch} {G : Gw} {σ : Sg} {f : Int32}  (hW : WF (σ 40 4)) (f0 : 0 ≤ f) (f1 : f < σ 40 4 1) : Mt l G yX7_eats cX7_eats 4 none 2 42 [.ref (ad G 40 0), .int f] σ (pV fun τ => τ 40 4 = eatsS (σ 40 4) f ∧ τ 40 8 = eatsH (σ 40 4) (σ 40 8) f ∧ frm σ τ 40 [4, 8]) := by
  refine mt_intro (by decide +kernel) (Nat.le_of_ble_eq_true rfl) (fun Φ M => ?_)
  show Φ 0 [some (.ref (ad G 40 0)), some (.int f), none, none] [] σ
  have hj : ∀ m : Int32, m = muchE (σ 40 4) f → Φ 62 [some (.ref (ad G 40 0)), some (.int f), some (.int (bkAt (σ 40 4) (σ 40 4 (31 + f)))), none] [.int m] σ := by
    intro m hm
    have hB := hW.bk f0 f1
    have b6 := hW.b6 hB.2.1
    have f5 := hW.f5 f1
    obtain ⟨⟨⟨_, _⟩, ⟨_, _⟩⟩, ⟨_, _⟩⟩ := ixS hB.1 b6
    obtain ⟨⟨⟨_, _⟩, ⟨_, _⟩⟩, ⟨_, _⟩⟩ := ixT f0 f5
    have e36 : (36 : Int32) + f ≠ 8 + bkAt (σ 40 4) (σ 40 4 (31 + f)) := ix_ne 36 8 5 6 f0 f5 hB.1 b6
    refine j_istore_3 M dX7_eats_62 (by exact (by first | trivial | rfl)) ?_
    refine j_aload_n M dX7_eats_63 rfl ?_
    refine gf_X7_19 M dX7_eats_64 ?_
    refine j_bipush (v := 8) M dX7_eats_67 rfl ?_
    refine j_iload_n M dX7_eats_69 rfl ?_
    refine j_iadd M dX7_eats_70 ?_
    refine j_dup2 M dX7_eats_71 rfl rfl ?_
    refine al_40_4 M dX7_eats_72 (by first | assumption | decide) (by first | assumption | decide) ?_
    refine j_iload_n M dX7_eats_73 rfl ?_
    refine j_isub M dX7_eats_74 ?_
    refine as_40_4 M dX7_eats_75 (by first | assumption | decide) (by first | assumption | decide) ?_
    refine j_aload_n M dX7_eats_76 rfl ?_
    refine gf_X7_19 M dX7_eats_77 ?_
    refine j_bipush (v := 36) M dX7_eats_80 rfl ?_
    refine j_iload_n M dX7_eats_82 rfl ?_
    refine j_iadd M dX7_eats_83 ?_
    refine j_aload_n M dX7_eats_84 rfl ?_
    refine gf_X7_19 M dX7_eats_85 ?_
    refine j_bipush (v := 36) M dX7_eats_88 rfl ?_
    refine j_iload_n M dX7_eats_90 rfl ?_
    refine j_iadd M dX7_eats_91 ?_
    refine al_40_4 M dX7_eats_92 (by first | assumption | decide) (by first | assumption | decide) ?_
    refine j_iload_n M dX7_eats_93 rfl ?_
    refine j_iadd M dX7_eats_94 ?_
    refine j_sipush (v := 999) M dX7_eats_95 rfl ?_
    refine j_icmp_le (tgt := 107) M dX7_eats_98 (by decide) (fun h_98 => ?_) (fun h_98 => ?_)
    · refine j_aload_n M dX7_eats_107 rfl ?_
      refine gf_X7_19 M dX7_eats_108 ?_
      refine j_bipush (v := 36) M dX7_eats_111 rfl ?_
      refine j_iload_n M dX7_eats_113 rfl ?_
      refine j_iadd M dX7_eats_114 ?_
      refine al_40_4 M dX7_eats_115 (by first | assumption | decide) (by first | assumption | decide) ?_
      refine j_iload_n M dX7_eats_116 rfl ?_
      refine j_iadd M dX7_eats_117 ?_
      refine as_40_4 M dX7_eats_118 (by first | assumption | decide) (by first | assumption | decide) ?_
      refine j_aload_n M dX7_eats_119 rfl ?_
      refine gf_X7_31 M dX7_eats_120 ?_
      refine j_iload_n M dX7_eats_123 rfl ?_
      refine j_dup2 M dX7_eats_124 rfl rfl ?_
      refine al_40_8 M dX7_eats_125 (by first | assumption | decide) (by first | assumption | decide) ?_
      refine j_iload_n M dX7_eats_126 rfl ?_
      refine j_if_le (tgt := 136) M dX7_eats_127 (by decide) (fun h_127 => ?_) (fun h_127 => ?_)
      · refine j_iconst (v := 0) M dX7_eats_136 rfl ?_
        refine j_ior M dX7_eats_137 ?_
        refine as_40_8 M dX7_eats_138 (by first | assumption | decide) (by first | assumption | decide) ?_
        exact j_vret M dX7_eats_139 ⟨rfl, by simp only [up_same, upI_ne _ _ e36] at h_98; refine ⟨?_, ?_, frm_up (frm_up (frm_up (frm_refl _ _ _) (by decide)) (by decide)) (by decide)⟩; (· simp [up, eatsS, ← hm, h_98, upI_ne _ _ e36]); (· simp [up, eatsH, ← hm, h_127])⟩
      · refine j_iconst (v := 1) M dX7_eats_130 rfl ?_
        refine j_iload_n M dX7_eats_131 rfl ?_
        refine j_ishl M dX7_eats_132 ?_
        refine j_goto (tgt := 137) M dX7_eats_133 (by decide) ?_
        refine j_ior M dX7_eats_137 ?_
        refine as_40_8 M dX7_eats_138 (by first | assumption | decide) (by first | assumption | decide) ?_
        exact j_vret M dX7_eats_139 ⟨rfl, by simp only [up_same, upI_ne _ _ e36] at h_98; refine ⟨?_, ?_, frm_up (frm_up (frm_up (frm_refl _ _ _) (by decide)) (by decide)) (by decide)⟩; (· simp [up, eatsS, ← hm, h_98, upI_ne _ _ e36]); (· simp [up, eatsH, ← hm, h_127])⟩
    · refine j_sipush (v := 999) M dX7_eats_101 rfl ?_
      refine j_goto (tgt := 118) M dX7_eats_104 (by decide) ?_
      refine as_40_4 M dX7_eats_118 (by first | assumption | decide) (by first | assumption | decide) ?_
      refine j_aload_n M dX7_eats_119 rfl ?_
      refine gf_X7_31 M dX7_eats_120 ?_
      refine j_iload_n M dX7_eats_123 rfl ?_
      refine j_dup2 M dX7_eats_124 rfl rfl ?_
      refine al_40_8 M dX7_eats_125 (by first | assumption | decide) (by first | assumption | decide) ?_
      refine j_iload_n M dX7_eats_126 rfl ?_
      refine j_if_le (tgt := 136) M dX7_eats_127 (by decide) (fun h_127 => ?_) (fun h_127 => ?_)
      · refine j_iconst (v := 0) M dX7_eats_136 rfl ?_
        refine j_ior M dX7_eats_137 ?_
        refine as_40_8 M dX7_eats_138 (by first | assumption | decide) (by first | assumption | decide) ?_
        exact j_vret M dX7_eats_139 ⟨rfl, by simp only [up_same, upI_ne _ _ e36] at h_98; refine ⟨?_, ?_, frm_up (frm_up (frm_up (frm_refl _ _ _) (by decide)) (by decide)) (by decide)⟩; (· simp [up, eatsS, ← hm, h_98, upI_ne _ _ e36]); (· simp [up, eatsH, ← hm, h_127])⟩
      · refine j_iconst (v := 1) M dX7_eats_130 rfl ?_
        refine j_iload_n M dX7_eats_131 rfl ?_
        refine j_ishl M dX7_eats_132 ?_
        refine j_goto (tgt := 137) M dX7_eats_133 (by decide) ?_
        refine j_ior M dX7_eats_137 ?_
        refine as_40_8 M dX7_eats_138 (by first | assumption | decide) (by first | assumption | decide) ?_
        exact j_vret M dX7_eats_139 ⟨rfl, by simp only [up_same, upI_ne _ _ e36] at h_98; refine ⟨?_, ?_, frm_up (frm_up (frm_up (frm_refl _ _ _) (by decide)) (by decide)) (by decide)⟩; (· simp [up, eatsS, ← hm, h_98, upI_ne _ _ e36]); (· simp [up, eatsH, ← hm, h_127])⟩
  have hB := hW.bk f0 f1
  have b6 := hW.b6 hB.2.1
  have f5 := hW.f5 f1
  obtain ⟨⟨⟨_, _⟩, ⟨_, _⟩⟩, ⟨_, _⟩⟩ := ixS hB.1 b6
  obtain ⟨⟨⟨_, _⟩, ⟨_, _⟩⟩, ⟨_, _⟩⟩ := ixT f0 f5
  refine j_aload_n M dX7_eats_0 rfl ?_
  refine j_aload_n M dX7_eats_1 rfl ?_
  refine gf_X7_19 M dX7_eats_2 ?_
  refine j_bipush (v := 31) M dX7_eats_5 rfl ?_
  refine j_iload_n M dX7_eats_7 rfl ?_
  refine j_iadd M dX7_eats_8 ?_
  refine al_40_4 M dX7_eats_9 (by first | assumption | decide) (by first | assumption | decide) ?_
  refine j_inv1 M lk_X7_159 (c_X7_bookAt (b6)) rv_X7 dX7_eats_10 (Nat.le_of_ble_eq_true rfl) ⟨(Nat.le_of_ble_eq_true rfl), (Nat.le_of_ble_eq_true rfl)⟩ (kE ?_)
  refine j_istore_2 M dX7_eats_13 (by exact (by first | trivial | rfl)) ?_
  refine j_aload_n M dX7_eats_14 rfl ?_
  refine j_iload_n M dX7_eats_15 rfl ?_
  refine j_inv1 M lk_X7_165 (c_X7_isShut) rv_X7 dX7_eats_16 (Nat.le_of_ble_eq_true rfl) ⟨(Nat.le_of_ble_eq_true rfl), (Nat.le_of_ble_eq_true rfl)⟩ (kE ?_)
  refine j_if_eq (tgt := 26) M dX7_eats_19 (by decide) (fun h_19 => ?_) (fun h_19 => ?_)
  · refine j_aload_n M dX7_eats_26 rfl ?_
    refine gf_X7_19 M dX7_eats_27 ?_
    refine j_bipush (v := 8) M dX7_eats_30 rfl ?_
    refine j_iload_n M dX7_eats_32 rfl ?_
    refine j_iadd M dX7_eats_33 ?_
    refine al_40_4 M dX7_eats_34 (by first | assumption | decide) (by first | assumption | decide) ?_
    refine j_aload_n M dX7_eats_35 rfl ?_
    refine gf_X7_19 M dX7_eats_36 ?_
    refine j_iconst (v := 2) M dX7_eats_39 rfl ?_
    refine al_40_4 M dX7_eats_40 (by first | assumption | decide) (by first | assumption | decide) ?_
    refine j_icmp_ge (tgt := 56) M dX7_eats_41 (by decide) (fun h_41 => ?_) (fun h_41 => ?_)
    · refine j_aload_n M dX7_eats_56 rfl ?_
      refine gf_X7_19 M dX7_eats_57 ?_
      refine j_iconst (v := 2) M dX7_eats_60 rfl ?_
      refine al_40_4 M dX7_eats_61 (by first | assumption | decide) (by first | assumption | decide) ?_
      exact hj _ (by simp [muchE, bt1, h_19, h_41])
    · refine j_aload_n M dX7_eats_44 rfl ?_
      refine gf_X7_19 M dX7_eats_45 ?_
      refine j_bipush (v := 8) M dX7_eats_48 rfl ?_
      refine j_iload_n M dX7_eats_50 rfl ?_
      refine j_iadd M dX7_eats_51 ?_
      refine al_40_4 M dX7_eats_52 (by first | assumption | decide) (by first | assumption | decide) ?_
      refine j_goto (tgt := 62) M dX7_eats_53 (by decide) ?_
      exact hj _ (by simp [muchE, bt1, h_19, h_41])
  · refine j_iconst (v := 0) M dX7_eats_22 rfl ?_
    refine j_goto (tgt := 62) M dX7_eats_23 (by decide) ?_
    exact hj _ (by simp [muchE, bt1, h_19])
set_option maxRecDepth 100000 in
theorem c_X7_oneNight {l : Launch} {G : Gw} {σ : Sg}   (hW : WF (σ 40 4)) : Mt l G yX7_oneNight cX7_oneNight 2 none 4 93 [.ref (ad G 40 0)] σ (pV fun τ => τ 40 4 = (night (σ 40 4, σ 40 8)).1 ∧ τ 40 8 = (night (σ 40 4, σ 40 8)).2 ∧ frm σ τ 40 [4, 8]) := by
  refine mt_intro (by decide +kernel) (Nat.le_of_ble_eq_true rfl) (fun Φ M => ?_)
  show Φ 0 [some (.ref (ad G 40 0)), none] [] σ
  obtain ⟨p, hp⟩ : ∃ p : St, p = (foldI nightF (σ 40 4, σ 40 8) (σ 40 4 1)).1 := ⟨_, rfl⟩
  have wp := nightFs_WF (p := (σ 40 4, σ 40 8)) hW (σ 40 4 1) hW.1.2.1.1 (Int32.le_refl _)
  rw [← hp] at wp
  have hx : ∀ (i : Int32) (τ : Sg), τ 40 4 = dampS p → τ 40 8 = (foldI nightF (σ 40 4, σ 40 8) (σ 40 4 1)).2 → frm σ τ 40 [4, 8] → Φ 116 [some (.ref (ad G 40 0)), some (.int i)] [] τ := by
    intro i τ e4 e8 hfr
    refine j_aload_n M dX7_oneNight_116 rfl ?_
    refine gf_X7_19 M dX7_oneNight_117 ?_
    refine j_iconst (v := 4) M dX7_oneNight_120 rfl ?_
    refine j_dup2 M dX7_oneNight_121 rfl rfl ?_
    refine al_40_4 M dX7_oneNight_122 (by first | assumption | decide) (by first | assumption | decide) ?_
    refine j_iconst (v := 1) M dX7_oneNight_123 rfl ?_
    refine j_iadd M dX7_oneNight_124 ?_
    refine as_40_4 M dX7_oneNight_125 (by first | assumption | decide) (by first | assumption | decide) ?_
    exact j_vret M dX7_oneNight_126 ⟨rfl, by exact ⟨by simp [up, night, e4, hp], by simp [up, night, e8], frm_up hfr (by decide)⟩⟩
  have lp2 : ∀ i : Int32, 0 ≤ i → ∀ τ : Sg, i ≤ p 0 → τ 40 4 = qd p i → τ 40 8 = (foldI nightF (σ 40 4, σ 40 8) (σ 40 4 1)).2 → frm σ τ 40 [4, 8] → Φ 47 [some (.ref (ad G 40 0)), some (.int i)] [] τ := by
    refine loop_up (p 0) (fun i hi ih τ hle e4 e8 hfr => ?_)
    have wq := qd_WF wp.1 i hi hle
    rw [← e4] at wq
    refine j_iload_n M dX7_oneNight_47 rfl ?_
    refine j_aload_n M dX7_oneNight_48 rfl ?_
    refine gf_X7_19 M dX7_oneNight_49 ?_
    refine j_iconst (v := 0) M dX7_oneNight_52 rfl ?_
    refine al_40_4 M dX7_oneNight_53 (by first | assumption | decide) (by first | assumption | decide) ?_
    refine j_icmp_ge (tgt := 116) M dX7_oneNight_54 (by decide) (fun h_54 => ?_) (fun h_54 => ?_)
    · exact hx _ _ (by rw [e4]; exact qd_end (Or.inl (Int32.le_antisymm hle (by rw [← wq.2.1]; exact Int32.not_lt.mp h_54)))) e8 hfr
    · have h_54 : i < p 0 := by rw [← wq.2.1]; exact h_54
      refine j_aload_n M dX7_oneNight_57 rfl ?_
      refine gf_X7_19 M dX7_oneNight_58 ?_
      refine j_iconst (v := 4) M dX7_oneNight_61 rfl ?_
      refine al_40_4 M dX7_oneNight_62 (by first | assumption | decide) (by first | assumption | decide) ?_
      refine j_iconst (v := 4) M dX7_oneNight_63 rfl ?_
      refine j_irem M dX7_oneNight_64 (by first | decide | assumption | grind) ?_
      refine j_iconst (v := 3) M dX7_oneNight_65 rfl ?_
      refine j_icmp_ne (tgt := 116) M dX7_oneNight_66 (by decide) (fun h_66 => ?_) (fun h_66 => ?_)
      · exact hx _ _ (by rw [e4]; exact qd_end (Or.inr (by rw [← wq.2.2.2.1]; exact h_66))) e8 hfr
      · have h_66 : rem32 (p 4) 4 = 3 := by rw [← wq.2.2.2.1]; exact h_66
        have b6 := wp.1.b6 h_54
        obtain ⟨⟨⟨_, _⟩, ⟨_, _⟩⟩, ⟨_, _⟩⟩ := ixS hi b6
        refine j_aload_n M dX7_oneNight_69 rfl ?_
        refine gf_X7_19 M dX7_oneNight_70 ?_
        refine j_bipush (v := 6) M dX7_oneNight_73 rfl ?_
        refine al_40_4 M dX7_oneNight_75 (by first | assumption | decide) (by first | assumption | decide) ?_
        refine j_iload_n M dX7_oneNight_76 rfl ?_
        refine j_invs2 M lk_X7_154 (c_X7_has) dX7_oneNight_77 (Nat.le_of_ble_eq_true rfl) ⟨(Nat.le_of_ble_eq_true rfl), (Nat.le_of_ble_eq_true rfl)⟩ (kE ?_)
        refine j_if_ne (tgt := 110) M dX7_oneNight_80 (by decide) (fun h_80 => ?_) (fun h_80 => ?_)
        · refine j_iinc_1 M dX7_oneNight_110 (show _ + Int32.ofInt 1 = _ + 1 from rfl) (by exact (by first | trivial | rfl)) ?_
          refine j_goto (tgt := 47) M dX7_oneNight_113 (by decide) ?_
          exact ih h_54 _ (inc_lt hi h_54).2.1 (by rw [qd_s hi h_54 h_66, ← e4]; simp [up, pasteF, bt1, h_80]) (by simp [up, e8]) hfr
        · refine j_aload_n M dX7_oneNight_83 rfl ?_
          refine gf_X7_19 M dX7_oneNight_84 ?_
          refine j_bipush (v := 14) M dX7_oneNight_87 rfl ?_
          refine j_iload_n M dX7_oneNight_89 rfl ?_
          refine j_iadd M dX7_oneNight_90 ?_
          refine al_40_4 M dX7_oneNight_91 (by first | assumption | decide) (by first | assumption | decide) ?_
          refine j_bipush (v := 9) M dX7_oneNight_92 rfl ?_
          refine j_icmp_ge (tgt := 110) M dX7_oneNight_94 (by decide) (fun h_94 => ?_) (fun h_94 => ?_)
          · refine j_iinc_1 M dX7_oneNight_110 (show _ + Int32.ofInt 1 = _ + 1 from rfl) (by exact (by first | trivial | rfl)) ?_
            refine j_goto (tgt := 47) M dX7_oneNight_113 (by decide) ?_
            exact ih h_54 _ (inc_lt hi h_54).2.1 (by rw [qd_s hi h_54 h_66, ← e4]; simp [up, pasteF, bt1, h_80, h_94]) (by simp [up, e8]) hfr
          · refine j_aload_n M dX7_oneNight_97 rfl ?_
            refine gf_X7_19 M dX7_oneNight_98 ?_
            refine j_bipush (v := 14) M dX7_oneNight_101 rfl ?_
            refine j_iload_n M dX7_oneNight_103 rfl ?_
            refine j_iadd M dX7_oneNight_104 ?_
            refine j_dup2 M dX7_oneNight_105 rfl rfl ?_
            refine al_40_4 M dX7_oneNight_106 (by first | assumption | decide) (by first | assumption | decide) ?_
            refine j_iconst (v := 1) M dX7_oneNight_107 rfl ?_
            refine j_iadd M dX7_oneNight_108 ?_
            refine as_40_4 M dX7_oneNight_109 (by first | assumption | decide) (by first | assumption | decide) ?_
            refine j_iinc_1 M dX7_oneNight_110 (show _ + Int32.ofInt 1 = _ + 1 from rfl) (by exact (by first | trivial | rfl)) ?_
            refine j_goto (tgt := 47) M dX7_oneNight_113 (by decide) ?_
            exact ih h_54 _ (inc_lt hi h_54).2.1 (by rw [qd_s hi h_54 h_66, ← e4]; simp [up, pasteF, bt1, h_80, h_94]) (by simp [up, e8]) (frm_up hfr (by decide))
  have lp : ∀ i : Int32, 0 ≤ i → ∀ τ : Sg, i ≤ σ 40 4 1 → τ 40 4 = (foldI nightF (σ 40 4, σ 40 8) i).1 → τ 40 8 = (foldI nightF (σ 40 4, σ 40 8) i).2 → frm σ τ 40 [4, 8] → Φ 2 [some (.ref (ad G 40 0)), some (.int i)] [] τ := by
    refine loop_up (σ 40 4 1) (fun i hi ih τ hle e4 e8 hfr => ?_)
    have wq : WF (τ 40 4) ∧ τ 40 4 0 = σ 40 4 0 ∧ τ 40 4 1 = σ 40 4 1 := by rw [e4]; exact nightFs_WF (p := (σ 40 4, σ 40 8)) hW i hi hle
    refine j_iload_n M dX7_oneNight_2 rfl ?_
    refine j_aload_n M dX7_oneNight_3 rfl ?_
    refine gf_X7_19 M dX7_oneNight_4 ?_
    refine j_iconst (v := 1) M dX7_oneNight_7 rfl ?_
    refine al_40_4 M dX7_oneNight_8 (by first | assumption | decide) (by first | assumption | decide) ?_
    refine j_icmp_ge (tgt := 45) M dX7_oneNight_9 (by decide) (fun h_9 => ?_) (fun h_9 => ?_)
    · have e : i = σ 40 4 1 := Int32.le_antisymm hle (by rw [← wq.2.2]; exact Int32.not_lt.mp h_9)
      subst e
      refine j_iconst (v := 0) M dX7_oneNight_45 rfl ?_
      refine j_istore_1 M dX7_oneNight_46 (by exact (by first | trivial | rfl)) ?_
      exact lp2 0 (by decide) τ (le0_of wp.1.1.1.1) (by rw [qd_0, e4, hp]) e8 hfr
    · have h_9 : i < σ 40 4 1 := by rw [← wq.2.2]; exact h_9
      have i1 : i < τ 40 4 1 := by rw [wq.2.2]; exact h_9
      obtain ⟨⟨⟨_, _⟩, ⟨_, _⟩⟩, ⟨_, _⟩⟩ := ixT hi (hW.f5 h_9)
      have fs : foldI nightF (σ 40 4, σ 40 8) (i + 1) = nightF i (τ 40 4, τ 40 8) := by rw [foldI_s _ _ hi h_9, e4, e8]
      refine j_aload_n M dX7_oneNight_12 rfl ?_
      refine j_iload_n M dX7_oneNight_13 rfl ?_
      refine j_inv1 M lk_X7_171 (c_X7_isCaught) rv_X7 dX7_oneNight_14 (Nat.le_of_ble_eq_true rfl) ⟨(Nat.le_of_ble_eq_true rfl), (Nat.le_of_ble_eq_true rfl)⟩ (kE ?_)
      refine j_if_ne (tgt := 39) M dX7_oneNight_17 (by decide) (fun h_17 => ?_) (fun h_17 => ?_)
      · refine j_iinc_1 M dX7_oneNight_39 (show _ + Int32.ofInt 1 = _ + 1 from rfl) (by exact (by first | trivial | rfl)) ?_
        refine j_goto (tgt := 2) M dX7_oneNight_42 (by decide) ?_
        exact ih h_9 _ (inc_lt hi h_9).2.1 (by rw [fs]; unfold nightF; rw [if_pos ((bt1 _ _).mpr h_17)]) (by rw [fs]; unfold nightF; rw [if_pos ((bt1 _ _).mpr h_17)]) hfr
      · refine j_aload_n M dX7_oneNight_20 rfl ?_
        refine gf_X7_19 M dX7_oneNight_21 ?_
        refine j_bipush (v := 31) M dX7_oneNight_24 rfl ?_
        refine j_iload_n M dX7_oneNight_26 rfl ?_
        refine j_iadd M dX7_oneNight_27 ?_
        refine j_aload_n M dX7_oneNight_28 rfl ?_
        refine j_iload_n M dX7_oneNight_29 rfl ?_
        refine j_inv1 M lk_X7_174 (c_X7_goesTo (wq.1) (hi) (i1)) rv_X7 dX7_oneNight_30 (Nat.le_of_ble_eq_true rfl) ⟨(Nat.le_of_ble_eq_true rfl), (Nat.le_of_ble_eq_true rfl)⟩ (kE ?_)
        refine as_40_4 M dX7_oneNight_33 (by first | assumption | decide) (by first | assumption | decide) ?_
        have g := goesTo_rng wq.1 hi i1
        have w2 : WF ((up τ 40 4 (upI (τ 40 4) (31 + i) (goesTo (τ 40 4) i))) 40 4) := by rw [up_same]; exact wq.1.at hi i1 g.1 g.2
        have i2 : i < (up τ 40 4 (upI (τ 40 4) (31 + i) (goesTo (τ 40 4) i))) 40 4 1 := by rw [up_same, (at_keep hi (hW.f5 h_9)).2]; exact i1
        refine j_aload_n M dX7_oneNight_34 rfl ?_
        refine j_iload_n M dX7_oneNight_35 rfl ?_
        refine j_inv1 M lk_X7_177 (c_X7_eats (w2) (hi) (i2)) rv_X7 dX7_oneNight_36 (Nat.le_of_ble_eq_true rfl) ⟨(Nat.le_of_ble_eq_true rfl), (Nat.le_of_ble_eq_true rfl)⟩ (kV fun σ_36 q_36 => ?_)
        refine j_iinc_1 M dX7_oneNight_39 (show _ + Int32.ofInt 1 = _ + 1 from rfl) (by exact (by first | trivial | rfl)) ?_
        refine j_goto (tgt := 2) M dX7_oneNight_42 (by decide) ?_
        obtain ⟨q1, q2, q3⟩ := q_36
        rw [up_same] at q1 q2
        rw [up_ne _ _ (by decide)] at q2
        exact ih h_9 _ (inc_lt hi h_9).2.1 (by rw [fs, q1]; unfold nightF; rw [if_neg (by rw [h_17]; decide)]) (by rw [fs, q2]; unfold nightF; rw [if_neg (by rw [h_17]; decide)]) (frm_trans (frm_up hfr (by decide)) q3)
  refine j_iconst (v := 0) M dX7_oneNight_0 rfl ?_
  refine j_istore_1 M dX7_oneNight_1 (by exact (by first | trivial | rfl)) ?_
  exact lp 0 (by decide) σ hW.1.2.1.1 rfl rfl (frm_refl _ _ _)
