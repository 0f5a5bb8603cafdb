def Tk (σ τ : Sg) (c d : Nat) : Prop := (∀ s, WF0 s → LibF (σ d) s → LibF (τ c) s) ∧ HolF (τ c 8) (fun _ => 0) ∧ frm σ τ c [0, 1, 2, 3, 4, 5, 6, 7, 8]
theorem take_fin {σ τ : Sg} {c d : Nat} (hF : τ c 0 0 = σ d 0 0 ∧ τ c 0 1 = σ d 0 1 ∧ τ c 0 2 = σ d 0 2 ∧ τ c 0 3 = σ d 0 3 ∧ τ c 0 4 = σ d 0 4 ∧ τ c 0 5 = σ d 0 5 ∧ τ c 0 6 = σ d 0 6 ∧ τ c 0 7 = σ d 0 7)
  (hB : ∀ b, 0 ≤ b → b < 6 → τ c 1 b = σ d 1 b ∧ τ c 2 b = σ d 2 b ∧ τ c 3 b = σ d 3 b ∧ τ c 4 b = σ d 4 b) (hK : ∀ b, 0 ≤ b → b < 5 → (τ c 5 b = σ d 5 b ∧ τ c 6 b = σ d 6 b ∧ τ c 7 b = σ d 7 b) ∧ τ c 8 b = 0) (hfr : frm σ τ c [0, 1, 2, 3, 4, 5, 6, 7, 8]) : Tk σ τ c d := by
  refine ⟨fun s hW h => ⟨?_, fun b b0 b1 => ?_, fun b b0 b1 => ?_⟩, fun b b0 b1 => (hK b b0 b1).2, hfr⟩
  · obtain ⟨h0, h1, h2, h3, h4, h5, h6, h7⟩ := h.1
    obtain ⟨g0, g1, g2, g3, g4, g5, g6, g7⟩ := hF
    exact ⟨g0.trans h0, g1.trans h1, g2.trans h2, g3.trans h3, g4.trans h4, g5.trans h5, g6.trans h6, g7.trans h7⟩
  · obtain ⟨g1, g2, g3, g4⟩ := hB b b0 (Int32.lt_of_lt_of_le b1 hW.2.1)
    rw [g1, g2, g3, g4]
    exact h.2.1 b b0 b1
  · obtain ⟨⟨g1, g2, g3⟩, _⟩ := hK b b0 (Int32.lt_of_lt_of_le b1 hW.2.2.2)
    rw [g1, g2, g3]
    exact h.2.2 b b0 b1
set_option maxRecDepth 100000 in
theorem c_X3_take {l : Launch} {G : Gw} {σ : Sg} {c : Nat} (hc : isLib c) {d : Nat} (hd : isLib d)  (hcd : c ≠ d) : Mt l G yX3_take cX3_take 3 none 0 0 [.ref (ad G c 0), .ref (ad G d 0)] σ (pV fun τ => Tk σ τ c d) := by
  refine mt_intro (by decide +kernel) (Nat.le_of_ble_eq_true rfl) (fun Φ M => ?_)
  show Φ 0 [some (.ref (ad G c 0)), some (.ref (ad G d 0)), none] [] σ
  have hdc : ¬ d = c := fun e => hcd e.symm
  have lp2 : ∀ i : Int32, 0 ≤ i → ∀ τ : Sg, i ≤ 5 → τ c 0 0 = σ d 0 0 ∧ τ c 0 1 = σ d 0 1 ∧ τ c 0 2 = σ d 0 2 ∧ τ c 0 3 = σ d 0 3 ∧ τ c 0 4 = σ d 0 4 ∧ τ c 0 5 = σ d 0 5 ∧ τ c 0 6 = σ d 0 6 ∧ τ c 0 7 = σ d 0 7 → (∀ b, 0 ≤ b → b < 6 → τ c 1 b = σ d 1 b ∧ τ c 2 b = σ d 2 b ∧ τ c 3 b = σ d 3 b ∧ τ c 4 b = σ d 4 b) → (∀ b, 0 ≤ b → b < i → (τ c 5 b = σ d 5 b ∧ τ c 6 b = σ d 6 b ∧ τ c 7 b = σ d 7 b) ∧ τ c 8 b = 0) → frm σ τ c [0, 1, 2, 3, 4, 5, 6, 7, 8] → Φ 128 [some (.ref (ad G c 0)), some (.ref (ad G d 0)), some (.int i)] [] τ := by
    refine loop_up 5 (fun i hi ih τ hle hF hB hK hfr => ?_)
    have ed : ∀ k, τ d k = σ d k := fun k => hfr d k (by simp [hdc])
    refine j_iload_n M dX3_take_128 rfl ?_
    refine j_iconst (v := 5) M dX3_take_129 rfl ?_
    refine j_icmp_ge (tgt := 182) M dX3_take_130 (by decide) (fun h_130 => ?_) (fun h_130 => ?_)
    · exact j_vret M dX3_take_182 ⟨rfl, by exact take_fin hF hB (fun b b0 b1 => hK b b0 (Int32.lt_of_lt_of_le b1 (Int32.not_lt.mp h_130))) hfr⟩
    · refine j_aload_n M dX3_take_133 rfl ?_
      refine gf_X3_49 M hc dX3_take_134 ?_
      refine j_iload_n M dX3_take_137 rfl ?_
      refine j_aload_n M dX3_take_138 rfl ?_
      refine gf_X3_49 M hd dX3_take_139 ?_
      refine j_iload_n M dX3_take_142 rfl ?_
      refine al_L_5 M hd dX3_take_143 (by first | assumption | decide) (by first | assumption | decide) ?_
      refine as_L_5 M hc dX3_take_144 (by first | assumption | decide) (by first | assumption | decide) ?_
      refine j_aload_n M dX3_take_145 rfl ?_
      refine gf_X3_52 M hc dX3_take_146 ?_
      refine j_iload_n M dX3_take_149 rfl ?_
      refine j_aload_n M dX3_take_150 rfl ?_
      refine gf_X3_52 M hd dX3_take_151 ?_
      refine j_iload_n M dX3_take_154 rfl ?_
      refine al_L_6 M hd dX3_take_155 (by first | assumption | decide) (by first | assumption | decide) ?_
      refine as_L_6 M hc dX3_take_156 (by first | assumption | decide) (by first | assumption | decide) ?_
      refine j_aload_n M dX3_take_157 rfl ?_
      refine gf_X3_55 M hc dX3_take_158 ?_
      refine j_iload_n M dX3_take_161 rfl ?_
      refine j_aload_n M dX3_take_162 rfl ?_
      refine gf_X3_55 M hd dX3_take_163 ?_
      refine j_iload_n M dX3_take_166 rfl ?_
      refine al_L_7 M hd dX3_take_167 (by first | assumption | decide) (by first | assumption | decide) ?_
      refine as_L_7 M hc dX3_take_168 (by first | assumption | decide) (by first | assumption | decide) ?_
      refine j_aload_n M dX3_take_169 rfl ?_
      refine gf_X3_58 M hc dX3_take_170 ?_
      refine j_iload_n M dX3_take_173 rfl ?_
      refine j_iconst (v := 0) M dX3_take_174 rfl ?_
      refine as_L_8 M hc dX3_take_175 (by first | assumption | decide) (by first | assumption | decide) ?_
      refine j_iinc_2 M dX3_take_176 (show _ + Int32.ofInt 1 = _ + 1 from rfl) (by exact (by first | trivial | rfl)) ?_
      refine j_goto (tgt := 128) M dX3_take_179 (by decide) ?_
      refine ih h_130 _ (inc_lt hi h_130).2.1 (by simpa [up] using hF) (fun b b0 b1 => by simpa [up] using hB b b0 b1) (fun b b0 b1 => ?_) (by repeat' (first | assumption | apply frm_up | simp))
      by_cases e : b = i
      · subst e; simp [up, upI, hdc, ed]
      · have q := hK b b0 (lt_of_inc hi h_130 b1 e); simp [up, upI, hdc, e, q]
  have lp1 : ∀ i : Int32, 0 ≤ i → ∀ τ : Sg, i ≤ 6 → τ c 0 0 = σ d 0 0 ∧ τ c 0 1 = σ d 0 1 ∧ τ c 0 2 = σ d 0 2 ∧ τ c 0 3 = σ d 0 3 ∧ τ c 0 4 = σ d 0 4 ∧ τ c 0 5 = σ d 0 5 ∧ τ c 0 6 = σ d 0 6 ∧ τ c 0 7 = σ d 0 7 → (∀ b, 0 ≤ b → b < i → τ c 1 b = σ d 1 b ∧ τ c 2 b = σ d 2 b ∧ τ c 3 b = σ d 3 b ∧ τ c 4 b = σ d 4 b) → frm σ τ c [0, 1, 2, 3, 4] → Φ 66 [some (.ref (ad G c 0)), some (.ref (ad G d 0)), some (.int i)] [] τ := by
    refine loop_up 6 (fun i hi ih τ hle hF hB hfr => ?_)
    have ed : ∀ k, τ d k = σ d k := fun k => hfr d k (by simp [hdc])
    refine j_iload_n M dX3_take_66 rfl ?_
    refine j_bipush (v := 6) M dX3_take_67 rfl ?_
    refine j_icmp_ge (tgt := 126) M dX3_take_69 (by decide) (fun h_69 => ?_) (fun h_69 => ?_)
    · refine j_iconst (v := 0) M dX3_take_126 rfl ?_
      refine j_istore_2 M dX3_take_127 (by exact (by first | trivial | rfl)) ?_
      exact lp2 0 (by decide) τ (by decide) hF (fun b b0 b1 => hB b b0 (Int32.lt_of_lt_of_le b1 (Int32.not_lt.mp h_69))) (fun b b0 b1 => absurd (Int32.lt_of_le_of_lt b0 b1) (by decide)) (frm_mono hfr (by simp))
    · refine j_aload_n M dX3_take_72 rfl ?_
      refine gf_X3_36 M hc dX3_take_73 ?_
      refine j_iload_n M dX3_take_76 rfl ?_
      refine j_aload_n M dX3_take_77 rfl ?_
      refine gf_X3_36 M hd dX3_take_78 ?_
      refine j_iload_n M dX3_take_81 rfl ?_
      refine al_L_1 M hd dX3_take_82 (by first | assumption | decide) (by first | assumption | decide) ?_
      refine as_L_1 M hc dX3_take_83 (by first | assumption | decide) (by first | assumption | decide) ?_
      refine j_aload_n M dX3_take_84 rfl ?_
      refine gf_X3_40 M hc dX3_take_85 ?_
      refine j_iload_n M dX3_take_88 rfl ?_
      refine j_aload_n M dX3_take_89 rfl ?_
      refine gf_X3_40 M hd dX3_take_90 ?_
      refine j_iload_n M dX3_take_93 rfl ?_
      refine al_L_2 M hd dX3_take_94 (by first | assumption | decide) (by first | assumption | decide) ?_
      refine as_L_2 M hc dX3_take_95 (by first | assumption | decide) (by first | assumption | decide) ?_
      refine j_aload_n M dX3_take_96 rfl ?_
      refine gf_X3_43 M hc dX3_take_97 ?_
      refine j_iload_n M dX3_take_100 rfl ?_
      refine j_aload_n M dX3_take_101 rfl ?_
      refine gf_X3_43 M hd dX3_take_102 ?_
      refine j_iload_n M dX3_take_105 rfl ?_
      refine al_L_3 M hd dX3_take_106 (by first | assumption | decide) (by first | assumption | decide) ?_
      refine as_L_3 M hc dX3_take_107 (by first | assumption | decide) (by first | assumption | decide) ?_
      refine j_aload_n M dX3_take_108 rfl ?_
      refine gf_X3_46 M hc dX3_take_109 ?_
      refine j_iload_n M dX3_take_112 rfl ?_
      refine j_aload_n M dX3_take_113 rfl ?_
      refine gf_X3_46 M hd dX3_take_114 ?_
      refine j_iload_n M dX3_take_117 rfl ?_
      refine al_L_4 M hd dX3_take_118 (by first | assumption | decide) (by first | assumption | decide) ?_
      refine as_L_4 M hc dX3_take_119 (by first | assumption | decide) (by first | assumption | decide) ?_
      refine j_iinc_2 M dX3_take_120 (show _ + Int32.ofInt 1 = _ + 1 from rfl) (by exact (by first | trivial | rfl)) ?_
      refine j_goto (tgt := 66) M dX3_take_123 (by decide) ?_
      refine ih h_69 _ (inc_lt hi h_69).2.1 (by simpa [up] using hF) (fun b b0 b1 => ?_) (by repeat' (first | assumption | apply frm_up | simp))
      by_cases e : b = i
      · subst e; simp [up, upI, hdc, ed]
      · have q := hB b b0 (lt_of_inc hi h_69 b1 e); simp [up, upI, hdc, e, q]
  refine j_aload_n M dX3_take_0 rfl ?_
  refine j_aload_n M dX3_take_1 rfl ?_
  refine gf_X3_9 M hd dX3_take_2 ?_
  refine pf_X3_9 M hc dX3_take_5 ?_
  refine j_aload_n M dX3_take_8 rfl ?_
  refine j_aload_n M dX3_take_9 rfl ?_
  refine gf_X3_15 M hd dX3_take_10 ?_
  refine pf_X3_15 M hc dX3_take_13 ?_
  refine j_aload_n M dX3_take_16 rfl ?_
  refine j_aload_n M dX3_take_17 rfl ?_
  refine gf_X3_18 M hd dX3_take_18 ?_
  refine pf_X3_18 M hc dX3_take_21 ?_
  refine j_aload_n M dX3_take_24 rfl ?_
  refine j_aload_n M dX3_take_25 rfl ?_
  refine gf_X3_21 M hd dX3_take_26 ?_
  refine pf_X3_21 M hc dX3_take_29 ?_
  refine j_aload_n M dX3_take_32 rfl ?_
  refine j_aload_n M dX3_take_33 rfl ?_
  refine gf_X3_24 M hd dX3_take_34 ?_
  refine pf_X3_24 M hc dX3_take_37 ?_
  refine j_aload_n M dX3_take_40 rfl ?_
  refine j_aload_n M dX3_take_41 rfl ?_
  refine gf_X3_27 M hd dX3_take_42 ?_
  refine pf_X3_27 M hc dX3_take_45 ?_
  refine j_aload_n M dX3_take_48 rfl ?_
  refine j_aload_n M dX3_take_49 rfl ?_
  refine gf_X3_30 M hd dX3_take_50 ?_
  refine pf_X3_30 M hc dX3_take_53 ?_
  refine j_aload_n M dX3_take_56 rfl ?_
  refine j_aload_n M dX3_take_57 rfl ?_
  refine gf_X3_33 M hd dX3_take_58 ?_
  refine pf_X3_33 M hc dX3_take_61 ?_
  refine j_iconst (v := 0) M dX3_take_64 rfl ?_
  refine j_istore_2 M dX3_take_65 (by exact (by first | trivial | rfl)) ?_
  exact lp1 0 (by decide) _ (by decide) (by simp [up, upI, hdc]) (fun b b0 b1 => absurd (Int32.lt_of_le_of_lt b0 b1) (by decide)) (by repeat' (first | exact frm_refl _ _ _ | apply frm_up | simp))
set_option maxRecDepth 100000 in
theorem c_X3_clear {l : Launch} {G : Gw} {σ : Sg} {c : Nat} (hc : isLib c)   : Mt l G yX3_clear cX3_clear 1 none 0 0 [.ref (ad G c 0)] σ (pV fun τ => τ = up σ c 0 (upI (upI (upI (upI (upI (upI (upI (upI (σ c 0) 0 0) 1 0) 2 0) 3 0) 4 0) 5 0) 6 0) 7 0)) := by
  refine mt_intro (by decide +kernel) (Nat.le_of_ble_eq_true rfl) (fun Φ M => ?_)
  show Φ 0 [some (.ref (ad G c 0))] [] σ
  refine j_aload_n M dX3_clear_0 rfl ?_
  refine j_iconst (v := 0) M dX3_clear_1 rfl ?_
  refine pf_X3_9 M hc dX3_clear_2 ?_
  refine j_aload_n M dX3_clear_5 rfl ?_
  refine j_iconst (v := 0) M dX3_clear_6 rfl ?_
  refine pf_X3_15 M hc dX3_clear_7 ?_
  refine j_aload_n M dX3_clear_10 rfl ?_
  refine j_iconst (v := 0) M dX3_clear_11 rfl ?_
  refine pf_X3_18 M hc dX3_clear_12 ?_
  refine j_aload_n M dX3_clear_15 rfl ?_
  refine j_iconst (v := 0) M dX3_clear_16 rfl ?_
  refine pf_X3_21 M hc dX3_clear_17 ?_
  refine j_aload_n M dX3_clear_20 rfl ?_
  refine j_iconst (v := 0) M dX3_clear_21 rfl ?_
  refine pf_X3_24 M hc dX3_clear_22 ?_
  refine j_aload_n M dX3_clear_25 rfl ?_
  refine j_iconst (v := 0) M dX3_clear_26 rfl ?_
  refine pf_X3_27 M hc dX3_clear_27 ?_
  refine j_aload_n M dX3_clear_30 rfl ?_
  refine j_iconst (v := 0) M dX3_clear_31 rfl ?_
  refine pf_X3_30 M hc dX3_clear_32 ?_
  refine j_aload_n M dX3_clear_35 rfl ?_
  refine j_iconst (v := 0) M dX3_clear_36 rfl ?_
  refine pf_X3_33 M hc dX3_clear_37 ?_
  exact j_vret M dX3_clear_40 ⟨rfl, by simp only [up_up, up_same]⟩
set_option maxRecDepth 100000 in
theorem c_X3_addBook {l : Launch} {G : Gw} {σ : Sg} {c : Nat} (hc : isLib c) {p : Int32} {q : Int32}   : Mt l G yX3_addBook cX3_addBook 3 none 0 0 [.ref (ad G c 0), .int p, .int q] σ (pV fun τ => τ = if σ c 0 0 < 0 ∨ ¬ σ c 0 0 < 6 then σ else up (up (up (up (up σ c 1 (upI (σ c 1) (σ c 0 0) p)) c 2 (upI (σ c 2) (σ c 0 0) q)) c 3 (upI (σ c 3) (σ c 0 0) (σ c 0 0))) c 4 (upI (σ c 4) (σ c 0 0) (σ c 0 0))) c 0 (upI (σ c 0) 0 (σ c 0 0 + 1))) := by
  refine mt_intro (by decide +kernel) (Nat.le_of_ble_eq_true rfl) (fun Φ M => ?_)
  show Φ 0 [some (.ref (ad G c 0)), some (.int p), some (.int q)] [] σ
  refine j_aload_n M dX3_addBook_0 rfl ?_
  refine gf_X3_9 M hc dX3_addBook_1 ?_
  refine j_if_lt (tgt := 16) M dX3_addBook_4 (by decide) (fun h_4 => ?_) (fun h_4 => ?_)
  · exact j_vret M dX3_addBook_16 ⟨rfl, by simp [h_4, up]⟩
  · refine j_aload_n M dX3_addBook_7 rfl ?_
    refine gf_X3_9 M hc dX3_addBook_8 ?_
    refine j_bipush (v := 6) M dX3_addBook_11 rfl ?_
    refine j_icmp_lt (tgt := 17) M dX3_addBook_13 (by decide) (fun h_13 => ?_) (fun h_13 => ?_)
    · refine j_aload_n M dX3_addBook_17 rfl ?_
      refine gf_X3_36 M hc dX3_addBook_18 ?_
      refine j_aload_n M dX3_addBook_21 rfl ?_
      refine gf_X3_9 M hc dX3_addBook_22 ?_
      refine j_iload_n M dX3_addBook_25 rfl ?_
      refine as_L_1 M hc dX3_addBook_26 (by first | assumption | decide | (simp [up]; first | exact Int32.not_lt.mp h_4 | exact h_13) | exact Int32.not_lt.mp h_4) (by first | assumption | decide | (simp [up]; first | exact Int32.not_lt.mp h_4 | exact h_13) | exact Int32.not_lt.mp h_4) ?_
      refine j_aload_n M dX3_addBook_27 rfl ?_
      refine gf_X3_40 M hc dX3_addBook_28 ?_
      refine j_aload_n M dX3_addBook_31 rfl ?_
      refine gf_X3_9 M hc dX3_addBook_32 ?_
      refine j_iload_n M dX3_addBook_35 rfl ?_
      refine as_L_2 M hc dX3_addBook_36 (by first | assumption | decide | (simp [up]; first | exact Int32.not_lt.mp h_4 | exact h_13) | exact Int32.not_lt.mp h_4) (by first | assumption | decide | (simp [up]; first | exact Int32.not_lt.mp h_4 | exact h_13) | exact Int32.not_lt.mp h_4) ?_
      refine j_aload_n M dX3_addBook_37 rfl ?_
      refine gf_X3_43 M hc dX3_addBook_38 ?_
      refine j_aload_n M dX3_addBook_41 rfl ?_
      refine gf_X3_9 M hc dX3_addBook_42 ?_
      refine j_aload_n M dX3_addBook_45 rfl ?_
      refine gf_X3_9 M hc dX3_addBook_46 ?_
      refine as_L_3 M hc dX3_addBook_49 (by first | assumption | decide | (simp [up]; first | exact Int32.not_lt.mp h_4 | exact h_13) | exact Int32.not_lt.mp h_4) (by first | assumption | decide | (simp [up]; first | exact Int32.not_lt.mp h_4 | exact h_13) | exact Int32.not_lt.mp h_4) ?_
      refine j_aload_n M dX3_addBook_50 rfl ?_
      refine gf_X3_46 M hc dX3_addBook_51 ?_
      refine j_aload_n M dX3_addBook_54 rfl ?_
      refine gf_X3_9 M hc dX3_addBook_55 ?_
      refine j_aload_n M dX3_addBook_58 rfl ?_
      refine gf_X3_9 M hc dX3_addBook_59 ?_
      refine as_L_4 M hc dX3_addBook_62 (by first | assumption | decide | (simp [up]; first | exact Int32.not_lt.mp h_4 | exact h_13) | exact Int32.not_lt.mp h_4) (by first | assumption | decide | (simp [up]; first | exact Int32.not_lt.mp h_4 | exact h_13) | exact Int32.not_lt.mp h_4) ?_
      refine j_aload_n M dX3_addBook_63 rfl ?_
      refine j_dup M dX3_addBook_64 rfl ?_
      refine gf_X3_9 M hc dX3_addBook_65 ?_
      refine j_iconst (v := 1) M dX3_addBook_68 rfl ?_
      refine j_iadd M dX3_addBook_69 ?_
      refine pf_X3_9 M hc dX3_addBook_70 ?_
      exact j_vret M dX3_addBook_73 ⟨rfl, by simp [h_4, h_13, up]⟩
    · exact j_vret M dX3_addBook_16 ⟨rfl, by simp [h_4, h_13, up]⟩
set_option maxRecDepth 100000 in
theorem c_X3_addFish {l : Launch} {G : Gw} {σ : Sg} {c : Nat} (hc : isLib c) {k : Int32} {p : Int32}   : Mt l G yX3_addFish cX3_addFish 3 none 0 0 [.ref (ad G c 0), .int k, .int p] σ (pV fun τ => τ = if σ c 0 1 < 0 ∨ ¬ σ c 0 1 < 5 then σ else up (up (up (up σ c 5 (upI (σ c 5) (σ c 0 1) k)) c 6 (upI (σ c 6) (σ c 0 1) p)) c 7 (upI (σ c 7) (σ c 0 1) 0)) c 0 (upI (σ c 0) 1 (σ c 0 1 + 1))) := by
  refine mt_intro (by decide +kernel) (Nat.le_of_ble_eq_true rfl) (fun Φ M => ?_)
  show Φ 0 [some (.ref (ad G c 0)), some (.int k), some (.int p)] [] σ
  refine j_aload_n M dX3_addFish_0 rfl ?_
  refine gf_X3_15 M hc dX3_addFish_1 ?_
  refine j_if_lt (tgt := 15) M dX3_addFish_4 (by decide) (fun h_4 => ?_) (fun h_4 => ?_)
  · exact j_vret M dX3_addFish_15 ⟨rfl, by simp [h_4, up]⟩
  · refine j_aload_n M dX3_addFish_7 rfl ?_
    refine gf_X3_15 M hc dX3_addFish_8 ?_
    refine j_iconst (v := 5) M dX3_addFish_11 rfl ?_
    refine j_icmp_lt (tgt := 16) M dX3_addFish_12 (by decide) (fun h_12 => ?_) (fun h_12 => ?_)
    · refine j_aload_n M dX3_addFish_16 rfl ?_
      refine gf_X3_49 M hc dX3_addFish_17 ?_
      refine j_aload_n M dX3_addFish_20 rfl ?_
      refine gf_X3_15 M hc dX3_addFish_21 ?_
      refine j_iload_n M dX3_addFish_24 rfl ?_
      refine as_L_5 M hc dX3_addFish_25 (by first | assumption | decide | (simp [up]; first | exact Int32.not_lt.mp h_4 | exact h_12) | exact Int32.not_lt.mp h_4) (by first | assumption | decide | (simp [up]; first | exact Int32.not_lt.mp h_4 | exact h_12) | exact Int32.not_lt.mp h_4) ?_
      refine j_aload_n M dX3_addFish_26 rfl ?_
      refine gf_X3_52 M hc dX3_addFish_27 ?_
      refine j_aload_n M dX3_addFish_30 rfl ?_
      refine gf_X3_15 M hc dX3_addFish_31 ?_
      refine j_iload_n M dX3_addFish_34 rfl ?_
      refine as_L_6 M hc dX3_addFish_35 (by first | assumption | decide | (simp [up]; first | exact Int32.not_lt.mp h_4 | exact h_12) | exact Int32.not_lt.mp h_4) (by first | assumption | decide | (simp [up]; first | exact Int32.not_lt.mp h_4 | exact h_12) | exact Int32.not_lt.mp h_4) ?_
      refine j_aload_n M dX3_addFish_36 rfl ?_
      refine gf_X3_55 M hc dX3_addFish_37 ?_
      refine j_aload_n M dX3_addFish_40 rfl ?_
      refine gf_X3_15 M hc dX3_addFish_41 ?_
      refine j_iconst (v := 0) M dX3_addFish_44 rfl ?_
      refine as_L_7 M hc dX3_addFish_45 (by first | assumption | decide | (simp [up]; first | exact Int32.not_lt.mp h_4 | exact h_12) | exact Int32.not_lt.mp h_4) (by first | assumption | decide | (simp [up]; first | exact Int32.not_lt.mp h_4 | exact h_12) | exact Int32.not_lt.mp h_4) ?_
      refine j_aload_n M dX3_addFish_46 rfl ?_
      refine j_dup M dX3_addFish_47 rfl ?_
      refine gf_X3_15 M hc dX3_addFish_48 ?_
      refine j_iconst (v := 1) M dX3_addFish_51 rfl ?_
      refine j_iadd M dX3_addFish_52 ?_
      refine pf_X3_15 M hc dX3_addFish_53 ?_
      exact j_vret M dX3_addFish_56 ⟨rfl, by simp [h_4, h_12, up]⟩
    · exact j_vret M dX3_addFish_15 ⟨rfl, by simp [h_4, h_12, up]⟩
