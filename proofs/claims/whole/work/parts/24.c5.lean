set_option maxRecDepth 100000 in
theorem c_X7_putAside {l : Launch} {G : Gw} {σ : Sg}    : Mt l G yX7_putAside cX7_putAside 2 none 0 0 [.ref (ad G 40 0)] σ (pV fun τ => τ = up σ 40 10 (σ 40 4)) := by
  refine mt_intro (by decide +kernel) (Nat.le_of_ble_eq_true rfl) (fun Φ M => ?_)
  show Φ 0 [some (.ref (ad G 40 0)), none] [] σ
  have lp : ∀ i : Int32, 0 ≤ i → ∀ τ : Sg, i ≤ 41 → (∀ j, 0 ≤ j → j < i → τ 40 10 j = σ 40 4 j) → frm σ τ 40 [10] → Φ 2 [some (.ref (ad G 40 0)), some (.int i)] [] τ := by
    refine loop_up 41 (fun i hi ih τ hle hc hfr => ?_)
    have es : τ 40 4 = σ 40 4 := hfr 40 4 (by decide)
    refine j_iload_n M dX7_putAside_2 rfl ?_
    refine j_bipush (v := 41) M dX7_putAside_3 rfl ?_
    refine j_icmp_ge (tgt := 26) M dX7_putAside_5 (by decide) (fun h_5 => ?_) (fun h_5 => ?_)
    · refine j_extA M (c := 40) (k := 10) (n := 41) (n' := 41) (f := σ 40 4) (fun _ => rfl) rfl (by decide) (fun j j0 j1 => (hc j j0 (Int32.lt_of_lt_of_le j1 (Int32.not_lt.mp h_5))).symm) ?_
      exact j_vret M dX7_putAside_26 ⟨rfl, frm_1 hfr⟩
    · have hb := h_5
      refine j_aload_n M dX7_putAside_8 rfl ?_
      refine gf_X7_37 M dX7_putAside_9 ?_
      refine j_iload_n M dX7_putAside_12 rfl ?_
      refine j_aload_n M dX7_putAside_13 rfl ?_
      refine gf_X7_19 M dX7_putAside_14 ?_
      refine j_iload_n M dX7_putAside_17 rfl ?_
      refine al_40_4 M dX7_putAside_18 (by first | assumption | decide | grind) (by first | assumption | decide | grind) ?_
      refine as_40_10 M dX7_putAside_19 (by first | assumption | decide | grind) (by first | assumption | decide | grind) ?_
      refine j_iinc_1 M dX7_putAside_20 (show _ + Int32.ofInt 1 = _ + 1 from rfl) (by exact (by first | trivial | rfl)) ?_
      refine j_goto (tgt := 2) M dX7_putAside_23 (by decide) ?_
      refine ih hb _ (inc_lt hi hb).2.1 ?_ (frm_up hfr (by decide))
      intro j j0 j1
      rw [up_same, es]
      by_cases e : j = i
      · rw [e, upI_same]
      · rw [upI_ne _ _ e]; exact hc j j0 (lt_of_inc hi hb j1 e)
  refine j_iconst (v := 0) M dX7_putAside_0 rfl ?_
  refine j_istore_1 M dX7_putAside_1 (by exact (by first | trivial | rfl)) ?_
  exact lp 0 (by decide) σ (by decide) (fun j j0 j1 => absurd (Int32.lt_of_le_of_lt j0 j1) (by decide)) (frm_refl _ _ _)
set_option maxRecDepth 100000 in
theorem c_X7_takeBack {l : Launch} {G : Gw} {σ : Sg}    : Mt l G yX7_takeBack cX7_takeBack 2 none 0 0 [.ref (ad G 40 0)] σ (pV fun τ => τ = up σ 40 4 (σ 40 10)) := by
  refine mt_intro (by decide +kernel) (Nat.le_of_ble_eq_true rfl) (fun Φ M => ?_)
  show Φ 0 [some (.ref (ad G 40 0)), none] [] σ
  have lp : ∀ i : Int32, 0 ≤ i → ∀ τ : Sg, i ≤ 41 → (∀ j, 0 ≤ j → j < i → τ 40 4 j = σ 40 10 j) → frm σ τ 40 [4] → Φ 2 [some (.ref (ad G 40 0)), some (.int i)] [] τ := by
    refine loop_up 41 (fun i hi ih τ hle hc hfr => ?_)
    have es : τ 40 10 = σ 40 10 := hfr 40 10 (by decide)
    refine j_iload_n M dX7_takeBack_2 rfl ?_
    refine j_bipush (v := 41) M dX7_takeBack_3 rfl ?_
    refine j_icmp_ge (tgt := 26) M dX7_takeBack_5 (by decide) (fun h_5 => ?_) (fun h_5 => ?_)
    · refine j_extA M (c := 40) (k := 4) (n := 41) (n' := 41) (f := σ 40 10) (fun _ => rfl) rfl (by decide) (fun j j0 j1 => (hc j j0 (Int32.lt_of_lt_of_le j1 (Int32.not_lt.mp h_5))).symm) ?_
      exact j_vret M dX7_takeBack_26 ⟨rfl, frm_1 hfr⟩
    · have hb := h_5
      refine j_aload_n M dX7_takeBack_8 rfl ?_
      refine gf_X7_19 M dX7_takeBack_9 ?_
      refine j_iload_n M dX7_takeBack_12 rfl ?_
      refine j_aload_n M dX7_takeBack_13 rfl ?_
      refine gf_X7_37 M dX7_takeBack_14 ?_
      refine j_iload_n M dX7_takeBack_17 rfl ?_
      refine al_40_10 M dX7_takeBack_18 (by first | assumption | decide | grind) (by first | assumption | decide | grind) ?_
      refine as_40_4 M dX7_takeBack_19 (by first | assumption | decide | grind) (by first | assumption | decide | grind) ?_
      refine j_iinc_1 M dX7_takeBack_20 (show _ + Int32.ofInt 1 = _ + 1 from rfl) (by exact (by first | trivial | rfl)) ?_
      refine j_goto (tgt := 2) M dX7_takeBack_23 (by decide) ?_
      refine ih hb _ (inc_lt hi hb).2.1 ?_ (frm_up hfr (by decide))
      intro j j0 j1
      rw [up_same, es]
      by_cases e : j = i
      · rw [e, upI_same]
      · rw [upI_ne _ _ e]; exact hc j j0 (lt_of_inc hi hb j1 e)
  refine j_iconst (v := 0) M dX7_takeBack_0 rfl ?_
  refine j_istore_1 M dX7_takeBack_1 (by exact (by first | trivial | rfl)) ?_
  exact lp 0 (by decide) σ (by decide) (fun j j0 j1 => absurd (Int32.lt_of_le_of_lt j0 j1) (by decide)) (frm_refl _ _ _)
set_option maxRecDepth 100000 in
theorem c_X7_goOn {l : Launch} {G : Gw} {σ : Sg} {n : Int32}  (hW : WF (σ 40 4)) (hn : 0 ≤ n) : Mt l G yX7_goOn cX7_goOn 3 none 5 114 [.ref (ad G 40 0), .int n] σ (pV fun τ => τ 40 4 = (gon (σ 40 4, σ 40 8) n).1 ∧ τ 40 8 = (gon (σ 40 4, σ 40 8) n).2 ∧ frm σ τ 40 [4, 8]) := by
  refine mt_intro (by decide +kernel) (Nat.le_of_ble_eq_true rfl) (fun Φ M => ?_)
  show Φ 0 [some (.ref (ad G 40 0)), some (.int n), none] [] σ
  have lp : ∀ i : Int32, 0 ≤ i → ∀ τ : Sg, i ≤ n → τ 40 4 = (gon (σ 40 4, σ 40 8) i).1 → τ 40 8 = (gon (σ 40 4, σ 40 8) i).2 → frm σ τ 40 [4, 8] → Φ 2 [some (.ref (ad G 40 0)), some (.int n), some (.int i)] [] τ := by
    refine loop_up n (fun i hi ih τ hle e4 e8 hfr => ?_)
    have wq : WF (τ 40 4) ∧ τ 40 4 0 = σ 40 4 0 ∧ τ 40 4 1 = σ 40 4 1 := by rw [e4]; exact gon_WF (p := (σ 40 4, σ 40 8)) hW i
    refine j_iload_n M dX7_goOn_2 rfl ?_
    refine j_iload_n M dX7_goOn_3 rfl ?_
    refine j_icmp_ge (tgt := 17) M dX7_goOn_4 (by decide) (fun h_4 => ?_) (fun h_4 => ?_)
    · exact j_vret M dX7_goOn_17 ⟨rfl, by have e : i = n := Int32.le_antisymm hle (Int32.not_lt.mp h_4); subst e; exact ⟨e4, e8, hfr⟩⟩
    · refine j_aload_n M dX7_goOn_7 rfl ?_
      refine j_inv0 M lk_X7_187 (c_X7_oneNight (wq.1)) rv_X7 dX7_goOn_8 (Nat.le_of_ble_eq_true rfl) ⟨(Nat.le_of_ble_eq_true rfl), (Nat.le_of_ble_eq_true rfl)⟩ (kV fun σ_8 q_8 => ?_)
      refine j_iinc_2 M dX7_goOn_11 (show _ + Int32.ofInt 1 = _ + 1 from rfl) (by exact (by first | trivial | rfl)) ?_
      refine j_goto (tgt := 2) M dX7_goOn_14 (by decide) ?_
      obtain ⟨q1, q2, q3⟩ := q_8
      exact ih h_4 _ (inc_lt hi h_4).2.1 (by rw [q1, gon_s hi h_4, e4, e8]) (by rw [q2, gon_s hi h_4, e4, e8]) (frm_trans hfr q3)
  refine j_iconst (v := 0) M dX7_goOn_0 rfl ?_
  refine j_istore_2 M dX7_goOn_1 (by exact (by first | trivial | rfl)) ?_
  exact lp 0 (by decide) σ hn rfl rfl (frm_refl _ _ _)
set_option maxRecDepth 100000 in
theorem c_X7_pagesBehind {l : Launch} {G : Gw} {σ : Sg} {b : Int32} {n : Int32}  (hW : WF (σ 40 4)) (hn : 0 ≤ n) (b0 : 0 ≤ b) (b6 : b < 6) : Mt l G yX7_pagesBehind cX7_pagesBehind 4 (some .int) 6 136 [.ref (ad G 40 0), .int b, .int n] σ (pI fun r τ => r = (gon (σ 40 4, σ 40 8) n).1 (8 + b) ∧ τ 40 4 = σ 40 10 ∧ τ 40 8 = (gon (σ 40 4, σ 40 8) n).2 ∧ frm σ τ 40 [4, 8]) := by
  refine mt_intro (by decide +kernel) (Nat.le_of_ble_eq_true rfl) (fun Φ M => ?_)
  show Φ 0 [some (.ref (ad G 40 0)), some (.int b), some (.int n), none] [] σ
  obtain ⟨⟨⟨_, _⟩, ⟨_, _⟩⟩, ⟨_, _⟩⟩ := ixS b0 b6
  refine j_aload_n M dX7_pagesBehind_0 rfl ?_
  refine j_iload_n M dX7_pagesBehind_1 rfl ?_
  refine j_inv1 M lk_X7_208 (c_X7_goOn (hW) (hn)) rv_X7 dX7_pagesBehind_2 (Nat.le_of_ble_eq_true rfl) ⟨(Nat.le_of_ble_eq_true rfl), (Nat.le_of_ble_eq_true rfl)⟩ (kV fun σ_2 q_2 => ?_)
  obtain ⟨q1, q2, q3⟩ := q_2
  refine j_aload_n M dX7_pagesBehind_5 rfl ?_
  refine gf_X7_19 M dX7_pagesBehind_6 ?_
  refine j_bipush (v := 8) M dX7_pagesBehind_9 rfl ?_
  refine j_iload_n M dX7_pagesBehind_11 rfl ?_
  refine j_iadd M dX7_pagesBehind_12 ?_
  refine al_40_4 M dX7_pagesBehind_13 (by first | assumption | decide) (by first | assumption | decide) ?_
  refine j_istore_3 M dX7_pagesBehind_14 (by exact (by first | trivial | rfl)) ?_
  refine j_aload_n M dX7_pagesBehind_15 rfl ?_
  refine j_inv0 M lk_X7_211 (c_X7_takeBack) rv_X7 dX7_pagesBehind_16 (Nat.le_of_ble_eq_true rfl) ⟨(Nat.le_of_ble_eq_true rfl), (Nat.le_of_ble_eq_true rfl)⟩ (kV fun σ_16 q_16 => ?_)
  subst q_16
  refine j_iload_n M dX7_pagesBehind_19 rfl ?_
  exact j_iret M dX7_pagesBehind_20 ⟨_, rfl, by exact ⟨by rw [q1], by rw [up_same]; exact q3 40 10 (by decide), by rw [up_ne _ _ (by decide)]; exact q2, frm_up q3 (by decide)⟩⟩
set_option maxRecDepth 100000 in
theorem c_X7_allPages {l : Launch} {G : Gw} {σ : Sg}   (hW : WF0 (σ 40 4)) : Mt l G yX7_allPages cX7_allPages 3 (some .int) 0 0 [.ref (ad G 40 0)] σ (pI fun r τ => τ = σ ∧ r = sumP (σ 40 4) (σ 40 4 0)) := by
  refine mt_intro (by decide +kernel) (Nat.le_of_ble_eq_true rfl) (fun Φ M => ?_)
  show Φ 0 [some (.ref (ad G 40 0)), none, none] [] σ
  have lp : ∀ i : Int32, 0 ≤ i → ∀ a : Int32, i ≤ σ 40 4 0 → a = sumP (σ 40 4) i → Φ 4 [some (.ref (ad G 40 0)), some (.int a), some (.int i)] [] σ := by
    refine loop_up (σ 40 4 0) (fun i hi ih a hle ea => ?_)
    refine j_iload_n M dX7_allPages_4 rfl ?_
    refine j_aload_n M dX7_allPages_5 rfl ?_
    refine gf_X7_19 M dX7_allPages_6 ?_
    refine j_iconst (v := 0) M dX7_allPages_9 rfl ?_
    refine al_40_4 M dX7_allPages_10 (by first | assumption | decide) (by first | assumption | decide) ?_
    refine j_icmp_ge (tgt := 32) M dX7_allPages_11 (by decide) (fun h_11 => ?_) (fun h_11 => ?_)
    · refine j_iload_n M dX7_allPages_32 rfl ?_
      exact j_iret M dX7_allPages_33 ⟨_, rfl, by have e : i = σ 40 4 0 := Int32.le_antisymm hle (Int32.not_lt.mp h_11); rw [← e]; exact ⟨rfl, ea⟩⟩
    · obtain ⟨⟨⟨_, _⟩, ⟨_, _⟩⟩, ⟨_, _⟩⟩ := ixS hi (Int32.lt_of_lt_of_le h_11 hW.2.1)
      refine j_iload_n M dX7_allPages_14 rfl ?_
      refine j_aload_n M dX7_allPages_15 rfl ?_
      refine gf_X7_19 M dX7_allPages_16 ?_
      refine j_bipush (v := 8) M dX7_allPages_19 rfl ?_
      refine j_iload_n M dX7_allPages_21 rfl ?_
      refine j_iadd M dX7_allPages_22 ?_
      refine al_40_4 M dX7_allPages_23 (by first | assumption | decide) (by first | assumption | decide) ?_
      refine j_iadd M dX7_allPages_24 ?_
      refine j_istore_1 M dX7_allPages_25 (by exact (by first | trivial | rfl)) ?_
      refine j_iinc_2 M dX7_allPages_26 (show _ + Int32.ofInt 1 = _ + 1 from rfl) (by exact (by first | trivial | rfl)) ?_
      refine j_goto (tgt := 4) M dX7_allPages_29 (by decide) ?_
      exact ih h_11 _ (inc_lt hi h_11).2.1 (by unfold sumP at ea ⊢; rw [foldI_s _ _ hi h_11, ← ea])
  refine j_iconst (v := 0) M dX7_allPages_0 rfl ?_
  refine j_istore_1 M dX7_allPages_1 (by exact (by first | trivial | rfl)) ?_
  refine j_iconst (v := 0) M dX7_allPages_2 rfl ?_
  refine j_istore_2 M dX7_allPages_3 (by exact (by first | trivial | rfl)) ?_
  exact lp 0 (by decide) _ hW.1 rfl
set_option maxRecDepth 100000 in
theorem c_X7_emptySet {l : Launch} {G : Gw} {σ : Sg}   (hW : WF0 (σ 40 4)) : Mt l G yX7_emptySet cX7_emptySet 3 (some .int) 0 0 [.ref (ad G 40 0)] σ (pI fun r τ => τ = σ ∧ r = emptyM (σ 40 4) (σ 40 4 0)) := by
  refine mt_intro (by decide +kernel) (Nat.le_of_ble_eq_true rfl) (fun Φ M => ?_)
  show Φ 0 [some (.ref (ad G 40 0)), none, none] [] σ
  have lp : ∀ i : Int32, 0 ≤ i → ∀ a : Int32, i ≤ σ 40 4 0 → a = emptyM (σ 40 4) i → Φ 4 [some (.ref (ad G 40 0)), some (.int a), some (.int i)] [] σ := by
    refine loop_up (σ 40 4 0) (fun i hi ih a hle ea => ?_)
    refine j_iload_n M dX7_emptySet_4 rfl ?_
    refine j_aload_n M dX7_emptySet_5 rfl ?_
    refine gf_X7_19 M dX7_emptySet_6 ?_
    refine j_iconst (v := 0) M dX7_emptySet_9 rfl ?_
    refine al_40_4 M dX7_emptySet_10 (by first | assumption | decide) (by first | assumption | decide) ?_
    refine j_icmp_ge (tgt := 42) M dX7_emptySet_11 (by decide) (fun h_11 => ?_) (fun h_11 => ?_)
    · refine j_iload_n M dX7_emptySet_42 rfl ?_
      exact j_iret M dX7_emptySet_43 ⟨_, rfl, by have e : i = σ 40 4 0 := Int32.le_antisymm hle (Int32.not_lt.mp h_11); rw [← e]; exact ⟨rfl, ea⟩⟩
    · obtain ⟨⟨⟨_, _⟩, ⟨_, _⟩⟩, ⟨_, _⟩⟩ := ixS hi (Int32.lt_of_lt_of_le h_11 hW.2.1)
      refine j_iload_n M dX7_emptySet_14 rfl ?_
      refine j_aload_n M dX7_emptySet_15 rfl ?_
      refine gf_X7_19 M dX7_emptySet_16 ?_
      refine j_bipush (v := 8) M dX7_emptySet_19 rfl ?_
      refine j_iload_n M dX7_emptySet_21 rfl ?_
      refine j_iadd M dX7_emptySet_22 ?_
      refine al_40_4 M dX7_emptySet_23 (by first | assumption | decide) (by first | assumption | decide) ?_
      refine j_if_ne (tgt := 33) M dX7_emptySet_24 (by decide) (fun h_24 => ?_) (fun h_24 => ?_)
      · refine j_iconst (v := 0) M dX7_emptySet_33 rfl ?_
        refine j_ior M dX7_emptySet_34 ?_
        refine j_istore_1 M dX7_emptySet_35 (by exact (by first | trivial | rfl)) ?_
        refine j_iinc_2 M dX7_emptySet_36 (show _ + Int32.ofInt 1 = _ + 1 from rfl) (by exact (by first | trivial | rfl)) ?_
        refine j_goto (tgt := 4) M dX7_emptySet_39 (by decide) ?_
        exact ih h_11 _ (inc_lt hi h_11).2.1 (by unfold emptyM at ea ⊢; rw [foldI_s _ _ hi h_11, ← ea]; simp [h_11, h_24])
      · refine j_iconst (v := 1) M dX7_emptySet_27 rfl ?_
        refine j_iload_n M dX7_emptySet_28 rfl ?_
        refine j_ishl M dX7_emptySet_29 ?_
        refine j_goto (tgt := 34) M dX7_emptySet_30 (by decide) ?_
        refine j_ior M dX7_emptySet_34 ?_
        refine j_istore_1 M dX7_emptySet_35 (by exact (by first | trivial | rfl)) ?_
        refine j_iinc_2 M dX7_emptySet_36 (show _ + Int32.ofInt 1 = _ + 1 from rfl) (by exact (by first | trivial | rfl)) ?_
        refine j_goto (tgt := 4) M dX7_emptySet_39 (by decide) ?_
        exact ih h_11 _ (inc_lt hi h_11).2.1 (by unfold emptyM at ea ⊢; rw [foldI_s _ _ hi h_11, ← ea]; simp [h_11, h_24])
  refine j_iconst (v := 0) M dX7_emptySet_0 rfl ?_
  refine j_istore_1 M dX7_emptySet_1 (by exact (by first | trivial | rfl)) ?_
  refine j_iconst (v := 0) M dX7_emptySet_2 rfl ?_
  refine j_istore_2 M dX7_emptySet_3 (by exact (by first | trivial | rfl)) ?_
  exact lp 0 (by decide) _ hW.1 rfl
set_option maxRecDepth 100000 in
theorem c_X7_pagesOf {l : Launch} {G : Gw} {σ : Sg} {m : Int32}  (hW : WF0 (σ 40 4)) : Mt l G yX7_pagesOf cX7_pagesOf 4 (some .int) 1 21 [.ref (ad G 40 0), .int m] σ (pI fun r τ => τ = σ ∧ r = sumSet (σ 40 4) m (σ 40 4 0)) := by
  refine mt_intro (by decide +kernel) (Nat.le_of_ble_eq_true rfl) (fun Φ M => ?_)
  show Φ 0 [some (.ref (ad G 40 0)), some (.int m), none, none] [] σ
  have lp : ∀ i : Int32, 0 ≤ i → ∀ a : Int32, i ≤ σ 40 4 0 → a = sumSet (σ 40 4) m i → Φ 4 [some (.ref (ad G 40 0)), some (.int m), some (.int a), some (.int i)] [] σ := by
    refine loop_up (σ 40 4 0) (fun i hi ih a hle ea => ?_)
    refine j_iload_n M dX7_pagesOf_4 rfl ?_
    refine j_aload_n M dX7_pagesOf_5 rfl ?_
    refine gf_X7_19 M dX7_pagesOf_6 ?_
    refine j_iconst (v := 0) M dX7_pagesOf_9 rfl ?_
    refine al_40_4 M dX7_pagesOf_10 (by first | assumption | decide) (by first | assumption | decide) ?_
    refine j_icmp_ge (tgt := 44) M dX7_pagesOf_11 (by decide) (fun h_11 => ?_) (fun h_11 => ?_)
    · refine j_iload_n M dX7_pagesOf_44 rfl ?_
      exact j_iret M dX7_pagesOf_45 ⟨_, rfl, by have e : i = σ 40 4 0 := Int32.le_antisymm hle (Int32.not_lt.mp h_11); rw [← e]; exact ⟨rfl, ea⟩⟩
    · obtain ⟨⟨⟨_, _⟩, ⟨_, _⟩⟩, ⟨_, _⟩⟩ := ixS hi (Int32.lt_of_lt_of_le h_11 hW.2.1)
      refine j_iload_n M dX7_pagesOf_14 rfl ?_
      refine j_iload_n M dX7_pagesOf_15 rfl ?_
      refine j_iload_n M dX7_pagesOf_16 rfl ?_
      refine j_invs2 M lk_X7_154 (c_X7_has) dX7_pagesOf_17 (Nat.le_of_ble_eq_true rfl) ⟨(Nat.le_of_ble_eq_true rfl), (Nat.le_of_ble_eq_true rfl)⟩ (kE ?_)
      refine j_if_eq (tgt := 35) M dX7_pagesOf_20 (by decide) (fun h_20 => ?_) (fun h_20 => ?_)
      · refine j_iconst (v := 0) M dX7_pagesOf_35 rfl ?_
        refine j_iadd M dX7_pagesOf_36 ?_
        refine j_istore_2 M dX7_pagesOf_37 (by exact (by first | trivial | rfl)) ?_
        refine j_iinc_3 M dX7_pagesOf_38 (show _ + Int32.ofInt 1 = _ + 1 from rfl) (by exact (by first | trivial | rfl)) ?_
        refine j_goto (tgt := 4) M dX7_pagesOf_41 (by decide) ?_
        exact ih h_11 _ (inc_lt hi h_11).2.1 (by unfold sumSet at ea ⊢; rw [foldI_s _ _ hi h_11, ← ea]; simp [bt1, h_11, h_20])
      · refine j_aload_n M dX7_pagesOf_23 rfl ?_
        refine gf_X7_19 M dX7_pagesOf_24 ?_
        refine j_bipush (v := 8) M dX7_pagesOf_27 rfl ?_
        refine j_iload_n M dX7_pagesOf_29 rfl ?_
        refine j_iadd M dX7_pagesOf_30 ?_
        refine al_40_4 M dX7_pagesOf_31 (by first | assumption | decide) (by first | assumption | decide) ?_
        refine j_goto (tgt := 36) M dX7_pagesOf_32 (by decide) ?_
        refine j_iadd M dX7_pagesOf_36 ?_
        refine j_istore_2 M dX7_pagesOf_37 (by exact (by first | trivial | rfl)) ?_
        refine j_iinc_3 M dX7_pagesOf_38 (show _ + Int32.ofInt 1 = _ + 1 from rfl) (by exact (by first | trivial | rfl)) ?_
        refine j_goto (tgt := 4) M dX7_pagesOf_41 (by decide) ?_
        exact ih h_11 _ (inc_lt hi h_11).2.1 (by unfold sumSet at ea ⊢; rw [foldI_s _ _ hi h_11, ← ea]; simp [bt1, h_11, h_20])
  refine j_iconst (v := 0) M dX7_pagesOf_0 rfl ?_
  refine j_istore_2 M dX7_pagesOf_1 (by exact (by first | trivial | rfl)) ?_
  refine j_iconst (v := 0) M dX7_pagesOf_2 rfl ?_
  refine j_istore_3 M dX7_pagesOf_3 (by exact (by first | trivial | rfl)) ?_
  exact lp 0 (by decide) _ hW.1 rfl
set_option maxRecDepth 100000 in
theorem c_X7_fishAt {l : Launch} {G : Gw} {σ : Sg} {v : Int32}  (hW : WF0 (σ 40 4)) : Mt l G yX7_fishAt cX7_fishAt 4 (some .int) 2 42 [.ref (ad G 40 0), .int v] σ (pI fun r τ => τ = σ ∧ r = fishAtM (σ 40 4) v (σ 40 4 1)) := by
  refine mt_intro (by decide +kernel) (Nat.le_of_ble_eq_true rfl) (fun Φ M => ?_)
  show Φ 0 [some (.ref (ad G 40 0)), some (.int v), none, none] [] σ
  have lp : ∀ i : Int32, 0 ≤ i → ∀ a : Int32, i ≤ σ 40 4 1 → a = fishAtM (σ 40 4) v i → Φ 4 [some (.ref (ad G 40 0)), some (.int v), some (.int a), some (.int i)] [] σ := by
    refine loop_up (σ 40 4 1) (fun i hi ih a hle ea => ?_)
    refine j_iload_n M dX7_fishAt_4 rfl ?_
    refine j_aload_n M dX7_fishAt_5 rfl ?_
    refine gf_X7_19 M dX7_fishAt_6 ?_
    refine j_iconst (v := 1) M dX7_fishAt_9 rfl ?_
    refine al_40_4 M dX7_fishAt_10 (by first | assumption | decide) (by first | assumption | decide) ?_
    refine j_icmp_ge (tgt := 51) M dX7_fishAt_11 (by decide) (fun h_11 => ?_) (fun h_11 => ?_)
    · refine j_iload_n M dX7_fishAt_51 rfl ?_
      exact j_iret M dX7_fishAt_52 ⟨_, rfl, by have e : i = σ 40 4 1 := Int32.le_antisymm hle (Int32.not_lt.mp h_11); rw [← e]; exact ⟨rfl, ea⟩⟩
    · obtain ⟨⟨⟨_, _⟩, ⟨_, _⟩⟩, ⟨_, _⟩⟩ := ixT hi (Int32.lt_of_lt_of_le h_11 hW.2.2.2)
      refine j_iload_n M dX7_fishAt_14 rfl ?_
      refine j_aload_n M dX7_fishAt_15 rfl ?_
      refine j_iload_n M dX7_fishAt_16 rfl ?_
      refine j_inv1 M lk_X7_171 (c_X7_isCaught) rv_X7 dX7_fishAt_17 (Nat.le_of_ble_eq_true rfl) ⟨(Nat.le_of_ble_eq_true rfl), (Nat.le_of_ble_eq_true rfl)⟩ (kE ?_)
      refine j_if_ne (tgt := 42) M dX7_fishAt_20 (by decide) (fun h_20 => ?_) (fun h_20 => ?_)
      · refine j_iconst (v := 0) M dX7_fishAt_42 rfl ?_
        refine j_ior M dX7_fishAt_43 ?_
        refine j_istore_2 M dX7_fishAt_44 (by exact (by first | trivial | rfl)) ?_
        refine j_iinc_3 M dX7_fishAt_45 (show _ + Int32.ofInt 1 = _ + 1 from rfl) (by exact (by first | trivial | rfl)) ?_
        refine j_goto (tgt := 4) M dX7_fishAt_48 (by decide) ?_
        exact ih h_11 _ (inc_lt hi h_11).2.1 (by unfold fishAtM at ea ⊢; rw [foldI_s _ _ hi h_11, ← ea]; simp [h_11, h_20])
      · refine j_aload_n M dX7_fishAt_23 rfl ?_
        refine gf_X7_19 M dX7_fishAt_24 ?_
        refine j_bipush (v := 31) M dX7_fishAt_27 rfl ?_
        refine j_iload_n M dX7_fishAt_29 rfl ?_
        refine j_iadd M dX7_fishAt_30 ?_
        refine al_40_4 M dX7_fishAt_31 (by first | assumption | decide) (by first | assumption | decide) ?_
        refine j_iload_n M dX7_fishAt_32 rfl ?_
        refine j_icmp_ne (tgt := 42) M dX7_fishAt_33 (by decide) (fun h_33 => ?_) (fun h_33 => ?_)
        · refine j_iconst (v := 0) M dX7_fishAt_42 rfl ?_
          refine j_ior M dX7_fishAt_43 ?_
          refine j_istore_2 M dX7_fishAt_44 (by exact (by first | trivial | rfl)) ?_
          refine j_iinc_3 M dX7_fishAt_45 (show _ + Int32.ofInt 1 = _ + 1 from rfl) (by exact (by first | trivial | rfl)) ?_
          refine j_goto (tgt := 4) M dX7_fishAt_48 (by decide) ?_
          exact ih h_11 _ (inc_lt hi h_11).2.1 (by unfold fishAtM at ea ⊢; rw [foldI_s _ _ hi h_11, ← ea]; simp [h_11, h_20, h_33])
        · refine j_iconst (v := 1) M dX7_fishAt_36 rfl ?_
          refine j_iload_n M dX7_fishAt_37 rfl ?_
          refine j_ishl M dX7_fishAt_38 ?_
          refine j_goto (tgt := 43) M dX7_fishAt_39 (by decide) ?_
          refine j_ior M dX7_fishAt_43 ?_
          refine j_istore_2 M dX7_fishAt_44 (by exact (by first | trivial | rfl)) ?_
          refine j_iinc_3 M dX7_fishAt_45 (show _ + Int32.ofInt 1 = _ + 1 from rfl) (by exact (by first | trivial | rfl)) ?_
          refine j_goto (tgt := 4) M dX7_fishAt_48 (by decide) ?_
          exact ih h_11 _ (inc_lt hi h_11).2.1 (by unfold fishAtM at ea ⊢; rw [foldI_s _ _ hi h_11, ← ea]; simp [h_11, h_20, h_33])
  refine j_iconst (v := 0) M dX7_fishAt_0 rfl ?_
  refine j_istore_2 M dX7_fishAt_1 (by exact (by first | trivial | rfl)) ?_
  refine j_iconst (v := 0) M dX7_fishAt_2 rfl ?_
  refine j_istore_3 M dX7_fishAt_3 (by exact (by first | trivial | rfl)) ?_
  exact lp 0 (by decide) _ hW.2.2.1 rfl
