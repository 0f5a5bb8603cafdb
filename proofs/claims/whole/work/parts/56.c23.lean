def libQ (σ τ : Sg) (N : Nat) (r : Int32) (R : PR) : Prop := (R.1 = false → r = -1000100 - nI R.2.1 ∧ (∀ i : Int32, (i < 8 ∨ 14 < i) → τ 40 0 i = σ 40 0 i) ∧ τ 40 0 8 = 0 ∧ τ 40 0 9 = R.2.2.1 ∧ frm σ τ 40 [0, 7]) ∧ (R.1 = true → r = R.2.2.2 1 ∧ τ 40 4 = R.2.2.2 ∧ τ 40 0 4 = 1 ∧ τ 40 0 8 = 0 ∧ τ 40 0 18 = 0 ∧ (∀ i : Int32, (i < 10 ∨ 14 < i) → ¬ i = 4 → ¬ i = 8 → ¬ i = 18 → τ 40 0 i = σ 40 0 i) ∧ frm σ τ 40 [0, 4, 7])
theorem lib_t {σ υ : Sg} {N : Nat} {R : PR} (h : resP σ υ N 1 R) (ho : R.1 = true) : libQ σ (up (up (up (up υ 40 0 (upI (υ 40 0) 8 0)) 40 4 (υ 40 7)) 40 0 (upI ((up (up υ 40 0 (upI (υ 40 0) 8 0)) 40 4 (υ 40 7)) 40 0) 4 1)) 40 0 (upI ((up (up (up υ 40 0 (upI (υ 40 0) 8 0)) 40 4 (υ 40 7)) 40 0 (upI ((up (up υ 40 0 (upI (υ 40 0) 8 0)) 40 4 (υ 40 7)) 40 0) 4 1)) 40 0) 18 0)) N ((up (up (up (up υ 40 0 (upI (υ 40 0) 8 0)) 40 4 (υ 40 7)) 40 0 (upI ((up (up υ 40 0 (upI (υ 40 0) 8 0)) 40 4 (υ 40 7)) 40 0) 4 1)) 40 0 (upI ((up (up (up υ 40 0 (upI (υ 40 0) 8 0)) 40 4 (υ 40 7)) 40 0 (upI ((up (up υ 40 0 (upI (υ 40 0) 8 0)) 40 4 (υ 40 7)) 40 0) 4 1)) 40 0) 18 0)) 40 4 1) R := by
  obtain ⟨h1, h2, h3, h4, h5, h6⟩ := h
  refine ⟨fun e => absurd (e.symm.trans ho) (by simp), fun _ => ⟨?_, ?_, ?_, ?_, ?_, ?_, ?_⟩⟩
  · simp [up, h4]
  · simp [up, h4]
  · simp [up, upI]
  · simp [up, upI]
  · simp [up, upI]
  · intro i hi a b c
    simp [up, upI, a, b, c]
    exact h5 i hi
  · exact frm_up (frm_up (frm_up (frm_up (frm_mono h6 (by decide)) (by decide)) (by decide)) (by decide)) (by decide)
theorem lib_f {σ υ : Sg} {N : Nat} {R : PR} (h : resP σ υ N 0 R ∧ R.1 = false) : libQ σ (up (up υ 40 0 (upI (υ 40 0) 8 0)) 40 0 (upI ((up υ 40 0 (upI (υ 40 0) 8 0)) 40 0) 9 ((up υ 40 0 (upI (υ 40 0) 8 0)) 40 0 14))) N (-1000100 - (up (up υ 40 0 (upI (υ 40 0) 8 0)) 40 0 (upI ((up υ 40 0 (upI (υ 40 0) 8 0)) 40 0) 9 ((up υ 40 0 (upI (υ 40 0) 8 0)) 40 0 14))) 40 0 13) R := by
  obtain ⟨⟨h1, h2, h3, h4, h5, h6⟩, ho⟩ := h
  have q := h3 ho
  refine ⟨fun _ => ⟨?_, ?_, ?_, ?_, ?_⟩, fun e => absurd (e.symm.trans ho) (by simp)⟩
  · simp [up, upI, q.1]
  · intro i hi
    have a : ¬ i = 8 := fun e => by subst e; revert hi; decide
    have b : ¬ i = 9 := fun e => by subst e; revert hi; decide
    simp [up, upI, a, b]
    exact h5 i (hi.imp (fun q => Int32.lt_trans q (by decide)) id)
  · simp [up, upI]
  · simp [up, upI, q.2]
  · exact frm_up (frm_up h6 (by decide)) (by decide)
set_option maxRecDepth 100000 in
theorem c_X7_library {l : Launch} {G : Gw} {σ : Sg}  {N : Nat} (hN : N ≤ 120) (h8 : σ 40 0 8 = nI N) : Mt l G yX7_library cX7_library 3 (some .int) 6 134 [.ref (ad G 40 0)] σ (pI fun r τ => libQ σ τ N r (libP (σ 40 6) N)) := by
  refine mt_intro (by decide +kernel) (Nat.le_of_ble_eq_true rfl) (fun Φ M => ?_)
  show Φ 0 [some (.ref (ad G 40 0)), none, none] [] σ
  have l56 : ∀ (υ : Sg), resP σ υ N 1 (libP (σ 40 6) N) → Φ 56 [some (.ref (ad G 40 0)), none, none] [] (up (up υ 40 0 (upI (υ 40 0) 8 0)) 40 4 (υ 40 7)) := by
    intro υ hq
    have hok : (libP (σ 40 6) N).1 = true := (res_1 hq (by decide)).2
    refine j_aload_n M dX7_library_56 rfl ?_
    refine j_iconst (v := 1) M dX7_library_57 rfl ?_
    refine pf_X7_147 M rfl rfl dX7_library_58 ?_
    refine j_aload_n M dX7_library_61 rfl ?_
    refine j_iconst (v := 0) M dX7_library_62 rfl ?_
    refine pf_X7_151 M dX7_library_63 ?_
    refine j_aload_n M dX7_library_66 rfl ?_
    refine gf_X7_19 M dX7_library_67 ?_
    refine j_iconst (v := 1) M dX7_library_70 rfl ?_
    refine al_40_4 M dX7_library_71 (by first | assumption | decide) (by first | assumption | decide) ?_
    exact j_iret M dX7_library_72 ⟨_, rfl, by (try dsimp only); exact lib_t hq hok⟩
  have lp : ∀ (υ : Sg), resP σ υ N 1 (libP (σ 40 6) N) → ∀ i : Int32, 0 ≤ i → ∀ τ : Sg, i ≤ 41 → (∀ j, 0 ≤ j → j < i → τ 40 4 j = υ 40 7 j) → frm (up υ 40 0 (upI (υ 40 0) 8 0)) τ 40 [4] → Φ 32 [some (.ref (ad G 40 0)), some (.int 1), some (.int i)] [] τ := by
    intro υ hq
    refine loop_up 41 (fun i hi ih τ hle hc hfr => ?_)
    have e7 : τ 40 7 = υ 40 7 := (hfr 40 7 (by decide)).trans (up_ne _ _ (by decide))
    refine j_iload_n M dX7_library_32 rfl ?_
    refine j_bipush (v := 41) M dX7_library_33 rfl ?_
    refine j_icmp_ge (tgt := 56) M dX7_library_35 (by decide) (fun h_35 => ?_) (fun h_35 => ?_)
    · refine j_extA M (c := 40) (k := 4) (n := 41) (n' := 41) (f := υ 40 7) (fun _ => rfl) rfl (by decide) (fun j j0 j1 => (hc j j0 (Int32.lt_of_lt_of_le j1 (Int32.not_lt.mp h_35))).symm) ?_
      refine j_forget M (L' := [some (.ref (ad G 40 0)), none, none]) (by repeat' (first | exact True.intro | refine ⟨rfl, ?_⟩)) ?_
      rw [frm_1 hfr]
      exact l56 υ hq
    · have hb := h_35
      refine j_aload_n M dX7_library_38 rfl ?_
      refine gf_X7_19 M dX7_library_39 ?_
      refine j_iload_n M dX7_library_42 rfl ?_
      refine j_aload_n M dX7_library_43 rfl ?_
      refine gf_X7_28 M dX7_library_44 ?_
      refine j_iload_n M dX7_library_47 rfl ?_
      refine al_40_7 M dX7_library_48 (by first | assumption | decide) (by first | assumption | decide) ?_
      refine as_40_4 M dX7_library_49 (by first | assumption | decide) (by first | assumption | decide) ?_
      refine j_iinc_2 M dX7_library_50 (show _ + Int32.ofInt 1 = _ + 1 from rfl) (by exact (by first | trivial | rfl)) ?_
      refine j_goto (tgt := 32) M dX7_library_53 (by decide) ?_
      refine ih hb _ (inc_lt hi hb).2.1 ?_ (frm_up hfr (by decide))
      intro j j0 j1
      rw [up_same, e7]
      by_cases e : j = i
      · rw [e, upI_same]
      · rw [upI_ne _ _ e]; exact hc j j0 (lt_of_inc hi hb j1 e)
  refine j_aload_n M dX7_library_0 rfl ?_
  refine j_inv0 M lk_X7_140 (c_X7_readLibrary (hN) (h8)) rv_X7 dX7_library_1 (Nat.le_of_ble_eq_true rfl) ⟨(Nat.le_of_ble_eq_true rfl), (Nat.le_of_ble_eq_true rfl)⟩ (kI fun r_1 σ_1 q_1 => ?_)
  refine j_istore_1 M dX7_library_4 (by exact (by first | trivial | rfl)) ?_
  refine j_aload_n M dX7_library_5 rfl ?_
  refine j_iconst (v := 0) M dX7_library_6 rfl ?_
  refine pf_X7_87 M dX7_library_7 ?_
  refine j_iload_n M dX7_library_10 rfl ?_
  refine j_if_ne (tgt := 30) M dX7_library_11 (by decide) (fun h_11 => ?_) (fun h_11 => ?_)
  · refine j_iconst (v := 0) M dX7_library_30 rfl ?_
    refine j_istore_2 M dX7_library_31 (by exact (by first | trivial | rfl)) ?_
    have o := res_1 q_1 h_11
    have e1 : r_1 = 1 := (res_01 q_1).resolve_left h_11
    rw [e1]
    exact lp σ_1 o.1 0 (by decide) _ (by decide) (fun j j0 j1 => absurd (Int32.lt_of_le_of_lt j0 j1) (by decide)) (frm_refl _ _ _)
  · refine j_aload_n M dX7_library_14 rfl ?_
    refine j_aload_n M dX7_library_15 rfl ?_
    refine gf_X7_111 M dX7_library_16 ?_
    refine pf_X7_143 M dX7_library_19 ?_
    refine j_ldc M k_X7_146 dX7_library_22 ?_
    refine j_aload_n M dX7_library_24 rfl ?_
    refine gf_X7_94 M dX7_library_25 ?_
    refine j_isub M dX7_library_28 ?_
    exact j_iret M dX7_library_29 ⟨_, rfl, by (try dsimp only); exact lib_f (res_0 q_1 h_11)⟩
