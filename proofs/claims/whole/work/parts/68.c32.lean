set_option maxRecDepth 100000 in
theorem c_X2_swap {l : Launch} {G : Gw} {σ : Sg} {i : Int32} {j : Int32}  (hi0 : 0 ≤ i) (hi6 : i < 6) (hj0 : 0 ≤ j) (hj6 : j < 6) : Mt l G yX2_swap cX2_swap 4 none 0 0 [.ref (ad G 5 0), .int i, .int j] σ (pV fun τ => τ = up σ 5 1 (upI (upI (σ 5 1) i (σ 5 1 j)) j (σ 5 1 i))) := by
  refine mt_intro (by decide +kernel) (Nat.le_of_ble_eq_true rfl) (fun Φ M => ?_)
  show Φ 0 [some (.ref (ad G 5 0)), some (.int i), some (.int j), none] [] σ
  refine j_aload_n M dX2_swap_0 rfl ?_
  refine gf_X2_18 M dX2_swap_1 ?_
  refine j_iload_n M dX2_swap_4 rfl ?_
  refine al_5_1 M dX2_swap_5 (by first | assumption | decide) (by first | assumption | decide) ?_
  refine j_istore_3 M dX2_swap_6 (by exact (by first | trivial | rfl)) ?_
  refine j_aload_n M dX2_swap_7 rfl ?_
  refine gf_X2_18 M dX2_swap_8 ?_
  refine j_iload_n M dX2_swap_11 rfl ?_
  refine j_aload_n M dX2_swap_12 rfl ?_
  refine gf_X2_18 M dX2_swap_13 ?_
  refine j_iload_n M dX2_swap_16 rfl ?_
  refine al_5_1 M dX2_swap_17 (by first | assumption | decide) (by first | assumption | decide) ?_
  refine as_5_1 M dX2_swap_18 (by first | assumption | decide) (by first | assumption | decide) ?_
  refine j_aload_n M dX2_swap_19 rfl ?_
  refine gf_X2_18 M dX2_swap_20 ?_
  refine j_iload_n M dX2_swap_23 rfl ?_
  refine j_iload_n M dX2_swap_24 rfl ?_
  refine as_5_1 M dX2_swap_25 (by first | assumption | decide) (by first | assumption | decide) ?_
  exact j_vret M dX2_swap_26 ⟨rfl, by rw [up_up, up_same]⟩
set_option maxRecDepth 100000 in
theorem c_X2_nextOrder {l : Launch} {G : Gw} {σ : Sg} {n : Int32} {v : List Nat} (hl : isL (σ 5 1) v) (hn : n = nI v.length) (h1 : 1 ≤ v.length) (h6 : v.length ≤ 6) (hg : ∀ i, i < v.length → gt v i < 6) : Mt l G yX2_nextOrder cX2_nextOrder 6 (some .boolean) 1 23 [.ref (ad G 5 0), .int n] σ (pI fun r τ => (nxl v = none → r = 0 ∧ τ = σ) ∧ (∀ l2, nxl v = some l2 → r = 1 ∧ isL (τ 5 1) l2 ∧ frm σ τ 5 [1])) := by
  refine mt_intro (by decide +kernel) (Nat.le_of_ble_eq_true rfl) (fun Φ M => ?_)
  show Φ 0 [some (.ref (ad G 5 0)), some (.int n), none, none, none, none] [] σ
  subst hn
  have en : nI v.length - 1 = nI (v.length - 1) := by (obtain ⟨k, hk⟩ : ∃ k, v.length = k + 1 := ⟨v.length - 1, by omega⟩); rw [hk]; exact nI_pred k
  have bd : ∀ k, k < v.length → 0 ≤ nI k ∧ nI k < 6 := fun k hk => ⟨nI_pos' (by omega), (nI_ltI (b := 6) (by omega) (by decide)).mpr (by omega)⟩
  have lp3 : ∀ (p j : Nat) (RES : List Nat), nxl v = some RES → ∀ (f lo hi : Nat) (m : List Nat) (τ : Sg), rv f lo hi m = RES → hi < lo + f → lo ≤ v.length → hi < v.length → 1 ≤ lo → m.length = v.length → isL (τ 5 1) m → frm σ τ 5 [1] → Φ 83 [some (.ref (ad G 5 0)), some (.int (nI v.length)), some (.int (nI p)), some (.int (nI j)), some (.int (nI lo)), some (.int (nI hi))] [] τ := by
    intro p j RES hR f
    induction f with
    | zero =>
      intro lo hi m τ hm hf hlo hhi h1 hlen hL hfr
      refine j_iload M dX2_nextOrder_83 rfl ?_
      refine j_iload M dX2_nextOrder_85 rfl ?_
      refine j_icmp_ge (tgt := 107) M dX2_nextOrder_87 (by decide) (fun h_87 => ?_) (fun h_87 => ?_)
      · refine j_iconst (v := 1) M dX2_nextOrder_107 rfl ?_
        exact j_zret M dX2_nextOrder_108 (by first | exact Or.inl rfl | exact Or.inr rfl | exact bitv_01 _ _ | assumption | (exact res_01 (by assumption)) | grind) ⟨_, rfl, by (try dsimp only); exact ⟨fun e => absurd (e.symm.trans hR) (by simp), fun l2 e => ⟨rfl, by rw [← Option.some.inj (hR.symm.trans e), ← hm]; exact hL, hfr⟩⟩⟩
      · exact absurd ((nI_ltI (by omega) (by omega)).mp h_87) (by omega)
    | succ f ih =>
      intro lo hi m τ hm hf hlo hhi h1 hlen hL hfr
      unfold rv at hm
      refine j_iload M dX2_nextOrder_83 rfl ?_
      refine j_iload M dX2_nextOrder_85 rfl ?_
      refine j_icmp_ge (tgt := 107) M dX2_nextOrder_87 (by decide) (fun h_87 => ?_) (fun h_87 => ?_)
      · have hlt : ¬ lo < hi := fun q => h_87 ((nI_ltI (by omega) (by omega)).mpr q)
        rw [if_neg hlt] at hm
        refine j_iconst (v := 1) M dX2_nextOrder_107 rfl ?_
        exact j_zret M dX2_nextOrder_108 (by first | exact Or.inl rfl | exact Or.inr rfl | exact bitv_01 _ _ | assumption | (exact res_01 (by assumption)) | grind) ⟨_, rfl, by (try dsimp only); exact ⟨fun e => absurd (e.symm.trans hR) (by simp), fun l2 e => ⟨rfl, by rw [← Option.some.inj (hR.symm.trans e), ← hm]; exact hL, hfr⟩⟩⟩
      · have hlt := (nI_ltI (by omega) (by omega)).mp h_87
        rw [if_pos hlt] at hm
        refine j_aload_n M dX2_nextOrder_90 rfl ?_
        refine j_iload M dX2_nextOrder_91 rfl ?_
        refine j_iload M dX2_nextOrder_93 rfl ?_
        refine j_inv2 M lk_X2_69 (c_X2_swap ((bd lo (by omega)).1) ((bd lo (by omega)).2) ((bd hi hhi).1) ((bd hi hhi).2)) rv_X2 dX2_nextOrder_95 (Nat.le_of_ble_eq_true rfl) ⟨(Nat.le_of_ble_eq_true rfl), (Nat.le_of_ble_eq_true rfl)⟩ (kV fun σ_95 q_95 => ?_)
        subst q_95
        refine j_iinc_4 M dX2_nextOrder_98 (show _ + Int32.ofInt 1 = _ + 1 from rfl) (by exact (by first | trivial | rfl)) ?_
        refine j_iinc_5 M dX2_nextOrder_101 (show _ + Int32.ofInt (-1) = _ + (-1) from rfl) (by exact (by first | trivial | rfl)) ?_
        refine j_goto (tgt := 83) M dX2_nextOrder_104 (by decide) ?_
        have q := ih (lo + 1) (hi - 1) _ _ hm (by omega) (by omega) (by omega) (by omega) (by rw [len_swp]; exact hlen) (by rw [up_same]; exact isL_swp hL (by omega) (by omega) (by omega)) (frm_up hfr (by decide))
        have eh : nI (hi - 1) = nI hi + (-1) := by (obtain ⟨k, rfl⟩ : ∃ k, hi = k + 1 := ⟨hi - 1, by omega⟩); rw [← dec_eq]; exact (nI_pred k).symm
        rw [nI_succ, eh] at q
        exact q
  have lp2 : ∀ p, p + 1 < v.length → fi v (v.length - 1) = p + 1 → ∀ j, p < j → j < v.length → fj v p j = fj v p (v.length - 1) → Φ 41 [some (.ref (ad G 5 0)), some (.int (nI v.length)), some (.int (nI p)), some (.int (nI j)), none, none] [] σ := by
    intro p hp hfi j
    have hR : nxl v = some (rv v.length (p + 1) (v.length - 1) (swp v p (fj v p (v.length - 1)))) := by unfold nxl; rw [hfi]
    have np := fi_spec v _ hfi
    induction j with
    | zero => intro h0 _ _; exact absurd h0 (by omega)
    | succ j ih =>
      intro hpj hj hfj
      have c1 : σ 5 1 (nI (j + 1)) < σ 5 1 (nI p) ↔ gt v (j + 1) < gt v p := by rw [hl _ hj, hl p (by omega)]; exact nI_ltI (by have := hg _ hj; omega) (by have := hg p (by omega); omega)
      refine j_iload_n M dX2_nextOrder_41 rfl ?_
      refine j_iload_n M dX2_nextOrder_42 rfl ?_
      refine j_icmp_le (tgt := 67) M dX2_nextOrder_43 (by decide) (fun h_43 => ?_) (fun h_43 => ?_)
      · exact absurd ((nI_ltI (a := p) (b := j + 1) (by omega) (by omega)).mpr hpj) h_43
      · refine j_aload_n M dX2_nextOrder_46 rfl ?_
        refine gf_X2_18 M dX2_nextOrder_47 ?_
        refine j_iload_n M dX2_nextOrder_50 rfl ?_
        refine al_5_1 M dX2_nextOrder_51 (by first | assumption | decide | exact (bd _ hj).1 | exact (bd _ hj).2 | exact (bd p (by omega)).1 | exact (bd p (by omega)).2) (by first | assumption | decide | exact (bd _ hj).1 | exact (bd _ hj).2 | exact (bd p (by omega)).1 | exact (bd p (by omega)).2) ?_
        refine j_aload_n M dX2_nextOrder_52 rfl ?_
        refine gf_X2_18 M dX2_nextOrder_53 ?_
        refine j_iload_n M dX2_nextOrder_56 rfl ?_
        refine al_5_1 M dX2_nextOrder_57 (by first | assumption | decide | exact (bd _ hj).1 | exact (bd _ hj).2 | exact (bd p (by omega)).1 | exact (bd p (by omega)).2) (by first | assumption | decide | exact (bd _ hj).1 | exact (bd _ hj).2 | exact (bd p (by omega)).1 | exact (bd p (by omega)).2) ?_
        refine j_icmp_ge (tgt := 67) M dX2_nextOrder_58 (by decide) (fun h_58 => ?_) (fun h_58 => ?_)
        · have hc : ¬ gt v (j + 1) < gt v p := fun q => h_58 (c1.mpr q)
          have hs : fj v p (j + 1) = (if gt v (j + 1) < gt v p then fj v p j else j + 1) := rfl
          rw [hs, if_neg hc] at hfj
          refine j_aload_n M dX2_nextOrder_67 rfl ?_
          refine j_iload_n M dX2_nextOrder_68 rfl ?_
          refine j_iload_n M dX2_nextOrder_69 rfl ?_
          refine j_inv2 M lk_X2_69 (c_X2_swap ((bd p (by omega)).1) ((bd p (by omega)).2) ((bd _ hj).1) ((bd _ hj).2)) rv_X2 dX2_nextOrder_70 (Nat.le_of_ble_eq_true rfl) ⟨(Nat.le_of_ble_eq_true rfl), (Nat.le_of_ble_eq_true rfl)⟩ (kV fun σ_70 q_70 => ?_)
          subst q_70
          refine j_iload_n M dX2_nextOrder_73 rfl ?_
          refine j_iconst (v := 1) M dX2_nextOrder_74 rfl ?_
          refine j_iadd M dX2_nextOrder_75 ?_
          refine j_istore_4 M dX2_nextOrder_76 (by exact (by first | trivial | rfl)) ?_
          refine j_iload_n M dX2_nextOrder_78 rfl ?_
          refine j_iconst (v := 1) M dX2_nextOrder_79 rfl ?_
          refine j_isub M dX2_nextOrder_80 ?_
          refine j_istore_5 M dX2_nextOrder_81 (by exact (by first | trivial | rfl)) ?_
          have q := lp3 p (j + 1) _ hR v.length (p + 1) (v.length - 1) (swp v p (fj v p (v.length - 1))) (up σ 5 1 (upI (upI (σ 5 1) (nI p) (σ 5 1 (nI (j + 1)))) (nI (j + 1)) (σ 5 1 (nI p)))) rfl (by omega) (by omega) (by omega) (by omega) (len_swp _ _ _) (by rw [up_same, ← hfj]; exact isL_swp hl (by omega) (by omega) hj) (frm_up (frm_refl _ _ _) (by decide))
          rw [nI_succ p, ← en] at q
          exact q
        · have hc : gt v (j + 1) < gt v p := c1.mp h_58
          have hs : fj v p (j + 1) = (if gt v (j + 1) < gt v p then fj v p j else j + 1) := rfl
          rw [hs, if_pos hc] at hfj
          have hne : p ≠ j := fun e => np (by rw [e]; rw [e] at hc; exact hc)
          refine j_iinc_3 M dX2_nextOrder_61 (show _ + Int32.ofInt (-1) = _ + (-1) from rfl) (by exact (by first | trivial | rfl)) ?_
          refine j_goto (tgt := 41) M dX2_nextOrder_64 (by decide) ?_
          have q := ih (by omega) (by omega) hfj
          have ej : nI j = nI (j + 1) + (-1) := by rw [← dec_eq]; exact (nI_pred j).symm
          rw [ej] at q
          exact q
  have lp1 : ∀ m, m < v.length → fi v m = fi v (v.length - 1) → Φ 4 [some (.ref (ad G 5 0)), some (.int (nI v.length)), some (.int (nI m - 1)), none, none, none] [] σ := by
    intro m
    induction m with
    | zero =>
      intro hm hf
      have z : nI 0 - 1 < 0 := by decide
      refine j_iload_n M dX2_nextOrder_4 rfl ?_
      refine j_if_lt (tgt := 31) M dX2_nextOrder_5 (by decide) (fun h_5 => ?_) (fun h_5 => ?_)
      · refine j_iload_n M dX2_nextOrder_31 rfl ?_
        refine j_if_ge (tgt := 37) M dX2_nextOrder_32 (by decide) (fun h_32 => ?_) (fun h_32 => ?_)
        · exact absurd z h_32
        · refine j_iconst (v := 0) M dX2_nextOrder_35 rfl ?_
          exact j_zret M dX2_nextOrder_36 (by first | exact Or.inl rfl | exact Or.inr rfl | exact bitv_01 _ _ | assumption | (exact res_01 (by assumption)) | grind) ⟨_, rfl, by (try dsimp only); have e : nxl v = none := (by unfold nxl; rw [← hf]; simp only [fi]); exact ⟨fun _ => ⟨rfl, rfl⟩, fun l2 e2 => absurd (e.symm.trans e2) (by simp)⟩⟩
      · exact absurd z h_5
    | succ m ih =>
      intro hm hf
      rw [nI_pred]
      have bs : 0 ≤ nI m + 1 ∧ nI m + 1 < 6 := by rw [← nI_succ]; exact bd _ hm
      have z : ¬ nI m < 0 := nI_pos (by omega)
      have c1 : σ 5 1 (nI m + 1) < σ 5 1 (nI m) ↔ gt v (m + 1) < gt v m := by rw [← nI_succ, hl _ hm, hl m (by omega)]; exact nI_ltI (by have := hg _ hm; omega) (by have := hg m (by omega); omega)
      refine j_iload_n M dX2_nextOrder_4 rfl ?_
      refine j_if_lt (tgt := 31) M dX2_nextOrder_5 (by decide) (fun h_5 => ?_) (fun h_5 => ?_)
      · exact absurd h_5 z
      · refine j_aload_n M dX2_nextOrder_8 rfl ?_
        refine gf_X2_18 M dX2_nextOrder_9 ?_
        refine j_iload_n M dX2_nextOrder_12 rfl ?_
        refine al_5_1 M dX2_nextOrder_13 (by first | assumption | decide | exact (bd m (by omega)).1 | exact (bd m (by omega)).2 | exact bs.1 | exact bs.2) (by first | assumption | decide | exact (bd m (by omega)).1 | exact (bd m (by omega)).2 | exact bs.1 | exact bs.2) ?_
        refine j_aload_n M dX2_nextOrder_14 rfl ?_
        refine gf_X2_18 M dX2_nextOrder_15 ?_
        refine j_iload_n M dX2_nextOrder_18 rfl ?_
        refine j_iconst (v := 1) M dX2_nextOrder_19 rfl ?_
        refine j_iadd M dX2_nextOrder_20 ?_
        refine al_5_1 M dX2_nextOrder_21 (by first | assumption | decide | exact (bd m (by omega)).1 | exact (bd m (by omega)).2 | exact bs.1 | exact bs.2) (by first | assumption | decide | exact (bd m (by omega)).1 | exact (bd m (by omega)).2 | exact bs.1 | exact bs.2) ?_
        refine j_icmp_le (tgt := 31) M dX2_nextOrder_22 (by decide) (fun h_22 => ?_) (fun h_22 => ?_)
        · have hc : ¬ gt v (m + 1) < gt v m := fun q => h_22 (c1.mpr q)
          have hs : fi v (m + 1) = (if gt v (m + 1) < gt v m then fi v m else m + 1) := rfl
          rw [hs, if_neg hc] at hf
          refine j_iload_n M dX2_nextOrder_31 rfl ?_
          refine j_if_ge (tgt := 37) M dX2_nextOrder_32 (by decide) (fun h_32 => ?_) (fun h_32 => ?_)
          · refine j_iload_n M dX2_nextOrder_37 rfl ?_
            refine j_iconst (v := 1) M dX2_nextOrder_38 rfl ?_
            refine j_isub M dX2_nextOrder_39 ?_
            refine j_istore_3 M dX2_nextOrder_40 (by exact (by first | trivial | rfl)) ?_
            have q := lp2 m hm hf.symm (v.length - 1) (by omega) (by omega) rfl
            rw [← en] at q
            exact q
          · exact absurd h_32 z
        · have hc : gt v (m + 1) < gt v m := c1.mp h_22
          have hs : fi v (m + 1) = (if gt v (m + 1) < gt v m then fi v m else m + 1) := rfl
          rw [hs, if_pos hc] at hf
          refine j_iinc_2 M dX2_nextOrder_25 (show _ + Int32.ofInt (-1) = _ + (-1) from rfl) (by exact (by first | trivial | rfl)) ?_
          refine j_goto (tgt := 4) M dX2_nextOrder_28 (by decide) ?_
          have q := ih (by omega) hf
          rw [dec_eq] at q
          exact q
  refine j_iload_n M dX2_nextOrder_0 rfl ?_
  refine j_iconst (v := 2) M dX2_nextOrder_1 rfl ?_
  refine j_isub M dX2_nextOrder_2 ?_
  refine j_istore_2 M dX2_nextOrder_3 (by exact (by first | trivial | rfl)) ?_
  have q := lp1 (v.length - 1) (by omega) rfl
  have e2 : nI (v.length - 1) - 1 = nI v.length - 2 := by rw [← en]; exact sub_12 _
  rw [e2] at q
  exact q
