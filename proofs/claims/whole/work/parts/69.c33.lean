theorem le_m1F : ∀ a i : Fin 65, (nI a.val - 1 < nI i.val ↔ ¬ nI i.val < nI a.val) := by decide +kernel
theorem le_m1 {a i : Int32} (h : 0 ≤ a ∧ a ≤ 64) (i0 : 0 ≤ i) (i1 : i ≤ a) : a - 1 < i ↔ ¬ i < a := by
  obtain ⟨x, hx, rfl⟩ := nI_of (Int32.not_lt.mpr h.1)
  obtain ⟨y, hy, rfl⟩ := nI_of (Int32.not_lt.mpr i0)
  have a1 := (nI_leI (b := 64) hx (by decide)).mp h.2
  have b1 := (nI_leI hy hx).mp i1
  exact le_m1F ⟨x, by omega⟩ ⟨y, by omega⟩
set_option maxRecDepth 100000 in
theorem c_X2_bestLamps {l : Launch} {G : Gw} {σ : Sg} {d : Nat} (hd : isLib d) {b : Int32} {n : Int32} {s : St} (hL : LibF (σ d) s) (hW : WF s) (hd10 : d ≠ 10) (hn : 0 ≤ n) (b0 : 0 ≤ b) (b1 : b < s 0) : Mt l G yX2_bestLamps cX2_bestLamps 9 (some .int) 6 140 [.ref (ad G 5 0), .ref (ad G d 0), .int b, .int n] σ (pI fun r τ => r = (lampP s b n (shl32 1 (s 0))).1 ∧ frm σ τ 10 [0, 1, 2, 3, 4, 5, 6, 7, 8]) := by
  refine mt_intro (by decide +kernel) (Nat.le_of_ble_eq_true rfl) (fun Φ M => ?_)
  show Φ 0 [some (.ref (ad G 5 0)), some (.ref (ad G d 0)), some (.int b), some (.int n), none, none, none, none, none] [] σ
  have pw := pow6 (le0_of hW.1.1.1) hW.1.1.2
  have lp : ∀ i : Int32, 0 ≤ i → ∀ (τ : Sg) (p q : Int32), i ≤ shl32 1 (s 0) → (p, q) = lampP s b n i → frm σ τ 10 [0, 1, 2, 3, 4, 5, 6, 7, 8] → Φ 9 [some (.ref (ad G 5 0)), some (.ref (ad G d 0)), some (.int b), some (.int n), some (.int p), some (.int q), some (.int i), none, none] [] τ := by
    refine loop_up (shl32 1 (s 0)) (fun i hi ih τ p q hle hp hfr => ?_)
    have eL : LibF (τ d) s := by rw [show τ d = σ d from funext (fun k => hfr d k (fun e => hd10 e.1))]; exact hL
    have pr := lamp_rng s b n hi hle pw.2
    rw [← hp] at pr
    have c1 : shl32 1 (τ d 0 0) - 1 < i ↔ ¬ i < shl32 1 (s 0) := by rw [eL.1.1]; exact le_m1 pw hi hle
    refine j_iload M dX2_bestLamps_9 rfl ?_
    refine j_aload_n M dX2_bestLamps_11 rfl ?_
    refine j_inv0 M lk_X2_78 (c_X3_allBooks hd) (rv_X3 hd) dX2_bestLamps_12 (Nat.le_of_ble_eq_true rfl) ⟨(Nat.le_of_ble_eq_true rfl), (Nat.le_of_ble_eq_true rfl)⟩ (kE ?_)
    refine j_icmp_gt (tgt := 97) M dX2_bestLamps_15 (by decide) (fun h_15 => ?_) (fun h_15 => ?_)
    · refine j_iload M dX2_bestLamps_97 rfl ?_
      exact j_iret M dX2_bestLamps_99 ⟨_, rfl, by (try dsimp only); have e : i = shl32 1 (s 0) := Int32.le_antisymm hle (Int32.not_lt.mp (c1.mp h_15)); subst_vars; exact ⟨by rw [← hp], hfr⟩⟩
    · have hlt : i < shl32 1 (s 0) := by
        by_cases q : i < shl32 1 (s 0)
        · exact q
        · exact absurd (c1.mpr q) h_15
      have i64 := Int32.lt_of_lt_of_le hlt pw.2
      refine j_iload M dX2_bestLamps_18 rfl ?_
      refine j_invs1 M lk_X2_81 (c_J6_bitCount_0f7a4 (hi) (i64)) dX2_bestLamps_20 (Nat.le_of_ble_eq_true rfl) ⟨(Nat.le_of_ble_eq_true rfl), (Nat.le_of_ble_eq_true rfl)⟩ (kE ?_)
      refine j_aload_n M dX2_bestLamps_23 rfl ?_
      refine gf_X2_86 M hd dX2_bestLamps_24 ?_
      refine j_icmp_le (tgt := 33) M dX2_bestLamps_27 (by decide) (fun h_27 => ?_) (fun h_27 => ?_)
      · refine j_aload_n M dX2_bestLamps_33 rfl ?_
        refine j_aload_n M dX2_bestLamps_34 rfl ?_
        refine j_iload M dX2_bestLamps_35 rfl ?_
        refine j_iload_n M dX2_bestLamps_37 rfl ?_
        refine j_iload_n M dX2_bestLamps_38 rfl ?_
        refine j_inv4 M lk_X2_89 (c_X2_pagesIfLit hd (eL) (hW) (hd10) (hn) (hi) (i64) (b0) (b1)) rv_X2 dX2_bestLamps_39 (Nat.le_of_ble_eq_true rfl) ⟨(Nat.le_of_ble_eq_true rfl), (Nat.le_of_ble_eq_true rfl)⟩ (kI fun r_39 σ_39 q_39 => ?_)
        obtain ⟨g1, g2⟩ := q_39
        have f2 := frm_trans hfr g2
        refine j_istore_7 M dX2_bestLamps_42 (by exact (by first | trivial | rfl)) ?_
        refine j_iload M dX2_bestLamps_44 rfl ?_
        refine j_invs1 M lk_X2_81 (c_J6_bitCount_0f7a4 (hi) (i64)) dX2_bestLamps_46 (Nat.le_of_ble_eq_true rfl) ⟨(Nat.le_of_ble_eq_true rfl), (Nat.le_of_ble_eq_true rfl)⟩ (kE ?_)
        refine j_iload M dX2_bestLamps_49 rfl ?_
        refine j_invs1 M lk_X2_81 (c_J6_bitCount_0f7a4 (pr.1) (pr.2)) dX2_bestLamps_51 (Nat.le_of_ble_eq_true rfl) ⟨(Nat.le_of_ble_eq_true rfl), (Nat.le_of_ble_eq_true rfl)⟩ (kE ?_)
        refine j_icmp_ge (tgt := 61) M dX2_bestLamps_54 (by decide) (fun h_54 => ?_) (fun h_54 => ?_)
        · refine j_iconst (v := 0) M dX2_bestLamps_61 rfl ?_
          refine j_istore_8 M dX2_bestLamps_62 (by exact (by first | trivial | rfl)) ?_
          refine j_iload M dX2_bestLamps_64 rfl ?_
          refine j_iload M dX2_bestLamps_66 rfl ?_
          refine j_icmp_gt (tgt := 83) M dX2_bestLamps_68 (by decide) (fun h_68 => ?_) (fun h_68 => ?_)
          · refine j_iload M dX2_bestLamps_83 rfl ?_
            refine j_istore_5 M dX2_bestLamps_85 (by exact (by first | trivial | rfl)) ?_
            refine j_iload M dX2_bestLamps_87 rfl ?_
            refine j_istore_4 M dX2_bestLamps_89 (by exact (by first | trivial | rfl)) ?_
            refine j_iinc_6 M dX2_bestLamps_91 (show _ + Int32.ofInt 1 = _ + 1 from rfl) (by exact (by first | trivial | rfl)) ?_
            refine j_goto (tgt := 9) M dX2_bestLamps_94 (by decide) ?_
            refine j_forget M (L' := [some (.ref (ad G 5 0)), some (.ref (ad G d 0)), some (.int _), some (.int _), some (.int _), some (.int _), some (.int _), none, none]) (by repeat' (first | exact True.intro | refine ⟨rfl, ?_⟩)) ?_
            rw [eL.1.2.2.2.1] at h_27
            rw [g1] at h_68
            exact ih hlt _ _ _ (inc_lt hi hlt).2.1 (by unfold lampP; rw [foldI_s _ _ hi hlt]; unfold lampP at hp; rw [← hp]; unfold lampF; rw [if_neg h_27]; simp [h_15, h_27, h_54, h_68, g1]) f2
          · refine j_iload M dX2_bestLamps_71 rfl ?_
            refine j_iload M dX2_bestLamps_73 rfl ?_
            refine j_icmp_ne (tgt := 91) M dX2_bestLamps_75 (by decide) (fun h_75 => ?_) (fun h_75 => ?_)
            · refine j_iinc_6 M dX2_bestLamps_91 (show _ + Int32.ofInt 1 = _ + 1 from rfl) (by exact (by first | trivial | rfl)) ?_
              refine j_goto (tgt := 9) M dX2_bestLamps_94 (by decide) ?_
              refine j_forget M (L' := [some (.ref (ad G 5 0)), some (.ref (ad G d 0)), some (.int _), some (.int _), some (.int _), some (.int _), some (.int _), none, none]) (by repeat' (first | exact True.intro | refine ⟨rfl, ?_⟩)) ?_
              rw [eL.1.2.2.2.1] at h_27
              rw [g1] at h_68 h_75
              exact ih hlt _ _ _ (inc_lt hi hlt).2.1 (by unfold lampP; rw [foldI_s _ _ hi hlt]; unfold lampP at hp; rw [← hp]; unfold lampF; rw [if_neg h_27]; simp [h_15, h_27, h_54, h_68, h_75, g1]) f2
            · refine j_iload M dX2_bestLamps_78 rfl ?_
              refine j_if_eq (tgt := 91) M dX2_bestLamps_80 (by decide) (fun h_80 => ?_) (fun h_80 => ?_)
              · refine j_iinc_6 M dX2_bestLamps_91 (show _ + Int32.ofInt 1 = _ + 1 from rfl) (by exact (by first | trivial | rfl)) ?_
                refine j_goto (tgt := 9) M dX2_bestLamps_94 (by decide) ?_
                refine j_forget M (L' := [some (.ref (ad G 5 0)), some (.ref (ad G d 0)), some (.int _), some (.int _), some (.int _), some (.int _), some (.int _), none, none]) (by repeat' (first | exact True.intro | refine ⟨rfl, ?_⟩)) ?_
                rw [eL.1.2.2.2.1] at h_27
                rw [g1] at h_68 h_75
                exact ih hlt _ _ _ (inc_lt hi hlt).2.1 (by unfold lampP; rw [foldI_s _ _ hi hlt]; unfold lampP at hp; rw [← hp]; unfold lampF; rw [if_neg h_27]; simp [h_15, h_27, h_54, h_68, h_75, h_80, g1]) f2
              · refine j_iload M dX2_bestLamps_83 rfl ?_
                refine j_istore_5 M dX2_bestLamps_85 (by exact (by first | trivial | rfl)) ?_
                refine j_iload M dX2_bestLamps_87 rfl ?_
                refine j_istore_4 M dX2_bestLamps_89 (by exact (by first | trivial | rfl)) ?_
                refine j_iinc_6 M dX2_bestLamps_91 (show _ + Int32.ofInt 1 = _ + 1 from rfl) (by exact (by first | trivial | rfl)) ?_
                refine j_goto (tgt := 9) M dX2_bestLamps_94 (by decide) ?_
                exact absurd rfl h_80
        · refine j_iconst (v := 1) M dX2_bestLamps_57 rfl ?_
          refine j_goto (tgt := 62) M dX2_bestLamps_58 (by decide) ?_
          refine j_istore_8 M dX2_bestLamps_62 (by exact (by first | trivial | rfl)) ?_
          refine j_iload M dX2_bestLamps_64 rfl ?_
          refine j_iload M dX2_bestLamps_66 rfl ?_
          refine j_icmp_gt (tgt := 83) M dX2_bestLamps_68 (by decide) (fun h_68 => ?_) (fun h_68 => ?_)
          · refine j_iload M dX2_bestLamps_83 rfl ?_
            refine j_istore_5 M dX2_bestLamps_85 (by exact (by first | trivial | rfl)) ?_
            refine j_iload M dX2_bestLamps_87 rfl ?_
            refine j_istore_4 M dX2_bestLamps_89 (by exact (by first | trivial | rfl)) ?_
            refine j_iinc_6 M dX2_bestLamps_91 (show _ + Int32.ofInt 1 = _ + 1 from rfl) (by exact (by first | trivial | rfl)) ?_
            refine j_goto (tgt := 9) M dX2_bestLamps_94 (by decide) ?_
            refine j_forget M (L' := [some (.ref (ad G 5 0)), some (.ref (ad G d 0)), some (.int _), some (.int _), some (.int _), some (.int _), some (.int _), none, none]) (by repeat' (first | exact True.intro | refine ⟨rfl, ?_⟩)) ?_
            rw [eL.1.2.2.2.1] at h_27
            rw [g1] at h_68
            exact ih hlt _ _ _ (inc_lt hi hlt).2.1 (by unfold lampP; rw [foldI_s _ _ hi hlt]; unfold lampP at hp; rw [← hp]; unfold lampF; rw [if_neg h_27]; simp [h_15, h_27, h_54, h_68, g1]) f2
          · refine j_iload M dX2_bestLamps_71 rfl ?_
            refine j_iload M dX2_bestLamps_73 rfl ?_
            refine j_icmp_ne (tgt := 91) M dX2_bestLamps_75 (by decide) (fun h_75 => ?_) (fun h_75 => ?_)
            · refine j_iinc_6 M dX2_bestLamps_91 (show _ + Int32.ofInt 1 = _ + 1 from rfl) (by exact (by first | trivial | rfl)) ?_
              refine j_goto (tgt := 9) M dX2_bestLamps_94 (by decide) ?_
              refine j_forget M (L' := [some (.ref (ad G 5 0)), some (.ref (ad G d 0)), some (.int _), some (.int _), some (.int _), some (.int _), some (.int _), none, none]) (by repeat' (first | exact True.intro | refine ⟨rfl, ?_⟩)) ?_
              rw [eL.1.2.2.2.1] at h_27
              rw [g1] at h_68 h_75
              exact ih hlt _ _ _ (inc_lt hi hlt).2.1 (by unfold lampP; rw [foldI_s _ _ hi hlt]; unfold lampP at hp; rw [← hp]; unfold lampF; rw [if_neg h_27]; simp [h_15, h_27, h_54, h_68, h_75, g1]) f2
            · refine j_iload M dX2_bestLamps_78 rfl ?_
              refine j_if_eq (tgt := 91) M dX2_bestLamps_80 (by decide) (fun h_80 => ?_) (fun h_80 => ?_)
              · refine j_iinc_6 M dX2_bestLamps_91 (show _ + Int32.ofInt 1 = _ + 1 from rfl) (by exact (by first | trivial | rfl)) ?_
                refine j_goto (tgt := 9) M dX2_bestLamps_94 (by decide) ?_
                exact absurd h_80 (by decide)
              · refine j_iload M dX2_bestLamps_83 rfl ?_
                refine j_istore_5 M dX2_bestLamps_85 (by exact (by first | trivial | rfl)) ?_
                refine j_iload M dX2_bestLamps_87 rfl ?_
                refine j_istore_4 M dX2_bestLamps_89 (by exact (by first | trivial | rfl)) ?_
                refine j_iinc_6 M dX2_bestLamps_91 (show _ + Int32.ofInt 1 = _ + 1 from rfl) (by exact (by first | trivial | rfl)) ?_
                refine j_goto (tgt := 9) M dX2_bestLamps_94 (by decide) ?_
                refine j_forget M (L' := [some (.ref (ad G 5 0)), some (.ref (ad G d 0)), some (.int _), some (.int _), some (.int _), some (.int _), some (.int _), none, none]) (by repeat' (first | exact True.intro | refine ⟨rfl, ?_⟩)) ?_
                rw [eL.1.2.2.2.1] at h_27
                rw [g1] at h_68 h_75
                exact ih hlt _ _ _ (inc_lt hi hlt).2.1 (by unfold lampP; rw [foldI_s _ _ hi hlt]; unfold lampP at hp; rw [← hp]; unfold lampF; rw [if_neg h_27]; simp [h_15, h_27, h_54, h_68, h_75, h_80, g1]) f2
      · refine j_goto (tgt := 91) M dX2_bestLamps_30 (by decide) ?_
        refine j_iinc_6 M dX2_bestLamps_91 (show _ + Int32.ofInt 1 = _ + 1 from rfl) (by exact (by first | trivial | rfl)) ?_
        refine j_goto (tgt := 9) M dX2_bestLamps_94 (by decide) ?_
        refine j_forget M (L' := [some (.ref (ad G 5 0)), some (.ref (ad G d 0)), some (.int _), some (.int _), some (.int _), some (.int _), some (.int _), none, none]) (by repeat' (first | exact True.intro | refine ⟨rfl, ?_⟩)) ?_
        rw [eL.1.2.2.2.1] at h_27
        exact ih hlt τ _ _ (inc_lt hi hlt).2.1 (by unfold lampP; rw [foldI_s _ _ hi hlt]; unfold lampP at hp; rw [← hp]; unfold lampF; rw [if_pos h_27]) hfr
  refine j_iconst (v := 0) M dX2_bestLamps_0 rfl ?_
  refine j_istore_4 M dX2_bestLamps_1 (by exact (by first | trivial | rfl)) ?_
  refine j_iconst (v := (-1)) M dX2_bestLamps_3 rfl ?_
  refine j_istore_5 M dX2_bestLamps_4 (by exact (by first | trivial | rfl)) ?_
  refine j_iconst (v := 0) M dX2_bestLamps_6 rfl ?_
  refine j_istore_6 M dX2_bestLamps_7 (by exact (by first | trivial | rfl)) ?_
  exact lp 0 (by decide) _ _ _ pw.1 rfl (frm_refl _ _ _)
