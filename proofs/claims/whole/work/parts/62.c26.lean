def HolF (F h : St) : Prop := ∀ g, 0 ≤ g → g < 5 → F g = h g
theorem tow_eq {q p : Int32} {n : Int32} (h : q = -1000000 ∨ (0 ≤ q ∧ q < n)) : (if q = -1000000 ∨ q = p then p else if p < q then p + 1 else p - 1) = if q < 0 ∨ q = p then p else if p < q then p + 1 else p - 1 := by
  have e : q = -1000000 ↔ q < 0 := by
    constructor
    · intro e; rw [e]; decide
    · intro e
      rcases h with h | h
      · exact h
      · exact absurd (Int32.lt_of_le_of_lt h.1 e) (by decide)
  simp only [e]
theorem LibF_8 {F : Nat → St} {s g : St} (h : LibF F s) : LibF (setF F 8 g) s := h
theorem eat_fin {σ : Sg} {c : Nat} {s h : St} {f : Int32} (hL : LibF (σ c) s) (hW : WF0 s) (hH : HolF (σ c 8) h) (bk : 0 ≤ bkAt s (s (31 + f)) ∧ bkAt s (s (31 + f)) < s 0 ∧ s (20 + bkAt s (s (31 + f))) = s (31 + f)) (f0 : 0 ≤ f) (f1 : f < s 1) (f5 : f < 5) (h0 : 0 < muchE s f) : 
  LibF ((up (up (up σ c 1 (upI (σ c 1) (bkAt s (s (31 + f))) (s (8 + bkAt s (s (31 + f))) - muchE s f))) c 7 (upI ((up σ c 1 (upI (σ c 1) (bkAt s (s (31 + f))) (s (8 + bkAt s (s (31 + f))) - muchE s f))) c 7) f (if 999 < s (36 + f) + muchE s f then 999 else s (36 + f) + muchE s f))) c 8 (upI ((up (up σ c 1 (upI (σ c 1) (bkAt s (s (31 + f))) (s (8 + bkAt s (s (31 + f))) - muchE s f))) c 7 (upI ((up σ c 1 (upI (σ c 1) (bkAt s (s (31 + f))) (s (8 + bkAt s (s (31 + f))) - muchE s f))) c 7) f (if 999 < s (36 + f) + muchE s f then 999 else s (36 + f) + muchE s f))) c 8) f (σ c 8 f ||| shl32 1 (bkAt s (s (31 + f)))))) c) (eatsS s f)
  ∧ HolF ((up (up (up σ c 1 (upI (σ c 1) (bkAt s (s (31 + f))) (s (8 + bkAt s (s (31 + f))) - muchE s f))) c 7 (upI ((up σ c 1 (upI (σ c 1) (bkAt s (s (31 + f))) (s (8 + bkAt s (s (31 + f))) - muchE s f))) c 7) f (if 999 < s (36 + f) + muchE s f then 999 else s (36 + f) + muchE s f))) c 8 (upI ((up (up σ c 1 (upI (σ c 1) (bkAt s (s (31 + f))) (s (8 + bkAt s (s (31 + f))) - muchE s f))) c 7 (upI ((up σ c 1 (upI (σ c 1) (bkAt s (s (31 + f))) (s (8 + bkAt s (s (31 + f))) - muchE s f))) c 7) f (if 999 < s (36 + f) + muchE s f then 999 else s (36 + f) + muchE s f))) c 8) f (σ c 8 f ||| shl32 1 (bkAt s (s (31 + f)))))) c 8) (eatsH s h f)
  ∧ frm σ (up (up (up σ c 1 (upI (σ c 1) (bkAt s (s (31 + f))) (s (8 + bkAt s (s (31 + f))) - muchE s f))) c 7 (upI ((up σ c 1 (upI (σ c 1) (bkAt s (s (31 + f))) (s (8 + bkAt s (s (31 + f))) - muchE s f))) c 7) f (if 999 < s (36 + f) + muchE s f then 999 else s (36 + f) + muchE s f))) c 8 (upI ((up (up σ c 1 (upI (σ c 1) (bkAt s (s (31 + f))) (s (8 + bkAt s (s (31 + f))) - muchE s f))) c 7 (upI ((up σ c 1 (upI (σ c 1) (bkAt s (s (31 + f))) (s (8 + bkAt s (s (31 + f))) - muchE s f))) c 7) f (if 999 < s (36 + f) + muchE s f then 999 else s (36 + f) + muchE s f))) c 8) f (σ c 8 f ||| shl32 1 (bkAt s (s (31 + f)))))) c [1, 7, 8] := by
  have w2 : WF0 (upI s (nI 8 + bkAt s (s (31 + f))) (s (8 + bkAt s (s (31 + f))) - muchE s f)) := by
    have b6 : bkAt s (s (31 + f)) < 6 := Int32.lt_of_lt_of_le bk.2.1 hW.2.1
    have e0 : upI s (nI 8 + bkAt s (s (31 + f))) (s (8 + bkAt s (s (31 + f))) - muchE s f) 0 = s 0 := upI_ne _ _ (ix_c 8 6 0 bk.1 b6).symm
    have e1 : upI s (nI 8 + bkAt s (s (31 + f))) (s (8 + bkAt s (s (31 + f))) - muchE s f) 1 = s 1 := upI_ne _ _ (ix_c 8 6 1 bk.1 b6).symm
    unfold WF0
    rw [e0, e1]
    exact hW
  have f1' : f < upI s (nI 8 + bkAt s (s (31 + f))) (s (8 + bkAt s (s (31 + f))) - muchE s f) 1 := by
    rw [show upI s (nI 8 + bkAt s (s (31 + f))) (s (8 + bkAt s (s (31 + f))) - muchE s f) 1 = s 1 from upI_ne _ _ (ix_c 8 6 1 bk.1 (Int32.lt_of_lt_of_le bk.2.1 hW.2.1)).symm]
    exact f1
  refine ⟨?_, ?_, ?_⟩
  · rw [up_at, up_at, up_at]
    exact LibF_8 (LibF_f (A := 36) (k := 7) (LibF_b (A := 8) (k := 1) hL hW (by omega) bk.1 bk.2.1) w2 (by omega) f0 f1')
  · rw [up_at, up_at, up_at]
    intro g g0 g5
    rw [setF_same, setF_ne _ _ (by decide), setF_ne _ _ (by decide)]
    unfold eatsH
    rw [if_pos h0, hH f f0 f5]
    by_cases e : g = f
    · rw [e, upI_same, upI_same]
    · rw [upI_ne _ _ e, upI_ne _ _ e]
      exact hH g g0 g5
  · exact frm_up (frm_up (frm_up (frm_refl _ _ _) (by simp)) (by simp)) (by simp)
theorem inc9 {x : Int32} (h : x ≤ 9) : x < 9 ↔ ¬ 9 < x + 1 := by
  by_cases e : x = 9
  · subst e; decide
  · have : x < 9 := by grind
    constructor
    · intro _ q; grind
    · intro _; exact this
theorem damp_fin {F : Nat → St} {z : St} {i : Int32} (h : LibF F z) (hW : WF0 z) (i0 : 0 ≤ i) (i1 : i < z 0) (hb : bitv (z 6) i = 0) (h9 : z (14 + i) ≤ 9) : LibF (setF F 2 (upI (F 2) i (if 9 < z (14 + i) + 1 then 9 else z (14 + i) + 1))) (pasteF i z) := by
  by_cases e : z (14 + i) < 9
  · have p : pasteF i z = upI z (14 + i) (z (14 + i) + 1) := if_pos ⟨hb, e⟩
    rw [p, if_neg ((inc9 h9).mp e)]
    exact LibF_b (A := 14) (k := 2) h hW (by omega) i0 i1
  · have e9 : z (14 + i) = 9 := Int32.le_antisymm h9 (Int32.not_lt.mp e)
    have p : pasteF i z = z := if_neg (fun q => e q.2)
    rw [p, if_pos (show (9 : Int32) < z (14 + i) + 1 by rw [e9]; decide)]
    have q := LibF_b (A := 14) (k := 2) (v := 9) h hW (by omega) i0 i1
    rw [show (nI 14 : Int32) + i = 14 + i from rfl, ← e9, upI_self, e9] at q
    exact q
set_option maxRecDepth 100000 in
theorem c_X3_nextPlace {l : Launch} {G : Gw} {σ : Sg} {c : Nat} (hc : isLib c) {f : Int32} {s : St} (hL : LibF (σ c) s) (hW : WF s) (f0 : 0 ≤ f) (f1 : f < s 1) : Mt l G yX3_nextPlace cX3_nextPlace 5 (some .int) 2 49 [.ref (ad G c 0), .int f] σ (pI fun r τ => τ = σ ∧ r = goesTo s f) := by
  refine mt_intro (by decide +kernel) (Nat.le_of_ble_eq_true rfl) (fun Φ M => ?_)
  show Φ 0 [some (.ref (ad G c 0)), some (.int f), none, none, none] [] σ
  have fe := hL.2.2 f f0 f1
  have kr := (hW.2.2.2 f f0 f1).1
  have ar := (hW.2.2.2 f f0 f1).2.1
  have bk := hW.bk f0 f1
  have be := hL.2.1 _ bk.1 bk.2.1
  have f5 := hW.f5 f1
  have b6 := hW.b6 bk.2.1
  have cl : σ c 0 5 ||| σ c 0 6 = s 5 ||| s 6 := by rw [hL.1.2.2.2.2.2.1, hL.1.2.2.2.2.2.2.1]
  have s0 : 0 < s 0 := Int32.lt_of_le_of_lt bk.1 bk.2.1
  have ev : (if 0 ≤ s (31 + f) ∧ s (31 + f) < σ c 0 0 ∧ s (31 + f) < 6 then σ c 4 (s (31 + f)) else -1000000) = bkAt s (s (31 + f)) := by rw [hL.1.1, if_pos ⟨ar.1, ar.2, hW.b6 ar.2⟩]; exact (hL.2.1 _ ar.1 ar.2).2.2.2
  have ib : 0 ≤ bkAt s (s (31 + f)) ∧ bkAt s (s (31 + f)) < σ c 0 0 ∧ bkAt s (s (31 + f)) < 6 := by rw [hL.1.1]; exact ⟨bk.1, bk.2.1, b6⟩
  have lr := liked_rng hW f
  refine j_aload_n M dX3_nextPlace_0 rfl ?_
  refine gf_X3_52 M hc dX3_nextPlace_1 ?_
  refine j_iload_n M dX3_nextPlace_4 rfl ?_
  refine al_L_6 M hc dX3_nextPlace_5 (by first | assumption | decide | exact bk.1) (by first | assumption | decide | exact bk.1) ?_
  rw [fe.2.1]
  refine j_istore_2 M dX3_nextPlace_6 (by exact (by first | trivial | rfl)) ?_
  refine j_aload_n M dX3_nextPlace_7 rfl ?_
  refine j_iload_n M dX3_nextPlace_8 rfl ?_
  refine j_inv1 M lk_X3_99 (c_X3_bookIn hc) (rv_X3 hc) dX3_nextPlace_9 (Nat.le_of_ble_eq_true rfl) ⟨(Nat.le_of_ble_eq_true rfl), (Nat.le_of_ble_eq_true rfl)⟩ (kE ?_)
  rw [ev]
  refine j_istore_3 M dX3_nextPlace_12 (by exact (by first | trivial | rfl)) ?_
  refine j_aload_n M dX3_nextPlace_13 rfl ?_
  refine j_iload_n M dX3_nextPlace_14 rfl ?_
  refine j_inv1 M lk_X3_61 (c_X3_isBook hc) (rv_X3 hc) dX3_nextPlace_15 (Nat.le_of_ble_eq_true rfl) ⟨(Nat.le_of_ble_eq_true rfl), (Nat.le_of_ble_eq_true rfl)⟩ (kP fun r_15 k_15 => ?_)
  refine j_if_ne (tgt := 23) M dX3_nextPlace_18 (by decide) (fun h_18 => ?_) (fun h_18 => ?_)
  · have b_15 := ifT k_15 h_18
    refine j_aload_n M dX3_nextPlace_23 rfl ?_
    refine gf_X3_49 M hc dX3_nextPlace_24 ?_
    refine j_iload_n M dX3_nextPlace_27 rfl ?_
    refine al_L_5 M hc dX3_nextPlace_28 (by first | assumption | decide | exact bk.1) (by first | assumption | decide | exact bk.1) ?_
    rw [fe.1]
    refine j_istore_4 M dX3_nextPlace_29 (by exact (by first | trivial | rfl)) ?_
    refine j_iload M dX3_nextPlace_31 rfl ?_
    refine j_iconst (v := 4) M dX3_nextPlace_33 rfl ?_
    refine j_icmp_ne (tgt := 44) M dX3_nextPlace_34 (by decide) (fun h_34 => ?_) (fun h_34 => ?_)
    · refine j_iload M dX3_nextPlace_44 rfl ?_
      refine j_iconst (v := 5) M dX3_nextPlace_46 rfl ?_
      refine j_icmp_ne (tgt := 78) M dX3_nextPlace_47 (by decide) (fun h_47 => ?_) (fun h_47 => ?_)
      · refine j_iload M dX3_nextPlace_78 rfl ?_
        refine j_iconst (v := 3) M dX3_nextPlace_80 rfl ?_
        refine j_icmp_ne (tgt := 102) M dX3_nextPlace_81 (by decide) (fun h_81 => ?_) (fun h_81 => ?_)
        · have k4 := (k45 kr.1 kr.2).mpr ⟨h_34, h_47⟩
          refine j_iload_n M dX3_nextPlace_102 rfl ?_
          refine j_aload_n M dX3_nextPlace_103 rfl ?_
          refine j_iload_n M dX3_nextPlace_104 rfl ?_
          refine j_inv1 M lk_X3_114 (c_X3_likedPlace hc (hL) (hW) (f0) (f1)) (rv_X3 hc) dX3_nextPlace_105 (Nat.le_of_ble_eq_true rfl) ⟨(Nat.le_of_ble_eq_true rfl), (Nat.le_of_ble_eq_true rfl)⟩ (kE ?_)
          refine j_invs2 M lk_X3_117 (c_X3_towards) dX3_nextPlace_108 (Nat.le_of_ble_eq_true rfl) ⟨(Nat.le_of_ble_eq_true rfl), (Nat.le_of_ble_eq_true rfl)⟩ (kE ?_)
          exact j_iret M dX3_nextPlace_111 ⟨_, rfl, by (try dsimp only); exact ⟨rfl, by rw [tow_eq lr]; unfold goesTo; rw [if_neg (show ¬ (s (26 + f) = 3 ∧ bitv (s 5) (bkAt s (s (31 + f))) = 1) from (fun q => h_81 q.1)), if_pos k4]⟩⟩
        · refine j_aload_n M dX3_nextPlace_84 rfl ?_
          refine gf_X3_27 M hc dX3_nextPlace_85 ?_
          refine j_iload_n M dX3_nextPlace_88 rfl ?_
          refine j_ishr M dX3_nextPlace_89 ?_
          refine j_iconst (v := 1) M dX3_nextPlace_90 rfl ?_
          refine j_iand M dX3_nextPlace_91 ?_
          refine j_if_eq (tgt := 102) M dX3_nextPlace_92 (by decide) (fun h_92 => ?_) (fun h_92 => ?_)
          · have k4 := (k45 kr.1 kr.2).mpr ⟨h_34, h_47⟩
            refine j_iload_n M dX3_nextPlace_102 rfl ?_
            refine j_aload_n M dX3_nextPlace_103 rfl ?_
            refine j_iload_n M dX3_nextPlace_104 rfl ?_
            refine j_inv1 M lk_X3_114 (c_X3_likedPlace hc (hL) (hW) (f0) (f1)) (rv_X3 hc) dX3_nextPlace_105 (Nat.le_of_ble_eq_true rfl) ⟨(Nat.le_of_ble_eq_true rfl), (Nat.le_of_ble_eq_true rfl)⟩ (kE ?_)
            refine j_invs2 M lk_X3_117 (c_X3_towards) dX3_nextPlace_108 (Nat.le_of_ble_eq_true rfl) ⟨(Nat.le_of_ble_eq_true rfl), (Nat.le_of_ble_eq_true rfl)⟩ (kE ?_)
            exact j_iret M dX3_nextPlace_111 ⟨_, rfl, by (try dsimp only); exact ⟨rfl, by rw [tow_eq lr]; unfold goesTo; rw [if_neg (show ¬ (s (26 + f) = 3 ∧ bitv (s 5) (bkAt s (s (31 + f))) = 1) from (fun q => by have h := h_92; rw [hL.1.2.2.2.2.2.1, ← bitv_def] at h; rw [h] at q; exact absurd q.2 (by decide))), if_pos k4]⟩⟩
          · refine j_aload_n M dX3_nextPlace_95 rfl ?_
            refine j_iload_n M dX3_nextPlace_96 rfl ?_
            refine j_iconst (v := 2) M dX3_nextPlace_97 rfl ?_
            refine j_inv2 M lk_X3_111 (c_X3_upFrom hc) (rv_X3 hc) dX3_nextPlace_98 (Nat.le_of_ble_eq_true rfl) ⟨(Nat.le_of_ble_eq_true rfl), (Nat.le_of_ble_eq_true rfl)⟩ (kE ?_)
            rw [hL.1.1, if_pos s0]
            exact j_iret M dX3_nextPlace_101 ⟨_, rfl, by (try dsimp only); exact ⟨rfl, by rw [hL.1.2.2.2.2.2.1, ← bitv_def] at h_92; unfold goesTo; rw [if_pos ⟨h_81, (bt1 _ _).mpr h_92⟩]⟩⟩
      · refine j_aload_n M dX3_nextPlace_50 rfl ?_
        refine gf_X3_36 M hc dX3_nextPlace_51 ?_
        refine j_iload_n M dX3_nextPlace_54 rfl ?_
        refine al_L_1 M hc dX3_nextPlace_55 (by first | assumption | decide | exact bk.1) (by first | assumption | decide | exact bk.1) ?_
        rw [be.1]
        refine j_if_eq (tgt := 67) M dX3_nextPlace_56 (by decide) (fun h_56 => ?_) (fun h_56 => ?_)
        · refine j_aload_n M dX3_nextPlace_67 rfl ?_
          refine j_iload_n M dX3_nextPlace_68 rfl ?_
          refine j_iconst (v := 1) M dX3_nextPlace_69 rfl ?_
          refine j_inv2 M lk_X3_111 (c_X3_upFrom hc) (rv_X3 hc) dX3_nextPlace_70 (Nat.le_of_ble_eq_true rfl) ⟨(Nat.le_of_ble_eq_true rfl), (Nat.le_of_ble_eq_true rfl)⟩ (kE ?_)
          rw [hL.1.1, if_pos s0]
          refine j_goto (tgt := 77) M dX3_nextPlace_73 (by decide) ?_
          exact j_iret M dX3_nextPlace_77 ⟨_, rfl, by (try dsimp only); exact ⟨rfl, by unfold goesTo; simp [h_47, bt1, h_56]⟩⟩
        · refine j_aload_n M dX3_nextPlace_59 rfl ?_
          refine j_iload_n M dX3_nextPlace_60 rfl ?_
          refine j_inv1 M lk_X3_102 (c_X3_isClosed hc) (rv_X3 hc) dX3_nextPlace_61 (Nat.le_of_ble_eq_true rfl) ⟨(Nat.le_of_ble_eq_true rfl), (Nat.le_of_ble_eq_true rfl)⟩ (kE ?_)
          rw [cl]
          refine j_if_eq (tgt := 76) M dX3_nextPlace_64 (by decide) (fun h_64 => ?_) (fun h_64 => ?_)
          · refine j_iload_n M dX3_nextPlace_76 rfl ?_
            exact j_iret M dX3_nextPlace_77 ⟨_, rfl, by (try dsimp only); exact ⟨rfl, by unfold goesTo; simp [h_47, bt1, h_56, h_64]⟩⟩
          · refine j_aload_n M dX3_nextPlace_67 rfl ?_
            refine j_iload_n M dX3_nextPlace_68 rfl ?_
            refine j_iconst (v := 1) M dX3_nextPlace_69 rfl ?_
            refine j_inv2 M lk_X3_111 (c_X3_upFrom hc) (rv_X3 hc) dX3_nextPlace_70 (Nat.le_of_ble_eq_true rfl) ⟨(Nat.le_of_ble_eq_true rfl), (Nat.le_of_ble_eq_true rfl)⟩ (kE ?_)
            rw [hL.1.1, if_pos s0]
            refine j_goto (tgt := 77) M dX3_nextPlace_73 (by decide) ?_
            exact j_iret M dX3_nextPlace_77 ⟨_, rfl, by (try dsimp only); exact ⟨rfl, by unfold goesTo; simp [h_47, bt1, h_56, h_64]⟩⟩
    · refine j_aload_n M dX3_nextPlace_37 rfl ?_
      refine j_iload_n M dX3_nextPlace_38 rfl ?_
      refine j_iconst (v := 1) M dX3_nextPlace_39 rfl ?_
      refine j_inv2 M lk_X3_111 (c_X3_upFrom hc) (rv_X3 hc) dX3_nextPlace_40 (Nat.le_of_ble_eq_true rfl) ⟨(Nat.le_of_ble_eq_true rfl), (Nat.le_of_ble_eq_true rfl)⟩ (kE ?_)
      rw [hL.1.1, if_pos s0]
      exact j_iret M dX3_nextPlace_43 ⟨_, rfl, by (try dsimp only); exact ⟨rfl, by unfold goesTo; simp [h_34]⟩⟩
  · exact absurd ib (ifF k_15 h_18)
set_option maxRecDepth 100000 in
theorem c_X3_eat {l : Launch} {G : Gw} {σ : Sg} {c : Nat} (hc : isLib c) {f : Int32} {s h : St} (hL : LibF (σ c) s) (hW : WF s) (f0 : 0 ≤ f) (f1 : f < s 1) (hH : HolF (σ c 8) h) : Mt l G yX3_eat cX3_eat 4 none 2 42 [.ref (ad G c 0), .int f] σ (pV fun τ => LibF (τ c) (eatsS s f) ∧ HolF (τ c 8) (eatsH s h f) ∧ frm σ τ c [1, 7, 8]) := by
  refine mt_intro (by decide +kernel) (Nat.le_of_ble_eq_true rfl) (fun Φ M => ?_)
  show Φ 0 [some (.ref (ad G c 0)), some (.int f), none, none] [] σ
  have fe := hL.2.2 f f0 f1
  have kr := (hW.2.2.2 f f0 f1).1
  have ar := (hW.2.2.2 f f0 f1).2.1
  have bk := hW.bk f0 f1
  have be := hL.2.1 _ bk.1 bk.2.1
  have f5 := hW.f5 f1
  have b6 := hW.b6 bk.2.1
  have cl : σ c 0 5 ||| σ c 0 6 = s 5 ||| s 6 := by rw [hL.1.2.2.2.2.2.1, hL.1.2.2.2.2.2.2.1]
  have s0 : 0 < s 0 := Int32.lt_of_le_of_lt bk.1 bk.2.1
  have ev : (if 0 ≤ s (31 + f) ∧ s (31 + f) < σ c 0 0 ∧ s (31 + f) < 6 then σ c 4 (s (31 + f)) else -1000000) = bkAt s (s (31 + f)) := by rw [hL.1.1, if_pos ⟨ar.1, ar.2, hW.b6 ar.2⟩]; exact (hL.2.1 _ ar.1 ar.2).2.2.2
  have ib : 0 ≤ bkAt s (s (31 + f)) ∧ bkAt s (s (31 + f)) < σ c 0 0 ∧ bkAt s (s (31 + f)) < 6 := by rw [hL.1.1]; exact ⟨bk.1, bk.2.1, b6⟩
  have lr := liked_rng hW f
  have mr := much_rng hW f0 f1
  refine j_aload_n M dX3_eat_0 rfl ?_
  refine j_aload_n M dX3_eat_1 rfl ?_
  refine gf_X3_52 M hc dX3_eat_2 ?_
  refine j_iload_n M dX3_eat_5 rfl ?_
  refine al_L_6 M hc dX3_eat_6 (by first | assumption | decide | exact bk.1) (by first | assumption | decide | exact bk.1) ?_
  rw [fe.2.1]
  refine j_inv1 M lk_X3_99 (c_X3_bookIn hc) (rv_X3 hc) dX3_eat_7 (Nat.le_of_ble_eq_true rfl) ⟨(Nat.le_of_ble_eq_true rfl), (Nat.le_of_ble_eq_true rfl)⟩ (kE ?_)
  rw [ev]
  refine j_istore_2 M dX3_eat_10 (by exact (by first | trivial | rfl)) ?_
  refine j_aload_n M dX3_eat_11 rfl ?_
  refine j_iload_n M dX3_eat_12 rfl ?_
  refine j_inv1 M lk_X3_61 (c_X3_isBook hc) (rv_X3 hc) dX3_eat_13 (Nat.le_of_ble_eq_true rfl) ⟨(Nat.le_of_ble_eq_true rfl), (Nat.le_of_ble_eq_true rfl)⟩ (kP fun r_13 k_13 => ?_)
  refine j_if_eq (tgt := 27) M dX3_eat_16 (by decide) (fun h_16 => ?_) (fun h_16 => ?_)
  · exact absurd ib (ifF k_13 h_16)
  · have b_13 := ifT k_13 h_16
    refine j_aload_n M dX3_eat_19 rfl ?_
    refine j_iload_n M dX3_eat_20 rfl ?_
    refine j_inv1 M lk_X3_102 (c_X3_isClosed hc) (rv_X3 hc) dX3_eat_21 (Nat.le_of_ble_eq_true rfl) ⟨(Nat.le_of_ble_eq_true rfl), (Nat.le_of_ble_eq_true rfl)⟩ (kE ?_)
    rw [cl]
    refine j_if_eq (tgt := 28) M dX3_eat_24 (by decide) (fun h_24 => ?_) (fun h_24 => ?_)
    · have hz : ¬ bitv (s 5 ||| s 6) (bkAt s (s (31 + f))) = 1 := fun q => by rw [h_24] at q; exact absurd q (by decide)
      have em : (if σ c 1 (bkAt s (s (31 + f))) < σ c 0 2 then σ c 1 (bkAt s (s (31 + f))) else σ c 0 2) = muchE s f := by unfold muchE; rw [if_neg hz, be.1, hL.1.2.2.1]
      refine j_aload_n M dX3_eat_28 rfl ?_
      refine gf_X3_18 M hc dX3_eat_29 ?_
      refine j_aload_n M dX3_eat_32 rfl ?_
      refine gf_X3_36 M hc dX3_eat_33 ?_
      refine j_iload_n M dX3_eat_36 rfl ?_
      refine al_L_1 M hc dX3_eat_37 (by first | assumption | decide | exact bk.1) (by first | assumption | decide | exact bk.1) ?_
      refine j_min M mm_X3_105 sm_mmin in_J9 cd_mmin (Nat.le_of_ble_eq_true rfl) (Nat.le_of_ble_eq_true rfl) dX3_eat_38 ?_
      rw [em]
      refine j_istore_3 M dX3_eat_41 (by exact (by first | trivial | rfl)) ?_
      refine j_iload_n M dX3_eat_42 rfl ?_
      refine j_if_le (tgt := 88) M dX3_eat_43 (by decide) (fun h_43 => ?_) (fun h_43 => ?_)
      · exact j_vret M dX3_eat_88 ⟨rfl, by rw [(much_0 (h := h) hW f0 f1 h_43).1, (much_0 hW f0 f1 h_43).2]; exact ⟨hL, hH, frm_refl _ _ _⟩⟩
      · refine j_aload_n M dX3_eat_46 rfl ?_
        refine gf_X3_36 M hc dX3_eat_47 ?_
        refine j_iload_n M dX3_eat_50 rfl ?_
        refine j_dup2 M dX3_eat_51 rfl rfl ?_
        refine al_L_1 M hc dX3_eat_52 (by first | assumption | decide | exact bk.1) (by first | assumption | decide | exact bk.1) ?_
        rw [be.1]
        refine j_iload_n M dX3_eat_53 rfl ?_
        refine j_isub M dX3_eat_54 ?_
        refine as_L_1 M hc dX3_eat_55 (by first | assumption | decide | exact bk.1) (by first | assumption | decide | exact bk.1) ?_
        refine j_aload_n M dX3_eat_56 rfl ?_
        refine gf_X3_55 M hc dX3_eat_57 ?_
        refine j_iload_n M dX3_eat_60 rfl ?_
        refine j_aload_n M dX3_eat_61 rfl ?_
        refine gf_X3_55 M hc dX3_eat_62 ?_
        refine j_iload_n M dX3_eat_65 rfl ?_
        refine al_L_7 M hc dX3_eat_66 (by first | assumption | decide | exact bk.1) (by first | assumption | decide | exact bk.1) ?_
        rw [up_ne _ _ (show ¬ (c = c ∧ 7 = 1) by simp), fe.2.2]
        refine j_iload_n M dX3_eat_67 rfl ?_
        refine j_iadd M dX3_eat_68 ?_
        refine j_sipush (v := 999) M dX3_eat_69 rfl ?_
        refine j_min M mm_X3_105 sm_mmin in_J9 cd_mmin (Nat.le_of_ble_eq_true rfl) (Nat.le_of_ble_eq_true rfl) dX3_eat_72 ?_
        refine as_L_7 M hc dX3_eat_75 (by first | assumption | decide | exact bk.1) (by first | assumption | decide | exact bk.1) ?_
        refine j_aload_n M dX3_eat_76 rfl ?_
        refine gf_X3_58 M hc dX3_eat_77 ?_
        refine j_iload_n M dX3_eat_80 rfl ?_
        refine j_dup2 M dX3_eat_81 rfl rfl ?_
        refine al_L_8 M hc dX3_eat_82 (by first | assumption | decide | exact bk.1) (by first | assumption | decide | exact bk.1) ?_
        rw [up_ne _ _ (show ¬ (c = c ∧ 8 = 7) by simp), up_ne _ _ (show ¬ (c = c ∧ 8 = 1) by simp)]
        refine j_iconst (v := 1) M dX3_eat_83 rfl ?_
        refine j_iload_n M dX3_eat_84 rfl ?_
        refine j_ishl M dX3_eat_85 ?_
        refine j_ior M dX3_eat_86 ?_
        refine as_L_8 M hc dX3_eat_87 (by first | assumption | decide | exact bk.1) (by first | assumption | decide | exact bk.1) ?_
        exact j_vret M dX3_eat_88 ⟨rfl, by exact eat_fin hL hW.z hH bk f0 f1 f5 h_43⟩
    · exact j_vret M dX3_eat_27 ⟨rfl, by have m0 : ¬ 0 < muchE s f := (by unfold muchE; rw [if_pos ((bt1 _ _).mpr h_24)]; decide); rw [(much_0 (h := h) hW f0 f1 m0).1, (much_0 hW f0 f1 m0).2]; exact ⟨hL, hH, frm_refl _ _ _⟩⟩
set_option maxRecDepth 100000 in
theorem c_X3_dampen {l : Launch} {G : Gw} {σ : Sg} {c : Nat} (hc : isLib c) {s : St} (hL : LibF (σ c) s) (hW : WF s) : Mt l G yX3_dampen cX3_dampen 2 none 1 21 [.ref (ad G c 0)] σ (pV fun τ => LibF (τ c) (foldI pasteF s (s 0)) ∧ frm σ τ c [2]) := by
  refine mt_intro (by decide +kernel) (Nat.le_of_ble_eq_true rfl) (fun Φ M => ?_)
  show Φ 0 [some (.ref (ad G c 0)), none] [] σ
  have lp : ∀ i : Int32, 0 ≤ i → ∀ τ : Sg, i ≤ s 0 → LibF (τ c) (foldI pasteF s i) → frm σ τ c [2] → Φ 2 [some (.ref (ad G c 0)), some (.int i)] [] τ := by
    refine loop_up (s 0) (fun i hi ih τ hle hQ hfr => ?_)
    have wz := pasteFs_WF hW i hi hle
    have es : ∀ {x : Int32}, i < s 0 → foldI pasteF s (i + 1) = pasteF i (foldI pasteF s i) := fun q => foldI_s _ _ hi q
    refine j_iload_n M dX3_dampen_2 rfl ?_
    refine j_aload_n M dX3_dampen_3 rfl ?_
    refine gf_X3_9 M hc dX3_dampen_4 ?_
    refine j_icmp_ge (tgt := 52) M dX3_dampen_7 (by decide) (fun h_7 => ?_) (fun h_7 => ?_)
    · exact j_vret M dX3_dampen_52 ⟨rfl, by have e : i = s 0 := Int32.le_antisymm hle (by rw [hQ.1.1, wz.2.1] at h_7; exact Int32.not_lt.mp h_7); rw [← e]; exact ⟨hQ, hfr⟩⟩
    · rw [hQ.1.1, wz.2.1] at h_7
      have iz : i < foldI pasteF s i 0 := by rw [wz.2.1]; exact h_7
      have qb := hQ.2.1 i hi iz
      have pr := (wz.1.2.1 i hi iz).2.1
      have k6 : τ c 0 6 = foldI pasteF s i 6 := hQ.1.2.2.2.2.2.2.1
      refine j_iload_n M dX3_dampen_10 rfl ?_
      refine j_bipush (v := 6) M dX3_dampen_11 rfl ?_
      refine j_icmp_ge (tgt := 52) M dX3_dampen_13 (by decide) (fun h_13 => ?_) (fun h_13 => ?_)
      · exact absurd (hW.b6 h_7) h_13
      · refine j_aload_n M dX3_dampen_16 rfl ?_
        refine gf_X3_30 M hc dX3_dampen_17 ?_
        refine j_iload_n M dX3_dampen_20 rfl ?_
        refine j_ishr M dX3_dampen_21 ?_
        refine j_iconst (v := 1) M dX3_dampen_22 rfl ?_
        refine j_iand M dX3_dampen_23 ?_
        refine j_if_ne (tgt := 46) M dX3_dampen_24 (by decide) (fun h_24 => ?_) (fun h_24 => ?_)
        · refine j_iinc_1 M dX3_dampen_46 (show _ + Int32.ofInt 1 = _ + 1 from rfl) (by exact (by first | trivial | rfl)) ?_
          refine j_goto (tgt := 2) M dX3_dampen_49 (by decide) ?_
          exact ih h_7 _ (inc_lt hi h_7).2.1 (by rw [es (x := 0) h_7]; unfold pasteF; rw [if_neg (fun q => h_24 (by rw [k6]; exact q.1))]; exact hQ) hfr
        · refine j_aload_n M dX3_dampen_27 rfl ?_
          refine gf_X3_40 M hc dX3_dampen_28 ?_
          refine j_iload_n M dX3_dampen_31 rfl ?_
          refine j_aload_n M dX3_dampen_32 rfl ?_
          refine gf_X3_40 M hc dX3_dampen_33 ?_
          refine j_iload_n M dX3_dampen_36 rfl ?_
          refine al_L_2 M hc dX3_dampen_37 (by first | assumption | decide) (by first | assumption | decide) ?_
          rw [qb.2.1]
          refine j_iconst (v := 1) M dX3_dampen_38 rfl ?_
          refine j_iadd M dX3_dampen_39 ?_
          refine j_bipush (v := 9) M dX3_dampen_40 rfl ?_
          refine j_min M mm_X3_105 sm_mmin in_J9 cd_mmin (Nat.le_of_ble_eq_true rfl) (Nat.le_of_ble_eq_true rfl) dX3_dampen_42 ?_
          refine as_L_2 M hc dX3_dampen_45 (by first | assumption | decide) (by first | assumption | decide) ?_
          refine j_iinc_1 M dX3_dampen_46 (show _ + Int32.ofInt 1 = _ + 1 from rfl) (by exact (by first | trivial | rfl)) ?_
          refine j_goto (tgt := 2) M dX3_dampen_49 (by decide) ?_
          exact ih h_7 _ (inc_lt hi h_7).2.1 (by rw [es (x := 0) h_7, up_at]; exact damp_fin hQ wz.1.z hi iz (by rw [← k6]; exact h_24) pr.2) (frm_up hfr (by simp))
  refine j_iconst (v := 0) M dX3_dampen_0 rfl ?_
  refine j_istore_1 M dX3_dampen_1 (by exact (by first | trivial | rfl)) ?_
  exact lp 0 (by decide) _ (le0_of hW.1.1.1) hL (frm_refl _ _ _)
