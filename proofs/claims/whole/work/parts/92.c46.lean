theorem law_fin {σ a b c e g : Sg} {N d : Nat} {F0 r1 r2 : Int32} {T : St} (hd2 : d ≠ 2) (hZ : LibF (σ d) (fun _ => 0)) (cC : CS N F0 (g 2 0) (bindT (bindT (bindT (bindT (bindT R0T (takT T N 108)) (numT T N 1 9)) (takT T N 44)) (numT T N 0 8)) (takT T N 59)))
    (f1 : frm σ a 2 [0]) (f2 : frm a b 2 [0]) (f3 : frm (up b d 0 (upI (b d 0) 2 r1)) c 2 [0]) (f4 : frm c e 2 [0]) (f5 : frm (up e d 0 (upI (e d 0) 3 r2)) g 2 [0]) 
    (v1 : (bindT (bindT R0T (takT T N 108)) (numT T N 1 9)).1 = true → r1 = nv T (bindT R0T (takT T N 108)).2.1 (re T N (bindT R0T (takT T N 108)).2.1))
    (v2 : (bindT (bindT (bindT (bindT R0T (takT T N 108)) (numT T N 1 9)) (takT T N 44)) (numT T N 0 8)).1 = true → r2 = nv T (bindT (bindT (bindT R0T (takT T N 108)) (numT T N 1 9)) (takT T N 44)).2.1 (re T N (bindT (bindT (bindT R0T (takT T N 108)) (numT T N 1 9)) (takT T N 44)).2.1)) :
    CS N F0 (g 2 0) (P3 (lawP T N)) ∧ ((lawP T N).1 = true → LibF (g d) (lawP T N).2.2.2) ∧ frT σ g d := by
  refine ⟨by rw [law_P3]; exact cC, fun ho => ?_, ?_⟩
  · have z0 : WF0 (fun _ => 0) := ⟨(show (0 : Int32) ≤ 0 by decide), (show (0 : Int32) ≤ 6 by decide), (show (0 : Int32) ≤ 0 by decide), (show (0 : Int32) ≤ 5 by decide)⟩
    have z1 : WF0 (upI (fun _ => 0) 2 r1) := ⟨(show (0 : Int32) ≤ 0 by decide), (show (0 : Int32) ≤ 6 by decide), (show (0 : Int32) ≤ 0 by decide), (show (0 : Int32) ≤ 5 by decide)⟩
    have g1 : LibF ((up b d 0 (upI (b d 0) 2 r1)) d) (upI (fun _ => 0) 2 r1) := by
      rw [up_at]
      exact LibF_w (k := 2) (by rw [fr_d f2 hd2, fr_d f1 hd2]; exact hZ) (by omega) z0
    have g2 : LibF ((up e d 0 (upI (e d 0) 3 r2)) d) (upI (upI (fun _ => 0) 2 r1) 3 r2) := by
      rw [up_at]
      exact LibF_w (k := 3) (by rw [fr_d f4 hd2, fr_d f3 hd2]; exact g1) (by omega) z1
    rw [law_rd ho v1 v2, fr_d f5 hd2]
    exact g2
  · exact frT_t (frT_2 f1) (frT_t (frT_2 f2) (frT_t (frT_u (frT_r _ _)) (frT_t (frT_2 f3) (frT_t (frT_2 f4) (frT_t (frT_u (frT_r _ _)) (frT_2 f5))))))
def bInv (T : St) (N : Nat) (F0 : Int32) (g : St) (F : Nat → St) (RES : PR) (P : Nat → St → Prop) : Prop := (∃ (k : Nat) (rd : St) (f : Nat), CS N F0 g (true, k, 0) ∧ LibF F rd ∧ RI rd ∧ itm T N f k rd = RES ∧ N < f + k ∧ P k rd) ∨ (CS N F0 g (P3 RES) ∧ RES.1 = false)
theorem nx_c {T : St} {N k : Nat} {c : Int32} (hc : ¬ c = -1) (h : nxT T N (true, k, 0) = c) : k < N ∧ T (nI k) = c := by
  unfold nxT at h
  by_cases hk : k < N
  · rw [if_pos ⟨rfl, hk⟩] at h; exact ⟨hk, h⟩
  · rw [if_neg (fun q => hk q.2)] at h; exact absurd h.symm hc
theorem six {x : Int32} (h : x ≤ 6) (h2 : ¬ x < 6) : x = 6 := by grind
theorem pos_of {x : Int32} (h : 0 ≤ x) (h2 : ¬ x = 0) : 0 < x := by grind
theorem kd_98 {T : St} {N k : Nat} (h : k < N ∧ T (nI k) = 98) : ¬ 0 < kdAt T N k := by
  unfold kdAt
  rw [if_pos h.1, h.2]
  decide
theorem itm_b {T : St} {N F k : Nat} {rd : St} (h1 : rd 1 = 0) (hk : k < N ∧ T (nI k) = 98) : itm T N (F + 1) k rd = bindP (bookP T N k rd) (itm T N F) := by
  show (if k = N ∧ ¬ rd 1 = 0 then (true, k, 0, rd) else if 0 < kdAt T N k then bindP (fishP T N (kdAt T N k) k rd) (itm T N F) else if k < N ∧ T (nI k) = 98 then bindP (bookP T N k rd) (itm T N F) else (false, k, 1, rd)) = _
  rw [if_neg (fun q => q.2 h1), if_neg (kd_98 hk), if_pos hk]
theorem itm_n0 {T : St} {N F k : Nat} {rd : St} (h0 : rd 0 = 0) (h1 : rd 1 = 0) (hk : ¬ (k < N ∧ T (nI k) = 98)) (hF : 0 < F) : itm T N F k rd = (false, k, 1, rd) := by
  obtain ⟨f, rfl⟩ : ∃ f, F = f + 1 := ⟨F - 1, by omega⟩
  show (if k = N ∧ ¬ rd 1 = 0 then (true, k, 0, rd) else if 0 < kdAt T N k then bindP (fishP T N (kdAt T N k) k rd) (itm T N f) else if k < N ∧ T (nI k) = 98 then bindP (bookP T N k rd) (itm T N f) else (false, k, 1, rd)) = _
  rw [if_neg (fun q => q.2 h1)]
  by_cases hd : 0 < kdAt T N k
  · rw [if_pos hd]
    unfold fishP
    rw [if_pos h0]
    rfl
  · rw [if_neg hd, if_neg hk]
theorem bk_rd1 {rd : St} {p q : Int32} (hR : RI rd) (h6 : ¬ rd 0 = 6) (h1 : rd 1 = 0) : upI (upI (upI (upI rd (20 + rd 0) (rd 0)) 0 (rd 0 + 1)) (8 + rd 0) p) (14 + rd 0) q 1 = 0 := by
  have b6 : rd 0 < 6 := (lt_incF hR.1.1.1 hR.1.1.2 h6).1
  have b0 := hR.1.1.1
  rw [upI_ne _ _ (show (1 : Int32) ≠ 14 + rd 0 from (ix_c 14 6 1 b0 b6 (by omega) (by omega)).symm), upI_ne _ _ (show (1 : Int32) ≠ 8 + rd 0 from (ix_c 8 6 1 b0 b6 (by omega) (by omega)).symm), upI_ne _ _ (by decide), upI_ne _ _ (show (1 : Int32) ≠ 20 + rd 0 from (ix_c 20 6 1 b0 b6 (by omega) (by omega)).symm)]
  exact h1
theorem bk_rd0 {rd : St} {p q : Int32} (hR : RI rd) (h6 : ¬ rd 0 = 6) : ¬ upI (upI (upI (upI rd (20 + rd 0) (rd 0)) 0 (rd 0 + 1)) (8 + rd 0) p) (14 + rd 0) q 0 = 0 := by
  have b := lt_incF hR.1.1.1 hR.1.1.2 h6
  have b0 := hR.1.1.1
  rw [upI_ne _ _ (show (0 : Int32) ≠ 14 + rd 0 from (ix_c 14 6 0 b0 b.1 (by omega) (by omega)).symm), upI_ne _ _ (show (0 : Int32) ≠ 8 + rd 0 from (ix_c 8 6 0 b0 b.1 (by omega) (by omega)).symm), upI_same]
  intro e
  have := b.2.2.2
  rw [e] at this
  exact absurd this (by decide)
set_option maxRecDepth 100000 in
theorem c_X5_kindOfSort {l : Launch} {G : Gw} {σ : Sg} {c : Int32}   : Mt l G yX5_kindOfSort cX5_kindOfSort 1 (some .int) 0 0 [.int c] σ (pI fun r τ => τ = σ ∧ r = kdC c) := by
  refine mt_intro (by decide +kernel) (Nat.le_of_ble_eq_true rfl) (fun Φ M => ?_)
  show Φ 0 [some (.int c)] [] σ
  refine j_iload_n M dX5_kindOfSort_0 rfl ?_
  by_cases e99 : c = 99
  · subst e99
    refine j_lookup M dX5_kindOfSort_1 (by decide) (off := 55) (tgt := 56) (by decide) (by decide) ?_
    refine j_iconst (v := 3) M dX5_kindOfSort_56 rfl ?_
    exact j_iret M dX5_kindOfSort_57 ⟨_, rfl, by (try dsimp only); exact ⟨rfl, by decide⟩⟩
  by_cases e112 : c = 112
  · subst e112
    refine j_lookup M dX5_kindOfSort_1 (by decide) (off := 53) (tgt := 54) (by decide) (by decide) ?_
    refine j_iconst (v := 2) M dX5_kindOfSort_54 rfl ?_
    exact j_iret M dX5_kindOfSort_55 ⟨_, rfl, by (try dsimp only); exact ⟨rfl, by decide⟩⟩
  by_cases e114 : c = 114
  · subst e114
    refine j_lookup M dX5_kindOfSort_1 (by decide) (off := 51) (tgt := 52) (by decide) (by decide) ?_
    refine j_iconst (v := 1) M dX5_kindOfSort_52 rfl ?_
    exact j_iret M dX5_kindOfSort_53 ⟨_, rfl, by (try dsimp only); exact ⟨rfl, by decide⟩⟩
  by_cases e115 : c = 115
  · subst e115
    refine j_lookup M dX5_kindOfSort_1 (by decide) (off := 59) (tgt := 60) (by decide) (by decide) ?_
    refine j_iconst (v := 5) M dX5_kindOfSort_60 rfl ?_
    exact j_iret M dX5_kindOfSort_61 ⟨_, rfl, by (try dsimp only); exact ⟨rfl, by decide⟩⟩
  by_cases e119 : c = 119
  · subst e119
    refine j_lookup M dX5_kindOfSort_1 (by decide) (off := 57) (tgt := 58) (by decide) (by decide) ?_
    refine j_iconst (v := 4) M dX5_kindOfSort_58 rfl ?_
    exact j_iret M dX5_kindOfSort_59 ⟨_, rfl, by (try dsimp only); exact ⟨rfl, by decide⟩⟩
  refine j_lookup M dX5_kindOfSort_1 (by decide) (off := 61) (tgt := 62) (by show Op.lookupswitch.offset [((99 : Int), (55 : Int)), (112, 53), (114, 51), (115, 59), (119, 57)] 61 c.toInt = 61; rw [lv_osw (a := 99) e99 (by decide), lv_osw (a := 112) e112 (by decide), lv_osw (a := 114) e114 (by decide), lv_osw (a := 115) e115 (by decide), lv_osw (a := 119) e119 (by decide)]; rfl) (by decide) ?_
  refine j_ldc M k_X5_25 dX5_kindOfSort_62 ?_
  exact j_iret M dX5_kindOfSort_64 ⟨_, rfl, by (try dsimp only); exact ⟨rfl, (kdC_no.mpr (by unfold kindV; rw [if_neg e114, if_neg e112, if_neg e99, if_neg e119, if_neg e115])).symm⟩⟩
set_option maxRecDepth 100000 in
theorem c_X5_readLaw {l : Launch} {G : Gw} {σ : Sg} {d : Nat} (hd : isLib d) {N : Nat} {F0 : Int32} {T : St} (hC : CS N F0 (σ 2 0) R0T) (hT : σ 2 1 = T) (hb : ∀ k, k < N → 0 ≤ T (nI k)) (hZ : LibF (σ d) (fun _ => 0)) : Mt l G yX5_readLaw cX5_readLaw 2 none 3 67 [.ref (ad G 2 0), .ref (ad G d 0)] σ (pV fun τ => CS N F0 (τ 2 0) (P3 (lawP T N)) ∧ ((lawP T N).1 = true → LibF (τ d) (lawP T N).2.2.2) ∧ frT σ τ d) := by
  refine mt_intro (by decide +kernel) (Nat.le_of_ble_eq_true rfl) (fun Φ M => ?_)
  show Φ 0 [some (.ref (ad G 2 0)), some (.ref (ad G d 0))] [] σ
  have hd2 : d ≠ 2 := fun e => absurd hd.1 (by omega)
  have h20 : ¬ (2 = d ∧ 0 = 0) := fun e => hd2 e.1.symm
  have h21 : ¬ (2 = d ∧ 1 = 0) := fun e => hd2 e.1.symm
  refine j_aload_n M dX5_readLaw_0 rfl ?_
  refine j_bipush (v := 108) M dX5_readLaw_1 rfl ?_
  refine j_inv1 M lk_X5_44 (c_X5_pass (hC) (hT) (hb)) rv_X5 dX5_readLaw_3 (Nat.le_of_ble_eq_true rfl) ⟨(Nat.le_of_ble_eq_true rfl), (Nat.le_of_ble_eq_true rfl)⟩ (kV fun σ_3 q_3 => ?_)
  obtain ⟨c3, f3⟩ := q_3
  have t3 : σ_3 2 1 = T := (f3 2 1 (by decide)).trans hT
  refine j_aload_n M dX5_readLaw_6 rfl ?_
  refine j_aload_n M dX5_readLaw_7 rfl ?_
  refine j_iconst (v := 1) M dX5_readLaw_8 rfl ?_
  refine j_bipush (v := 9) M dX5_readLaw_9 rfl ?_
  refine j_inv2 M lk_X5_48 (c_X5_number (c3) (t3)) rv_X5 dX5_readLaw_11 (Nat.le_of_ble_eq_true rfl) ⟨(Nat.le_of_ble_eq_true rfl), (Nat.le_of_ble_eq_true rfl)⟩ (kI fun r_11 σ_11 q_11 => ?_)
  obtain ⟨c11, v11, f11⟩ := q_11
  have t11 : σ_11 2 1 = T := (f11 2 1 (by decide)).trans t3
  refine pf_X5_52 M hd dX5_readLaw_14 ?_
  refine j_aload_n M dX5_readLaw_17 rfl ?_
  refine j_bipush (v := 44) M dX5_readLaw_18 rfl ?_
  refine j_inv1 M lk_X5_44 (c_X5_pass ((by rw [up_ne _ _ h20]; exact c11)) ((by rw [up_ne _ _ h21]; exact t11)) (hb)) rv_X5 dX5_readLaw_20 (Nat.le_of_ble_eq_true rfl) ⟨(Nat.le_of_ble_eq_true rfl), (Nat.le_of_ble_eq_true rfl)⟩ (kV fun σ_20 q_20 => ?_)
  obtain ⟨c20, f20⟩ := q_20
  have t20 : σ_20 2 1 = T := (f20 2 1 (by decide)).trans (by rw [up_ne _ _ h21]; exact t11)
  refine j_aload_n M dX5_readLaw_23 rfl ?_
  refine j_aload_n M dX5_readLaw_24 rfl ?_
  refine j_iconst (v := 0) M dX5_readLaw_25 rfl ?_
  refine j_bipush (v := 8) M dX5_readLaw_26 rfl ?_
  refine j_inv2 M lk_X5_48 (c_X5_number (c20) (t20)) rv_X5 dX5_readLaw_28 (Nat.le_of_ble_eq_true rfl) ⟨(Nat.le_of_ble_eq_true rfl), (Nat.le_of_ble_eq_true rfl)⟩ (kI fun r_28 σ_28 q_28 => ?_)
  obtain ⟨c28, v28, f28⟩ := q_28
  have t28 : σ_28 2 1 = T := (f28 2 1 (by decide)).trans t20
  refine pf_X5_55 M hd dX5_readLaw_31 ?_
  refine j_aload_n M dX5_readLaw_34 rfl ?_
  refine j_bipush (v := 59) M dX5_readLaw_35 rfl ?_
  refine j_inv1 M lk_X5_44 (c_X5_pass ((by rw [up_ne _ _ h20]; exact c28)) ((by rw [up_ne _ _ h21]; exact t28)) (hb)) rv_X5 dX5_readLaw_37 (Nat.le_of_ble_eq_true rfl) ⟨(Nat.le_of_ble_eq_true rfl), (Nat.le_of_ble_eq_true rfl)⟩ (kV fun σ_37 q_37 => ?_)
  obtain ⟨c37, f37⟩ := q_37
  have t37 : σ_37 2 1 = T := (f37 2 1 (by decide)).trans (by rw [up_ne _ _ h21]; exact t28)
  exact j_vret M dX5_readLaw_40 ⟨rfl, by exact law_fin hd2 hZ c37 f3 f11 f20 f28 f37 v11 v28⟩
set_option maxRecDepth 100000 in
theorem c_X5_readBooks {l : Launch} {G : Gw} {σ : Sg} {d : Nat} (hd : isLib d) {N : Nat} {F0 : Int32} {T : St} {RES : PR} (hT : σ 2 1 = T) (hb : ∀ k, k < N → 0 ≤ T (nI k)) (hI : bInv T N F0 (σ 2 0) (σ d) RES (fun k rd => rd 0 = 0 ∧ rd 1 = 0)) : Mt l G yX5_readBooks cX5_readBooks 5 none 3 67 [.ref (ad G 2 0), .ref (ad G d 0)] σ (pV fun τ => bInv T N F0 (τ 2 0) (τ d) RES (fun k rd => 0 < rd 0 ∧ rd 1 = 0 ∧ ¬ (k < N ∧ T (nI k) = 98)) ∧ frT σ τ d) := by
  refine mt_intro (by decide +kernel) (Nat.le_of_ble_eq_true rfl) (fun Φ M => ?_)
  show Φ 0 [some (.ref (ad G 2 0)), some (.ref (ad G d 0)), none, none, none] [] σ
  have hd2 : d ≠ 2 := fun e => absurd hd.1 (by omega)
  have lpF : ∀ (τ : Sg) (j : Int32) (x y : Option Value), CS N F0 (τ 2 0) (P3 RES) → RES.1 = false → τ 2 1 = T → frT σ τ d → Φ 16 [some (.ref (ad G 2 0)), some (.ref (ad G d 0)), some (.int j), x, y] [] τ := by
    intro τ j x y hq hf ht hfr
    refine j_iload_n M dX5_readBooks_16 rfl ?_
    refine j_bipush (v := 120) M dX5_readBooks_17 rfl ?_
    refine j_icmp_ge (tgt := 100) M dX5_readBooks_19 (by decide) (fun h_19 => ?_) (fun h_19 => ?_)
    · exact j_vret M dX5_readBooks_100 ⟨rfl, by exact ⟨Or.inr ⟨hq, hf⟩, hfr⟩⟩
    · refine j_aload_n M dX5_readBooks_22 rfl ?_
      refine j_inv0 M lk_X5_58 (c_X5_next (hq) (ht)) rv_X5 dX5_readBooks_23 (Nat.le_of_ble_eq_true rfl) ⟨(Nat.le_of_ble_eq_true rfl), (Nat.le_of_ble_eq_true rfl)⟩ (kE ?_)
      rw [show nxT T N (P3 RES) = -1 from if_neg (fun q => absurd (q.1.symm.trans hf) (by decide))]
      refine j_bipush (v := 98) M dX5_readBooks_26 rfl ?_
      refine j_icmp_ne (tgt := 100) M dX5_readBooks_28 (by decide) (fun h_28 => ?_) (fun h_28 => ?_)
      · exact j_vret M dX5_readBooks_100 ⟨rfl, by exact ⟨Or.inr ⟨hq, hf⟩, hfr⟩⟩
      · exact absurd h_28 (by decide)
  have lp : ∀ (F k j : Nat) (rd : St) (τ : Sg) (x y : Option Value), j ≤ k → CS N F0 (τ 2 0) (true, k, 0) → τ 2 1 = T → LibF (τ d) rd → RI rd → rd 1 = 0 → (rd 0 = 0 → k < N ∧ T (nI k) = 98) → itm T N F k rd = RES → N < F + k → frT σ τ d → Φ 16 [some (.ref (ad G 2 0)), some (.ref (ad G d 0)), some (.int (nI j)), x, y] [] τ := by
    intro F
    induction F with
    | zero =>
      intro k j rd τ x y hj hq ht hL hR h1 hz hit hF hfr
      have kN : k ≤ N := hq.1.2.2
      omega
    | succ F ih =>
      intro k j rd τ x y hj hq ht hL hR h1 hz hit hF hfr
      have kN : k ≤ N := hq.1.2.2
      have h120 : N ≤ 120 := hq.1.1
      have j45 : ∀ (υ : Sg) (x y : Option Value), CS N F0 (υ 2 0) (if rd 0 = 6 then badT 3 k else (true, k, 0)) → υ 2 1 = T → LibF (υ d) rd → frT σ υ d → (k < N ∧ T (nI k) = 98) → Φ 45 [some (.ref (ad G 2 0)), some (.ref (ad G d 0)), some (.int (nI j)), x, y] [] υ := by
        intro υ x y uC ut uL ufr hk
        refine j_aload_n M dX5_readBooks_45 rfl ?_
        refine j_bipush (v := 98) M dX5_readBooks_46 rfl ?_
        refine j_inv1 M lk_X5_44 (c_X5_pass (uC) (ut) (hb)) rv_X5 dX5_readBooks_48 (Nat.le_of_ble_eq_true rfl) ⟨(Nat.le_of_ble_eq_true rfl), (Nat.le_of_ble_eq_true rfl)⟩ (kV fun σ_48 q_48 => ?_)
        obtain ⟨c48, f48⟩ := q_48
        have t48 : σ_48 2 1 = T := (f48 2 1 (by decide)).trans ut
        refine j_aload_n M dX5_readBooks_51 rfl ?_
        refine j_iconst (v := 0) M dX5_readBooks_52 rfl ?_
        refine j_bipush (v := 99) M dX5_readBooks_53 rfl ?_
        refine j_inv2 M lk_X5_48 (c_X5_number (c48) (t48)) rv_X5 dX5_readBooks_55 (Nat.le_of_ble_eq_true rfl) ⟨(Nat.le_of_ble_eq_true rfl), (Nat.le_of_ble_eq_true rfl)⟩ (kI fun r_55 σ_55 q_55 => ?_)
        obtain ⟨c55, v55, f55⟩ := q_55
        have t55 : σ_55 2 1 = T := (f55 2 1 (by decide)).trans t48
        refine j_istore_3 M dX5_readBooks_58 (by exact (by first | trivial | rfl)) ?_
        refine j_aload_n M dX5_readBooks_59 rfl ?_
        refine j_bipush (v := 44) M dX5_readBooks_60 rfl ?_
        refine j_inv1 M lk_X5_44 (c_X5_pass (c55) (t55) (hb)) rv_X5 dX5_readBooks_62 (Nat.le_of_ble_eq_true rfl) ⟨(Nat.le_of_ble_eq_true rfl), (Nat.le_of_ble_eq_true rfl)⟩ (kV fun σ_62 q_62 => ?_)
        obtain ⟨c62, f62⟩ := q_62
        have t62 : σ_62 2 1 = T := (f62 2 1 (by decide)).trans t55
        refine j_aload_n M dX5_readBooks_65 rfl ?_
        refine j_iconst (v := 0) M dX5_readBooks_66 rfl ?_
        refine j_bipush (v := 9) M dX5_readBooks_67 rfl ?_
        refine j_inv2 M lk_X5_48 (c_X5_number (c62) (t62)) rv_X5 dX5_readBooks_69 (Nat.le_of_ble_eq_true rfl) ⟨(Nat.le_of_ble_eq_true rfl), (Nat.le_of_ble_eq_true rfl)⟩ (kI fun r_69 σ_69 q_69 => ?_)
        obtain ⟨c69, v69, f69⟩ := q_69
        have t69 : σ_69 2 1 = T := (f69 2 1 (by decide)).trans t62
        refine j_istore_4 M dX5_readBooks_72 (by exact (by first | trivial | rfl)) ?_
        refine j_aload_n M dX5_readBooks_74 rfl ?_
        refine j_bipush (v := 59) M dX5_readBooks_75 rfl ?_
        refine j_inv1 M lk_X5_44 (c_X5_pass (c69) (t69) (hb)) rv_X5 dX5_readBooks_77 (Nat.le_of_ble_eq_true rfl) ⟨(Nat.le_of_ble_eq_true rfl), (Nat.le_of_ble_eq_true rfl)⟩ (kV fun σ_77 q_77 => ?_)
        obtain ⟨c77, f77⟩ := q_77
        have t77 : σ_77 2 1 = T := (f77 2 1 (by decide)).trans t69
        have e6 := book_P3 (T := T) h1 hk
        have eL : LibF (σ_77 d) rd := by rw [fr_d f77 hd2, fr_d f69 hd2, fr_d f62 hd2, fr_d f55 hd2, fr_d f48 hd2]; exact uL
        have ef : frT σ σ_77 d := frT_t ufr (frT_t (frT_2 f48) (frT_t (frT_2 f55) (frT_t (frT_2 f62) (frT_t (frT_2 f69) (frT_2 f77)))))
        have cb : CS N F0 (σ_77 2 0) (P3 (bookP T N k rd)) := by rw [e6]; exact c77
        rw [itm_b h1 hk] at hit
        refine j_aload_n M dX5_readBooks_80 rfl ?_
        refine j_inv0 M lk_X5_68 (c_X5_isFine) rv_X5 dX5_readBooks_81 (Nat.le_of_ble_eq_true rfl) ⟨(Nat.le_of_ble_eq_true rfl), (Nat.le_of_ble_eq_true rfl)⟩ (kP fun r_81 k_81 => ?_)
        refine j_if_eq (tgt := 94) M dX5_readBooks_84 (by decide) (fun h_84 => ?_) (fun h_84 => ?_)
        · have b_81 := ifF k_81 h_84
          refine j_iinc_2 M dX5_readBooks_94 (show _ + Int32.ofInt 1 = _ + 1 from rfl) (by exact (by first | trivial | rfl)) ?_
          refine j_goto (tgt := 16) M dX5_readBooks_97 (by decide) ?_
          have nf : (bookP T N k rd).1 = false := by
            cases hh : (bookP T N k rd).1 with
            | false => rfl
            | true => exact absurd ((cs_fine cb).mpr hh) b_81
          have er : bookP T N k rd = RES := by rw [← hit]; unfold bindP; rw [if_neg (by rw [nf]; decide)]
          rw [er] at cb nf
          exact lpF σ_77 _ _ _ cb nf t77 ef
        · have b_81 := ifT k_81 h_84
          refine j_aload_n M dX5_readBooks_87 rfl ?_
          refine j_iload_n M dX5_readBooks_88 rfl ?_
          refine j_iload M dX5_readBooks_89 rfl ?_
          refine j_inv2 M lk_X5_72 (c_X3_addBook hd) (rv_X3 hd) dX5_readBooks_91 (Nat.le_of_ble_eq_true rfl) ⟨(Nat.le_of_ble_eq_true rfl), (Nat.le_of_ble_eq_true rfl)⟩ (kV fun σ_91 q_91 => ?_)
          refine j_iinc_2 M dX5_readBooks_94 (show _ + Int32.ofInt 1 = _ + 1 from rfl) (by exact (by first | trivial | rfl)) ?_
          refine j_goto (tgt := 16) M dX5_readBooks_97 (by decide) ?_
          have ok : (bookP T N k rd).1 = true := (cs_fine cb).mp b_81
          have br := book_rd ok h1 hk v55 v69
          have bo := book_ok hR ok
          rw [br.2] at bo
          have b6 := lt_incF hR.1.1.1 hR.1.1.2 br.1
          rw [eL.1.1, if_neg (fun q => q.elim (fun a => absurd hR.1.1.1 (Int32.not_le.mpr a)) (fun a => a b6.1))] at q_91
          have er : itm T N F (bookP T N k rd).2.1 (upI (upI (upI (upI rd (20 + rd 0) (rd 0)) 0 (rd 0 + 1)) (8 + rd 0) r_55) (14 + rd 0) r_69) = RES := by
            rw [← hit, ← br.2]
            unfold bindP
            rw [if_pos ok]
          have gl : LibF (σ_91 d) (upI (upI (upI (upI rd (20 + rd 0) (rd 0)) 0 (rd 0 + 1)) (8 + rd 0) r_55) (14 + rd 0) r_69) := by
            have a := add_book eL hR br.1 bo.2
            rw [eL.1.1] at a
            rw [q_91, up_at, up_at, up_at, up_at, up_at]
            exact a
          have e2 : ∀ q, σ_91 2 q = σ_77 2 q := fun q => by
            rw [q_91, up_ne _ _ (fun e => hd2 e.1.symm), up_ne _ _ (fun e => hd2 e.1.symm), up_ne _ _ (fun e => hd2 e.1.symm), up_ne _ _ (fun e => hd2 e.1.symm), up_ne _ _ (fun e => hd2 e.1.symm)]
          have q := ih (bookP T N k rd).2.1 (j + 1) _ σ_91 (some (.int r_55)) (some (.int r_69)) (by omega) (by rw [e2]; exact cs_tr cb ok) (by rw [e2]; exact t77) gl bo.2 (bk_rd1 hR br.1 h1) (fun e => absurd e (bk_rd0 hR br.1)) er (by omega) (by rw [q_91]; exact frT_u (frT_u (frT_u (frT_u (frT_u ef)))))
          rw [nI_succ] at q
          exact q
      refine j_iload_n M dX5_readBooks_16 rfl ?_
      refine j_bipush (v := 120) M dX5_readBooks_17 rfl ?_
      refine j_icmp_ge (tgt := 100) M dX5_readBooks_19 (by decide) (fun h_19 => ?_) (fun h_19 => ?_)
      · exact j_vret M dX5_readBooks_100 ⟨rfl, by have nb : ¬ (k < N ∧ T (nI k) = 98) := fun q => h_19 ((nI_ltI (b := 120) (by omega) (by decide)).mpr (by omega)); exact ⟨Or.inl ⟨k, rd, F + 1, hq, hL, hR, hit, hF, pos_of hR.1.1.1 (fun e => nb (hz e)), h1, nb⟩, hfr⟩⟩
      · refine j_aload_n M dX5_readBooks_22 rfl ?_
        refine j_inv0 M lk_X5_58 (c_X5_next (hq) (ht)) rv_X5 dX5_readBooks_23 (Nat.le_of_ble_eq_true rfl) ⟨(Nat.le_of_ble_eq_true rfl), (Nat.le_of_ble_eq_true rfl)⟩ (kE ?_)
        refine j_bipush (v := 98) M dX5_readBooks_26 rfl ?_
        refine j_icmp_ne (tgt := 100) M dX5_readBooks_28 (by decide) (fun h_28 => ?_) (fun h_28 => ?_)
        · exact j_vret M dX5_readBooks_100 ⟨rfl, by have nb : ¬ (k < N ∧ T (nI k) = 98) := fun q => h_28 (if_pos ⟨rfl, q.1⟩ |>.trans q.2); exact ⟨Or.inl ⟨k, rd, F + 1, hq, hL, hR, hit, hF, pos_of hR.1.1.1 (fun e => nb (hz e)), h1, nb⟩, hfr⟩⟩
        · have hk := nx_c (by decide) h_28
          refine j_aload_n M dX5_readBooks_31 rfl ?_
          refine gf_X5_65 M hd dX5_readBooks_32 ?_
          rw [hL.1.1]
          refine j_bipush (v := 6) M dX5_readBooks_35 rfl ?_
          refine j_icmp_lt (tgt := 45) M dX5_readBooks_37 (by decide) (fun h_37 => ?_) (fun h_37 => ?_)
          · exact j45 τ _ _ (by rw [if_neg (fun e => by rw [e] at h_37; exact absurd h_37 (by decide))]; exact hq) ht hL hfr hk
          · refine j_aload_n M dX5_readBooks_40 rfl ?_
            refine j_iconst (v := 3) M dX5_readBooks_41 rfl ?_
            refine j_inv1 M lk_X5_62 (c_X5_fail (hq)) rv_X5 dX5_readBooks_42 (Nat.le_of_ble_eq_true rfl) ⟨(Nat.le_of_ble_eq_true rfl), (Nat.le_of_ble_eq_true rfl)⟩ (kV fun σ_42 q_42 => ?_)
            obtain ⟨c42, f42⟩ := q_42
            have t42 : σ_42 2 1 = T := (f42 2 1 (by decide)).trans ht
            exact j45 σ_42 _ _ (by rw [if_pos (six hR.1.1.2 h_37)]; exact c42) t42 (by rw [fr_d f42 hd2]; exact hL) (frT_t hfr (frT_2 f42)) hk
  rcases hI with ⟨k, rd, F, hq, hL, hR, hit, hF, z0, z1⟩ | ⟨hq, hf⟩
  · have kN : k ≤ N := hq.1.2.2
    refine j_aload_n M dX5_readBooks_0 rfl ?_
    refine j_inv0 M lk_X5_58 (c_X5_next (hq) (hT)) rv_X5 dX5_readBooks_1 (Nat.le_of_ble_eq_true rfl) ⟨(Nat.le_of_ble_eq_true rfl), (Nat.le_of_ble_eq_true rfl)⟩ (kE ?_)
    refine j_bipush (v := 98) M dX5_readBooks_4 rfl ?_
    refine j_icmp_eq (tgt := 14) M dX5_readBooks_6 (by decide) (fun h_6 => ?_) (fun h_6 => ?_)
    · refine j_iconst (v := 0) M dX5_readBooks_14 rfl ?_
      refine j_istore_2 M dX5_readBooks_15 (by exact (by first | trivial | rfl)) ?_
      exact lp F k 0 rd σ none none (by omega) hq hT hL hR z1 (fun _ => nx_c (by decide) h_6) hit hF (frT_r _ _)
    · refine j_aload_n M dX5_readBooks_9 rfl ?_
      refine j_iconst (v := 1) M dX5_readBooks_10 rfl ?_
      refine j_inv1 M lk_X5_62 (c_X5_fail (hq)) rv_X5 dX5_readBooks_11 (Nat.le_of_ble_eq_true rfl) ⟨(Nat.le_of_ble_eq_true rfl), (Nat.le_of_ble_eq_true rfl)⟩ (kV fun σ_11 q_11 => ?_)
      obtain ⟨c11, f11⟩ := q_11
      have t11 : σ_11 2 1 = T := (f11 2 1 (by decide)).trans hT
      refine j_iconst (v := 0) M dX5_readBooks_14 rfl ?_
      refine j_istore_2 M dX5_readBooks_15 (by exact (by first | trivial | rfl)) ?_
      have er := itm_n0 (T := T) (N := N) (k := k) z0 z1 (fun q => h_6 (if_pos ⟨rfl, q.1⟩ |>.trans q.2)) (show 0 < F by omega)
      rw [hit] at er
      exact lpF σ_11 0 none none (by rw [er]; exact c11) (by rw [er]) t11 (frT_2 f11)
  · have nn : nxT T N (P3 RES) = -1 := if_neg (fun q => absurd (q.1.symm.trans hf) (by decide))
    refine j_aload_n M dX5_readBooks_0 rfl ?_
    refine j_inv0 M lk_X5_58 (c_X5_next (hq) (hT)) rv_X5 dX5_readBooks_1 (Nat.le_of_ble_eq_true rfl) ⟨(Nat.le_of_ble_eq_true rfl), (Nat.le_of_ble_eq_true rfl)⟩ (kE ?_)
    rw [nn]
    refine j_bipush (v := 98) M dX5_readBooks_4 rfl ?_
    refine j_icmp_eq (tgt := 14) M dX5_readBooks_6 (by decide) (fun h_6 => ?_) (fun h_6 => ?_)
    · exact absurd h_6 (by decide)
    · refine j_aload_n M dX5_readBooks_9 rfl ?_
      refine j_iconst (v := 1) M dX5_readBooks_10 rfl ?_
      refine j_inv1 M lk_X5_62 (c_X5_fail (hq)) rv_X5 dX5_readBooks_11 (Nat.le_of_ble_eq_true rfl) ⟨(Nat.le_of_ble_eq_true rfl), (Nat.le_of_ble_eq_true rfl)⟩ (kV fun σ_11 q_11 => ?_)
      obtain ⟨c11, f11⟩ := q_11
      have t11 : σ_11 2 1 = T := (f11 2 1 (by decide)).trans hT
      refine j_iconst (v := 0) M dX5_readBooks_14 rfl ?_
      refine j_istore_2 M dX5_readBooks_15 (by exact (by first | trivial | rfl)) ?_
      rw [bindT_f (R := P3 RES) hf] at c11
      exact lpF σ_11 0 none none c11 hf t11 (frT_2 f11)
