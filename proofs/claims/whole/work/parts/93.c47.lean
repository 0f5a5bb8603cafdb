theorem five {x : Int32} (h : x ≤ 5) (h2 : ¬ x < 5) : x = 5 := by grind
theorem kd1 {x : Int32} (h : 0 ≤ x) (h2 : ¬ x = 0) : 1 ≤ x := by grind
theorem bad_if {P : Prop} [Decidable P] {k : Nat} : bindT (if P then badT 1 k else (true, k, 0)) (badT 3) = if P then badT 1 k else badT 3 k := by
  by_cases h : P
  · rw [if_pos h, if_pos h]; rfl
  · rw [if_neg h, if_neg h]; rfl
theorem nx_n {T : St} {N k : Nat} (h : ¬ nxT T N (true, k, 0) = -1) : k < N := by
  by_cases hk : k < N
  · exact hk
  · exact absurd (if_neg (fun q => hk q.2)) h
theorem nx_e {T : St} {N k : Nat} (hb : ∀ k, k < N → 0 ≤ T (nI k)) (h : nxT T N (true, k, 0) = -1) : ¬ k < N := fun q => by
  unfold nxT at h
  rw [if_pos ⟨rfl, q⟩] at h
  have := hb k q
  rw [h] at this
  exact absurd this (by decide)
theorem itm_e {T : St} {F N : Nat} {rd : St} (h : ¬ rd 1 = 0) : itm T N (F + 1) N rd = (true, N, 0, rd) := by
  show (if N = N ∧ ¬ rd 1 = 0 then (true, N, 0, rd) else _) = _
  exact if_pos ⟨rfl, h⟩
theorem nx_kd {T : St} {N k : Nat} (h : ¬ kdC (nxT T N (true, k, 0)) = -1000000) : 0 < kdAt T N k := by
  have h2 : ¬ kindV (nxT T N (true, k, 0)) = 0 := fun e => h (kdC_no.mpr e)
  unfold nxT at h2
  unfold kdAt
  by_cases hk : k < N
  · rw [if_pos ⟨rfl, hk⟩] at h2
    rw [if_pos hk]
    exact pos_of (kindV_rng _).1 h2
  · rw [if_neg (fun q => hk q.2)] at h2
    exact absurd (by decide) h2
theorem kd_nx {T : St} {N k : Nat} (h : 0 < kdAt T N k) (e : kdC (nxT T N (true, k, 0)) = -1000000) : False := by
  have h2 := kdC_no.mp e
  unfold kdAt at h
  by_cases hk : k < N
  · rw [if_pos hk] at h
    unfold nxT at h2
    rw [if_pos ⟨rfl, hk⟩] at h2
    rw [show (true, k, (0 : Int32)).2.1 = k from rfl] at h2
    rw [h2] at h
    exact absurd h (by decide)
  · rw [if_neg hk] at h
    exact absurd h (by decide)
theorem itm_f0 {T : St} {N F k : Nat} {rd : St} (h1 : rd 1 = 0) (hk : ¬ (k < N ∧ T (nI k) = 98)) (hd : ¬ 0 < kdAt T N k) (hF : 0 < F) : itm T N F k rd = (false, k, 1, rd) := by
  obtain ⟨f, rfl⟩ : ∃ f, F = f + 1 := ⟨F - 1, by omega⟩
  show (if k = N ∧ ¬ rd 1 = 0 then (true, k, 0, rd) else if 0 < kdAt T N k then bindP (fishP T N (kdAt T N k) k rd) (itm T N f) else if k < N ∧ T (nI k) = 98 then bindP (bookP T N k rd) (itm T N f) else (false, k, 1, rd)) = _
  rw [if_neg (fun q => q.2 h1), if_neg hd, if_neg hk]
theorem itm_k {T : St} {N F k : Nat} {rd : St} (hk : k < N) (hd : ¬ kindV (T (nI k)) = 0) : itm T N (F + 1) k rd = bindP (fishP T N (kindV (T (nI k))) k rd) (itm T N F) := by
  show (if k = N ∧ ¬ rd 1 = 0 then (true, k, 0, rd) else if 0 < kdAt T N k then bindP (fishP T N (kdAt T N k) k rd) (itm T N F) else if k < N ∧ T (nI k) = 98 then bindP (bookP T N k rd) (itm T N F) else (false, k, 1, rd)) = _
  have e : kdAt T N k = kindV (T (nI k)) := if_pos hk
  rw [if_neg (fun q => by omega), e, if_pos (pos_of (kindV_rng _).1 hd)]
theorem r2_eq {T : St} {N k : Nat} {rd : St} (hk : k < N) : bindT (if rd 1 = 5 then badT 3 k else (true, k, 0)) (takT T N (nxT T N (if rd 1 = 5 then badT 3 k else (true, k, 0)))) = bindT (if rd 1 = 5 then badT 3 k else (true, k, 0)) (takT T N (T (nI k))) := by
  by_cases h : rd 1 = 5
  · rw [if_pos h]
    rfl
  · rw [if_neg h, show nxT T N (true, k, 0) = T (nI k) from if_pos ⟨rfl, hk⟩]
theorem fish_st {T : St} {N F k : Nat} {F0 r : Int32} {g : St} {rd : St} {RES : PR} (r1 : 0 ≤ rd 1) (n0 : ¬ rd 0 = 0) (hk : k < N) (hz : rd 1 = 0 → 0 < kdAt T N k) (hit : itm T N (F + 1) k rd = RES)
    (v : (bindT (bindT (if kindV (T (nI k)) = 0 then badT 1 k else if rd 1 = 5 then badT 3 k else (true, k, 0)) (takT T N (nxT T N (if kindV (T (nI k)) = 0 then badT 1 k else if rd 1 = 5 then badT 3 k else (true, k, 0))))) (numT T N 0 (rd 0 - 1))).1 = true → r = nv T (bindT (if kindV (T (nI k)) = 0 then badT 1 k else if rd 1 = 5 then badT 3 k else (true, k, 0)) (takT T N (nxT T N (if kindV (T (nI k)) = 0 then badT 1 k else if rd 1 = 5 then badT 3 k else (true, k, 0))))).2.1 (re T N (bindT (if kindV (T (nI k)) = 0 then badT 1 k else if rd 1 = 5 then badT 3 k else (true, k, 0)) (takT T N (nxT T N (if kindV (T (nI k)) = 0 then badT 1 k else if rd 1 = 5 then badT 3 k else (true, k, 0))))).2.1))
    (hC : CS N F0 g (bindT (bindT (bindT (if kindV (T (nI k)) = 0 then badT 1 k else if rd 1 = 5 then badT 3 k else (true, k, 0)) (takT T N (nxT T N (if kindV (T (nI k)) = 0 then badT 1 k else if rd 1 = 5 then badT 3 k else (true, k, 0))))) (numT T N 0 (rd 0 - 1))) (takT T N 59))) :
    (¬ g 4 = -1000000 → CS N F0 g (P3 RES) ∧ RES.1 = false) ∧ (g 4 = -1000000 → ¬ kindV (T (nI k)) = 0 ∧ (fishP T N (kindV (T (nI k))) k rd).1 = true ∧ CS N F0 g (true, (fishP T N (kindV (T (nI k))) k rd).2.1, 0) ∧ ¬ rd 1 = 5 ∧ (fishP T N (kindV (T (nI k))) k rd).2.2.2 = upI (upI (upI rd (26 + rd 1) (kindV (T (nI k)))) 1 (rd 1 + 1)) (31 + rd 1) r ∧ itm T N F (fishP T N (kindV (T (nI k))) k rd).2.1 (fishP T N (kindV (T (nI k))) k rd).2.2.2 = RES) := by
  by_cases hd : kindV (T (nI k)) = 0
  · have h1 : ¬ rd 1 = 0 := fun e => by
      have := hz e
      unfold kdAt at this
      rw [if_pos hk, hd] at this
      exact absurd this (by decide)
    simp only [if_pos hd] at hC
    have hC2 : CS N F0 g (badT 1 k) := hC
    have er : P3 RES = (false, k, 1) := by
      rw [← hit]
      show P3 (if k = N ∧ ¬ rd 1 = 0 then (true, k, 0, rd) else if 0 < kdAt T N k then bindP (fishP T N (kdAt T N k) k rd) (itm T N F) else if k < N ∧ T (nI k) = 98 then bindP (bookP T N k rd) (itm T N F) else (false, k, 1, rd)) = _
      have e : kdAt T N k = 0 := by unfold kdAt; rw [if_pos hk, hd]
      rw [if_neg (fun q => by omega), e, if_neg (by decide)]
      by_cases hb : k < N ∧ T (nI k) = 98
      · rw [if_pos hb]
        unfold bookP
        rw [if_pos (pos_of r1 h1)]
        rfl
      · rw [if_neg hb]
        rfl
    have rf : RES.1 = false := congrArg (fun z : PT => z.1) er
    refine ⟨fun _ => ⟨by rw [er]; exact hC2, rf⟩, fun e => absurd ((cs_fine hC2).mp e) (show ¬ false = true by decide)⟩
  · simp only [if_neg hd] at hC v
    rw [r2_eq hk] at hC v
    have e := fish_P3 (T := T) (kd := kindV (T (nI k))) n0 hk
    have hC2 : CS N F0 g (P3 (fishP T N (kindV (T (nI k))) k rd)) := by rw [e]; exact hC
    rw [itm_k hk hd] at hit
    refine ⟨fun q => ?_, fun q => ?_⟩
    · have nf : (fishP T N (kindV (T (nI k))) k rd).1 = false := by
        cases hh : (fishP T N (kindV (T (nI k))) k rd).1 with
        | false => rfl
        | true => exact absurd ((cs_fine hC2).mpr hh) q
      have er : fishP T N (kindV (T (nI k))) k rd = RES := by
        rw [← hit]
        unfold bindP
        rw [if_neg (by rw [nf]; decide)]
      rw [er] at hC2 nf
      exact ⟨hC2, nf⟩
    · have ok : (fishP T N (kindV (T (nI k))) k rd).1 = true := (cs_fine hC2).mp q
      have br := fish_rd ok hk v
      refine ⟨hd, ok, cs_tr hC2 ok, br.1, br.2, ?_⟩
      rw [← hit]
      unfold bindP
      rw [if_pos ok]
def riQ (σ τ : Sg) (d : Nat) (r : Int32) (L : PR) : Prop := (L.1 = true → r = -1000000 ∧ τ 2 0 2 = σ 2 0 2 ∧ LibF (τ d) L.2.2.2) ∧ (L.1 = false → r = nI L.2.1 ∧ τ 2 0 2 = L.2.2.1) ∧ τ 2 0 1 = 0 ∧ L.2.1 ≤ 120 ∧ frT σ τ d
theorem ri_cs {σ : Sg} {d N : Nat} {F0 : Int32} {g : St} (hd2 : d ≠ 2) (hN : N ≤ 120) (h1 : σ 2 0 1 = nI N) (hF : σ 2 0 2 = F0) : CS N F0 ((up (up (up σ 2 0 (upI (σ 2 0) 3 0)) 2 0 (upI ((up σ 2 0 (upI (σ 2 0) 3 0)) 2 0) 4 (-1000000))) d 0 g) 2 0) R0T := by
  rw [up_ne _ _ (fun e => hd2 e.1.symm), up_same, up_same]
  refine ⟨⟨hN, ?_, Nat.zero_le _⟩, fun _ => ⟨?_, ?_, ?_⟩, fun e => absurd e (show ¬ true = false by decide)⟩
  · rw [upI_ne _ _ (by decide), upI_ne _ _ (by decide)]; exact h1
  · exact upI_same _ _ _
  · rw [upI_ne _ _ (by decide), upI_same]; rfl
  · rw [upI_ne _ _ (by decide), upI_ne _ _ (by decide)]; exact hF
theorem ri_z (Y : Sg) (d : Nat) : LibF ((up Y d 0 (upI (upI (upI (upI (upI (upI (upI (upI (Y d 0) 0 0) 1 0) 2 0) 3 0) 4 0) 5 0) 6 0) 7 0)) d) (fun _ => 0) := by
  rw [up_at]
  refine ⟨by simp [setF, upI], fun b b0 b1 => absurd (Int32.lt_of_le_of_lt b0 b1) (show ¬ (0 : Int32) < 0 by decide), fun b b0 b1 => absurd (Int32.lt_of_le_of_lt b0 b1) (show ¬ (0 : Int32) < 0 by decide)⟩
theorem law_z {T : St} {N : Nat} (h : (lawP T N).1 = true) : (lawP T N).2.2.2 0 = 0 := by
  rw [law_rd h (fun _ => rfl) (fun _ => rfl), upI_ne _ _ (by decide), upI_ne _ _ (by decide)]
theorem ri_I {T : St} {N : Nat} {F0 : Int32} {g : St} {F : Nat → St} (hC : CS N F0 g (P3 (lawP T N))) (hl : (lawP T N).1 = true → LibF F (lawP T N).2.2.2) : bInv T N F0 g F (libP T N) (fun _ rd => rd 0 = 0 ∧ rd 1 = 0) := by
  cases hh : (lawP T N).1 with
  | true =>
    left
    refine ⟨(lawP T N).2.1, (lawP T N).2.2.2, N + 1, cs_tr hC hh, hl hh, (law_ok hh).1, ?_, by omega, law_z hh, (law_ok hh).2⟩
    unfold libP bindP
    rw [if_pos hh]
  | false =>
    right
    have e : libP T N = lawP T N := by
      unfold libP bindP
      rw [if_neg (by rw [hh]; decide)]
    rw [e]
    exact ⟨hC, hh⟩
theorem ri_fin {σ a b c : Sg} {N d : Nat} {g1 g2 g3 : St} {T : St} (hd2 : d ≠ 2) (cC : CS N (σ 2 0 2) (c 2 0) (P3 (libP T N))) (l : (libP T N).1 = true → LibF (c d) (libP T N).2.2.2) (f1 : frT (up (up (up σ 2 0 g1) 2 0 g2) d 0 g3) a d) (f2 : frT a b d) (f3 : frT b c d) : riQ σ (up c 2 0 (upI (c 2 0) 1 0)) d ((up c 2 0 (upI (c 2 0) 1 0)) 2 0 4) (libP T N) := by
  have e : (up c 2 0 (upI (c 2 0) 1 0)) d = c d := funext (fun k => up_ne _ _ (fun q => hd2 q.1))
  refine ⟨fun h => ⟨?_, ?_, ?_⟩, fun h => ⟨?_, ?_⟩, ?_, Nat.le_trans cC.1.2.2 cC.1.1, ?_⟩
  · rw [up_same, upI_ne _ _ (by decide)]; exact (cC.2.1 h).1
  · rw [up_same, upI_ne _ _ (by decide)]; exact (cC.2.1 h).2.2
  · rw [e]; exact l h
  · rw [up_same, upI_ne _ _ (by decide)]; exact (cC.2.2 h).1
  · rw [up_same, upI_ne _ _ (by decide)]; exact (cC.2.2 h).2
  · rw [up_same, upI_same]
  · intro x k hx hk
    rw [up_ne _ _ hk, f3 x k hx hk, f2 x k hx hk, f1 x k hx hk, up_ne _ _ (fun q => hx q.1), up_ne _ _ hk, up_ne _ _ hk]
set_option maxRecDepth 100000 in
theorem c_X5_readFish {l : Launch} {G : Gw} {σ : Sg} {d : Nat} (hd : isLib d) {N : Nat} {F0 : Int32} {T : St} {RES : PR} (hT : σ 2 1 = T) (hb : ∀ k, k < N → 0 ≤ T (nI k)) (hI : bInv T N F0 (σ 2 0) (σ d) RES (fun k rd => 0 < rd 0 ∧ rd 1 = 0 ∧ ¬ (k < N ∧ T (nI k) = 98))) : Mt l G yX5_readFish cX5_readFish 5 none 3 67 [.ref (ad G 2 0), .ref (ad G d 0)] σ (pV fun τ => CS N F0 (τ 2 0) (P3 RES) ∧ (RES.1 = true → LibF (τ d) RES.2.2.2) ∧ frT σ τ d) := by
  refine mt_intro (by decide +kernel) (Nat.le_of_ble_eq_true rfl) (fun Φ M => ?_)
  show Φ 0 [some (.ref (ad G 2 0)), some (.ref (ad G d 0)), none, none, none] [] σ
  have hd2 : d ≠ 2 := fun e => absurd hd.1 (by omega)
  have lpF : ∀ (τ : Sg) (j : Int32) (x y : Option Value), CS N F0 (τ 2 0) (P3 RES) → RES.1 = false → τ 2 1 = T → frT σ τ d → Φ 19 [some (.ref (ad G 2 0)), some (.ref (ad G d 0)), some (.int j), x, y] [] τ := by
    intro τ j x y hq hf ht hfr
    refine j_iload_n M dX5_readFish_19 rfl ?_
    refine j_bipush (v := 120) M dX5_readFish_20 rfl ?_
    refine j_icmp_ge (tgt := 112) M dX5_readFish_22 (by decide) (fun h_22 => ?_) (fun h_22 => ?_)
    · exact j_vret M dX5_readFish_112 ⟨rfl, by exact ⟨hq, fun e => absurd (e.symm.trans hf) (by decide), hfr⟩⟩
    · refine j_aload_n M dX5_readFish_25 rfl ?_
      refine j_inv0 M lk_X5_58 (c_X5_next (hq) (ht)) rv_X5 dX5_readFish_26 (Nat.le_of_ble_eq_true rfl) ⟨(Nat.le_of_ble_eq_true rfl), (Nat.le_of_ble_eq_true rfl)⟩ (kE ?_)
      rw [show nxT T N (P3 RES) = -1 from if_neg (fun q => absurd (q.1.symm.trans hf) (by decide))]
      refine j_iconst (v := (-1)) M dX5_readFish_29 rfl ?_
      refine j_icmp_eq (tgt := 112) M dX5_readFish_30 (by decide) (fun h_30 => ?_) (fun h_30 => ?_)
      · exact j_vret M dX5_readFish_112 ⟨rfl, by exact ⟨hq, fun e => absurd (e.symm.trans hf) (by decide), hfr⟩⟩
      · exact absurd rfl h_30
  have lp : ∀ (F k j : Nat) (rd : St) (τ : Sg) (x y : Option Value), j ≤ k → CS N F0 (τ 2 0) (true, k, 0) → τ 2 1 = T → LibF (τ d) rd → RI rd → 0 < rd 0 → (rd 1 = 0 → 0 < kdAt T N k) → itm T N F k rd = RES → N < F + k → frT σ τ d → Φ 19 [some (.ref (ad G 2 0)), some (.ref (ad G d 0)), some (.int (nI j)), x, y] [] τ := by
    intro F
    induction F with
    | zero =>
      intro k j rd τ x y hj hq ht hL hR h0 hz hit hF hfr
      have kN : k ≤ N := hq.1.2.2
      omega
    | succ F ih =>
      intro k j rd τ x y hj hq ht hL hR h0 hz hit hF hfr
      have kN : k ≤ N := hq.1.2.2
      have h120 : N ≤ 120 := hq.1.1
      have n0 : ¬ rd 0 = 0 := fun e => by rw [e] at h0; exact absurd h0 (by decide)
      have j65 : ∀ (υ : Sg) (y : Option Value), CS N F0 (υ 2 0) (if kindV (T (nI k)) = 0 then badT 1 k else if rd 1 = 5 then badT 3 k else (true, k, 0)) → υ 2 1 = T → LibF (υ d) rd → frT σ υ d → k < N → Φ 65 [some (.ref (ad G 2 0)), some (.ref (ad G d 0)), some (.int (nI j)), some (.int (kdC (T (nI k)))), y] [] υ := by
        intro υ y uC ut uL ufr hk
        refine j_aload_n M dX5_readFish_65 rfl ?_
        refine j_aload_n M dX5_readFish_66 rfl ?_
        refine j_inv0 M lk_X5_58 (c_X5_next (uC) (ut)) rv_X5 dX5_readFish_67 (Nat.le_of_ble_eq_true rfl) ⟨(Nat.le_of_ble_eq_true rfl), (Nat.le_of_ble_eq_true rfl)⟩ (kE ?_)
        refine j_inv1 M lk_X5_44 (c_X5_pass (uC) (ut) (hb)) rv_X5 dX5_readFish_70 (Nat.le_of_ble_eq_true rfl) ⟨(Nat.le_of_ble_eq_true rfl), (Nat.le_of_ble_eq_true rfl)⟩ (kV fun σ_70 q_70 => ?_)
        obtain ⟨c70, f70⟩ := q_70
        have t70 : σ_70 2 1 = T := (f70 2 1 (by decide)).trans ut
        refine j_aload_n M dX5_readFish_73 rfl ?_
        refine j_iconst (v := 0) M dX5_readFish_74 rfl ?_
        refine j_aload_n M dX5_readFish_75 rfl ?_
        refine gf_X5_65 M hd dX5_readFish_76 ?_
        rw [fr_d f70 hd2, uL.1.1]
        refine j_iconst (v := 1) M dX5_readFish_79 rfl ?_
        refine j_isub M dX5_readFish_80 ?_
        refine j_inv2 M lk_X5_48 (c_X5_number (c70) (t70)) rv_X5 dX5_readFish_81 (Nat.le_of_ble_eq_true rfl) ⟨(Nat.le_of_ble_eq_true rfl), (Nat.le_of_ble_eq_true rfl)⟩ (kI fun r_81 σ_81 q_81 => ?_)
        obtain ⟨c81, v81, f81⟩ := q_81
        have t81 : σ_81 2 1 = T := (f81 2 1 (by decide)).trans t70
        refine j_istore_4 M dX5_readFish_84 (by exact (by first | trivial | rfl)) ?_
        refine j_aload_n M dX5_readFish_86 rfl ?_
        refine j_bipush (v := 59) M dX5_readFish_87 rfl ?_
        refine j_inv1 M lk_X5_44 (c_X5_pass (c81) (t81) (hb)) rv_X5 dX5_readFish_89 (Nat.le_of_ble_eq_true rfl) ⟨(Nat.le_of_ble_eq_true rfl), (Nat.le_of_ble_eq_true rfl)⟩ (kV fun σ_89 q_89 => ?_)
        obtain ⟨c89, f89⟩ := q_89
        have t89 : σ_89 2 1 = T := (f89 2 1 (by decide)).trans t81
        have eL : LibF (σ_89 d) rd := by rw [fr_d f89 hd2, fr_d f81 hd2, fr_d f70 hd2]; exact uL
        have ef : frT σ σ_89 d := frT_t ufr (frT_t (frT_2 f70) (frT_t (frT_2 f81) (frT_2 f89)))
        have st := fish_st hR.1.2.1.1 n0 hk hz hit v81 c89
        refine j_aload_n M dX5_readFish_92 rfl ?_
        refine j_inv0 M lk_X5_68 (c_X5_isFine) rv_X5 dX5_readFish_93 (Nat.le_of_ble_eq_true rfl) ⟨(Nat.le_of_ble_eq_true rfl), (Nat.le_of_ble_eq_true rfl)⟩ (kP fun r_93 k_93 => ?_)
        refine j_if_eq (tgt := 106) M dX5_readFish_96 (by decide) (fun h_96 => ?_) (fun h_96 => ?_)
        · have b_93 := ifF k_93 h_96
          refine j_iinc_2 M dX5_readFish_106 (show _ + Int32.ofInt 1 = _ + 1 from rfl) (by exact (by first | trivial | rfl)) ?_
          refine j_goto (tgt := 19) M dX5_readFish_109 (by decide) ?_
          obtain ⟨a1, a2⟩ := st.1 b_93
          exact lpF σ_89 _ _ _ a1 a2 t89 ef
        · have b_93 := ifT k_93 h_96
          refine j_aload_n M dX5_readFish_99 rfl ?_
          refine j_iload_n M dX5_readFish_100 rfl ?_
          refine j_iload M dX5_readFish_101 rfl ?_
          refine j_inv2 M lk_X5_83 (c_X3_addFish hd) (rv_X3 hd) dX5_readFish_103 (Nat.le_of_ble_eq_true rfl) ⟨(Nat.le_of_ble_eq_true rfl), (Nat.le_of_ble_eq_true rfl)⟩ (kV fun σ_103 q_103 => ?_)
          refine j_iinc_2 M dX5_readFish_106 (show _ + Int32.ofInt 1 = _ + 1 from rfl) (by exact (by first | trivial | rfl)) ?_
          refine j_goto (tgt := 19) M dX5_readFish_109 (by decide) ?_
          obtain ⟨k0, ok, ce, f5, er, it2⟩ := st.2 b_93
          have kr := kindV_rng (T (nI k))
          have fo := fish_ok hR (kd1 kr.1 k0) kr.2 ok
          rw [er] at fo it2
          have b5 := lt_incG hR.1.2.1.1 hR.1.2.1.2 f5
          rw [eL.1.2.1, if_neg (fun q => q.elim (fun a => absurd hR.1.2.1.1 (Int32.not_le.mpr a)) (fun a => a b5.1))] at q_103
          have gl : LibF (σ_103 d) (upI (upI (upI rd (26 + rd 1) (kindV (T (nI k)))) 1 (rd 1 + 1)) (31 + rd 1) r_81) := by
            have a := add_fish eL hR f5 (kd := kindV (T (nI k))) (p := r_81)
            rw [eL.1.2.1] at a
            rw [q_103, up_at, up_at, up_at, up_at, show kdC (T (nI k)) = kindV (T (nI k)) from if_neg k0]
            exact a
          have e2 : ∀ q, σ_103 2 q = σ_89 2 q := fun q => by
            rw [q_103, up_ne _ _ (fun e => hd2 e.1.symm), up_ne _ _ (fun e => hd2 e.1.symm), up_ne _ _ (fun e => hd2 e.1.symm), up_ne _ _ (fun e => hd2 e.1.symm)]
          have q := ih (fishP T N (kindV (T (nI k))) k rd).2.1 (j + 1) _ σ_103 (some (.int (kdC (T (nI k))))) (some (.int r_81)) (by omega) (by rw [e2]; exact ce) (by rw [e2]; exact t89) gl fo.2.1 (fo.2.1.2.2.2.2 fo.2.2) (fun e => absurd fo.2.2 (by rw [e]; decide)) it2 (by omega) (by rw [q_103]; exact frT_u (frT_u (frT_u (frT_u ef))))
          rw [nI_succ] at q
          exact q
      have j52 : ∀ (υ : Sg) (y : Option Value), CS N F0 (υ 2 0) (if kindV (T (nI k)) = 0 then badT 1 k else (true, k, 0)) → υ 2 1 = T → LibF (υ d) rd → frT σ υ d → k < N → Φ 52 [some (.ref (ad G 2 0)), some (.ref (ad G d 0)), some (.int (nI j)), some (.int (kdC (T (nI k)))), y] [] υ := by
        intro υ y uC ut uL ufr hk
        refine j_aload_n M dX5_readFish_52 rfl ?_
        refine gf_X5_80 M hd dX5_readFish_53 ?_
        rw [uL.1.2.1]
        refine j_iconst (v := 5) M dX5_readFish_56 rfl ?_
        refine j_icmp_lt (tgt := 65) M dX5_readFish_57 (by decide) (fun h_57 => ?_) (fun h_57 => ?_)
        · exact j65 υ y (by rw [if_neg (fun e => by rw [e] at h_57; exact absurd h_57 (by decide) : ¬ rd 1 = 5)]; exact uC) ut uL ufr hk
        · refine j_aload_n M dX5_readFish_60 rfl ?_
          refine j_iconst (v := 3) M dX5_readFish_61 rfl ?_
          refine j_inv1 M lk_X5_62 (c_X5_fail (uC)) rv_X5 dX5_readFish_62 (Nat.le_of_ble_eq_true rfl) ⟨(Nat.le_of_ble_eq_true rfl), (Nat.le_of_ble_eq_true rfl)⟩ (kV fun σ_62 q_62 => ?_)
          obtain ⟨c62, f62⟩ := q_62
          have t62 : σ_62 2 1 = T := (f62 2 1 (by decide)).trans ut
          exact j65 σ_62 y (by rw [if_pos (five hR.1.2.1.2 h_57), ← bad_if]; exact c62) t62 (by rw [fr_d f62 hd2]; exact uL) (frT_t ufr (frT_2 f62)) hk
      refine j_iload_n M dX5_readFish_19 rfl ?_
      refine j_bipush (v := 120) M dX5_readFish_20 rfl ?_
      refine j_icmp_ge (tgt := 112) M dX5_readFish_22 (by decide) (fun h_22 => ?_) (fun h_22 => ?_)
      · exact j_vret M dX5_readFish_112 ⟨rfl, by have kn : k = N := (by have q : ¬ j < 120 := fun q => h_22 ((nI_ltI (b := 120) (by omega) (by decide)).mpr q); omega); subst kn; have r1 : ¬ rd 1 = 0 := (fun e => by have := hz e; unfold kdAt at this; rw [if_neg (Nat.lt_irrefl _)] at this; exact absurd this (by decide)); have er := itm_e (T := T) (N := k) (F := F) r1; rw [hit] at er; show CS k F0 (τ 2 0) (P3 RES) ∧ (RES.1 = true → LibF (τ d) RES.2.2.2) ∧ frT σ τ d; rw [er]; exact ⟨hq, fun _ => hL, hfr⟩⟩
      · refine j_aload_n M dX5_readFish_25 rfl ?_
        refine j_inv0 M lk_X5_58 (c_X5_next (hq) (ht)) rv_X5 dX5_readFish_26 (Nat.le_of_ble_eq_true rfl) ⟨(Nat.le_of_ble_eq_true rfl), (Nat.le_of_ble_eq_true rfl)⟩ (kE ?_)
        refine j_iconst (v := (-1)) M dX5_readFish_29 rfl ?_
        refine j_icmp_eq (tgt := 112) M dX5_readFish_30 (by decide) (fun h_30 => ?_) (fun h_30 => ?_)
        · exact j_vret M dX5_readFish_112 ⟨rfl, by have kn : k = N := (by have q : ¬ k < N := nx_e hb h_30; omega); subst kn; have r1 : ¬ rd 1 = 0 := (fun e => by have := hz e; unfold kdAt at this; rw [if_neg (Nat.lt_irrefl _)] at this; exact absurd this (by decide)); have er := itm_e (T := T) (N := k) (F := F) r1; rw [hit] at er; show CS k F0 (τ 2 0) (P3 RES) ∧ (RES.1 = true → LibF (τ d) RES.2.2.2) ∧ frT σ τ d; rw [er]; exact ⟨hq, fun _ => hL, hfr⟩⟩
        · have hk : k < N := nx_n h_30
          refine j_aload_n M dX5_readFish_33 rfl ?_
          refine j_inv0 M lk_X5_58 (c_X5_next (hq) (ht)) rv_X5 dX5_readFish_34 (Nat.le_of_ble_eq_true rfl) ⟨(Nat.le_of_ble_eq_true rfl), (Nat.le_of_ble_eq_true rfl)⟩ (kE ?_)
          rw [show nxT T N (true, k, 0) = T (nI k) from if_pos ⟨rfl, hk⟩]
          refine j_invs1 M lk_X5_76 (c_X5_kindOfSort) dX5_readFish_37 (Nat.le_of_ble_eq_true rfl) ⟨(Nat.le_of_ble_eq_true rfl), (Nat.le_of_ble_eq_true rfl)⟩ (kE ?_)
          refine j_istore_3 M dX5_readFish_40 (by exact (by first | trivial | rfl)) ?_
          refine j_iload_n M dX5_readFish_41 rfl ?_
          refine j_ldc M k_X5_25 dX5_readFish_42 ?_
          refine j_icmp_ne (tgt := 52) M dX5_readFish_44 (by decide) (fun h_44 => ?_) (fun h_44 => ?_)
          · exact j52 τ _ (by rw [if_neg (fun e => h_44 (kdC_no.mpr e))]; exact hq) ht hL hfr hk
          · refine j_aload_n M dX5_readFish_47 rfl ?_
            refine j_iconst (v := 1) M dX5_readFish_48 rfl ?_
            refine j_inv1 M lk_X5_62 (c_X5_fail (hq)) rv_X5 dX5_readFish_49 (Nat.le_of_ble_eq_true rfl) ⟨(Nat.le_of_ble_eq_true rfl), (Nat.le_of_ble_eq_true rfl)⟩ (kV fun σ_49 q_49 => ?_)
            obtain ⟨c49, f49⟩ := q_49
            have t49 : σ_49 2 1 = T := (f49 2 1 (by decide)).trans ht
            exact j52 σ_49 _ (by rw [if_pos (kdC_no.mp h_44)]; exact c49) t49 (by rw [fr_d f49 hd2]; exact hL) (frT_t hfr (frT_2 f49)) hk
  rcases hI with ⟨k, rd, F, hq, hL, hR, hit, hF, z0, z1, z2⟩ | ⟨hq, hf⟩
  · have kN : k ≤ N := hq.1.2.2
    refine j_aload_n M dX5_readFish_0 rfl ?_
    refine j_inv0 M lk_X5_58 (c_X5_next (hq) (hT)) rv_X5 dX5_readFish_1 (Nat.le_of_ble_eq_true rfl) ⟨(Nat.le_of_ble_eq_true rfl), (Nat.le_of_ble_eq_true rfl)⟩ (kE ?_)
    refine j_invs1 M lk_X5_76 (c_X5_kindOfSort) dX5_readFish_4 (Nat.le_of_ble_eq_true rfl) ⟨(Nat.le_of_ble_eq_true rfl), (Nat.le_of_ble_eq_true rfl)⟩ (kE ?_)
    refine j_ldc M k_X5_25 dX5_readFish_7 ?_
    refine j_icmp_ne (tgt := 17) M dX5_readFish_9 (by decide) (fun h_9 => ?_) (fun h_9 => ?_)
    · refine j_iconst (v := 0) M dX5_readFish_17 rfl ?_
      refine j_istore_2 M dX5_readFish_18 (by exact (by first | trivial | rfl)) ?_
      exact lp F k 0 rd σ none none (by omega) hq hT hL hR z0 (fun _ => nx_kd h_9) hit hF (frT_r _ _)
    · refine j_aload_n M dX5_readFish_12 rfl ?_
      refine j_iconst (v := 1) M dX5_readFish_13 rfl ?_
      refine j_inv1 M lk_X5_62 (c_X5_fail (hq)) rv_X5 dX5_readFish_14 (Nat.le_of_ble_eq_true rfl) ⟨(Nat.le_of_ble_eq_true rfl), (Nat.le_of_ble_eq_true rfl)⟩ (kV fun σ_14 q_14 => ?_)
      obtain ⟨c14, f14⟩ := q_14
      have t14 : σ_14 2 1 = T := (f14 2 1 (by decide)).trans hT
      refine j_iconst (v := 0) M dX5_readFish_17 rfl ?_
      refine j_istore_2 M dX5_readFish_18 (by exact (by first | trivial | rfl)) ?_
      have er := itm_f0 (T := T) (N := N) (k := k) z1 z2 (fun q => kd_nx q h_9) (show 0 < F by omega)
      rw [hit] at er
      exact lpF σ_14 0 none none (by rw [er]; exact c14) (by rw [er]) t14 (frT_2 f14)
  · have nn : nxT T N (P3 RES) = -1 := if_neg (fun q => absurd (q.1.symm.trans hf) (by decide))
    refine j_aload_n M dX5_readFish_0 rfl ?_
    refine j_inv0 M lk_X5_58 (c_X5_next (hq) (hT)) rv_X5 dX5_readFish_1 (Nat.le_of_ble_eq_true rfl) ⟨(Nat.le_of_ble_eq_true rfl), (Nat.le_of_ble_eq_true rfl)⟩ (kE ?_)
    rw [nn]
    refine j_invs1 M lk_X5_76 (c_X5_kindOfSort) dX5_readFish_4 (Nat.le_of_ble_eq_true rfl) ⟨(Nat.le_of_ble_eq_true rfl), (Nat.le_of_ble_eq_true rfl)⟩ (kE ?_)
    refine j_ldc M k_X5_25 dX5_readFish_7 ?_
    refine j_icmp_ne (tgt := 17) M dX5_readFish_9 (by decide) (fun h_9 => ?_) (fun h_9 => ?_)
    · exact absurd (by decide) h_9
    · refine j_aload_n M dX5_readFish_12 rfl ?_
      refine j_iconst (v := 1) M dX5_readFish_13 rfl ?_
      refine j_inv1 M lk_X5_62 (c_X5_fail (hq)) rv_X5 dX5_readFish_14 (Nat.le_of_ble_eq_true rfl) ⟨(Nat.le_of_ble_eq_true rfl), (Nat.le_of_ble_eq_true rfl)⟩ (kV fun σ_14 q_14 => ?_)
      obtain ⟨c14, f14⟩ := q_14
      have t14 : σ_14 2 1 = T := (f14 2 1 (by decide)).trans hT
      refine j_iconst (v := 0) M dX5_readFish_17 rfl ?_
      refine j_istore_2 M dX5_readFish_18 (by exact (by first | trivial | rfl)) ?_
      rw [bindT_f (R := P3 RES) hf] at c14
      exact lpF σ_14 0 none none c14 hf t14 (frT_2 f14)
set_option maxRecDepth 100000 in
theorem c_X5_readInto {l : Launch} {G : Gw} {σ : Sg} {d : Nat} (hd : isLib d) {N : Nat} {T : St} (hN : N ≤ 120) (h1 : σ 2 0 1 = nI N) (hT : σ 2 1 = T) (hb : ∀ k, k < N → 0 ≤ T (nI k)) : Mt l G yX5_readInto cX5_readInto 2 (some .int) 4 91 [.ref (ad G 2 0), .ref (ad G d 0)] σ (pI fun r τ => riQ σ τ d r (libP T N)) := by
  refine mt_intro (by decide +kernel) (Nat.le_of_ble_eq_true rfl) (fun Φ M => ?_)
  show Φ 0 [some (.ref (ad G 2 0)), some (.ref (ad G d 0))] [] σ
  have hd2 : d ≠ 2 := fun e => absurd hd.1 (by omega)
  have h20 : ¬ (2 = d ∧ 0 = 0) := fun e => hd2 e.1.symm
  have h21 : ¬ (2 = d ∧ 1 = 0) := fun e => hd2 e.1.symm
  refine j_aload_n M dX5_readInto_0 rfl ?_
  refine j_iconst (v := 0) M dX5_readInto_1 rfl ?_
  refine pf_X5_22 M dX5_readInto_2 ?_
  refine j_aload_n M dX5_readInto_5 rfl ?_
  refine j_ldc M k_X5_25 dX5_readInto_6 ?_
  refine pf_X5_26 M dX5_readInto_8 ?_
  refine j_aload_n M dX5_readInto_11 rfl ?_
  refine j_inv0 M lk_X5_29 (c_X3_clear hd) (rv_X3 hd) dX5_readInto_12 (Nat.le_of_ble_eq_true rfl) ⟨(Nat.le_of_ble_eq_true rfl), (Nat.le_of_ble_eq_true rfl)⟩ (kV fun σ_12 q_12 => ?_)
  subst q_12
  refine j_aload_n M dX5_readInto_15 rfl ?_
  refine j_aload_n M dX5_readInto_16 rfl ?_
  refine j_inv1 M lk_X5_34 (c_X5_readLaw hd ((ri_cs hd2 hN h1 rfl)) ((by rw [up_ne _ _ h21, up_ne _ _ (by decide), up_ne _ _ (by decide)]; exact hT)) (hb) ((ri_z _ _))) rv_X5 dX5_readInto_17 (Nat.le_of_ble_eq_true rfl) ⟨(Nat.le_of_ble_eq_true rfl), (Nat.le_of_ble_eq_true rfl)⟩ (kV fun σ_17 q_17 => ?_)
  obtain ⟨c17, l17, f17⟩ := q_17
  have t17 : σ_17 2 1 = T := by rw [f17 2 1 (Ne.symm hd2) (by decide), up_ne _ _ h21, up_ne _ _ (by decide), up_ne _ _ (by decide)]; exact hT
  refine j_aload_n M dX5_readInto_20 rfl ?_
  refine j_aload_n M dX5_readInto_21 rfl ?_
  refine j_inv1 M lk_X5_38 (c_X5_readBooks hd (t17) (hb) ((ri_I c17 l17))) rv_X5 dX5_readInto_22 (Nat.le_of_ble_eq_true rfl) ⟨(Nat.le_of_ble_eq_true rfl), (Nat.le_of_ble_eq_true rfl)⟩ (kV fun σ_22 q_22 => ?_)
  obtain ⟨c22, f22⟩ := q_22
  have t22 : σ_22 2 1 = T := (f22 2 1 (Ne.symm hd2) (by decide)).trans t17
  refine j_aload_n M dX5_readInto_25 rfl ?_
  refine j_aload_n M dX5_readInto_26 rfl ?_
  refine j_inv1 M lk_X5_41 (c_X5_readFish hd (t22) (hb) (c22)) rv_X5 dX5_readInto_27 (Nat.le_of_ble_eq_true rfl) ⟨(Nat.le_of_ble_eq_true rfl), (Nat.le_of_ble_eq_true rfl)⟩ (kV fun σ_27 q_27 => ?_)
  obtain ⟨c27, l27, f27⟩ := q_27
  refine j_aload_n M dX5_readInto_30 rfl ?_
  refine j_iconst (v := 0) M dX5_readInto_31 rfl ?_
  refine pf_X5_15 M dX5_readInto_32 ?_
  refine j_aload_n M dX5_readInto_35 rfl ?_
  refine gf_X5_26 M dX5_readInto_36 ?_
  exact j_iret M dX5_readInto_39 ⟨_, rfl, by (try dsimp only); exact ri_fin hd2 c27 l27 f17 f22 f27⟩
