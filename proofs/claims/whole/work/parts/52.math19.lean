theorem fish_ok {T : St} {N k : Nat} {rd : St} {kd : Int32} (hR : RI rd) (k1 : 1 ≤ kd) (k5 : kd ≤ 5) (h : (fishP T N kd k rd).1 = true) : k < (fishP T N kd k rd).2.1 ∧ RI (fishP T N kd k rd).2.2.2 ∧ 0 < (fishP T N kd k rd).2.2.2 1 := by
  unfold fishP at h ⊢
  by_cases h1 : rd 0 = 0
  · rw [if_pos h1] at h; exact absurd h (by simp)
  · rw [if_neg h1] at h ⊢
    by_cases h2 : rd 1 = 5
    · rw [if_pos h2] at h; exact absurd h (by simp)
    · rw [if_neg h2] at h ⊢
      obtain ⟨v, e, l, u, g, q⟩ := num_ok h
      rw [q]
      show k < e ∧ RI (upI (upI (upI rd (26 + rd 1) kd) 1 (rd 1 + 1)) (31 + rd 1) v) ∧ 0 < upI (upI (upI rd (26 + rd 1) kd) 1 (rd 1 + 1)) (31 + rd 1) v 1
      obtain ⟨⟨r0, r1, r2, r3, r4⟩, rb, rf, ru, rz⟩ := hR
      have uv := le_pred l r0.1 u
      have z0 : 0 < rd 0 := Int32.lt_of_le_of_lt l uv
      have c := lt_incG r1.1 r1.2 h2
      generalize hfv : rd 1 = f at *
      have ff := inc_lt r1.1 c.1
      have l1 : upI (upI (upI rd (26 + f) kd) 1 (f + 1)) (31 + f) v 1 = f + 1 := by
        rw [upI_ne _ _ (show (1 : Int32) ≠ 31 + f from (ix_c 31 5 1 r1.1 c.1 (by omega) (by omega)).symm)]
        exact upI_same _ _ _
      have lo : ∀ j, j < 8 → j ≠ 1 → upI (upI (upI rd (26 + f) kd) 1 (f + 1)) (31 + f) v (nI j) = rd (nI j) := fun j j8 j1 => by
        rw [upI_ne _ _ (show nI j ≠ 31 + f from (ix_c 31 5 j r1.1 c.1 (by omega) (by omega)).symm), upI_ne _ _ (show nI j ≠ 1 from fun e => by have := (nI_eq (b := 1) (by omega) (by omega)).mp e; omega), upI_ne _ _ (show nI j ≠ 26 + f from (ix_c 26 5 j r1.1 c.1 (by omega) (by omega)).symm)]
      have mi : ∀ (A m : Nat) (x : Int32), 0 ≤ x → x < nI m → 8 ≤ A → (A + m ≤ 26 ∨ 36 ≤ A) → A + m < 1000 → upI (upI (upI rd (26 + f) kd) 1 (f + 1)) (31 + f) v (nI A + x) = rd (nI A + x) := fun A m x x0 x1 h8 hA hs => by
        rw [upI_ne _ _ (show nI A + x ≠ 31 + f from ix_ne A 31 m 5 x0 x1 r1.1 c.1 (by omega) (by omega)), upI_ne _ _ (show nI A + x ≠ 1 from ix_c A m 1 x0 x1 (by omega) (by omega)), upI_ne _ _ (show nI A + x ≠ 26 + f from ix_ne A 26 m 5 x0 x1 r1.1 c.1 (by omega) (by omega))]
      have l0 : upI (upI (upI rd (26 + f) kd) 1 (f + 1)) (31 + f) v 0 = rd 0 := lo 0 (by omega) (by omega)
      refine ⟨by omega, ⟨⟨by rw [l0]; exact r0, by rw [l1]; exact ⟨c.2.1, c.2.2⟩, ?_, ?_, ?_⟩, ?_, ?_, ?_, ?_⟩, by rw [l1]; exact Int32.lt_of_le_of_lt r1.1 ff.2.2⟩
      · have := lo 2 (by omega) (by omega); rw [show (2 : Int32) = nI 2 from rfl, this]; exact r2
      · have := lo 3 (by omega) (by omega); rw [show (3 : Int32) = nI 3 from rfl, this]; exact r3
      · exact ⟨(lo 4 (by omega) (by omega)).trans r4.1, (lo 5 (by omega) (by omega)).trans r4.2.1, (lo 6 (by omega) (by omega)).trans r4.2.2.1, (lo 7 (by omega) (by omega)).trans r4.2.2.2⟩
      · intro x x0 x1
        rw [l0] at x1
        have x6 : x < 6 := Int32.lt_of_lt_of_le x1 r0.2
        rw [show upI (upI (upI rd (26 + f) kd) 1 (f + 1)) (31 + f) v (8 + x) = rd (8 + x) from mi 8 6 x x0 x6 (by omega) (by omega) (by omega), show upI (upI (upI rd (26 + f) kd) 1 (f + 1)) (31 + f) v (14 + x) = rd (14 + x) from mi 14 6 x x0 x6 (by omega) (by omega) (by omega), show upI (upI (upI rd (26 + f) kd) 1 (f + 1)) (31 + f) v (20 + x) = rd (20 + x) from mi 20 6 x x0 x6 (by omega) (by omega) (by omega)]
        exact rb x x0 x1
      · intro x x0 x1
        rw [l1] at x1
        rw [l0]
        by_cases e : x = f
        · subst e
          refine ⟨?_, ?_⟩
          · rw [upI_ne _ _ (show (26 : Int32) + x ≠ 31 + x from ix_ne 26 31 5 5 x0 c.1 x0 c.1), upI_ne _ _ (show (26 : Int32) + x ≠ 1 from ix_c 26 5 1 x0 c.1), upI_same]
            exact ⟨k1, k5⟩
          · rw [upI_same]
            exact ⟨l, uv⟩
        · have xb : x < f := lt_of_inc r1.1 c.1 x1 e
          have x5 : x < 5 := Int32.lt_trans xb c.1
          have q := rf x x0 xb
          rw [upI_ne _ _ (show (26 : Int32) + x ≠ 31 + f from ix_ne 26 31 5 5 x0 x5 r1.1 c.1), upI_ne _ _ (show (26 : Int32) + x ≠ 1 from ix_c 26 5 1 x0 x5), upI_ne _ _ (show (26 : Int32) + x ≠ 26 + f from fun h => e (ix_in 26 (by omega) x0 (Int32.lt_trans x5 (by decide)) r1.1 (Int32.lt_trans c.1 (by decide)) h)),
            upI_ne _ _ (show (31 : Int32) + x ≠ 31 + f from fun h => e (ix_in 31 (by omega) x0 (Int32.lt_trans x5 (by decide)) r1.1 (Int32.lt_trans c.1 (by decide)) h)), upI_ne _ _ (show (31 : Int32) + x ≠ 1 from ix_c 31 5 1 x0 x5), upI_ne _ _ (show (31 : Int32) + x ≠ 26 + f from ix_ne 31 26 5 5 x0 x5 r1.1 c.1)]
          exact q
      · intro g g0 g1
        exact (mi 36 5 g g0 g1 (by omega) (by omega) (by omega)).trans (ru g g0 g1)
      · intro _
        rw [l0]
        exact z0
theorem law_ok {T : St} {N : Nat} (h : (lawP T N).1 = true) : RI (lawP T N).2.2.2 ∧ (lawP T N).2.2.2 1 = 0 := by
  unfold lawP at h ⊢
  obtain ⟨ha, hb⟩ := bind_ok h
  rw [hb] at h ⊢
  obtain ⟨hc, hd⟩ := bind_ok ha
  rw [hd] at ha h ⊢
  rw [tak_ok hc] at ha h ⊢
  obtain ⟨v1, e1, l1, u1, g1, q1⟩ := num_ok ha
  rw [q1] at h ⊢
  obtain ⟨v2, e2, l2, u2, g2, q2⟩ := num_ok h
  rw [q2]
  show RI (upI (upI (fun _ => 0) 2 v1) 3 v2) ∧ upI (upI (fun _ => 0) 2 v1) 3 v2 1 = 0
  refine ⟨⟨⟨⟨(show (0 : Int32) ≤ 0 by decide), (show (0 : Int32) ≤ 6 by decide)⟩, ⟨(show (0 : Int32) ≤ 0 by decide), (show (0 : Int32) ≤ 5 by decide)⟩, ⟨l1, u1⟩, ⟨l2, u2⟩, ⟨rfl, rfl, rfl, rfl⟩⟩, fun b b0 b1 => absurd (Int32.lt_of_le_of_lt b0 b1) (show ¬ (0 : Int32) < 0 by decide), fun b b0 b1 => absurd (Int32.lt_of_le_of_lt b0 b1) (show ¬ (0 : Int32) < 0 by decide), fun f f0 f1 => ?_, fun q => absurd q (show ¬ (0 : Int32) < 0 by decide)⟩, rfl⟩
  rw [upI_ne _ _ (show (36 : Int32) + f ≠ 3 from ix_c 36 5 3 f0 f1), upI_ne _ _ (show (36 : Int32) + f ≠ 2 from ix_c 36 5 2 f0 f1)]
theorem kd_rng {T : St} {N k : Nat} (h : 0 < kdAt T N k) : 1 ≤ kdAt T N k ∧ kdAt T N k ≤ 5 := by
  have := kdAt_rng T N k
  exact ⟨by generalize kdAt T N k = z at *; grind, this.2⟩
theorem itm_ok {T : St} {N : Nat} : ∀ (f k : Nat) (rd : St), RI rd → (itm T N f k rd).1 = true → RI (itm T N f k rd).2.2.2 ∧ 0 < (itm T N f k rd).2.2.2 1
  | 0, k, rd, _, h => absurd h (by simp [itm])
  | f + 1, k, rd, hR, h => by
    unfold itm at h ⊢
    by_cases h1 : k = N ∧ ¬ rd 1 = 0
    · rw [if_pos h1]
      refine ⟨hR, ?_⟩
      show 0 < rd 1
      have a := hR.1.2.1.1
      have b := h1.2
      generalize rd 1 = z at *
      grind
    · rw [if_neg h1] at h ⊢
      by_cases h2 : 0 < kdAt T N k
      · rw [if_pos h2] at h ⊢
        obtain ⟨ha, hb⟩ := bind_ok h
        rw [hb] at h ⊢
        exact itm_ok f _ _ (fish_ok hR (kd_rng h2).1 (kd_rng h2).2 ha).2.1 h
      · rw [if_neg h2] at h ⊢
        by_cases h3 : k < N ∧ T (nI k) = 98
        · rw [if_pos h3] at h ⊢
          obtain ⟨ha, hb⟩ := bind_ok h
          rw [hb] at h ⊢
          exact itm_ok f _ _ (book_ok hR ha).2 h
        · rw [if_neg h3] at h
          exact absurd h (by simp)
theorem RI_WF {rd : St} (h : RI rd) (h1 : 0 < rd 1) : WF rd := by
  obtain ⟨⟨r0, r1, r2, r3, r4⟩, rb, rf, ru, rz⟩ := h
  have z0 := rz h1
  have bk : ∀ b, 0 ≤ b → b < rd 0 → bkAt rd b = b := fun b b0 b1 => by
    obtain ⟨x, hx, rfl⟩ := nI_of (Int32.not_lt.mpr b0)
    have x6 := (nI_ltI (b := 6) hx (by decide)).mp (Int32.lt_of_lt_of_le b1 r0.2)
    refine bk_first x6 (fun y hy q => ?_) (rb _ b0 b1).2.2
    have yb : nI y < rd 0 := Int32.lt_trans ((nI_ltI (by omega) hx).mpr hy) b1
    rw [(rb (nI y) (nI_pos' (by omega)) yb).2.2] at q
    have := (nI_eq (by omega) (by omega)).mp q
    omega
  refine ⟨⟨⟨?_, r0.2⟩, r1, r2, r3, by rw [r4.2.1]; decide, by rw [r4.2.2.1]; decide, by rw [r4.2.2.2]; decide⟩, ?_, ?_, ?_⟩
  · generalize rd 0 = z at *
    grind
  · intro b b0 b1
    have q := rb b b0 b1
    rw [q.2.2]
    exact ⟨q.1, q.2.1, ⟨b0, b1⟩, bk b b0 b1⟩
  · intro p p0 p1
    rw [bk p p0 p1]
    exact ⟨p0, p1, (rb p p0 p1).2.2⟩
  · intro f f0 f1
    have q := rf f f0 f1
    refine ⟨q.1, q.2, ?_⟩
    rw [ru f f0 (Int32.lt_of_lt_of_le f1 r1.2)]
    decide
theorem lib_ok {T : St} {N : Nat} (h : (libP T N).1 = true) : WF (libP T N).2.2.2 ∧ RI (libP T N).2.2.2 := by
  unfold libP at h ⊢
  obtain ⟨ha, hb⟩ := bind_ok h
  rw [hb] at h ⊢
  have q := itm_ok _ _ _ (law_ok ha).1 h
  exact ⟨RI_WF q.1 q.2, q.1⟩
theorem res_fail {σ τ : Sg} {N k : Nat} {v : Int32} {rd : St} (h13 : τ 40 0 13 = nI k) (hrd : τ 40 7 = rd) (hf : fld4 σ τ) (hr : frm σ τ 40 [0, 7]) : resP σ (up τ 40 0 (upI (τ 40 0) 14 v)) N 0 (false, k, v, rd) := by
  refine ⟨by simp, fun e => absurd e (by simp), fun _ => ?_, ?_, fld4_up hf (by decide), frm_up hr (by decide)⟩
  · rw [up_same, upI_ne _ _ (by decide), upI_same]
    exact ⟨h13, rfl⟩
  · rw [up_ne _ _ (by decide)]
    exact hrd
theorem res_0 {σ τ : Sg} {N : Nat} {r : Int32} {R : PR} (h : resP σ τ N r R) (e : r = 0) : resP σ τ N 0 R ∧ R.1 = false := by
  subst e
  refine ⟨h, ?_⟩
  by_cases q : R.1 = true
  · have := h.1
    rw [if_pos q] at this
    exact absurd this (by decide)
  · exact Bool.not_eq_true _ |>.mp q
theorem res_1 {σ τ : Sg} {N : Nat} {r : Int32} {R : PR} (h : resP σ τ N r R) (e : ¬ r = 0) : resP σ τ N 1 R ∧ R.1 = true := by
  by_cases q : R.1 = true
  · have := h.1
    rw [if_pos q] at this
    subst this
    exact ⟨h, q⟩
  · have := h.1
    rw [if_neg q] at this
    exact absurd this e
theorem res_01 {σ τ : Sg} {N : Nat} {r : Int32} {R : PR} (h : resP σ τ N r R) : r = 0 ∨ r = 1 := by
  have := h.1
  split at this
  · exact Or.inr this
  · exact Or.inl this
theorem res_tr {σ υ τ : Sg} {N : Nat} {r : Int32} {R : PR} (h : resP υ τ N r R) (e6 : υ 40 6 = σ 40 6) (hf : fld4 σ υ) (hr : frm σ υ 40 [0, 7]) : resP σ τ N r R := by
  refine ⟨h.1, ?_, h.2.2.1, h.2.2.2.1, fld4_tr hf h.2.2.2.2.1, frm_trans hr h.2.2.2.2.2⟩
  rw [← e6]
  exact h.2.1
theorem bind_f {R : PR} {f : Nat → St → PR} (h : R.1 = false) : bindP R f = R := by
  unfold bindP
  rw [if_neg (by rw [h]; simp)]
theorem bind_t {R : PR} {f : Nat → St → PR} (h : R.1 = true) : bindP R f = f R.2.1 R.2.2.2 := by
  unfold bindP
  rw [if_pos h]
