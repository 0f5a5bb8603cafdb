theorem rows_eq {σ : Sg} (h : RR σ) : rowsL (σ 1 1) 8 = rowsC (σ 40 2) 8 := by
  unfold rowsL rowsC
  refine foldI_rel (f := fun r a => a + if σ 1 1 r = -1 then 0 else 1) (g := fun r a => a + (if σ 40 2 r < 0 then 0 else 1)) (a := (0 : Int32)) (b := (0 : Int32)) (n := 8) (fun _ x y => x = y) rfl ?_ 8 (by decide) (Int32.le_refl _)
  intro i i0 i1 x y hxy
  rw [hxy]
  rcases h.1 i i0 i1 with q | q
  · rw [if_pos q.1, if_pos (by rw [q.2]; decide)]
  · rw [if_neg q.1, if_neg (Int32.not_lt.mpr q.2.2.2.1)]
theorem firstQ_one {t w r r' : Int32} {s : St} (h : firstQ t s w r) (h' : firstQ t s w r') : r = r' := by
  unfold firstQ at h h'
  by_cases c1 : t = 0
  · rw [if_pos c1] at h h'
    exact h.trans h'.symm
  · rw [if_neg c1] at h h'
    by_cases c2 : inR 0 w 1
    · rw [if_pos c2] at h h'
      obtain ⟨a, a1, a2⟩ := h
      obtain ⟨b, b1, b2⟩ := h'
      rw [a2, b2, isFirst_one a1 b1]
    · rw [if_neg c2] at h h'
      exact h.trans h'.symm
theorem st_fault {σ τ υ : Sg}  {r r' : Int32} (hR : Rel σ) (q : τ = σ ∧ r = σ 2 0 2) (q' : υ = τ ∧ r' = τ 40 0 9) : r = r' ∧ Rel υ := by
  obtain ⟨e1, e2⟩ := q
  obtain ⟨e3, e4⟩ := q'
  subst e1
  subst e3
  rw [e2, e4]
  refine ⟨?_, hR⟩
  obtain ⟨N, _, _, _, _, _, e⟩ := hR.2.2.1
  exact e
theorem st_status {σ τ υ : Sg}  {r r' : Int32} (hR : Rel σ) (q : τ = σ ∧ r = σ 0 0 9) (q' : υ = τ ∧ r' = τ 40 0 3) : r = r' ∧ Rel υ := by
  obtain ⟨e1, e2⟩ := q
  obtain ⟨e3, e4⟩ := q'
  subst e1
  subst e3
  rw [e2, e4]
  refine ⟨?_, hR⟩
  exact hR.1
theorem st_trace {σ τ υ : Sg} {i : Int32} {r r' : Int32} (hR : Rel σ) (q : τ = σ ∧ r = if 0 ≤ i ∧ i < σ 4 0 1 ∧ i < 16 then σ 4 1 i else -1000000) (q' : υ = τ ∧ r' = if inR 0 i (τ 40 0 25 - 1) then τ 40 15 i else -1000000) : r = r' ∧ Rel υ := by
  obtain ⟨e1, e2⟩ := q
  obtain ⟨e3, e4⟩ := q'
  subst e1
  subst e3
  rw [e2, e4]
  refine ⟨?_, hR⟩
  obtain ⟨a, b, c⟩ := hR.2.2.2.2.2.2.2
  rw [b]
  by_cases h : 0 ≤ i ∧ i < υ 40 0 25
  · rw [if_pos ⟨h.1, h.2, Int32.lt_of_lt_of_le h.2 a.2⟩, if_pos ⟨h.1, le_pred' a.1 h.2 h.1⟩]
    exact c i h.1 h.2
  · rw [if_neg (fun z => h ⟨z.1, z.2.1⟩), if_neg (fun z => h ⟨z.1, le_pred z.1 a.1 z.2⟩)]
theorem st_kind {σ τ υ : Sg} {f : Int32} {r r' : Int32} (hR : Rel σ) (q : τ = σ ∧ r = if isF (σ 40 4) f then σ 40 4 (26 + f) else -1000001) (q' : υ = τ ∧ r' = if isF (τ 40 4) f then τ 40 4 (26 + f) else -1000001) : r = r' ∧ Rel υ := by
  obtain ⟨e1, e2⟩ := q
  obtain ⟨e3, e4⟩ := q'
  subst e1
  subst e3
  rw [e2, e4]
  refine ⟨?_, hR⟩
  rfl
theorem st_count {σ τ υ : Sg} {w : Int32} {r r' : Int32} (hR : Rel σ) (q : τ = σ ∧ r = cntX (rowsL (σ 1 1) 8) (σ 40 4) (σ 3 0 2) (σ 2 0 1) w) (q' : υ = τ ∧ r' = countR (τ 40 2) (τ 40 4) (τ 40 0 18) (τ 40 0 8) w) : r = r' ∧ Rel υ := by
  obtain ⟨e1, e2⟩ := q
  obtain ⟨e3, e4⟩ := q'
  subst e1
  subst e3
  rw [e2, e4]
  refine ⟨?_, hR⟩
  obtain ⟨N, n1, n2, n3, n4⟩ := hR.2.2.1
  rw [cntX_R, rows_eq hR.2.1, (AR_rng hR.A).2.2, n2, n3]
theorem st_book {σ τ υ : Sg} {b : Int32} {w : Int32} {r r' : Int32} (hR : Rel σ) (q : τ = σ ∧ r = bookR (σ 40 4) b w) (q' : υ = τ ∧ r' = bookR (τ 40 4) b w) : r = r' ∧ Rel υ := by
  obtain ⟨e1, e2⟩ := q
  obtain ⟨e3, e4⟩ := q'
  subst e1
  subst e3
  rw [e2, e4]
  refine ⟨?_, hR⟩
  rfl
theorem st_fish {σ τ υ : Sg} {f : Int32} {w : Int32} {r r' : Int32} (hR : Rel σ) (q : τ = σ ∧ r = fishR (σ 40 4) f w) (q' : υ = τ ∧ r' = fishR (τ 40 4) f w) : r = r' ∧ Rel υ := by
  obtain ⟨e1, e2⟩ := q
  obtain ⟨e3, e4⟩ := q'
  subst e1
  subst e3
  rw [e2, e4]
  refine ⟨?_, hR⟩
  rfl
theorem st_stand {σ τ υ : Sg} {w : Int32} {r r' : Int32} (hR : Rel σ) (q : τ = σ ∧ r = standR (σ 40 4) (σ 40 0 4) w) (q' : υ = τ ∧ r' = standR (τ 40 4) (τ 40 0 4) w) : r = r' ∧ Rel υ := by
  obtain ⟨e1, e2⟩ := q
  obtain ⟨e3, e4⟩ := q'
  subst e1
  subst e3
  rw [e2, e4]
  refine ⟨?_, hR⟩
  rfl
theorem st_grams {σ τ υ : Sg} {f : Int32} {n : Int32} {r r' : Int32} (hR : Rel σ) (q : r = gramsR (σ 40 4) f n ∧ fr2 σ τ) (q' : υ = τ ∧ r' = gramsR (τ 40 4) f n) : r = r' ∧ Rel υ := by
  obtain ⟨a1, h1⟩ := q
  obtain ⟨e3, a2⟩ := q'
  subst e3
  have z4 : υ 40 4 = σ 40 4 := h1 40 4 (by decide) (by decide)
  rw [z4] at a2
  exact ⟨a1.trans a2.symm, rel_same hR (frG_2 h1 [])⟩
theorem st_ahead {σ τ υ : Sg} {b : Int32} {n : Int32} {w : Int32} {r r' : Int32} (hR : Rel σ) (q : r = aheadR (σ 40 4) b n w ∧ fr2 σ τ) (q' : r' = aheadR (τ 40 4) b n w ∧ frm τ υ 40 [8, 10]) : r = r' ∧ Rel υ := by
  obtain ⟨a1, h1⟩ := q
  obtain ⟨a2, h2⟩ := q'
  have z4 : τ 40 4 = σ 40 4 := h1 40 4 (by decide) (by decide)
  have z0 : τ 40 0 = σ 40 0 := h1 40 0 (by decide) (by decide)
  rw [z4] at a2
  exact ⟨a1.trans a2.symm, rel_same hR (frG_t (frG_2 h1 []) (frG_f h2 (by decide)))⟩
theorem st_later {σ τ υ : Sg} {f : Int32} {n : Int32} {w : Int32} {r r' : Int32} (hR : Rel σ) (q : r = laterR (σ 40 4) f n w ∧ fr2 σ τ) (q' : r' = laterR (τ 40 4) f n w ∧ frm τ υ 40 [8, 10]) : r = r' ∧ Rel υ := by
  obtain ⟨a1, h1⟩ := q
  obtain ⟨a2, h2⟩ := q'
  have z4 : τ 40 4 = σ 40 4 := h1 40 4 (by decide) (by decide)
  have z0 : τ 40 0 = σ 40 0 := h1 40 0 (by decide) (by decide)
  rw [z4] at a2
  exact ⟨a1.trans a2.symm, rel_same hR (frG_t (frG_2 h1 []) (frG_f h2 (by decide)))⟩
theorem st_hole {σ τ υ : Sg} {f : Int32} {n : Int32} {r r' : Int32} (hR : Rel σ) (q : r = holeR (σ 40 4) f n (σ 40 8) ∧ fr2 σ τ) (q' : r' = holeR (τ 40 4) f n (τ 40 8) ∧ frm τ υ 40 [8, 10]) : r = r' ∧ Rel υ := by
  obtain ⟨a1, h1⟩ := q
  obtain ⟨a2, h2⟩ := q'
  have z4 : τ 40 4 = σ 40 4 := h1 40 4 (by decide) (by decide)
  have z0 : τ 40 0 = σ 40 0 := h1 40 0 (by decide) (by decide)
  rw [show τ 40 8 = σ 40 8 from h1 40 8 (by decide) (by decide)] at a2
  rw [z4] at a2
  exact ⟨a1.trans a2.symm, rel_same hR (frG_t (frG_2 h1 []) (frG_f h2 (by decide)))⟩
theorem st_lamp {σ τ υ : Sg} {b : Int32} {n : Int32} {w : Int32} {r r' : Int32} (hR : Rel σ) (q : r = lampR (σ 40 4) b n w ∧ fr2 σ τ) (q' : r' = lampR (τ 40 4) b n w ∧ frm τ υ 40 [8, 10]) : r = r' ∧ Rel υ := by
  obtain ⟨a1, h1⟩ := q
  obtain ⟨a2, h2⟩ := q'
  have z4 : τ 40 4 = σ 40 4 := h1 40 4 (by decide) (by decide)
  have z0 : τ 40 0 = σ 40 0 := h1 40 0 (by decide) (by decide)
  rw [z4] at a2
  exact ⟨a1.trans a2.symm, rel_same hR (frG_t (frG_2 h1 []) (frG_f h2 (by decide)))⟩
theorem st_caught {σ τ υ : Sg} {b : Int32} {n : Int32} {w : Int32} {r r' : Int32} (hR : Rel σ) (q : r = catchR (σ 40 4) b n w ∧ fr2 σ τ) (q' : r' = catchR (τ 40 4) b n w ∧ frm τ υ 40 [8, 10]) : r = r' ∧ Rel υ := by
  obtain ⟨a1, h1⟩ := q
  obtain ⟨a2, h2⟩ := q'
  have z4 : τ 40 4 = σ 40 4 := h1 40 4 (by decide) (by decide)
  have z0 : τ 40 0 = σ 40 0 := h1 40 0 (by decide) (by decide)
  rw [z4] at a2
  exact ⟨a1.trans a2.symm, rel_same hR (frG_t (frG_2 h1 []) (frG_f h2 (by decide)))⟩
theorem st_dark {σ τ υ : Sg} {b : Int32} {n : Int32} {p : Int32} {w : Int32} {r r' : Int64} (hR : Rel σ) (q : r = darkR (σ 40 4) b n p w ∧ fr2 σ τ) (q' : r' = darkR (τ 40 4) b n p w ∧ frm τ υ 40 [8, 10]) : r = r' ∧ Rel υ := by
  obtain ⟨a1, h1⟩ := q
  obtain ⟨a2, h2⟩ := q'
  have z4 : τ 40 4 = σ 40 4 := h1 40 4 (by decide) (by decide)
  have z0 : τ 40 0 = σ 40 0 := h1 40 0 (by decide) (by decide)
  rw [z4] at a2
  exact ⟨a1.trans a2.symm, rel_same hR (frG_t (frG_2 h1 []) (frG_f h2 (by decide)))⟩
theorem st_when {σ τ υ : Sg} {b : Int32} {r r' : Int32} (hR : Rel σ) (q : (if isB (σ 40 4) b then isFirst (fun n => gS (σ 40 4) n (8 + b) = 0) r else r = -1000001) ∧ fr2 σ τ) (q' : (if isB (τ 40 4) b then isFirst (fun n => gS (τ 40 4) n (8 + b) = 0) r' else r' = -1000001) ∧ frm τ υ 40 [8, 10]) : r = r' ∧ Rel υ := by
  obtain ⟨a1, h1⟩ := q
  obtain ⟨a2, h2⟩ := q'
  have z4 : τ 40 4 = σ 40 4 := h1 40 4 (by decide) (by decide)
  have z0 : τ 40 0 = σ 40 0 := h1 40 0 (by decide) (by decide)
  rw [z4] at a2
  refine ⟨?_, rel_same hR (frG_t (frG_2 h1 []) (frG_f h2 (by decide)))⟩
  by_cases h : isB (σ 40 4) b
  · rw [if_pos h] at a1 a2
    exact isFirst_one a1 a2
  · rw [if_neg h] at a1 a2
    rw [a1, a2]
theorem st_first {σ τ υ : Sg} {w : Int32} {r r' : Int32} (hR : Rel σ) (q : firstQ (σ 40 0 4) (σ 40 4) w r ∧ fr2 σ τ) (q' : firstQ (τ 40 0 4) (τ 40 4) w r' ∧ frm τ υ 40 [8, 10]) : r = r' ∧ Rel υ := by
  obtain ⟨a1, h1⟩ := q
  obtain ⟨a2, h2⟩ := q'
  have z4 : τ 40 4 = σ 40 4 := h1 40 4 (by decide) (by decide)
  have z0 : τ 40 0 = σ 40 0 := h1 40 0 (by decide) (by decide)
  rw [z4, z0] at a2
  exact ⟨firstQ_one a1 a2, rel_same hR (frG_t (frG_2 h1 []) (frG_f h2 (by decide)))⟩
theorem st_order {σ τ υ : Sg} {v : Int32} {n : Int32} {i : Int32} {r r' : Int32} (hR : Rel σ) (q : r = (if σ 40 0 4 = 0 then -1000002 else if ¬ (inR 0 v (shl32 1 (σ 40 4 0) - 1) ∧ inR 1 n 12 ∧ inR (-1) i (σ 40 4 0 - 1)) then -1000001 else ordR (σ 40 4) v n i) ∧ fr2 σ τ) (q' : if τ 40 0 4 = 0 then r' = -1000002 ∧ υ = τ else if ¬ (inR 0 v (shl32 1 (τ 40 4 0) - 1) ∧ inR 1 n 12 ∧ inR (-1) i (τ 40 4 0 - 1)) then r' = -1000001 ∧ υ = τ else r' = ordR (τ 40 4) v n i ∧ frm τ υ 40 [8, 10, 11, 12]) : r = r' ∧ Rel υ := by
  obtain ⟨a1, h1⟩ := q
  have z4 : τ 40 4 = σ 40 4 := h1 40 4 (by decide) (by decide)
  have z0 : τ 40 0 = σ 40 0 := h1 40 0 (by decide) (by decide)
  rw [z4, z0] at q'
  by_cases c1 : σ 40 0 4 = 0
  · rw [if_pos c1] at a1 q'
    obtain ⟨a2, rfl⟩ := q'
    exact ⟨a1.trans a2.symm, rel_same hR (frG_2 h1 [])⟩
  · rw [if_neg c1] at a1 q'
    by_cases c2 : ¬ (inR 0 v (shl32 1 (σ 40 4 0) - 1) ∧ inR 1 n 12 ∧ inR (-1) i (σ 40 4 0 - 1))
    · rw [if_pos c2] at a1 q'
      obtain ⟨a2, rfl⟩ := q'
      exact ⟨a1.trans a2.symm, rel_same hR (frG_2 h1 [])⟩
    · rw [if_neg c2] at a1 q'
      obtain ⟨a2, h2⟩ := q'
      exact ⟨a1.trans a2.symm, rel_same hR (frG_t (frG_2 h1 []) (frG_f h2 (by decide)))⟩
theorem st_drawn {σ τ υ : Sg} {n : Int32} {d : Int32} {v : Int32} {r r' : Int32} (hR : Rel σ) (q : r = (if σ 40 0 4 = 0 then -1000002 else if ¬ (inR 0 n 60 ∧ inR 1 d 999999 ∧ inR 0 v 1) then -1000001 else drawnR (σ 40 4) n d v) ∧ fr2 σ τ) (q' : if τ 40 0 4 = 0 then r' = -1000002 ∧ υ = τ else if ¬ (inR 0 n 60 ∧ inR 1 d 999999 ∧ inR 0 v 1) then r' = -1000001 ∧ υ = τ else r' = drawnR (τ 40 4) n d v ∧ frm τ υ 40 [8, 10]) : r = r' ∧ Rel υ := by
  obtain ⟨a1, h1⟩ := q
  have z4 : τ 40 4 = σ 40 4 := h1 40 4 (by decide) (by decide)
  have z0 : τ 40 0 = σ 40 0 := h1 40 0 (by decide) (by decide)
  rw [z4, z0] at q'
  by_cases c1 : σ 40 0 4 = 0
  · rw [if_pos c1] at a1 q'
    obtain ⟨a2, rfl⟩ := q'
    exact ⟨a1.trans a2.symm, rel_same hR (frG_2 h1 [])⟩
  · rw [if_neg c1] at a1 q'
    by_cases c2 : ¬ (inR 0 n 60 ∧ inR 1 d 999999 ∧ inR 0 v 1)
    · rw [if_pos c2] at a1 q'
      obtain ⟨a2, rfl⟩ := q'
      exact ⟨a1.trans a2.symm, rel_same hR (frG_2 h1 [])⟩
    · rw [if_neg c2] at a1 q'
      obtain ⟨a2, h2⟩ := q'
      exact ⟨a1.trans a2.symm, rel_same hR (frG_t (frG_2 h1 []) (frG_f h2 (by decide)))⟩
