def RI (rd : St) : Prop := ((0 ≤ rd 0 ∧ rd 0 ≤ 6) ∧ (0 ≤ rd 1 ∧ rd 1 ≤ 5) ∧ (1 ≤ rd 2 ∧ rd 2 ≤ 9) ∧ (0 ≤ rd 3 ∧ rd 3 ≤ 8) ∧ (rd 4 = 0 ∧ rd 5 = 0 ∧ rd 6 = 0 ∧ rd 7 = 0)) ∧ (∀ b, 0 ≤ b → b < rd 0 → (0 ≤ rd (8 + b) ∧ rd (8 + b) ≤ 99) ∧ (0 ≤ rd (14 + b) ∧ rd (14 + b) ≤ 9) ∧ rd (20 + b) = b) ∧ (∀ f, 0 ≤ f → f < rd 1 → (1 ≤ rd (26 + f) ∧ rd (26 + f) ≤ 5) ∧ (0 ≤ rd (31 + f) ∧ rd (31 + f) < rd 0)) ∧ (∀ f, 0 ≤ f → f < 5 → rd (36 + f) = 0) ∧ (0 < rd 1 → 0 < rd 0)
theorem tak_ok {T : St} {N k : Nat} {c : Int32} {rd : St} (h : (takP T N c k rd).1 = true) : takP T N c k rd = (true, k + 1, 0, rd) := by
  unfold takP at h ⊢
  split at h
  · rename_i e; rw [if_pos e]
  · exact absurd h (by simp)
theorem num_ok {T : St} {N k : Nat} {lo hi slot sep : Int32} {rd : St} (h : (numP T N lo hi slot sep k rd).1 = true) : ∃ (v : Int32) (e : Nat), lo ≤ v ∧ v ≤ hi ∧ k < e ∧ numP T N lo hi slot sep k rd = (true, e, 0, upI rd slot v) := by
  unfold numP at h ⊢
  by_cases h1 : dg T N k ∧ re T N k ≤ k + 2
  · rw [if_pos h1] at h ⊢
    by_cases h2 : lo ≤ nv T k (re T N k) ∧ nv T k (re T N k) ≤ hi
    · rw [if_pos h2] at h ⊢
      refine ⟨_, _, h2.1, h2.2, ?_, tak_ok h⟩
      have := (re_spec T N _ k rfl).1
      omega
    · rw [if_neg h2] at h
      exact absurd h (by simp)
  · rw [if_neg h1] at h
    exact absurd h (by simp)
theorem bind_ok {R : PR} {f : Nat → St → PR} (h : (bindP R f).1 = true) : R.1 = true ∧ bindP R f = f R.2.1 R.2.2.2 := by
  unfold bindP at h ⊢
  by_cases e : R.1 = true
  · rw [if_pos e]; exact ⟨e, rfl⟩
  · rw [if_neg e] at h; exact absurd h e
theorem lt_incF {a : Int32} (h0 : 0 ≤ a) (h1 : a ≤ 6) (h2 : ¬ a = 6) : a < 6 ∧ 0 ≤ a + 1 ∧ a + 1 ≤ 6 ∧ 0 < a + 1 := by
  have : a < 6 := by grind
  have q := inc_lt h0 this
  exact ⟨this, q.1, q.2.1, Int32.lt_of_le_of_lt h0 q.2.2⟩
theorem lt_incG {a : Int32} (h0 : 0 ≤ a) (h1 : a ≤ 5) (h2 : ¬ a = 5) : a < 5 ∧ 0 ≤ a + 1 ∧ a + 1 ≤ 5 := by
  have : a < 5 := by grind
  have q := inc_lt h0 this
  exact ⟨this, q.1, q.2.1⟩
theorem book_ok {T : St} {N k : Nat} {rd : St} (hR : RI rd) (h : (bookP T N k rd).1 = true) : k < (bookP T N k rd).2.1 ∧ RI (bookP T N k rd).2.2.2 := by
  unfold bookP at h ⊢
  by_cases h1 : 0 < rd 1
  · rw [if_pos h1] at h; exact absurd h (by simp)
  · rw [if_neg h1] at h ⊢
    by_cases h2 : rd 0 = 6
    · rw [if_pos h2] at h; exact absurd h (by simp)
    · rw [if_neg h2] at h ⊢
      obtain ⟨ha, hb⟩ := bind_ok h
      rw [hb] at h ⊢
      obtain ⟨v1, e1, l1, u1, g1, q1⟩ := num_ok ha
      rw [q1] at h ⊢
      obtain ⟨v2, e2, l2, u2, g2, q2⟩ := num_ok h
      rw [q2]
      have g3 : e1 < e2 := g2
      refine ⟨by show k < e2; omega, ?_⟩
      show RI (upI (upI (upI (upI rd (20 + rd 0) (rd 0)) 0 (rd 0 + 1)) (8 + rd 0) v1) (14 + rd 0) v2)
      obtain ⟨⟨r0, r1, r2, r3, r4⟩, rb, rf, ru, rz⟩ := hR
      have c := lt_incF r0.1 r0.2 h2
      have z1 : rd 1 = 0 := Int32.le_antisymm (Int32.not_lt.mp h1) r1.1
      generalize hbv : rd 0 = b at *
      have lo : ∀ j, 0 < j → j < 8 → upI (upI (upI (upI rd (20 + b) b) 0 (b + 1)) (8 + b) v1) (14 + b) v2 (nI j) = rd (nI j) := fun j j0 j8 => by
        rw [upI_ne _ _ (show nI j ≠ 14 + b from (ix_c 14 6 j r0.1 c.1 (by omega) (by omega)).symm), upI_ne _ _ (show nI j ≠ 8 + b from (ix_c 8 6 j r0.1 c.1 (by omega) (by omega)).symm), upI_ne _ _ (show nI j ≠ 0 from fun e => by have := (nI_eq (b := 0) (by omega) (by omega)).mp e; omega), upI_ne _ _ (show nI j ≠ 20 + b from (ix_c 20 6 j r0.1 c.1 (by omega) (by omega)).symm)]
      have l0 : upI (upI (upI (upI rd (20 + b) b) 0 (b + 1)) (8 + b) v1) (14 + b) v2 0 = b + 1 := by
        rw [upI_ne _ _ (show (0 : Int32) ≠ 14 + b from (ix_c 14 6 0 r0.1 c.1 (by omega) (by omega)).symm), upI_ne _ _ (show (0 : Int32) ≠ 8 + b from (ix_c 8 6 0 r0.1 c.1 (by omega) (by omega)).symm)]
        exact upI_same _ _ _
      have hi : ∀ (A m : Nat) (x : Int32), 0 ≤ x → x < nI m → (26 ≤ A) → A + m < 1000 → upI (upI (upI (upI rd (20 + b) b) 0 (b + 1)) (8 + b) v1) (14 + b) v2 (nI A + x) = rd (nI A + x) := fun A m x x0 x1 hA hs => by
        rw [upI_ne _ _ (show nI A + x ≠ 14 + b from ix_ne A 14 m 6 x0 x1 r0.1 c.1 (by omega) (by omega)), upI_ne _ _ (show nI A + x ≠ 8 + b from ix_ne A 8 m 6 x0 x1 r0.1 c.1 (by omega) (by omega)), upI_ne _ _ (show nI A + x ≠ 0 from ix_c A m 0 x0 x1 (by omega) (by omega)), upI_ne _ _ (show nI A + x ≠ 20 + b from ix_ne A 20 m 6 x0 x1 r0.1 c.1 (by omega) (by omega))]
      have k1 := lo 1 (by omega) (by omega)
      rw [show nI 1 = 1 from rfl, z1] at k1
      refine ⟨⟨by rw [l0]; exact ⟨c.2.1, c.2.2.1⟩, by rw [k1]; decide, ?_, ?_, ?_⟩, ?_, ?_, ?_, ?_⟩
      · have := lo 2 (by omega) (by omega); rw [show (2 : Int32) = nI 2 from rfl, this]; exact r2
      · have := lo 3 (by omega) (by omega); rw [show (3 : Int32) = nI 3 from rfl, this]; exact r3
      · exact ⟨(lo 4 (by omega) (by omega)).trans r4.1, (lo 5 (by omega) (by omega)).trans r4.2.1, (lo 6 (by omega) (by omega)).trans r4.2.2.1, (lo 7 (by omega) (by omega)).trans r4.2.2.2⟩
      · intro x x0 x1
        rw [l0] at x1
        by_cases e : x = b
        · subst e
          refine ⟨?_, ?_, ?_⟩
          · rw [upI_ne _ _ (show (8 : Int32) + x ≠ 14 + x from ix_ne 8 14 6 6 x0 c.1 x0 c.1), upI_same]; exact ⟨l1, u1⟩
          · rw [upI_same]; exact ⟨l2, u2⟩
          · rw [upI_ne _ _ (show (20 : Int32) + x ≠ 14 + x from ix_ne 20 14 6 6 x0 c.1 x0 c.1), upI_ne _ _ (show (20 : Int32) + x ≠ 8 + x from ix_ne 20 8 6 6 x0 c.1 x0 c.1), upI_ne _ _ (show (20 : Int32) + x ≠ 0 from ix_c 20 6 0 x0 c.1), upI_same]
        · have xb : x < b := lt_of_inc r0.1 c.1 x1 e
          have x6 : x < 6 := Int32.lt_trans xb c.1
          have q := rb x x0 xb
          rw [upI_ne _ _ (show (8 : Int32) + x ≠ 14 + b from ix_ne 8 14 6 6 x0 x6 r0.1 c.1), upI_ne _ _ (show (8 : Int32) + x ≠ 8 + b from fun h => e (ix_in 8 (by omega) x0 (Int32.lt_trans x6 (by decide)) r0.1 (Int32.lt_trans c.1 (by decide)) h)), upI_ne _ _ (show (8 : Int32) + x ≠ 0 from ix_c 8 6 0 x0 x6), upI_ne _ _ (show (8 : Int32) + x ≠ 20 + b from ix_ne 8 20 6 6 x0 x6 r0.1 c.1),
            upI_ne _ _ (show (14 : Int32) + x ≠ 14 + b from fun h => e (ix_in 14 (by omega) x0 (Int32.lt_trans x6 (by decide)) r0.1 (Int32.lt_trans c.1 (by decide)) h)), upI_ne _ _ (show (14 : Int32) + x ≠ 8 + b from ix_ne 14 8 6 6 x0 x6 r0.1 c.1), upI_ne _ _ (show (14 : Int32) + x ≠ 0 from ix_c 14 6 0 x0 x6), upI_ne _ _ (show (14 : Int32) + x ≠ 20 + b from ix_ne 14 20 6 6 x0 x6 r0.1 c.1),
            upI_ne _ _ (show (20 : Int32) + x ≠ 14 + b from ix_ne 20 14 6 6 x0 x6 r0.1 c.1), upI_ne _ _ (show (20 : Int32) + x ≠ 8 + b from ix_ne 20 8 6 6 x0 x6 r0.1 c.1), upI_ne _ _ (show (20 : Int32) + x ≠ 0 from ix_c 20 6 0 x0 x6), upI_ne _ _ (show (20 : Int32) + x ≠ 20 + b from fun h => e (ix_in 20 (by omega) x0 (Int32.lt_trans x6 (by decide)) r0.1 (Int32.lt_trans c.1 (by decide)) h))]
          exact q
      · intro f f0 f1
        rw [k1] at f1
        exact absurd (Int32.lt_of_le_of_lt f0 f1) (by decide)
      · intro f f0 f1
        exact (hi 36 5 f f0 f1 (by omega) (by omega)).trans (ru f f0 f1)
      · intro q
        rw [l0]
        exact c.2.2.2
