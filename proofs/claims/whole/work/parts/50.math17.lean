abbrev PR := Bool × Nat × Int32 × St
def bindP (R : PR) (f : Nat → St → PR) : PR := if R.1 = true then f R.2.1 R.2.2.2 else R
def takP (T : St) (N : Nat) (c : Int32) (k : Nat) (rd : St) : PR := if k < N ∧ T (nI k) = c then (true, k + 1, 0, rd) else (false, k, 1, rd)
def numP (T : St) (N : Nat) (lo hi slot sep : Int32) (k : Nat) (rd : St) : PR := if dg T N k ∧ re T N k ≤ k + 2 then (if lo ≤ nv T k (re T N k) ∧ nv T k (re T N k) ≤ hi then takP T N sep (re T N k) (upI rd slot (nv T k (re T N k))) else (false, k, 2, rd)) else (false, k, 1, rd)
def kindV (c : Int32) : Int32 := if c = 114 then 1 else if c = 112 then 2 else if c = 99 then 3 else if c = 119 then 4 else if c = 115 then 5 else 0
def bookP (T : St) (N : Nat) (k : Nat) (rd : St) : PR := if 0 < rd 1 then (false, k, 1, rd) else if rd 0 = 6 then (false, k, 3, rd) else bindP (numP T N 0 99 (8 + rd 0) 44 (k + 1) (upI (upI rd (20 + rd 0) (rd 0)) 0 (rd 0 + 1))) (numP T N 0 9 (14 + rd 0) 59)
def fishP (T : St) (N : Nat) (kd : Int32) (k : Nat) (rd : St) : PR := if rd 0 = 0 then (false, k, 1, rd) else if rd 1 = 5 then (false, k, 3, rd) else numP T N 0 (rd 0 - 1) (31 + rd 1) 59 (k + 1) (upI (upI rd (26 + rd 1) kd) 1 (rd 1 + 1))
def kdAt (T : St) (N k : Nat) : Int32 := if k < N then kindV (T (nI k)) else 0
def itm (T : St) (N : Nat) : Nat → Nat → St → PR
  | 0, k, rd => (false, k, 0, rd)
  | f + 1, k, rd => if k = N ∧ ¬ rd 1 = 0 then (true, k, 0, rd) else if 0 < kdAt T N k then bindP (fishP T N (kdAt T N k) k rd) (itm T N f) else if k < N ∧ T (nI k) = 98 then bindP (bookP T N k rd) (itm T N f) else (false, k, 1, rd)
def lawP (T : St) (N : Nat) : PR := bindP (bindP (takP T N 108 0 (fun _ => 0)) (numP T N 1 9 2 44)) (numP T N 0 8 3 59)
def libP (T : St) (N : Nat) : PR := bindP (lawP T N) (itm T N (N + 1))
def fld4 (σ τ : Sg) : Prop := ∀ i : Int32, (i < 10 ∨ 14 < i) → τ 40 0 i = σ 40 0 i
theorem fld4_refl (σ : Sg) : fld4 σ σ := fun _ _ => rfl
theorem fld4_of {σ τ : Sg} (h : fld σ τ) : fld4 σ τ := fun i hi => h i (by rcases hi with q | q <;> grind)
theorem fld4_tr {σ τ υ : Sg} (h1 : fld4 σ τ) (h2 : fld4 τ υ) : fld4 σ υ := fun i hi => (h2 i hi).trans (h1 i hi)
theorem fld4_up {σ τ : Sg} {j v : Int32} (h : fld4 σ τ) (hj : 10 ≤ j ∧ j ≤ 14) : fld4 σ (up τ 40 0 (upI (τ 40 0) j v)) := by
  intro i hi
  rw [up_same, upI_ne _ _ (fun e => by subst e; rcases hi with q | q <;> grind)]
  exact h i hi
theorem fld4_ne {σ τ : Sg} {k : Nat} {g : St} (h : fld4 σ τ) (hk : k ≠ 0) : fld4 σ (up τ 40 k g) := by
  intro i hi
  rw [up_ne _ _ (by omega)]
  exact h i hi
def resP (σ τ : Sg) (N : Nat) (r : Int32) (R : PR) : Prop := (r = if R.1 = true then 1 else 0) ∧ (R.1 = true → Tok (σ 40 6) N (τ 40 0) R.2.1) ∧ (R.1 = false → τ 40 0 13 = nI R.2.1 ∧ τ 40 0 14 = R.2.2.1) ∧ τ 40 7 = R.2.2.2 ∧ fld4 σ τ ∧ frm σ τ 40 [0, 7]
theorem let_dg {T : St} {N k : Nat} (h : letT (T (nI k))) : ¬ dg T N k := by
  intro q
  have a := q.2.1
  have b := q.2.2
  rcases h with h | h | h
  · exact absurd (Int32.le_trans h.1 b) (by decide)
  · rw [h] at a; exact absurd a (by decide)
  · rw [h] at b; exact absurd b (by decide)
theorem tok_l {T : St} {N k : Nat} {f : St} {c : Int32} (h : Tok T N f k) (hc : letT c) : (f 11 = 1 ∧ f 12 = c) ↔ (k < N ∧ T (nI k) = c) := by
  obtain ⟨⟨a1, a2, a3, a4⟩, b, d, e⟩ := h
  constructor
  · intro q
    by_cases hN : k = N
    · rw [(b hN).1] at q; exact absurd q.1 (by decide)
    · by_cases hd : dg T N k
      · by_cases h2 : re T N k ≤ k + 2
        · rw [((d hd).2.1 h2).1] at q; exact absurd q.1 (by decide)
        · rw [(d hd).2.2 h2] at q; exact absurd q.1 (by decide)
      · have g := e (by omega) hd
        exact ⟨by omega, by rw [← g.2.1]; exact q.2⟩
  · intro q
    have g := e q.1 (let_dg (by rw [q.2]; exact hc))
    rw [g.2.2, g.2.1, q.2, if_pos hc]
    exact ⟨rfl, rfl⟩
theorem tok_n {T : St} {N k : Nat} {f : St} (h : Tok T N f k) : f 11 = 2 ↔ (dg T N k ∧ re T N k ≤ k + 2) := by
  obtain ⟨⟨a1, a2, a3, a4⟩, b, d, e⟩ := h
  constructor
  · intro q
    by_cases hN : k = N
    · rw [(b hN).1] at q; exact absurd q (by decide)
    · by_cases hd : dg T N k
      · by_cases h2 : re T N k ≤ k + 2
        · exact ⟨hd, h2⟩
        · rw [(d hd).2.2 h2] at q; exact absurd q (by decide)
      · have g := (e (by omega) hd).2.2
        rw [g] at q
        split at q <;> exact absurd q (by decide)
  · intro q
    exact ((d q.1).2.1 q.2).1
theorem kindV_rng (c : Int32) : 0 ≤ kindV c ∧ kindV c ≤ 5 := by
  unfold kindV
  repeat' split
  all_goals decide
theorem kindV_let {c : Int32} (h : 0 < kindV c) : letT c := by
  unfold kindV at h
  split at h
  · left; rename_i e; rw [e]; decide
  · split at h
    · left; rename_i e; rw [e]; decide
    · split at h
      · left; rename_i e; rw [e]; decide
      · split at h
        · left; rename_i e; rw [e]; decide
        · split at h
          · left; rename_i e; rw [e]; decide
          · exact absurd h (by decide)
theorem kdAt_rng (T : St) (N k : Nat) : 0 ≤ kdAt T N k ∧ kdAt T N k ≤ 5 := by
  unfold kdAt
  split
  · exact kindV_rng _
  · decide
theorem tok_k {T : St} {N k : Nat} {f : St} (h : Tok T N f k) : (f 11 = 1 → kindV (f 12) = kdAt T N k) ∧ (¬ f 11 = 1 → kdAt T N k = 0) := by
  constructor
  · intro q
    obtain ⟨⟨a1, a2, a3, a4⟩, b, d, e⟩ := h
    by_cases hN : k = N
    · rw [(b hN).1] at q; exact absurd q (by decide)
    · by_cases hd : dg T N k
      · by_cases h2 : re T N k ≤ k + 2
        · rw [((d hd).2.1 h2).1] at q; exact absurd q (by decide)
        · rw [(d hd).2.2 h2] at q; exact absurd q (by decide)
      · have g := e (by omega) hd
        unfold kdAt
        rw [if_pos (by omega), g.2.1]
  · intro q
    by_cases hk : 0 < kdAt T N k
    · unfold kdAt at hk
      split at hk
      · rename_i hN
        exact absurd ((tok_l h (kindV_let hk)).mpr ⟨hN, rfl⟩).1 q
      · exact absurd hk (by decide)
    · exact Int32.le_antisymm (Int32.not_lt.mp hk) (kdAt_rng T N k).1
theorem kd_let {T : St} {N k : Nat} (h : 0 < kdAt T N k) : k < N ∧ letT (T (nI k)) := by
  unfold kdAt at h
  split at h
  · rename_i hN
    exact ⟨hN, kindV_let h⟩
  · exact absurd h (by decide)
