/-- the class's reading: whether it is fine, where, which fault -/
abbrev PT := Bool × Nat × Int32
def bindT (R : PT) (f : Nat → PT) : PT := if R.1 = true then f R.2.1 else R
def takT (T : St) (N : Nat) (c : Int32) (k : Nat) : PT := if k < N ∧ T (nI k) = c then (true, k + 1, 0) else (false, k, 1)
def numT (T : St) (N : Nat) (lo hi : Int32) (k : Nat) : PT := if dg T N k ∧ re T N k ≤ k + 2 then (if lo ≤ nv T k (re T N k) ∧ nv T k (re T N k) ≤ hi then (true, re T N k, 0) else (false, k, 2)) else (false, k, 1)
def badT (n : Int32) (k : Nat) : PT := (false, k, n)
def P3 (R : PR) : PT := (R.1, R.2.1, R.2.2.1)
def CS (N : Nat) (F0 : Int32) (g : St) (R : PT) : Prop := (N ≤ 120 ∧ g 1 = nI N ∧ R.2.1 ≤ N) ∧ (R.1 = true → g 4 = -1000000 ∧ g 3 = nI R.2.1 ∧ g 2 = F0) ∧ (R.1 = false → g 4 = nI R.2.1 ∧ g 2 = R.2.2)
theorem bindT_a (R : PT) (f g : Nat → PT) : bindT (bindT R f) g = bindT R (fun k => bindT (f k) g) := by
  unfold bindT
  by_cases h : R.1 = true
  · rw [if_pos h, if_pos h]
  · rw [if_neg h, if_neg h, if_neg h]
theorem bindT_f {R : PT} {f : Nat → PT} (h : R.1 = false) : bindT R f = R := if_neg (by rw [h]; decide)
theorem bindT_t {R : PT} {f : Nat → PT} (h : R.1 = true) : bindT R f = f R.2.1 := if_pos h
theorem bindT_ok {R : PT} {f : Nat → PT} (h : (bindT R f).1 = true) : R.1 = true ∧ bindT R f = f R.2.1 := by
  by_cases e : R.1 = true
  · exact ⟨e, bindT_t e⟩
  · rw [bindT_f (by simpa using e)] at h
    exact absurd h e
theorem P3_bind (R : PR) (f : Nat → St → PR) : P3 (bindP R f) = bindT (P3 R) (fun k => P3 (f k R.2.2.2)) := by
  unfold bindP bindT
  by_cases h : R.1 = true
  · rw [if_pos h, if_pos (show (P3 R).1 = true from h)]
    rfl
  · rw [if_neg h, if_neg (show ¬ (P3 R).1 = true from h)]
theorem P3_tak (T : St) (N : Nat) (c : Int32) (k : Nat) (rd : St) : P3 (takP T N c k rd) = takT T N c k := by
  unfold takP takT
  split <;> rfl
theorem P3_num (T : St) (N : Nat) (lo hi slot sep : Int32) (k : Nat) (rd : St) : P3 (numP T N lo hi slot sep k rd) = bindT (numT T N lo hi k) (takT T N sep) := by
  unfold numP numT
  by_cases h1 : dg T N k ∧ re T N k ≤ k + 2
  · rw [if_pos h1, if_pos h1]
    by_cases h2 : lo ≤ nv T k (re T N k) ∧ nv T k (re T N k) ≤ hi
    · rw [if_pos h2, if_pos h2, P3_tak]
      rfl
    · rw [if_neg h2, if_neg h2]
      rfl
  · rw [if_neg h1, if_neg h1]
    rfl
theorem nI_NONE {k : Nat} (h : k ≤ 120) : nI k ≠ -1000000 := fun e => by
  have := nI_pos (show k < 2147483648 by omega)
  rw [e] at this
  exact this (by decide)
theorem cs_fine {N : Nat} {F0 : Int32} {g : St} {R : PT} (h : CS N F0 g R) : g 4 = -1000000 ↔ R.1 = true := by
  constructor
  · intro e
    by_cases q : R.1 = true
    · exact q
    · have a := (h.2.2 (by simpa using q)).1
      exact absurd (a.symm.trans e) (nI_NONE (Nat.le_trans h.1.2.2 h.1.1))
  · intro q
    exact (h.2.1 q).1
def nxT (T : St) (N : Nat) (R : PT) : Int32 := if R.1 = true ∧ R.2.1 < N then T (nI R.2.1) else -1
theorem cs_at {N : Nat} {F0 : Int32} {g : St} {k k' : Nat} (h : CS N F0 g (true, k, 0)) (hk : k' ≤ N) : CS N F0 (upI g 3 (nI k')) (true, k', 0) := by
  obtain ⟨⟨a, b, c⟩, d, e⟩ := h
  have q := d rfl
  refine ⟨⟨a, by rw [upI_ne _ _ (by decide)]; exact b, hk⟩, fun _ => ⟨?_, ?_, ?_⟩, fun e => absurd e (show ¬ true = false by decide)⟩
  · rw [upI_ne _ _ (by decide)]; exact q.1
  · exact upI_same _ _ _
  · rw [upI_ne _ _ (by decide)]; exact q.2.2
theorem cs_bad {N : Nat} {F0 : Int32} {g : St} {R : PT} {n v : Int32} (h : CS N F0 g R) (hr : R.1 = true) (hv : v = g 3) : CS N F0 (upI (upI g 4 v) 2 n) (bindT R (badT n)) := by
  rw [bindT_t hr]
  obtain ⟨⟨a, b, c⟩, d, e⟩ := h
  have q := d hr
  refine ⟨⟨a, by rw [upI_ne _ _ (by decide), upI_ne _ _ (by decide)]; exact b, c⟩, fun e => absurd e (show ¬ false = true by decide), fun _ => ⟨?_, ?_⟩⟩
  · rw [upI_ne _ _ (by decide), upI_same, hv]
    exact q.2.1
  · exact upI_same _ _ _
theorem cs_f3 {N : Nat} {F0 : Int32} {g : St} {R : PT} {v : Int32} (h : CS N F0 g R) (hr : R.1 = false) : CS N F0 (upI g 3 v) R := by
  obtain ⟨⟨a, b, c⟩, d, e⟩ := h
  refine ⟨⟨a, by rw [upI_ne _ _ (by decide)]; exact b, c⟩, fun q => absurd (q.symm.trans hr) (by decide), fun _ => ⟨?_, ?_⟩⟩
  · rw [upI_ne _ _ (by decide)]; exact (e hr).1
  · rw [upI_ne _ _ (by decide)]; exact (e hr).2
theorem bytes_ix {k N : Nat} (h : k < N) (hN : N ≤ 120) : 0 ≤ nI k ∧ nI k < 120 := ⟨nI_pos' (by omega), (nI_ltI (b := 120) (by omega) (by decide)).mpr (by omega)⟩
def vI (T : St) (k j : Nat) (v : Int32) : Prop := (j = 0 → v = 0) ∧ (j = 1 → v = T (nI k) - 48) ∧ (2 ≤ j → v = 10 * (T (nI k) - 48) + T (nI (k + 1)) - 48)
theorem vI_s {T : St} {k j : Nat} {v : Int32} (h : vI T k j v) (hj : j < 2) : vI T k (j + 1) (v * 10 + T (nI (k + j)) - 48) := by
  refine ⟨fun e => absurd e (by omega), fun e => ?_, fun e => ?_⟩
  · rw [h.1 (by omega), show k + j = k by omega]
    grind
  · rw [h.2.1 (by omega), show k + j = k + 1 by omega]
    grind
theorem vI_k {T : St} {k j : Nat} {v : Int32} (h : vI T k j v) (hj : ¬ j < 2) : vI T k (j + 1) v := ⟨fun e => absurd e (by omega), fun e => absurd e (by omega), fun _ => h.2.2 (by omega)⟩
theorem vI_nv {T : St} {k j : Nat} {v : Int32} (h : vI T k j v) (h1 : 1 ≤ j) (h2 : j ≤ 2) : v = nv T k (k + j) := by
  unfold nv
  by_cases e : j = 1
  · rw [if_pos (by omega)]; exact h.2.1 e
  · rw [if_neg (by omega)]; exact h.2.2 (by omega)
