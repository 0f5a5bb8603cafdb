/-! MATH: bits, and the model's words -/
abbrev St : Type := Int32 → Int32
def bitv (s k : Int32) : Int32 := shr32 s k &&& 1
theorem bitv_def (s k : Int32) : bitv s k = shr32 s k &&& 1 := rfl
theorem fin64 {P : Int32 → Prop} [DecidablePred P] (h : ∀ k : Fin 64, P (nI k.val)) (s : Int32) (h0 : 0 ≤ s) (h1 : s < 64) : P s := by
  obtain ⟨j, hj, rfl⟩ := nI_of (Int32.not_lt.mpr h0)
  exact h ⟨j, (nI_ltI (b := 64) hj (by decide)).mp h1⟩
theorem bitv_01 (s k : Int32) : bitv s k = 0 ∨ bitv s k = 1 := by
  obtain ⟨j, hj, e⟩ := pk_andE (shr32 s k) (m := 1) 1 (by decide)
  unfold bitv
  rw [e]
  have : j = 0 ∨ j = 1 := by omega
  rcases this with rfl | rfl
  · exact Or.inl rfl
  · exact Or.inr rfl
def ones (s : Int32) : Int32 := bitv s 0 + bitv s 1 + bitv s 2 + bitv s 3 + bitv s 4 + bitv s 5
theorem ones_rng (s : Int32) : 0 ≤ ones s ∧ ones s ≤ 6 := by
  have := bitv_01 s 0
  have := bitv_01 s 1
  have := bitv_01 s 2
  have := bitv_01 s 3
  have := bitv_01 s 4
  have := bitv_01 s 5
  unfold ones
  grind
theorem ones_step : ∀ k : Fin 64, k.val ≠ 0 → (ones (nI k.val &&& (nI k.val - 1)) + 1 = ones (nI k.val) ∧ 0 ≤ nI k.val &&& (nI k.val - 1) ∧ (nI k.val &&& (nI k.val - 1)) < nI k.val) := by decide +kernel
theorem toL_le (a b : Int32) : a.toInt64 ≤ b.toInt64 ↔ a ≤ b := by
  rw [Int64.le_iff_toInt_le, Int32.le_iff_toInt_le, Int32.toInt_toInt64, Int32.toInt_toInt64]
theorem in_eq {r : Int32} {v lo hi : Int64} {x a b : Int32} (h : r = if lo ≤ v ∧ v ≤ hi then 1 else 0) (hv : v = x.toInt64) (ha : lo = a.toInt64) (hb : hi = b.toInt64) : r = if a ≤ x ∧ x ≤ b then 1 else 0 := by
  subst hv ha hb
  simpa only [toL_le] using h
theorem lg_lt (x y : Int64) : lg_cmp x y < 0 ↔ x < y := by
  have := lg_cmp_ge x y
  rw [← Int32.not_le, this, Int64.not_le]
theorem lg_le (x y : Int64) : 0 < lg_cmp x y ↔ y < x := by
  unfold lg_cmp
  split
  · simp_all
  · split <;> simp_all
theorem lg_eq (x y : Int64) : lg_cmp x y = 0 ↔ x = y := by
  unfold lg_cmp
  split
  · rename_i h
    constructor
    · intro h2; simp at h2
    · intro h2; subst h2; exact absurd h (by simp [Int64.lt_irrefl])
  · split <;> simp_all
