/-- the tape: figures, runs of them -/
abbrev dg (T : St) (N k : Nat) : Prop := k < N ∧ 48 ≤ T (nI k) ∧ T (nI k) ≤ 57
def rn (T : St) (N : Nat) : Nat → Nat → Nat
  | 0, k => k
  | f + 1, k => if dg T N k then rn T N f (k + 1) else k
def re (T : St) (N k : Nat) : Nat := rn T N (N - k) k
def nv (T : St) (k e : Nat) : Int32 := if e = k + 1 then T (nI k) - 48 else 10 * (T (nI k) - 48) + T (nI (k + 1)) - 48
theorem re_s {T : St} {N k : Nat} : re T N k = if dg T N k then re T N (k + 1) else k := by
  unfold re
  by_cases h : k < N
  · rw [show N - k = (N - (k + 1)) + 1 by omega]
    rfl
  · rw [show N - k = 0 by omega, if_neg (fun q => h q.1)]
    rfl
theorem re_of {T : St} {N k j : Nat} (h1 : k ≤ j) (ha : ∀ i, k ≤ i → i < j → dg T N i) (hb : ¬ dg T N j) : re T N k = j := by
  obtain ⟨d, rfl⟩ : ∃ d, j = k + d := ⟨j - k, by omega⟩
  induction d generalizing k with
  | zero => rw [Nat.add_zero] at hb ⊢; rw [re_s, if_neg hb]
  | succ d ih =>
    rw [re_s, if_pos (ha k (by omega) (by omega))]
    have := ih (k := k + 1) (by omega) (fun i h h' => ha i (by omega) (by omega)) (by rw [show k + 1 + d = k + (d + 1) by omega]; exact hb)
    rw [this]
    omega
theorem re_spec (T : St) (N : Nat) : ∀ (d k : Nat), N - k = d → k ≤ re T N k ∧ (k ≤ N → re T N k ≤ N) ∧ (∀ i, k ≤ i → i < re T N k → dg T N i) ∧ ¬ dg T N (re T N k)
  | 0, k, h => by
    have e : re T N k = k := by rw [re_s, if_neg (fun q => absurd q.1 (by omega))]
    rw [e]
    exact ⟨Nat.le_refl _, fun q => q, fun i a b => absurd a (by omega), fun q => absurd q.1 (by omega)⟩
  | d + 1, k, h => by
    by_cases hd : dg T N k
    · have ih := re_spec T N d (k + 1) (by omega)
      have e : re T N k = re T N (k + 1) := by rw [re_s, if_pos hd]
      rw [e]
      refine ⟨by omega, fun _ => ih.2.1 (by omega), fun i a b => ?_, ih.2.2.2⟩
      by_cases ei : i = k
      · rw [ei]; exact hd
      · exact ih.2.2.1 i (by omega) b
    · have e : re T N k = k := by rw [re_s, if_neg hd]
      rw [e]
      exact ⟨Nat.le_refl _, fun q => q, fun i a b => absurd a (by omega), hd⟩
abbrev letT (c : Int32) : Prop := (97 ≤ c ∧ c ≤ 122) ∨ c = 44 ∨ c = 59
/-- the model's token that begins at k -/
def Tok (T : St) (N : Nat) (f : St) (k : Nat) : Prop := (k ≤ N ∧ N ≤ 120 ∧ f 8 = nI N ∧ f 13 = nI k) ∧ (k = N → f 11 = 3 ∧ f 10 = nI N) ∧ (dg T N k → f 10 = nI (re T N k) ∧ (re T N k ≤ k + 2 → f 11 = 2 ∧ f 12 = nv T k (re T N k)) ∧ (¬ re T N k ≤ k + 2 → f 11 = 0)) ∧ (k < N → ¬ dg T N k → f 10 = nI (k + 1) ∧ f 12 = T (nI k) ∧ f 11 = if letT (T (nI k)) then 1 else 0)
def vinv (T : St) (k j : Nat) (v : Int32) : Prop := (j = k → v = 0) ∧ (j = k + 1 → v = T (nI k) - 48) ∧ (j = k + 2 → v = 10 * (T (nI k) - 48) + T (nI (k + 1)) - 48)
def fld (σ τ : Sg) : Prop := ∀ i : Int32, (i < 10 ∨ 13 < i) → τ 40 0 i = σ 40 0 i
theorem fld_refl (σ : Sg) : fld σ σ := fun _ _ => rfl
theorem fld_up {σ τ : Sg} {j v : Int32} (h : fld σ τ) (hj : 10 ≤ j ∧ j ≤ 13) : fld σ (up τ 40 0 (upI (τ 40 0) j v)) := by
  intro i hi
  rw [up_same, upI_ne _ _ (fun e => by subst e; rcases hi with q | q <;> grind)]
  exact h i hi
theorem tok_num {T : St} {N k j : Nat} {f : St} (hN : N ≤ 120) (hk : k < j) (hj : j ≤ N) (ha : ∀ i, k ≤ i → i < j → dg T N i) (hb : ¬ dg T N j) (h8 : f 8 = nI N) (h13 : f 13 = nI k) (h10 : f 10 = nI j) (h11 : f 11 = if j ≤ k + 2 then 2 else 0) (h12 : vinv T k j (f 12)) : Tok T N f k := by
  have e := re_of (by omega) ha hb
  refine ⟨⟨by omega, hN, h8, h13⟩, fun q => absurd q (by omega), fun _ => ⟨by rw [e]; exact h10, fun q => ?_, fun q => ?_⟩, fun _ q => absurd (ha k (by omega) hk) q⟩
  · rw [e] at q ⊢
    rw [if_pos q] at h11
    refine ⟨h11, ?_⟩
    unfold nv
    by_cases e1 : j = k + 1
    · rw [if_pos e1]; exact h12.2.1 e1
    · rw [if_neg e1]; exact h12.2.2 (by omega)
  · rw [e] at q
    rw [if_neg q] at h11
    exact h11
theorem tok_end {T : St} {N : Nat} {f : St} (hN : N ≤ 120) (h8 : f 8 = nI N) (h13 : f 13 = nI N) (h10 : f 10 = nI N) (h11 : f 11 = 3) : Tok T N f N :=
  ⟨⟨Nat.le_refl _, hN, h8, h13⟩, fun _ => ⟨h11, h10⟩, fun q => absurd q.1 (by omega), fun q => absurd q (by omega)⟩
theorem tok_let {T : St} {N k : Nat} {f : St} (hN : N ≤ 120) (hk : k < N) (hb : ¬ dg T N k) (h8 : f 8 = nI N) (h13 : f 13 = nI k) (h10 : f 10 = nI (k + 1)) (h12 : f 12 = T (nI k)) (h11 : f 11 = if letT (T (nI k)) then 1 else 0) : Tok T N f k :=
  ⟨⟨by omega, hN, h8, h13⟩, fun q => absurd q (by omega), fun q => absurd q hb, fun _ _ => ⟨h10, h12, h11⟩⟩
theorem dig_rng {x : Int32} (h0 : 48 ≤ x) (h1 : x ≤ 57) : 0 ≤ x - 48 ∧ x - 48 ≤ 9 := by grind
theorem vinv_s {T : St} {N k j : Nat} {v : Int32} (hk : k ≤ j) (hd : ∀ i, k ≤ i → i < j → dg T N i) (h : vinv T k j v) (hv : 99 < v) : vinv T k (j + 1) v := by
  refine ⟨fun q => absurd q (by omega), fun q => ?_, fun q => ?_⟩
  · rw [h.1 (by omega)] at hv
    exact absurd hv (by decide)
  · have e := h.2.1 (by omega)
    have d := hd k (by omega) (by omega)
    have r := dig_rng d.2.1 d.2.2
    rw [e] at hv
    exact absurd (Int32.lt_of_lt_of_le hv r.2) (by decide)
theorem vinv_t {T : St} {k j : Nat} {v : Int32} (hk : k ≤ j) (h : vinv T k j v) : vinv T k (j + 1) (10 * v + T (nI j) - 48) := by
  refine ⟨fun q => absurd q (by omega), fun q => ?_, fun q => ?_⟩
  · rw [h.1 (by omega), show j = k by omega, Int32.mul_zero, Int32.zero_add]
  · rw [h.2.1 (by omega), show j = k + 1 by omega]
theorem nI_sub {a b : Nat} (h : b ≤ a) : nI a - nI b = nI (a - b) := by
  have e : nI a = nI (a - b) + nI b := by rw [nI_add]; congr 1; omega
  rw [e]
  exact Int32.add_sub_cancel _ _
