def setF (F : Nat → St) (k : Nat) (g : St) : Nat → St := fun j => if j = k then g else F j
theorem setF_same (F : Nat → St) (k : Nat) (g : St) : setF F k g k = g := if_pos rfl
theorem setF_ne (F : Nat → St) {k j : Nat} (g : St) (h : j ≠ k) : setF F k g j = F j := if_neg h
theorem up_at (σ : Sg) (c k : Nat) (g : St) : (up σ c k g) c = setF (σ c) k g := by
  funext j
  unfold setF up
  by_cases e : j = k <;> simp [e]
theorem LibF_b {F : Nat → St} {s : St} (h : LibF F s) (hW : WF0 s) {A k : Nat} (hA : (A = 8 ∧ k = 1) ∨ (A = 14 ∧ k = 2)) {b v : Int32} (b0 : 0 ≤ b) (b1 : b < s 0) : LibF (setF F k (upI (F k) b v)) (upI s (nI A + b) v) := by
  obtain ⟨hf, hb, hg⟩ := h
  have b6 : b < 6 := Int32.lt_of_lt_of_le b1 hW.2.1
  have cc : ∀ j, j < 8 → upI s (nI A + b) v (nI j) = s (nI j) := fun j hj => upI_ne _ _ (ix_c A 6 j b0 b6 (by omega) (by omega)).symm
  have ff : ∀ (B : Nat) (f : Int32), 0 ≤ f → f < s 1 → 26 ≤ B → B + 5 < 1000 → upI s (nI A + b) v (nI B + f) = s (nI B + f) := fun B f f0 f1 hB hs => upI_ne _ _ (ix_ne B A 5 6 f0 (Int32.lt_of_lt_of_le f1 hW.2.2.2) b0 b6 (by omega) (by omega))
  have e0 : upI s (nI A + b) v 0 = s 0 := cc 0 (by omega)
  have e1 : upI s (nI A + b) v 1 = s 1 := cc 1 (by omega)
  have bk : ∀ w, bkAt (upI s (nI A + b) v) w = bkAt s w := bk_congr (fun x x0 x6 => upI_ne _ _ (show (20 : Int32) + x ≠ nI A + b from ix_ne 20 A 6 6 x0 x6 b0 b6 (by omega) (by omega)))
  refine ⟨?_, ?_, ?_⟩
  · rw [setF_ne _ _ (show 0 ≠ k by omega)]
    exact ⟨hf.1.trans e0.symm, hf.2.1.trans e1.symm, hf.2.2.1.trans (cc 2 (by omega)).symm, hf.2.2.2.1.trans (cc 3 (by omega)).symm, hf.2.2.2.2.1.trans (cc 4 (by omega)).symm, hf.2.2.2.2.2.1.trans (cc 5 (by omega)).symm, hf.2.2.2.2.2.2.1.trans (cc 6 (by omega)).symm, hf.2.2.2.2.2.2.2.trans (cc 7 (by omega)).symm⟩
  · intro x x0 x1
    rw [e0] at x1
    have x6 : x < 6 := Int32.lt_of_lt_of_le x1 hW.2.1
    have q := hb x x0 x1
    rw [bk, setF_ne _ _ (show 3 ≠ k by omega), setF_ne _ _ (show 4 ≠ k by omega), show upI s (nI A + b) v (20 + x) = s (20 + x) from upI_ne _ _ (ix_ne 20 A 6 6 x0 x6 b0 b6 (by omega) (by omega))]
    refine ⟨?_, ?_, q.2.2⟩
    · rcases hA with ⟨rfl, rfl⟩ | ⟨rfl, rfl⟩
      · rw [setF_same]
        by_cases e : x = b
        · subst e
          rw [upI_same]
          exact (upI_same _ _ _).symm
        · rw [upI_ne _ _ e, upI_ne _ _ (show (8 : Int32) + x ≠ nI 8 + b from fun h => e (ix_in 8 (by omega) x0 (Int32.lt_trans x6 (by decide)) b0 (Int32.lt_trans b6 (by decide)) h))]
          exact q.1
      · rw [setF_ne _ _ (by decide), upI_ne _ _ (show (8 : Int32) + x ≠ nI 14 + b from ix_ne 8 14 6 6 x0 x6 b0 b6)]
        exact q.1
    · rcases hA with ⟨rfl, rfl⟩ | ⟨rfl, rfl⟩
      · rw [setF_ne _ _ (by decide), upI_ne _ _ (show (14 : Int32) + x ≠ nI 8 + b from ix_ne 14 8 6 6 x0 x6 b0 b6)]
        exact q.2.1
      · rw [setF_same]
        by_cases e : x = b
        · subst e
          rw [upI_same]
          exact (upI_same _ _ _).symm
        · rw [upI_ne _ _ e, upI_ne _ _ (show (14 : Int32) + x ≠ nI 14 + b from fun h => e (ix_in 14 (by omega) x0 (Int32.lt_trans x6 (by decide)) b0 (Int32.lt_trans b6 (by decide)) h))]
          exact q.2.1
  · intro f f0 f1
    rw [e1] at f1
    have q := hg f f0 f1
    rw [setF_ne _ _ (show 5 ≠ k by omega), setF_ne _ _ (show 6 ≠ k by omega), setF_ne _ _ (show 7 ≠ k by omega), show upI s (nI A + b) v (26 + f) = s (26 + f) from ff 26 f f0 f1 (by omega) (by omega), show upI s (nI A + b) v (31 + f) = s (31 + f) from ff 31 f f0 f1 (by omega) (by omega), show upI s (nI A + b) v (36 + f) = s (36 + f) from ff 36 f f0 f1 (by omega) (by omega)]
    exact q
theorem LibF_f {F : Nat → St} {s : St} (h : LibF F s) (hW : WF0 s) {A k : Nat} (hA : (A = 26 ∧ k = 5) ∨ (A = 31 ∧ k = 6) ∨ (A = 36 ∧ k = 7)) {b v : Int32} (b0 : 0 ≤ b) (b1 : b < s 1) : LibF (setF F k (upI (F k) b v)) (upI s (nI A + b) v) := by
  obtain ⟨hf, hb, hg⟩ := h
  have b5 : b < 5 := Int32.lt_of_lt_of_le b1 hW.2.2.2
  have cc : ∀ j, j < 8 → upI s (nI A + b) v (nI j) = s (nI j) := fun j hj => upI_ne _ _ (ix_c A 5 j b0 b5 (by omega) (by omega)).symm
  have e0 : upI s (nI A + b) v 0 = s 0 := cc 0 (by omega)
  have e1 : upI s (nI A + b) v 1 = s 1 := cc 1 (by omega)
  have bb : ∀ (B : Nat) (x : Int32), 0 ≤ x → x < 6 → B + 6 ≤ 26 → upI s (nI A + b) v (nI B + x) = s (nI B + x) := fun B x x0 x6 hB => upI_ne _ _ (ix_ne B A 6 5 x0 x6 b0 b5 (by omega) (by omega))
  have bk : ∀ w, bkAt (upI s (nI A + b) v) w = bkAt s w := bk_congr (fun x x0 x6 => bb 20 x x0 x6 (by omega))
  have key : ∀ (B j : Nat) (x : Int32), 0 ≤ x → x < 5 → (B = A ∧ j = k) ∨ (j ≠ k ∧ (B + 5 ≤ A ∨ A + 5 ≤ B) ∧ B < 1000) → F j x = s (nI B + x) → setF F k (upI (F k) b v) j x = upI s (nI A + b) v (nI B + x) := by
    intro B j x x0 x5 hB q
    rcases hB with ⟨rfl, rfl⟩ | ⟨hj, hB, hs⟩
    · rw [setF_same]
      by_cases e : x = b
      · subst e
        rw [upI_same, upI_same]
      · rw [upI_ne _ _ e, upI_ne _ _ (fun h => e (ix_in B (by omega) x0 (Int32.lt_trans x5 (by decide)) b0 (Int32.lt_trans b5 (by decide)) h))]
        exact q
    · rw [setF_ne _ _ hj, upI_ne _ _ (ix_ne B A 5 5 x0 x5 b0 b5 (by omega) (by omega))]
      exact q
  refine ⟨?_, ?_, ?_⟩
  · rw [setF_ne _ _ (show 0 ≠ k by omega)]
    exact ⟨hf.1.trans e0.symm, hf.2.1.trans e1.symm, hf.2.2.1.trans (cc 2 (by omega)).symm, hf.2.2.2.1.trans (cc 3 (by omega)).symm, hf.2.2.2.2.1.trans (cc 4 (by omega)).symm, hf.2.2.2.2.2.1.trans (cc 5 (by omega)).symm, hf.2.2.2.2.2.2.1.trans (cc 6 (by omega)).symm, hf.2.2.2.2.2.2.2.trans (cc 7 (by omega)).symm⟩
  · intro x x0 x1
    rw [e0] at x1
    have x6 : x < 6 := Int32.lt_of_lt_of_le x1 hW.2.1
    have q := hb x x0 x1
    rw [bk, setF_ne _ _ (show 1 ≠ k by omega), setF_ne _ _ (show 2 ≠ k by omega), setF_ne _ _ (show 3 ≠ k by omega), setF_ne _ _ (show 4 ≠ k by omega), show upI s (nI A + b) v (8 + x) = s (8 + x) from bb 8 x x0 x6 (by omega), show upI s (nI A + b) v (14 + x) = s (14 + x) from bb 14 x x0 x6 (by omega), show upI s (nI A + b) v (20 + x) = s (20 + x) from bb 20 x x0 x6 (by omega)]
    exact q
  · intro x x0 x1
    rw [e1] at x1
    have x5 : x < 5 := Int32.lt_of_lt_of_le x1 hW.2.2.2
    have q := hg x x0 x1
    exact ⟨key 26 5 x x0 x5 (by omega) q.1, key 31 6 x x0 x5 (by omega) q.2.1, key 36 7 x x0 x5 (by omega) q.2.2⟩
/-- a word of the library beyond the numbers of books and fish -/
theorem LibF_w {F : Nat → St} {s : St} (h : LibF F s) {k : Nat} (hk : k = 2 ∨ k = 3 ∨ k = 4 ∨ k = 5 ∨ k = 6 ∨ k = 7) {v : Int32} (hW : WF0 s) : LibF (setF F 0 (upI (F 0) (nI k) v)) (upI s (nI k) v) := by
  obtain ⟨hf, hb, hg⟩ := h
  have hi : ∀ (A m : Nat) (x : Int32), 0 ≤ x → x < nI m → 8 ≤ A → A + m < 1000 → upI s (nI k) v (nI A + x) = s (nI A + x) := fun A m x x0 x1 hA hs => upI_ne _ _ (ix_c A m k x0 x1 (by omega) (by omega))
  have bk : ∀ w, bkAt (upI s (nI k) v) w = bkAt s w := bk_congr (fun x x0 x6 => hi 20 6 x x0 x6 (by omega) (by omega))
  have lo : ∀ j, j < 8 → F 0 (nI j) = s (nI j) → setF F 0 (upI (F 0) (nI k) v) 0 (nI j) = upI s (nI k) v (nI j) := fun j hj q => by
    rw [setF_same]
    by_cases e : j = k
    · rw [e, upI_same, upI_same]
    · have ne : nI j ≠ nI k := fun q => e ((nI_eq (by omega) (by omega)).mp q)
      rw [upI_ne _ _ ne, upI_ne _ _ ne]
      exact q
  have e0 : upI s (nI k) v 0 = s 0 := upI_ne _ _ (show nI 0 ≠ nI k from fun q => by have := (nI_eq (by omega) (by omega)).mp q; omega)
  have e1 : upI s (nI k) v 1 = s 1 := upI_ne _ _ (show nI 1 ≠ nI k from fun q => by have := (nI_eq (by omega) (by omega)).mp q; omega)
  refine ⟨⟨lo 0 (by omega) hf.1, lo 1 (by omega) hf.2.1, lo 2 (by omega) hf.2.2.1, lo 3 (by omega) hf.2.2.2.1, lo 4 (by omega) hf.2.2.2.2.1, lo 5 (by omega) hf.2.2.2.2.2.1, lo 6 (by omega) hf.2.2.2.2.2.2.1, lo 7 (by omega) hf.2.2.2.2.2.2.2⟩, ?_, ?_⟩
  · intro x x0 x1
    rw [e0] at x1
    have x6 : x < 6 := Int32.lt_of_lt_of_le x1 hW.2.1
    rw [bk, show upI s (nI k) v (8 + x) = s (8 + x) from hi 8 6 x x0 x6 (by omega) (by omega), show upI s (nI k) v (14 + x) = s (14 + x) from hi 14 6 x x0 x6 (by omega) (by omega), show upI s (nI k) v (20 + x) = s (20 + x) from hi 20 6 x x0 x6 (by omega) (by omega)]
    exact hb x x0 x1
  · intro x x0 x1
    rw [e1] at x1
    have x5 : x < 5 := Int32.lt_of_lt_of_le x1 hW.2.2.2
    rw [show upI s (nI k) v (26 + x) = s (26 + x) from hi 26 5 x x0 x5 (by omega) (by omega), show upI s (nI k) v (31 + x) = s (31 + x) from hi 31 5 x x0 x5 (by omega) (by omega), show upI s (nI k) v (36 + x) = s (36 + x) from hi 36 5 x x0 x5 (by omega) (by omega)]
    exact hg x x0 x1
