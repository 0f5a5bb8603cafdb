theorem as64 {x : Int32} (h0 : 0 ≤ x) (h1 : x < 64) : ∃ j : Fin 64, x = nI j.val := by
  obtain ⟨j, hj, rfl⟩ := nI_of (Int32.not_lt.mpr h0)
  exact ⟨⟨j, (nI_ltI (b := 64) hj (by decide)).mp h1⟩, rfl⟩
theorem as6 {x : Int32} (h0 : 0 ≤ x) (h1 : x < 6) : ∃ j : Fin 6, x = nI j.val := by
  obtain ⟨j, hj, rfl⟩ := nI_of (Int32.not_lt.mpr h0)
  exact ⟨⟨j, (nI_ltI (b := 6) hj (by decide)).mp h1⟩, rfl⟩
theorem or_bitF : ∀ x : Fin 64, ∀ k : Fin 6, (0 ≤ nI x.val ||| shl32 1 (nI k.val) ∧ nI x.val ||| shl32 1 (nI k.val) < 64) ∧ ∀ b : Fin 6, bitv (nI x.val ||| shl32 1 (nI k.val)) (nI b.val) = if b = k then 1 else bitv (nI x.val) (nI b.val) := by decide +kernel
theorem or_bit {x k : Int32} (x0 : 0 ≤ x) (x1 : x < 64) (k0 : 0 ≤ k) (k1 : k < 6) : (0 ≤ x ||| shl32 1 k ∧ x ||| shl32 1 k < 64) ∧ ∀ b, 0 ≤ b → b < 6 → bitv (x ||| shl32 1 k) b = if b = k then 1 else bitv x b := by
  obtain ⟨i, rfl⟩ := as64 x0 x1
  obtain ⟨j, rfl⟩ := as6 k0 k1
  refine ⟨(or_bitF i j).1, fun b b0 b1 => ?_⟩
  obtain ⟨m, rfl⟩ := as6 b0 b1
  rw [(or_bitF i j).2 m]
  by_cases e : m = j
  · subst e; rw [if_pos rfl, if_pos rfl]
  · rw [if_neg e, if_neg]
    intro q
    exact e (Fin.ext ((nI_eq (by omega) (by omega)).mp q))
theorem xor_bitF : ∀ x : Fin 64, ∀ k : Fin 6, (0 ≤ nI x.val ^^^ shl32 1 (nI k.val) ∧ nI x.val ^^^ shl32 1 (nI k.val) < 64) := by decide +kernel
theorem xor_bit {x k : Int32} (x0 : 0 ≤ x) (x1 : x < 64) (k0 : 0 ≤ k) (k1 : k < 6) : 0 ≤ x ^^^ shl32 1 k ∧ x ^^^ shl32 1 k < 64 := by
  obtain ⟨i, rfl⟩ := as64 x0 x1
  obtain ⟨j, rfl⟩ := as6 k0 k1
  exact xor_bitF i j
theorem or5F : ∀ x : Fin 32, ∀ k : Fin 5, (0 ≤ nI x.val ||| shl32 1 (nI k.val) ∧ nI x.val ||| shl32 1 (nI k.val) < 32) := by decide +kernel
theorem or5 {x k : Int32} (x0 : 0 ≤ x) (x1 : x < 32) (k0 : 0 ≤ k) (k1 : k < 5) : 0 ≤ x ||| shl32 1 k ∧ x ||| shl32 1 k < 32 := by
  obtain ⟨i, hi, rfl⟩ := nI_of (Int32.not_lt.mpr x0)
  obtain ⟨j, hj, rfl⟩ := nI_of (Int32.not_lt.mpr k0)
  exact or5F ⟨i, (nI_ltI (b := 32) hi (by decide)).mp x1⟩ ⟨j, (nI_ltI (b := 5) hj (by decide)).mp k1⟩
theorem sub_bitF : ∀ x : Fin 64, ∀ y : Fin 64, (∀ b : Fin 6, bitv (nI x.val) (nI b.val) = 1 → bitv (nI y.val) (nI b.val) = 1) → x ≠ y → nI y.val &&& (nI x.val ^^^ (-1)) ≠ 0 := by decide +kernel
theorem sub_bit {x y : Int32} (x0 : 0 ≤ x) (x1 : x < 64) (y0 : 0 ≤ y) (y1 : y < 64) (h : ∀ b, 0 ≤ b → b < 6 → bitv x b = 1 → bitv y b = 1) (hne : x ≠ y) : y &&& (x ^^^ (-1)) ≠ 0 := by
  obtain ⟨i, rfl⟩ := as64 x0 x1
  obtain ⟨j, rfl⟩ := as64 y0 y1
  exact sub_bitF i j (fun b => h _ (nI_pos' (by omega)) ((nI_ltI (b := 6) (by omega) (by decide)).mpr b.isLt)) (fun e => hne (by rw [e]))
theorem and_not (x : Int32) : x &&& (x ^^^ (-1)) = 0 := by
  rw [Int32.xor_neg_one]
  exact Int32.and_not_self
theorem andnF : ∀ x : Fin 64, ∀ y : Fin 64, (0 ≤ nI y.val &&& (nI x.val ^^^ (-1)) ∧ nI y.val &&& (nI x.val ^^^ (-1)) < 64) ∧ (nI y.val &&& (nI x.val ^^^ (-1)) ≠ 0 → leastR (nI y.val &&& (nI x.val ^^^ (-1))) < 6) := by decide +kernel
theorem andn {x y : Int32} (x0 : 0 ≤ x) (x1 : x < 64) (y0 : 0 ≤ y) (y1 : y < 64) : (0 ≤ y &&& (x ^^^ (-1)) ∧ y &&& (x ^^^ (-1)) < 64) ∧ (y &&& (x ^^^ (-1)) ≠ 0 → leastR (y &&& (x ^^^ (-1))) < 6) := by
  obtain ⟨i, rfl⟩ := as64 x0 x1
  obtain ⟨j, rfl⟩ := as64 y0 y1
  exact andnF i j
theorem empty_spec (s : St) {n : Int32} (n0 : 0 ≤ n) (n6 : n ≤ 6) : (0 ≤ emptyM s n ∧ emptyM s n < 64) ∧ ∀ b, 0 ≤ b → b < 6 → (bitv (emptyM s n) b = 1 ↔ b < n ∧ s (8 + b) = 0) := by
  unfold emptyM
  refine foldI_inv (f := fun b a => a ||| (if s (8 + b) = 0 then shl32 1 b else 0)) (n := n) (fun (i : Int32) (a : Int32) => (0 ≤ a ∧ a < 64) ∧ ∀ b, 0 ≤ b → b < 6 → (bitv a b = 1 ↔ b < i ∧ s (8 + b) = 0)) ?_ ?_ n n0 (Int32.le_refl _)
  · refine ⟨⟨by decide, by decide⟩, fun b b0 b1 => ?_⟩
    constructor
    · intro h
      rcases cases6 b0 b1 with rfl | rfl | rfl | rfl | rfl | rfl <;> exact absurd h (by decide)
    · intro h
      exact absurd (Int32.lt_of_le_of_lt b0 h.1) (by decide)
  · intro i i0 i1 a ⟨ha, hb⟩
    have i6 := Int32.lt_of_lt_of_le i1 n6
    have hlt : ∀ b, 0 ≤ b → (b < i + 1 ↔ b < i ∨ b = i) := by
      intro b b0
      constructor
      · intro h
        by_cases e : b = i
        · exact Or.inr e
        · exact Or.inl (lt_of_inc i0 i1 h e)
      · rintro (h | h)
        · exact Int32.lt_trans h (inc_lt i0 i1).2.2
        · rw [h]; exact (inc_lt i0 i1).2.2
    by_cases hz : s (8 + i) = 0
    · simp only [hz, if_true]
      have k := or_bit ha.1 ha.2 i0 i6
      refine ⟨k.1, fun b b0 b1 => ?_⟩
      rw [k.2 b b0 b1, hlt b b0]
      by_cases e : b = i
      · subst e
        simp [hz]
      · rw [if_neg e, hb b b0 b1]
        simp [e]
    · simp only [hz, if_false]
      have e0 : a ||| (0 : Int32) = a := Int32.or_zero
      rw [e0]
      refine ⟨ha, fun b b0 b1 => ?_⟩
      rw [hb b b0 b1, hlt b b0]
      by_cases e : b = i
      · subst e
        simp [hz]
      · simp [e]
/-- pages that are gone stay gone -/
theorem eats_0 {s : St} (h : WF s) {f b : Int32} (f0 : 0 ≤ f) (f1 : f < s 1) (b0 : 0 ≤ b) (b1 : b < s 0) (hz : s (8 + b) = 0) : eatsS s f (8 + b) = 0 := by
  have k := h.bk f0 f1
  have m := much_rng h f0 f1
  have b6 := h.b6 b1
  unfold eatsS
  rw [upI_ne _ _ (show (8 : Int32) + b ≠ 36 + f from ix_ne 8 36 6 5 b0 b6 f0 (h.f5 f1))]
  by_cases e : 8 + b = 8 + bkAt s (s (31 + f))
  · rw [e, upI_same, ← e, hz]
    rw [← e, hz] at m
    have : muchE s f = 0 := Int32.le_antisymm m.2.1 m.1
    rw [this]; decide
  · rw [upI_ne _ _ e]; exact hz
theorem nightF_0 {p : St × St} (h : WF p.1) {f b : Int32} (f0 : 0 ≤ f) (f1 : f < p.1 1) (b0 : 0 ≤ b) (b1 : b < p.1 0) (hz : p.1 (8 + b) = 0) : (nightF f p).1 (8 + b) = 0 := by
  unfold nightF
  split
  · exact hz
  · have g := goesTo_rng h f0 f1
    have w := h.at f0 f1 g.1 g.2
    have k := at_keep (s := p.1) (v := goesTo p.1 f) f0 (h.f5 f1)
    exact eats_0 w f0 (by rw [k.2]; exact f1) b0 (by rw [k.1]; exact b1) (by rw [upI_ne _ _ (show (8 : Int32) + b ≠ 31 + f from ix_ne 8 31 6 5 b0 (h.b6 b1) f0 (h.f5 f1))]; exact hz)
theorem damp_pg {s : St} (h : WF s) {b : Int32} (b0 : 0 ≤ b) (b1 : b < 6) : dampS s (8 + b) = s (8 + b) := by
  unfold dampS
  split
  · have := foldI_inv (f := pasteF) (a := s) (n := s 0) (fun (_ : Int32) (q : St) => q (8 + b) = s (8 + b)) rfl (by
      intro i i0 i1 q hq
      unfold pasteF
      split
      · rw [upI_ne _ _ (show (8 : Int32) + b ≠ 14 + i from ix_ne 8 14 6 6 b0 b1 i0 (h.b6 i1))]; exact hq
      · exact hq) (s 0) (le0_of h.1.1.1) (Int32.le_refl _)
    exact this
  · rfl
theorem night_0 {p : St × St} (h : WF p.1) {b : Int32} (b0 : 0 ≤ b) (b1 : b < p.1 0) (hz : p.1 (8 + b) = 0) : (night p).1 (8 + b) = 0 := by
  have a := nightFs_WF h (p.1 1) h.1.2.1.1 (Int32.le_refl _)
  have z : (foldI nightF p (p.1 1)).1 (8 + b) = 0 := by
    have := foldI_inv (f := nightF) (a := p) (n := p.1 1) (fun (_ : Int32) (q : St × St) => WF q.1 ∧ q.1 0 = p.1 0 ∧ q.1 1 = p.1 1 ∧ q.1 (8 + b) = 0) ⟨h, rfl, rfl, hz⟩ (by
      intro i i0 i1 q hq
      have w := nightF_WF hq.1 i0 (by rw [hq.2.2.1]; exact i1)
      exact ⟨w.1, w.2.1.trans hq.2.1, w.2.2.trans hq.2.2.1, nightF_0 hq.1 i0 (by rw [hq.2.2.1]; exact i1) b0 (by rw [hq.2.1]; exact b1) hq.2.2.2⟩) (p.1 1) h.1.2.1.1 (Int32.le_refl _)
    exact this.2.2.2
  have q : (night p).1 = upI (dampS (foldI nightF p (p.1 1)).1) 4 (dampS (foldI nightF p (p.1 1)).1 4 + 1) := rfl
  rw [q, upI_ne _ _ (show (8 : Int32) + b ≠ 4 from ix_c 8 6 4 b0 (h.b6 b1)), damp_pg a.1 b0 (h.b6 b1)]
  exact z
theorem gS_00 {s : St} (h : WF s) {b : Int32} (b0 : 0 ≤ b) (b1 : b < s 0) (hz : s (8 + b) = 0) (n : Int32) : gS s n (8 + b) = 0 := by
  unfold gS gon foldI
  generalize n.toNatClampNeg = k
  have : (foldN (fun _ q => night q) (s, fun _ => 0) k).1 (8 + b) = 0 := by
    induction k with
    | zero => exact hz
    | succ k ih =>
      have w := gonN_WF (p := (s, fun _ => 0)) h k
      exact night_0 w.1 b0 (by rw [w.2.1]; exact b1) ih
  exact this
def firstP (s : St) (n : Int32) : Int32 := emptyM (gS s n) (s 0) &&& (emptyM s (s 0) ^^^ (-1))
theorem firstP_eq {s : St} {n : Int32} (h : emptyM (gS s n) (s 0) = emptyM s (s 0)) : firstP s n = 0 := by
  unfold firstP
  rw [h]
  exact and_not _
theorem firstP_ne {s : St} (hw : WF s) {n : Int32} (h : emptyM (gS s n) (s 0) ≠ emptyM s (s 0)) : firstP s n ≠ 0 := by
  have a := empty_spec s (le0_of hw.1.1.1) hw.1.1.2
  have b := empty_spec (gS s n) (le0_of hw.1.1.1) hw.1.1.2
  refine sub_bit a.1.1 a.1.2 b.1.1 b.1.2 (fun x x0 x1 hx => ?_) (fun e => h e.symm)
  have := (a.2 x x0 x1).mp hx
  exact (b.2 x x0 x1).mpr ⟨this.1, gS_00 hw x0 this.1 this.2 n⟩
theorem firstP_rng {s : St} (hw : WF s) (n : Int32) : (0 ≤ firstP s n ∧ firstP s n < 64) ∧ (firstP s n ≠ 0 → leastR (firstP s n) < 6) := by
  have a := empty_spec s (le0_of hw.1.1.1) hw.1.1.2
  have b := empty_spec (gS s n) (le0_of hw.1.1.1) hw.1.1.2
  exact andn a.1.1 a.1.2 b.1.1 b.1.2
