theorem lamp_val {s : St} (h : WF s) {b n : Int32} (b0 : 0 ≤ b) (b1 : b < s 0) {M : Int32} (hM : 0 < M) (h64 : M ≤ 64) : (lampP s b n M).2 = gS (upI s 5 (lampP s b n M).1) n (8 + b) := by
  have key := foldI_inv (f := lampF s b n) (a := ((0 : Int32), (-1 : Int32))) (n := M) (fun (i : Int32) (p : Int32 × Int32) => (i = 0 ∧ p = (0, -1)) ∨ (0 < i ∧ p.2 = gS (upI s 5 p.1) n (8 + b))) (Or.inl ⟨rfl, rfl⟩) (by
    intro i i0 i1 p hp
    right
    refine ⟨Int32.lt_of_le_of_lt i0 (inc_lt i0 i1).2.2, ?_⟩
    unfold lampF
    have v0 : ∀ z : Int32, 0 ≤ z → z < 64 → 0 ≤ gS (upI s 5 z) n (8 + b) := fun z z0 z1 => by
      have w := h.li z0 z1
      have g := gS_WF w n
      have b1' : b < gS (upI s 5 z) n 0 := by
        rw [g.2.1, upI_ne _ _ (by decide)]
        exact b1
      exact (g.1.2.1 b b0 b1').1.1
    rcases hp with ⟨e, rfl⟩ | ⟨e, hp⟩
    · subst e
      rw [if_neg (show ¬ s 3 < ones 0 from fun q => absurd (Int32.lt_of_le_of_lt h.1.2.2.2.1.1 q) (by decide))]
      rw [if_pos (Or.inl (Int32.lt_of_lt_of_le (show (-1 : Int32) < 0 by decide) (v0 0 (by decide) (by decide))))]
    · by_cases h1 : s 3 < ones i
      · rw [if_pos h1]; exact hp
      · rw [if_neg h1]
        split
        · rfl
        · exact hp) M (Int32.le_of_lt hM) (Int32.le_refl _)
  rcases key with ⟨e, _⟩ | ⟨_, e⟩
  · rw [e] at hM; exact absurd hM (by decide)
  · exact e
theorem eatsH_at (s h h' : St) (g f : Int32) (e : h f = h' f) : eatsH s h g f = eatsH s h' g f := by
  unfold eatsH
  by_cases q : f = g
  · rw [q, upI_same, upI_same]
    rw [q] at e
    rw [e]
  · rw [upI_ne _ _ q, upI_ne _ _ q]
    exact e
theorem nightFs_at (s h h' : St) (f : Int32) (e : h f = h' f) (k : Nat) : (foldN nightF (s, h) k).1 = (foldN nightF (s, h') k).1 ∧ (foldN nightF (s, h) k).2 f = (foldN nightF (s, h') k).2 f := by
  induction k with
  | zero => exact ⟨rfl, e⟩
  | succ k ih =>
    show (nightF (nI k) (foldN nightF (s, h) k)).1 = (nightF (nI k) (foldN nightF (s, h') k)).1 ∧ (nightF (nI k) (foldN nightF (s, h) k)).2 f = (nightF (nI k) (foldN nightF (s, h') k)).2 f
    generalize foldN nightF (s, h) k = x at *
    generalize foldN nightF (s, h') k = y at *
    unfold nightF
    rw [ih.1]
    split
    · exact ih
    · exact ⟨rfl, eatsH_at _ _ _ _ _ ih.2⟩
theorem night_at (s h h' : St) (f : Int32) (e : h f = h' f) : (night (s, h)).2 f = (night (s, h')).2 f := by
  unfold night foldI
  exact (nightFs_at s h h' f e _).2
theorem gon_at (s h h' : St) (f : Int32) (e : h f = h' f) (n : Int32) : (gon (s, h) n).2 f = (gon (s, h') n).2 f := by
  unfold gon foldI
  generalize n.toNatClampNeg = k
  have : (foldN (fun _ q => night q) (s, h) k).1 = (foldN (fun _ q => night q) (s, h') k).1 ∧ (foldN (fun _ q => night q) (s, h) k).2 f = (foldN (fun _ q => night q) (s, h') k).2 f := by
    induction k with
    | zero => exact ⟨rfl, e⟩
    | succ k ih =>
      show (night (foldN (fun _ q => night q) (s, h) k)).1 = (night (foldN (fun _ q => night q) (s, h') k)).1 ∧ (night (foldN (fun _ q => night q) (s, h) k)).2 f = (night (foldN (fun _ q => night q) (s, h') k)).2 f
      generalize foldN (fun _ q => night q) (s, h) k = x at *
      generalize foldN (fun _ q => night q) (s, h') k = y at *
      obtain ⟨a, b⟩ := x
      obtain ⟨c, d⟩ := y
      have e1 : a = c := ih.1
      subst e1
      exact ⟨night_fst _ _ _, night_at _ _ _ _ ih.2⟩
  exact this.2
theorem hole_eq (s h : St) (f n : Int32) : (gon (s, fun _ => 0) n).2 f = gH s (upI h f 0) n f := by
  show _ = (gon (s, upI h f 0) n).2 f
  exact gon_at _ _ _ _ (upI_same _ _ _).symm n
theorem pwZ_10 (k : Int32) : pwZ (10 : Int32).toInt64 k = pw10 1 k := rfl
theorem duA_pos {s : St} (h : WF s) : 0 ≤ dustA s (s 1) ∧ (¬ 0 < dustA s (s 1) ↔ dustA s (s 1) = 0) := by
  have key := foldI_inv (f := fun f a => a + dustV s f) (a := (0 : Int32)) (n := s 1) (fun (i a : Int32) => 0 ≤ i ∧ i ≤ 5 ∧ 0 ≤ a ∧ a.toInt ≤ 999 * i.toInt) ⟨by decide, by decide, by decide, by decide⟩ (by
    intro j j0 j1 a ha
    have j5 := h.f5 j1
    have q := (h.2.2.2 j j0 j1).2.2
    have d : 0 ≤ dustV s j ∧ dustV s j ≤ 999 := by
      unfold dustV
      split
      · exact q
      · exact ⟨by decide, by decide⟩
    have a0 := t_le.mp ha.1
    have a1 := t_lt.mp j5
    have a2 := t_le.mp ha.2.2.1
    have a3 := t_le.mp d.1
    have a4 := t_le.mp d.2
    have a5 := ha.2.2.2
    rw [show (0 : Int32).toInt = 0 by decide] at a0 a2 a3
    rw [show (5 : Int32).toInt = 5 by decide] at a1
    rw [show (999 : Int32).toInt = 999 by decide] at a4
    have c1 : (1 : Int32).toInt = 1 := by decide
    have e1 := t_add (x := j) (y := 1) (by omega) (by omega)
    have e2 := t_add (x := a) (y := dustV s j) (by omega) (by omega)
    rw [c1] at e1
    refine ⟨?_, ?_, ?_, ?_⟩
    · rw [t_le, e1, show (0 : Int32).toInt = 0 by decide]; omega
    · rw [t_le, e1, show (5 : Int32).toInt = 5 by decide]; omega
    · rw [t_le, e2, show (0 : Int32).toInt = 0 by decide]; omega
    · rw [e2, e1]; omega) (s 1) h.1.2.1.1 (Int32.le_refl _)
  have p : 0 ≤ dustA s (s 1) := key.2.2.1
  exact ⟨p, fun e => Int32.le_antisymm (Int32.not_lt.mp e) p, fun e => by rw [e]; decide⟩
theorem grams_c {s : St} (h : WF s) {f n : Int32} (hf : isF s f) (hn : inR 0 n 999) (hc : ¬ bitv (s 7) f = 0) : gramsR s f n = 0 := by
  unfold gramsR
  rw [if_pos ⟨hf, hn⟩]
  have e : dustV s f = 0 := if_neg hc
  rw [e]
  by_cases z : dustA s (s 1) = 0
  · rw [if_pos z]
  · rw [if_neg z, if_neg (fun q => absurd q.1 (by decide))]
    simp
theorem grams_n {s : St} (h : WF s) {f n : Int32} (hf : isF s f) (hn : inR 0 n 999) (hc : bitv (s 7) f = 0) : gramsR s f n = if ¬ 0 < dustA s (s 1) then 0 else n * s (36 + f) / dustA s (s 1) + (if 0 < s (36 + f) ∧ befA s f < overA s n (dustA s (s 1)) (s 1) then 1 else 0) := by
  unfold gramsR
  rw [if_pos ⟨hf, hn⟩]
  have e : dustV s f = s (36 + f) := if_pos hc
  rw [e]
  by_cases z : dustA s (s 1) = 0
  · rw [if_pos z, if_pos ((duA_pos h).2.mpr z)]
  · rw [if_neg z, if_neg (fun q => z ((duA_pos h).2.mp q))]
