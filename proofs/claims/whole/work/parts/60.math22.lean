def likeP (s : St) (f p : Int32) : Int32 × Int32 := foldI (likeF s f) ((-1000000 : Int32), (0 : Int32)) p
def linv (s : St) (f p a m : Int32) : Prop := a = (likeP s f p).1 ∧ ((a = -1000000 ∧ m = -1000) ∨ (0 ≤ a ∧ m = (likeP s f p).2))
theorem linv_no {s : St} {f p n a m : Int32} (p0 : 0 ≤ p) (p1 : p < n) (h : linv s f p a m) (hb : ¬ (bitv (s 5 ||| s 6) (bkAt s p) = 0 ∧ 0 < s (8 + bkAt s p) ∧ m < likes s f (bkAt s p))) (hl : -10 ≤ likes s f (bkAt s p)) : linv s f (p + 1) a m := by
  have e : likeP s f (p + 1) = likeP s f p := by
    have q : likeP s f (p + 1) = likeF s f p (likeP s f p) := by unfold likeP; rw [foldI_s _ _ p0 p1]
    rw [q]
    unfold likeF
    rw [if_neg]
    intro c
    refine hb ⟨c.1, c.2.1, ?_⟩
    rcases h.2 with d | d
    · rw [d.2]
      exact Int32.lt_of_lt_of_le (by decide) hl
    · rcases c.2.2 with g | g
      · rw [← h.1] at g
        exact absurd (Int32.lt_of_le_of_lt d.1 g) (by decide)
      · rw [d.2]
        exact g
  unfold linv
  rw [e]
  exact h
theorem linv_yes {s : St} {f p n a m : Int32} (p0 : 0 ≤ p) (p1 : p < n) (h : linv s f p a m) (hb : bitv (s 5 ||| s 6) (bkAt s p) = 0) (hc : 0 < s (8 + bkAt s p)) (hm : m < likes s f (bkAt s p)) : linv s f (p + 1) p (likes s f (bkAt s p)) := by
  have e : likeP s f (p + 1) = (p, likes s f (bkAt s p)) := by
    have q : likeP s f (p + 1) = likeF s f p (likeP s f p) := by unfold likeP; rw [foldI_s _ _ p0 p1]
    rw [q]
    unfold likeF
    rw [if_pos]
    refine ⟨hb, hc, ?_⟩
    rcases h.2 with d | d
    · left
      rw [← h.1, d.1]
      decide
    · right
      rw [← d.2]
      exact hm
  unfold linv
  rw [e]
  exact ⟨rfl, Or.inr ⟨p0, rfl⟩⟩
theorem abs_eq (x : Int32) : (if 0 ≤ x then x else 0 - x) = if x < 0 then -x else x := by
  by_cases h : x < 0
  · rw [if_pos h, if_neg (Int32.not_le.mpr h), Int32.zero_sub]
  · rw [if_neg h, if_pos (Int32.not_lt.mp h)]
theorem likes_at {s : St} (h : WF s) {f p : Int32} (p0 : 0 ≤ p) (p1 : p < s 0) : likes s f (bkAt s p) = (s (14 + bkAt s p) * (if s (26 + f) = 2 then 2 else 1) + s (8 + bkAt s p) / 10) - (if 0 ≤ p - s (31 + f) then p - s (31 + f) else 0 - (p - s (31 + f))) := by
  unfold likes
  rw [(h.2.2.1 p p0 p1).2.2, abs_eq]
  by_cases e : s (26 + f) = 2
  · rw [if_pos e, if_pos e, Int32.mul_comm]
  · rw [if_neg e, if_neg e, Int32.mul_one]
theorem pos_ne {x : Int32} (h : 0 ≤ x) : 0 < x ↔ ¬ x = 0 := by grind
theorem much_0 {s h : St} (hw : WF s) {f : Int32} (f0 : 0 ≤ f) (f1 : f < s 1) (hm : ¬ 0 < muchE s f) : eatsS s f = s ∧ eatsH s h f = h := by
  have r := much_rng hw f0 f1
  have z : muchE s f = 0 := Int32.le_antisymm (Int32.not_lt.mp hm) r.1
  have d := (hw.2.2.2 f f0 f1).2.2.2
  constructor
  · unfold eatsS
    rw [z, Int32.sub_zero, Int32.add_zero, upI_self, if_neg (Int32.not_lt.mpr d), upI_self]
  · unfold eatsH
    rw [z, if_neg (by decide), Int32.or_zero, upI_self]
theorem k45 {k : Int32} (h : 1 ≤ k) (h5 : k ≤ 5) : k < 4 ↔ (¬ k = 4 ∧ ¬ k = 5) := by
  obtain ⟨j, hj, rfl⟩ := nI_of (x := k) (by grind)
  have b := (nI_leI (b := 5) hj (by decide)).mp h5
  rcases (by omega : j = 0 ∨ j = 1 ∨ j = 2 ∨ j = 3 ∨ j = 4 ∨ j = 5) with rfl | rfl | rfl | rfl | rfl | rfl <;> decide
