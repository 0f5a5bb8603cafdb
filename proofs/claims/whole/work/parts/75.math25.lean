theorem dv1 {s : St} {i : Int32} (h : bitv (s 7) i = 0) : dustV s i = s (36 + i) := if_pos h
theorem dv0 {s : St} {i : Int32} (h : ¬ bitv (s 7) i = 0) : dustV s i = 0 := if_neg h
theorem ov_s {s : St} {n a i : Int32} (hi : 0 ≤ i) {m : Int32} (h : i < m) : overA s n a (i + 1) = overA s n a i - n * dustV s i / a := foldI_s _ _ hi h
theorem ov_c {s : St} {n a i : Int32} (hi : 0 ≤ i) {m : Int32} (h : i < m) (hd : ¬ bitv (s 7) i = 0) : overA s n a (i + 1) = overA s n a i := by
  rw [ov_s hi h, dv0 hd]
  simp
theorem bf_s {s : St} {i f : Int32} (hi : 0 ≤ i) {m : Int32} (h : i < m) : (if i + 1 < f then befA s (i + 1) else befA s f) = (if i < f then befA s i else befA s f) + (if i < f ∧ 0 < dustV s i then 1 else 0) := by
  have e : befA s (i + 1) = befA s i + (if 0 < dustV s i then 1 else 0) := foldI_s _ _ hi h
  by_cases h1 : i < f
  · rw [if_pos h1]
    have e2 : (if i + 1 < f then befA s (i + 1) else befA s f) = befA s (i + 1) := by
      by_cases h2 : i + 1 < f
      · rw [if_pos h2]
      · rw [if_neg h2, show i + 1 = f by grind]
    rw [e2, e]
    simp [h1]
  · rw [if_neg h1, if_neg (show ¬ i + 1 < f by grind)]
    simp [h1]
theorem bf_c {s : St} {i f : Int32} (hi : 0 ≤ i) {m : Int32} (h : i < m) (hd : ¬ bitv (s 7) i = 0) : (if i + 1 < f then befA s (i + 1) else befA s f) = (if i < f then befA s i else befA s f) := by
  rw [bf_s hi h, dv0 hd]
  simp
theorem bf_0 {s : St} {f : Int32} (f0 : 0 ≤ f) : (if 0 < f then befA s 0 else befA s f) = 0 := by
  by_cases h : 0 < f
  · rw [if_pos h]; rfl
  · rw [if_neg h, show f = 0 by grind]; rfl
