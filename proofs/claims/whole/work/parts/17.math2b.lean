theorem rem32_toInt {x y : Int32} (h0 : 0 ≤ x) (h1 : 0 < y) : (rem32 x y).toInt = x.toInt % y.toInt := by
  obtain ⟨a, ha, rfl⟩ := nI_of (Int32.not_lt.mpr h0)
  obtain ⟨d, hd, rfl⟩ := nI_of (x := y) (by grind)
  have hd0 : 0 < d := (nI_ltI (a := 0) (by decide) hd).mp h1
  unfold rem32
  rw [pk_rem ha hd0 hd, nI_toInt ha, nI_toInt hd, nI_toInt (Nat.lt_trans (Nat.mod_lt _ hd0) hd)]
  rfl
theorem rem32_rng {x y : Int32} (h0 : 0 ≤ x) (h1 : 0 < y) : 0 ≤ rem32 x y ∧ rem32 x y < y := by
  have e := rem32_toInt h0 h1
  have hy : 0 < y.toInt := by simpa using Int32.lt_iff_toInt_lt.mp h1
  rw [Int32.le_iff_toInt_le, Int32.lt_iff_toInt_lt, e]
  exact ⟨by simpa using Int.emod_nonneg _ (by omega), Int.emod_lt_of_pos _ hy⟩
theorem div10 {x : Int32} (h0 : 0 ≤ x) (h1 : x ≤ 99) : 0 ≤ x / 10 ∧ x / 10 ≤ 9 := by
  obtain ⟨a, ha, rfl⟩ := nI_of (Int32.not_lt.mpr h0)
  have h : a ≤ 99 := (nI_leI (b := 99) ha (by decide)).mp h1
  have e := pk_div ha (d := 10) (by decide) (by decide)
  have e2 : nI a / 10 = nI (a / 10) := e
  rw [e2]
  exact ⟨nI_pos' (by omega), (nI_leI (b := 9) (by omega) (by decide)).mpr (by omega)⟩
theorem absd_rng {x y : Int32} (x0 : 0 ≤ x) (x1 : x < 6) (y0 : 0 ≤ y) (y1 : y < 6) : 0 ≤ (if x - y < 0 then -(x - y) else x - y) ∧ (if x - y < 0 then -(x - y) else x - y) ≤ 5 := by
  rcases (by grind : x = 0 ∨ x = 1 ∨ x = 2 ∨ x = 3 ∨ x = 4 ∨ x = 5) with rfl | rfl | rfl | rfl | rfl | rfl <;> rcases (by grind : y = 0 ∨ y = 1 ∨ y = 2 ∨ y = 3 ∨ y = 4 ∨ y = 5) with rfl | rfl | rfl | rfl | rfl | rfl <;> decide
theorem paste_rng {k x : Int32} (x0 : 0 ≤ x) (x1 : x ≤ 9) : 0 ≤ (if k = 2 then 2 * x else x) ∧ (if k = 2 then 2 * x else x) ≤ 18 := by
  split
  · rcases (by grind : x = 0 ∨ x = 1 ∨ x = 2 ∨ x = 3 ∨ x = 4 ∨ x = 5 ∨ x = 6 ∨ x = 7 ∨ x = 8 ∨ x = 9) with rfl | rfl | rfl | rfl | rfl | rfl | rfl | rfl | rfl | rfl <;> decide
  · exact ⟨x0, by grind⟩
theorem t_add {x y : Int32} (h1 : -2147483648 ≤ x.toInt + y.toInt) (h2 : x.toInt + y.toInt < 2147483648) : (x + y).toInt = x.toInt + y.toInt := by
  rw [Int32.toInt_add]
  exact Int.bmod_eq_of_le (by simpa using h1) (by simpa using h2)
theorem t_sub {x y : Int32} (h1 : -2147483648 ≤ x.toInt - y.toInt) (h2 : x.toInt - y.toInt < 2147483648) : (x - y).toInt = x.toInt - y.toInt := by
  rw [Int32.toInt_sub]
  exact Int.bmod_eq_of_le (by simpa using h1) (by simpa using h2)
theorem t_le {x y : Int32} : x ≤ y ↔ x.toInt ≤ y.toInt := Int32.le_iff_toInt_le
theorem t_lt {x y : Int32} : x < y ↔ x.toInt < y.toInt := Int32.lt_iff_toInt_lt
theorem sum_rng {p q d : Int32} (p0 : 0 ≤ p) (p1 : p ≤ 18) (q0 : 0 ≤ q) (q1 : q ≤ 9) (d0 : 0 ≤ d) (d1 : d ≤ 5) : -10 ≤ p + q - d ∧ p + q - d ≤ 27 := by
  rw [t_le] at *
  rw [t_le]
  have c0 : (0 : Int32).toInt = 0 := by decide
  have c18 : (18 : Int32).toInt = 18 := by decide
  have c9 : (9 : Int32).toInt = 9 := by decide
  have c5 : (5 : Int32).toInt = 5 := by decide
  have c27 : (27 : Int32).toInt = 27 := by decide
  have c10 : (-10 : Int32).toInt = -10 := by decide
  rw [c0] at p0 q0 d0
  rw [c18] at p1
  rw [c9] at q1
  rw [c5] at d1
  rw [c10, c27]
  have e1 := t_add (x := p) (y := q) (by omega) (by omega)
  have e2 := t_sub (x := p + q) (y := d) (by omega) (by omega)
  omega
theorem likes_rng {s : St} (h : WF s) {f b : Int32} (f0 : 0 ≤ f) (f1 : f < s 1) (b0 : 0 ≤ b) (b1 : b < s 0) : -10 ≤ likes s f b ∧ likes s f b ≤ 27 := by
  obtain ⟨hN, hB, hP, hF⟩ := h
  have k1 := hB b b0 b1
  have k2 := hF f f0 f1
  have k3 := div10 k1.1.1 k1.1.2
  have h6 : s 0 ≤ 6 := hN.1.2
  clear hB hP hF hN
  have k4 := absd_rng (x := s (20 + b)) (y := s (31 + f)) k1.2.2.1.1 (by grind) k2.2.1.1 (by grind)
  have k5 := paste_rng (k := s (26 + f)) k1.2.1.1 k1.2.1.2
  exact sum_rng k5.1 k5.2 k3.1 k3.2 k4.1 k4.2
theorem liked_rng {s : St} (h : WF s) (f : Int32) : likedBy s f = -1000000 ∨ (0 ≤ likedBy s f ∧ likedBy s f < s 0) := by
  have h1 : 1 ≤ s 0 := h.1.1.1
  clear h
  unfold likedBy
  split
  · refine foldI_inv (n := s 0) (fun (_ : Int32) (p : Int32 × Int32) => p.1 = -1000000 ∨ (0 ≤ p.1 ∧ p.1 < s 0)) (Or.inl rfl) ?_ (s 0) (by grind) (by grind)
    intro i h0 h1 p hp
    unfold likeF
    split
    · exact Or.inr ⟨h0, h1⟩
    · exact hp
  · exact Or.inl rfl
theorem inc_lt {a l : Int32} (h0 : 0 ≤ a) (h : a < l) : 0 ≤ a + 1 ∧ a + 1 ≤ l ∧ a < a + 1 := by grind
theorem dec_ge {a l : Int32} (h0 : 0 ≤ l) (h : l < a) : l ≤ a - 1 ∧ a - 1 < a := by grind
theorem to_rng {n l a : Int32} (hl : l = -1000000 ∨ (0 ≤ l ∧ l < n)) (a0 : 0 ≤ a) (a1 : a < n) : 0 ≤ (if l < 0 ∨ l = a then a else if a < l then a + 1 else a - 1) ∧ (if l < 0 ∨ l = a then a else if a < l then a + 1 else a - 1) < n := by
  split
  · exact ⟨a0, a1⟩
  · rename_i h
    have h0 : 0 ≤ l := Int32.not_lt.mp fun q => h (Or.inl q)
    have hln : l < n := by
      rcases hl with rfl | hl
      · exact absurd h0 (by decide)
      · exact hl.2
    split
    · rename_i h2
      have := inc_lt a0 h2
      exact ⟨this.1, Int32.lt_of_le_of_lt this.2.1 hln⟩
    · rename_i h2
      have hne : l ≠ a := fun q => h (Or.inr q)
      have hlt : l < a := by
        rcases Int32.lt_or_eq_of_le (Int32.not_lt.mp h2) with q | q
        · exact q
        · exact absurd q hne
      have := dec_ge h0 hlt
      exact ⟨Int32.le_trans h0 this.1, Int32.lt_trans this.2 a1⟩
theorem goesTo_rng {s : St} (h : WF s) {f : Int32} (f0 : 0 ≤ f) (f1 : f < s 1) : 0 ≤ goesTo s f ∧ goesTo s f < s 0 := by
  have k := liked_rng h f
  obtain ⟨hN, hB, hP, hF⟩ := h
  have k2 := (hF f f0 f1).2.1
  have n1 := hN.1.1
  have n6 := hN.1.2
  clear hN hB hP hF
  have r1 := rem32_rng (x := s (31 + f) + 1) (y := s 0) (by grind) (by grind)
  have r2 := rem32_rng (x := s (31 + f) + 2) (y := s 0) (by grind) (by grind)
  have r3 := to_rng k k2.1 k2.2
  unfold goesTo
  split
  · exact r2
  · split
    · exact r3
    · split
      · exact r1
      · exact k2
