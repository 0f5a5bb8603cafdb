/-- two books changed on the shelf -/
def chgS (s : St) (b o : Int32) : St := upI (upI s (20 + b) (s (20 + o))) (20 + o) (s (20 + b))
theorem chg_at {s : St} {b o : Int32} (b0 : 0 ≤ b) (b6 : b < 6) (o0 : 0 ≤ o) (o6 : o < 6) {x : Int32} (x0 : 0 ≤ x) (x6 : x < 6) : chgS s b o (20 + x) = if x = o then s (20 + b) else if x = b then s (20 + o) else s (20 + x) := by
  unfold chgS
  by_cases e : x = o
  · subst e
    rw [upI_same, if_pos rfl]
  · rw [upI_ne _ _ (show (20 : Int32) + x ≠ 20 + o from fun h => e (ix_in 20 (by omega) x0 (Int32.lt_trans x6 (by decide)) o0 (Int32.lt_trans o6 (by decide)) h)), if_neg e]
    by_cases e2 : x = b
    · subst e2
      rw [upI_same, if_pos rfl]
    · rw [upI_ne _ _ (show (20 : Int32) + x ≠ 20 + b from fun h => e2 (ix_in 20 (by omega) x0 (Int32.lt_trans x6 (by decide)) b0 (Int32.lt_trans b6 (by decide)) h)), if_neg e2]
theorem chg_ne {s : St} {b o : Int32} (b0 : 0 ≤ b) (b6 : b < 6) (o0 : 0 ≤ o) (o6 : o < 6) : (∀ k, k < 8 → chgS s b o (nI k) = s (nI k)) ∧ (∀ (A m : Nat) (x : Int32), 0 ≤ x → x < nI m → (A + m ≤ 20 ∨ 26 ≤ A) → A + m < 1000 → chgS s b o (nI A + x) = s (nI A + x)) := by
  unfold chgS
  refine ⟨fun k hk => ?_, fun A m x x0 x1 hA hs => ?_⟩
  · rw [upI_ne _ _ (show nI k ≠ 20 + o from (ix_c 20 6 k o0 o6 (by omega) (by omega)).symm), upI_ne _ _ (show nI k ≠ 20 + b from (ix_c 20 6 k b0 b6 (by omega) (by omega)).symm)]
  · rw [upI_ne _ _ (show nI A + x ≠ 20 + o from ix_ne A 20 m 6 x0 x1 o0 o6 (by omega) (by omega)), upI_ne _ _ (show nI A + x ≠ 20 + b from ix_ne A 20 m 6 x0 x1 b0 b6 (by omega) (by omega))]
/-- where a place's book is, of places that differ -/
theorem bk_inj {t : St} {n : Int32} (n6 : n ≤ 6) (hi : ∀ x y, 0 ≤ x → x < n → 0 ≤ y → y < n → t (20 + x) = t (20 + y) → x = y) {x : Int32} (x0 : 0 ≤ x) (x1 : x < n) : bkAt t (t (20 + x)) = x := by
  obtain ⟨k, hk, rfl⟩ := nI_of (Int32.not_lt.mpr x0)
  have k6 := (nI_ltI (b := 6) hk (by decide)).mp (Int32.lt_of_lt_of_le x1 n6)
  refine bk_first k6 (fun y hy q => ?_) rfl
  have yn : nI y < n := Int32.lt_trans ((nI_ltI (by omega) hk).mpr hy) x1
  have := (nI_eq (by omega) hk).mp (hi _ _ (nI_pos' (by omega)) yn x0 x1 q)
  omega
theorem pl_inj {s : St} (h : WF s) : ∀ x y, 0 ≤ x → x < s 0 → 0 ≤ y → y < s 0 → s (20 + x) = s (20 + y) → x = y := by
  intro x y x0 x1 y0 y1 e
  have a := (h.2.1 x x0 x1).2.2.2
  have b := (h.2.1 y y0 y1).2.2.2
  rw [e, b] at a
  exact a.symm
theorem chg_inj {s : St} (h : WF s) {b o : Int32} (b0 : 0 ≤ b) (b1 : b < s 0) (o0 : 0 ≤ o) (o1 : o < s 0) (hbo : ¬ b = o) : ∀ x y, 0 ≤ x → x < s 0 → 0 ≤ y → y < s 0 → chgS s b o (20 + x) = chgS s b o (20 + y) → x = y := by
  intro x y x0 x1 y0 y1
  have b6 := h.b6 b1
  have o6 := h.b6 o1
  rw [chg_at b0 b6 o0 o6 x0 (h.b6 x1), chg_at b0 b6 o0 o6 y0 (h.b6 y1)]
  have ij := pl_inj h
  by_cases p1 : x = o
  · rw [if_pos p1]
    by_cases p2 : y = o
    · rw [p1, p2]; exact fun _ => rfl
    · rw [if_neg p2]
      by_cases p3 : y = b
      · rw [if_pos p3]
        intro e
        exact absurd (ij _ _ b0 b1 o0 o1 e) hbo
      · rw [if_neg p3]
        intro e
        exact absurd (ij _ _ b0 b1 y0 y1 e).symm p3
  · rw [if_neg p1]
    by_cases p2 : x = b
    · rw [if_pos p2]
      by_cases p3 : y = o
      · rw [if_pos p3]
        intro e
        exact absurd (ij _ _ b0 b1 o0 o1 e.symm) hbo
      · rw [if_neg p3]
        by_cases p4 : y = b
        · rw [p2, p4]; exact fun _ => rfl
        · rw [if_neg p4]
          intro e
          exact absurd (ij _ _ o0 o1 y0 y1 e).symm p3
    · rw [if_neg p2]
      by_cases p3 : y = o
      · rw [if_pos p3]
        intro e
        exact absurd (ij _ _ x0 x1 b0 b1 e) p2
      · rw [if_neg p3]
        by_cases p4 : y = b
        · rw [if_pos p4]
          intro e
          exact absurd (ij _ _ x0 x1 o0 o1 e) p1
        · rw [if_neg p4]
          exact ij _ _ x0 x1 y0 y1
theorem WF_chg {s : St} (h : WF s) {b o : Int32} (b0 : 0 ≤ b) (b1 : b < s 0) (o0 : 0 ≤ o) (o1 : o < s 0) (hbo : ¬ b = o) : WF (chgS s b o) ∧ chgS s b o 0 = s 0 ∧ chgS s b o 5 = s 5 := by
  have b6 := h.b6 b1
  have o6 := h.b6 o1
  have ne := chg_ne (s := s) b0 b6 o0 o6
  have e0 : chgS s b o 0 = s 0 := ne.1 0 (by omega)
  have e1 : chgS s b o 1 = s 1 := ne.1 1 (by omega)
  have e5 : chgS s b o 5 = s 5 := ne.1 5 (by omega)
  have ij := chg_inj h b0 b1 o0 o1 hbo
  have n6 := h.1.1.2
  have rg : ∀ x, 0 ≤ x → x < s 0 → 0 ≤ chgS s b o (20 + x) ∧ chgS s b o (20 + x) < s 0 := fun x x0 x1 => by
    rw [chg_at b0 b6 o0 o6 x0 (h.b6 x1)]
    split
    · exact (h.2.1 b b0 b1).2.2.1
    · split
      · exact (h.2.1 o o0 o1).2.2.1
      · exact (h.2.1 x x0 x1).2.2.1
  have bk : ∀ x, 0 ≤ x → x < s 0 → bkAt (chgS s b o) (chgS s b o (20 + x)) = x := fun x x0 x1 => bk_inj n6 ij x0 x1
  refine ⟨⟨?_, fun x x0 x1 => ?_, fun p p0 p1 => ?_, fun f f0 f1 => ?_⟩, e0, e5⟩
  · have q := h.1
    unfold wfN at q ⊢
    rw [e0, e1, show chgS s b o 2 = s 2 from ne.1 2 (by omega), show chgS s b o 3 = s 3 from ne.1 3 (by omega), e5, show chgS s b o 6 = s 6 from ne.1 6 (by omega), show chgS s b o 7 = s 7 from ne.1 7 (by omega)]
    exact q
  · rw [e0] at x1 ⊢
    have x6 := h.b6 x1
    have q := h.2.1 x x0 x1
    rw [show chgS s b o (8 + x) = s (8 + x) from ne.2 8 6 x x0 x6 (by omega) (by omega), show chgS s b o (14 + x) = s (14 + x) from ne.2 14 6 x x0 x6 (by omega) (by omega)]
    exact ⟨q.1, q.2.1, rg x x0 x1, bk x x0 x1⟩
  · rw [e0] at p1 ⊢
    have q := h.2.2.1 p p0 p1
    by_cases h1 : p = s (20 + b)
    · have e : chgS s b o (20 + o) = p := by rw [chg_at b0 b6 o0 o6 o0 o6, if_pos rfl]; exact h1.symm
      have := bk o o0 o1
      rw [e] at this
      rw [this]
      exact ⟨o0, o1, e⟩
    · by_cases h2 : p = s (20 + o)
      · have e : chgS s b o (20 + b) = p := by rw [chg_at b0 b6 o0 o6 b0 b6, if_neg hbo, if_pos rfl]; exact h2.symm
        have := bk b b0 b1
        rw [e] at this
        rw [this]
        exact ⟨b0, b1, e⟩
      · have e : chgS s b o (20 + bkAt s p) = p := by
          rw [chg_at b0 b6 o0 o6 q.1 (h.b6 q.2.1), if_neg (fun z => h2 (by rw [← q.2.2, z])), if_neg (fun z => h1 (by rw [← q.2.2, z]))]
          exact q.2.2
        have := bk _ q.1 q.2.1
        rw [e] at this
        rw [this]
        exact ⟨q.1, q.2.1, e⟩
  · rw [e1] at f1
    have f5 := h.f5 f1
    rw [e0, show chgS s b o (26 + f) = s (26 + f) from ne.2 26 5 f f0 f5 (by omega) (by omega), show chgS s b o (31 + f) = s (31 + f) from ne.2 31 5 f f0 f5 (by omega) (by omega), show chgS s b o (36 + f) = s (36 + f) from ne.2 36 5 f f0 f5 (by omega) (by omega)]
    exact h.2.2.2 f f0 f1
theorem chg_L {F : Nat → St} {s : St} (h : WF s) (hL : LibF F s) {b o : Int32} (b0 : 0 ≤ b) (b1 : b < s 0) (o0 : 0 ≤ o) (o1 : o < s 0) (hbo : ¬ b = o) {F' : Nat → St} (hk : ∀ k, k ≠ 3 → k ≠ 4 → F' k = F k) (h3 : F' 3 = upI (upI (F 3) b (s (20 + o))) o (s (20 + b))) (h4 : F' 4 = upI (upI (F 4) (s (20 + o)) b) (s (20 + b)) o) : LibF F' (chgS s b o) := by
  have b6 := h.b6 b1
  have o6 := h.b6 o1
  have ne := chg_ne (s := s) b0 b6 o0 o6
  have w := WF_chg h b0 b1 o0 o1 hbo
  have e1 : chgS s b o 1 = s 1 := ne.1 1 (by omega)
  refine ⟨?_, fun x x0 x1 => ?_, fun f f0 f1 => ?_⟩
  · rw [hk 0 (by decide) (by decide), show chgS s b o 0 = s 0 from ne.1 0 (by omega), e1, show chgS s b o 2 = s 2 from ne.1 2 (by omega), show chgS s b o 3 = s 3 from ne.1 3 (by omega), show chgS s b o 4 = s 4 from ne.1 4 (by omega), show chgS s b o 5 = s 5 from ne.1 5 (by omega), show chgS s b o 6 = s 6 from ne.1 6 (by omega), show chgS s b o 7 = s 7 from ne.1 7 (by omega)]
    exact hL.1
  · rw [w.2.1] at x1
    have x6 := h.b6 x1
    have q := hL.2.1 x x0 x1
    rw [hk 1 (by decide) (by decide), hk 2 (by decide) (by decide), h3, h4, show chgS s b o (8 + x) = s (8 + x) from ne.2 8 6 x x0 x6 (by omega) (by omega), show chgS s b o (14 + x) = s (14 + x) from ne.2 14 6 x x0 x6 (by omega) (by omega), chg_at b0 b6 o0 o6 x0 x6]
    refine ⟨q.1, q.2.1, ?_, ?_⟩
    · by_cases e : x = o
      · rw [e, upI_same, if_pos rfl]
      · rw [upI_ne _ _ e, if_neg e]
        by_cases e2 : x = b
        · rw [e2, upI_same, if_pos rfl]
        · rw [upI_ne _ _ e2, if_neg e2]
          exact q.2.2.1
    · have ij := chg_inj h b0 b1 o0 o1 hbo
      have bk : ∀ x, 0 ≤ x → x < s 0 → bkAt (chgS s b o) (chgS s b o (20 + x)) = x := fun x x0 x1 => bk_inj h.1.1.2 ij x0 x1
      by_cases g1 : x = s (20 + b)
      · rw [g1, upI_same]
        have := bk o o0 o1
        rw [chg_at b0 b6 o0 o6 o0 o6, if_pos rfl] at this
        exact this.symm
      · rw [upI_ne _ _ g1]
        by_cases g2 : x = s (20 + o)
        · rw [g2, upI_same]
          have := bk b b0 b1
          rw [chg_at b0 b6 o0 o6 b0 b6, if_neg hbo, if_pos rfl] at this
          exact this.symm
        · rw [upI_ne _ _ g2, q.2.2.2]
          have p := h.2.2.1 x x0 x1
          have := bk _ p.1 p.2.1
          rw [chg_at b0 b6 o0 o6 p.1 (h.b6 p.2.1), if_neg (fun z => g2 (by rw [← p.2.2, z])), if_neg (fun z => g1 (by rw [← p.2.2, z])), p.2.2] at this
          exact this.symm
  · rw [e1] at f1
    have f5 := h.f5 f1
    have q := hL.2.2 f f0 f1
    rw [hk 5 (by decide) (by decide), hk 6 (by decide) (by decide), hk 7 (by decide) (by decide), show chgS s b o (26 + f) = s (26 + f) from ne.2 26 5 f f0 f5 (by omega) (by omega), show chgS s b o (31 + f) = s (31 + f) from ne.2 31 5 f f0 f5 (by omega) (by omega), show chgS s b o (36 + f) = s (36 + f) from ne.2 36 5 f f0 f5 (by omega) (by omega)]
    exact q
