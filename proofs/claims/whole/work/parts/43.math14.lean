def gl : Nat → Int64 → Int64 → Int64
  | 0, x, _ => x
  | n + 1, x, y => if y = 0 then x else gl n y (rem64 x y)
def glf : Nat → Int64 → Int64 → Bool
  | 0, _, y => decide (y = 0)
  | n + 1, x, y => if y = 0 then true else glf n y (rem64 x y)
theorem L_pos {y : Int64} (h0 : 0 ≤ y) (hn : ¬ y = 0) : 0 < y := by
  rw [L_le] at h0
  rw [L_lt]
  have : ¬ y.toInt = (0 : Int64).toInt := fun e => hn (Int64.toInt_inj.mp e)
  rw [show (0 : Int64).toInt = 0 by decide] at *
  omega
theorem glf_up : ∀ (n : Nat) (x y : Int64), glf n x y = true → glf (n + 1) x y = true
  | 0, x, y, h => by
    simp only [glf, decide_eq_true_eq] at h
    simp [glf, h]
  | n + 1, x, y, h => by
    unfold glf at h ⊢
    by_cases hy : y = 0
    · rw [if_pos hy]
    · rw [if_neg hy] at h ⊢
      exact glf_up n _ _ h
theorem glf_le {n m : Nat} {x y : Int64} (h : glf n x y = true) (hm : n ≤ m) : glf m x y = true := by
  induction m with
  | zero => rw [show n = 0 by omega] at h; exact h
  | succ m ih =>
    by_cases e : n = m + 1
    · rw [← e]; exact h
    · exact glf_up _ _ _ (ih (by omega))
theorem glf_of : ∀ (k : Nat) (x y : Int64), 0 ≤ x → 0 ≤ y → y.toInt < 2 ^ k → glf (2 * k + 1) x y = true
  | 0, x, y, hx, hy, h => by
    have : y = 0 := by
      rw [L_le, show (0 : Int64).toInt = 0 by decide] at hy
      exact Int64.toInt_inj.mp (by rw [show (0 : Int64).toInt = 0 by decide]; omega)
    simp [glf, this]
  | k + 1, x, y, hx, hy, h => by
    show glf (2 * k + 2 + 1) x y = true
    unfold glf
    by_cases e : y = 0
    · rw [if_pos e]
    · rw [if_neg e]
      have py := L_pos hy e
      have r := rem64_spec hx py
      show glf (2 * k + 1 + 1) y (rem64 x y) = true
      unfold glf
      by_cases e2 : rem64 x y = 0
      · rw [if_pos e2]
      · rw [if_neg e2]
        have pr := L_pos r.1 e2
        have q := rem64_spec hy pr
        refine glf_of k _ _ r.1 q.1 ?_
        rw [q.2.2]
        have a := L_lt.mp r.2.1
        have b := L_lt.mp pr
        have c := L_lt.mp py
        rw [show (0 : Int64).toInt = 0 by decide] at b c
        have hp : (2 : Int) ^ (k + 1) = 2 * 2 ^ k := by rw [Int.pow_succ]; omega
        rw [hp] at h
        generalize (2 : Int) ^ k = P at *
        generalize (rem64 x y).toInt = z at *
        generalize y.toInt = w at *
        by_cases hz : 2 * z ≤ w
        · have := Int.emod_lt_of_pos w b
          omega
        · have e3 : w % z = w - z := by
            rw [Int.emod_eq_iff (by omega)]
            exact ⟨by omega, by omega, -1, by omega⟩
          omega
theorem gl_spec : ∀ (n : Nat) (x y : Int64), 0 ≤ x → 0 ≤ y → (0 < x ∨ 0 < y) → glf n x y = true → 0 < gl n x y
  | 0, x, y, hx, hy, h, hf => by
    simp only [glf, decide_eq_true_eq] at hf
    rcases h with h | h
    · exact h
    · rw [hf] at h
      exact absurd h (by decide)
  | n + 1, x, y, hx, hy, h, hf => by
    unfold glf at hf
    unfold gl
    by_cases e : y = 0
    · rw [if_pos e]
      rcases h with h | h
      · exact h
      · rw [e] at h
        exact absurd h (by decide)
    · rw [if_neg e] at hf ⊢
      have py := L_pos hy e
      have r := rem64_spec hx py
      exact gl_spec n _ _ hy r.1 (Or.inl py) hf
def pw10 (a : Int64) (k : Int32) : Int64 := foldI (fun _ z => z * 10) a k
theorem pwN (a : Int64) (k : Nat) : foldN (fun _ (z : Int64) => z * 10) (a * 10) k = foldN (fun _ (z : Int64) => z * 10) a k * 10 := by
  induction k with
  | zero => rfl
  | succ k ih =>
    show foldN (fun _ (z : Int64) => z * 10) (a * 10) k * 10 = foldN (fun _ (z : Int64) => z * 10) a k * 10 * 10
    rw [ih]
theorem pw10_s {a : Int64} {k : Int32} (h : 0 < k) : pw10 (a * 10) (k - 1) = pw10 a k := by
  obtain ⟨j, hj, rfl⟩ := nI_of (x := k) (by grind)
  have j0 : 0 < j := (nI_ltI (a := 0) (by decide) hj).mp h
  obtain ⟨m, rfl⟩ : ∃ m, j = m + 1 := ⟨j - 1, by omega⟩
  rw [nI_pred]
  unfold pw10 foldI
  rw [nI_clamp (by omega), nI_clamp hj, pwN]
  rfl
theorem pw10F : ∀ k : Fin 7, 0 < pw10 1 (nI k.val) ∧ pw10 1 (nI k.val) ≤ 1000000 := by decide +kernel
theorem pw10_rng {k : Int32} (h0 : 0 ≤ k) (h6 : k ≤ 6) : 0 < pw10 1 k ∧ pw10 1 k ≤ 1000000 := by
  obtain ⟨j, hj, rfl⟩ := nI_of (Int32.not_lt.mpr h0)
  have := (nI_leI (b := 6) hj (by decide)).mp h6
  exact pw10F ⟨j, by omega⟩
def facD (c t p b : Int32) : Int64 := if bitv c b = 0 then 1 else if bitv t b = 0 then (10 - p).toInt64 else p.toInt64
def partD (c t p n : Int32) : Int64 := foldI (fun b a => a * facD c t p b) 1 n
theorem fac_rng {c t p b : Int32} (hp : inR 0 p 10) : 0 ≤ (facD c t p b).toInt ∧ (facD c t p b).toInt ≤ 10 := by
  have a := t_le.mp hp.1
  have b' := t_le.mp hp.2
  rw [show (0 : Int32).toInt = 0 by decide] at a
  rw [show (10 : Int32).toInt = 10 by decide] at b'
  unfold facD
  split
  · exact ⟨by decide, by decide⟩
  · split
    · rw [Int32.toInt_toInt64, t_sub (by rw [show (10 : Int32).toInt = 10 by decide]; omega) (by rw [show (10 : Int32).toInt = 10 by decide]; omega), show (10 : Int32).toInt = 10 by decide]
      omega
    · rw [Int32.toInt_toInt64]
      omega
theorem mul_rng {a f : Int64} {A : Int} (a0 : 0 ≤ a.toInt) (a1 : a.toInt ≤ A) (f0 : 0 ≤ f.toInt) (f1 : f.toInt ≤ 10) (hA : A ≤ 1000000000) : 0 ≤ (a * f).toInt ∧ (a * f).toInt ≤ A * 10 := by
  have h1 : 0 ≤ a.toInt * f.toInt := Int.mul_nonneg a0 f0
  have h2 : a.toInt * f.toInt ≤ A * 10 := Int.mul_le_mul a1 f1 f0 (by omega)
  rw [Int64.toInt_mul, Int.bmod_eq_of_le (by omega) (by omega)]
  exact ⟨h1, h2⟩
theorem partN {c t p : Int32} (hp : inR 0 p 10) : ∀ (k : Nat), k ≤ 6 → 0 ≤ (foldN (fun b a => a * facD c t p b) (1 : Int64) k).toInt ∧ (foldN (fun b a => a * facD c t p b) (1 : Int64) k).toInt ≤ 10 ^ k
  | 0, _ => ⟨by show (0:Int) ≤ (1:Int64).toInt; decide, by show (1:Int64).toInt ≤ 1; decide⟩
  | k + 1, h => by
    have ih := partN (c := c) (t := t) hp k (by omega)
    have f := fac_rng (c := c) (t := t) (b := nI k) hp
    have hA : (10 : Int) ^ k ≤ 1000000000 := by
      rcases (by omega : k = 0 ∨ k = 1 ∨ k = 2 ∨ k = 3 ∨ k = 4 ∨ k = 5) with rfl | rfl | rfl | rfl | rfl | rfl <;> decide
    have := mul_rng ih.1 ih.2 f.1 f.2 hA
    rw [Int.pow_succ]
    exact this
theorem part_rng {c t p n : Int32} (hp : inR 0 p 10) (n0 : 0 ≤ n) (n6 : n ≤ 6) : 0 ≤ (partD c t p n).toInt ∧ (partD c t p n).toInt ≤ 1000000 := by
  obtain ⟨j, hj, rfl⟩ := nI_of (Int32.not_lt.mpr n0)
  have h6 := (nI_leI (b := 6) hj (by decide)).mp n6
  unfold partD foldI
  rw [nI_clamp hj]
  have := partN (c := c) (t := t) hp j h6
  refine ⟨this.1, Int.le_trans this.2 ?_⟩
  rcases (by omega : j = 0 ∨ j = 1 ∨ j = 2 ∨ j = 3 ∨ j = 4 ∨ j = 5 ∨ j = 6) with rfl | rfl | rfl | rfl | rfl | rfl | rfl <;> decide
def darkF (s : St) (b n p c t : Int32) (a : Int64) : Int64 := if t &&& (c ^^^ (-1)) = 0 then a + (if 0 < gS (upI s 5 (c &&& (t ^^^ (-1)))) n (8 + b) then partD c t p (s 0) else 0) else a
def darkA (s : St) (b n p i : Int32) : Int64 := foldI (darkF s b n p (s 5)) 0 i
def darkG (s : St) (b n p : Int32) : Int64 := gl 1000 (darkA s b n p (s 5 + 1)) (pw10 1 (ones (s 5)))
def darkR (s : St) (b n p w : Int32) : Int64 := if isB s b ∧ inR 0 n 60 ∧ inR 0 p 10 ∧ inR 0 w 1 then (if w = 0 then darkA s b n p (s 5 + 1) / darkG s b n p else pw10 1 (ones (s 5)) / darkG s b n p) else -1000001
theorem dark_rng {s : St} (h : WF s) {b n p i : Int32} (hp : inR 0 p 10) (i0 : 0 ≤ i) (i1 : i ≤ s 5 + 1) : 0 ≤ (darkA s b n p i).toInt ∧ (darkA s b n p i).toInt ≤ 1000000 * i.toInt := by
  unfold darkA
  have l := h.1.2.2.2.2.1
  have h64 : s 5 + 1 ≤ 64 := by
    have := inc_lt l.1 l.2
    exact this.2.1
  have h64' := t_le.mp h64
  rw [show (64 : Int32).toInt = 64 by decide] at h64'
  refine foldI_inv (f := darkF s b n p (s 5)) (n := s 5 + 1) (fun (i : Int32) (a : Int64) => 0 ≤ a.toInt ∧ a.toInt ≤ 1000000 * i.toInt) ⟨by decide, by decide⟩ ?_ i i0 i1
  intro j j0 j1 a ha
  have q := part_rng (c := s 5) (t := j) hp (le0_of h.1.1.1) h.1.1.2
  have b0 := t_le.mp j0
  have b1 := t_lt.mp j1
  rw [show (0 : Int32).toInt = 0 by decide] at b0
  have e1 := t_add (x := j) (y := 1) (by rw [show (1 : Int32).toInt = 1 by decide]; omega) (by rw [show (1 : Int32).toInt = 1 by decide]; omega)
  rw [show (1 : Int32).toInt = 1 by decide] at e1
  have key : ∀ d : Int64, 0 ≤ d.toInt → d.toInt ≤ 1000000 → 0 ≤ (a + d).toInt ∧ (a + d).toInt ≤ 1000000 * (j + 1).toInt := by
    intro d d0 d1
    rw [Int64.toInt_add, Int.bmod_eq_of_le (by omega) (by omega), e1]
    omega
  unfold darkF
  split
  · split
    · exact key _ q.1 q.2
    · exact key _ (by decide) (by decide)
  · rw [e1]
    omega
theorem dark_ok {s : St} (h : WF s) {b n p : Int32} (hp : inR 0 p 10) : 0 ≤ darkA s b n p (s 5 + 1) ∧ 0 < pw10 1 (ones (s 5)) ∧ glf 1000 (darkA s b n p (s 5 + 1)) (pw10 1 (ones (s 5))) = true := by
  have l := h.1.2.2.2.2.1
  have o := ones_rng (s 5)
  have w := pw10_rng o.1 o.2
  have r := dark_rng h (b := b) (n := n) hp (i := s 5 + 1) (inc_lt l.1 l.2).1 (Int32.le_refl _)
  have a0 : 0 ≤ darkA s b n p (s 5 + 1) := by
    rw [L_le, show (0 : Int64).toInt = 0 by decide]
    exact r.1
  refine ⟨a0, w.1, glf_le (glf_of 20 _ _ a0 (Int64.le_of_lt w.1) ?_) (by omega)⟩
  have := L_le.mp w.2
  rw [show (1000000 : Int64).toInt = 1000000 by decide] at this
  have e : (2 : Int) ^ 20 = 1048576 := by decide
  omega
theorem sub64F : ∀ c t : Fin 64, 0 ≤ nI c.val &&& (nI t.val ^^^ (-1)) ∧ nI c.val &&& (nI t.val ^^^ (-1)) < 64 := by decide +kernel
theorem sub64 {c t : Int32} (c0 : 0 ≤ c) (c1 : c < 64) (t0 : 0 ≤ t) (t1 : t < 64) : 0 ≤ c &&& (t ^^^ (-1)) ∧ c &&& (t ^^^ (-1)) < 64 := by
  obtain ⟨i, rfl⟩ := as64 c0 c1
  obtain ⟨j, rfl⟩ := as64 t0 t1
  exact sub64F i j
theorem v_le {c i : Int32} (c0 : 0 ≤ c) (c1 : c < 64) (i1 : i ≤ c + 1) (h : ¬ c < i) : i < c + 1 := by
  have := (inc_lt c0 c1).2.2
  exact Int32.lt_of_le_of_lt (Int32.not_lt.mp h) this
theorem v_ge {c i : Int32} (c0 : 0 ≤ c) (c1 : c < 64) (h : c < i) : c + 1 ≤ i := (inc_lt c0 h).2.1
