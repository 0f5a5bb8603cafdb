def pwK (x : Int64) : Nat → Int64
  | 0 => 1
  | k + 1 => pwK x k * x
theorem pwK_f (x : Int64) (k : Nat) : foldN (fun _ (z : Int64) => z * x) 1 k = pwK x k := by
  induction k with
  | zero => rfl
  | succ k ih =>
    show foldN (fun _ (z : Int64) => z * x) 1 k * x = pwK x k * x
    rw [ih]
theorem pwZ_nI (x : Int64) {k : Nat} (hk : k < 2147483648) : pwZ x (nI k) = pwK x k := by
  unfold pwZ foldI
  rw [nI_clamp hk, pwK_f]
def aN (c t : Int32) : Nat → Nat
  | 0 => 0
  | k + 1 => aN c t k + (if bitv c (nI k) = 0 then 0 else if bitv t (nI k) = 0 then 0 else 1)
def bN (c t : Int32) : Nat → Nat
  | 0 => 0
  | k + 1 => bN c t k + (if bitv c (nI k) = 0 then 0 else if bitv t (nI k) = 0 then 1 else 0)
theorem part_pw (c t p : Int32) (k : Nat) : foldN (fun b a => a * facD c t p b) (1 : Int64) k = pwK p.toInt64 (aN c t k) * pwK (10 - p).toInt64 (bN c t k) := by
  induction k with
  | zero => rfl
  | succ k ih =>
    show foldN (fun b a => a * facD c t p b) (1 : Int64) k * facD c t p (nI k) = _
    rw [ih]
    unfold facD
    by_cases h1 : bitv c (nI k) = 0
    · simp only [aN, bN, if_pos h1, Nat.add_zero, Int64.mul_one]
    · by_cases h2 : bitv t (nI k) = 0
      · simp only [aN, bN, if_neg h1, if_pos h2, Nat.add_zero]
        show _ = pwK p.toInt64 (aN c t k) * (pwK (10 - p).toInt64 (bN c t k) * (10 - p).toInt64)
        rw [Int64.mul_assoc]
      · simp only [aN, bN, if_neg h1, if_neg h2, Nat.add_zero]
        show _ = pwK p.toInt64 (aN c t k) * p.toInt64 * pwK (10 - p).toInt64 (bN c t k)
        rw [Int64.mul_assoc, Int64.mul_comm (pwK (10 - p).toInt64 (bN c t k)), ← Int64.mul_assoc]
theorem bits_hiF : ∀ (c : Fin 64) (n : Fin 7) (b : Fin 6), nI c.val < shl32 1 (nI n.val) → n.val ≤ b.val → bitv (nI c.val) (nI b.val) = 0 := by decide +kernel
theorem part_up (c t p : Int32) (N : Nat) (h : ∀ b, N ≤ b → b < 6 → bitv c (nI b) = 0) : ∀ d, N + d ≤ 6 → foldN (fun b a => a * facD c t p b) (1 : Int64) (N + d) = foldN (fun b a => a * facD c t p b) (1 : Int64) N
  | 0, _ => rfl
  | d + 1, hd => by
    show foldN (fun b a => a * facD c t p b) (1 : Int64) (N + d) * facD c t p (nI (N + d)) = _
    rw [part_up c t p N h d (by omega)]
    unfold facD
    rw [if_pos (h _ (by omega) (by omega)), Int64.mul_one]
theorem cntF : ∀ (c t : Fin 64), nI t.val &&& (nI c.val ^^^ (-1)) = 0 → (ones (nI t.val) = nI (aN (nI c.val) (nI t.val) 6) ∧ ones (nI c.val) - ones (nI t.val) = nI (bN (nI c.val) (nI t.val) 6) ∧ aN (nI c.val) (nI t.val) 6 ≤ 6 ∧ bN (nI c.val) (nI t.val) 6 ≤ 6) := by decide +kernel
theorem part_eq {c t p n : Int32} (c0 : 0 ≤ c) (c6 : c < 64) (t0 : 0 ≤ t) (t6 : t < 64) (n0 : 0 ≤ n) (n6 : n ≤ 6) (hc : c < shl32 1 n) (hs : t &&& (c ^^^ (-1)) = 0) : pwZ p.toInt64 (ones t) * pwZ (10 - p).toInt64 (ones c - ones t) = partD c t p n ∧ 0 ≤ ones t ∧ 0 ≤ ones c - ones t := by
  obtain ⟨x, rfl⟩ := as64 c0 c6
  obtain ⟨y, rfl⟩ := as64 t0 t6
  obtain ⟨N, hN, rfl⟩ := nI_of (Int32.not_lt.mpr n0)
  have h6 := (nI_leI (b := 6) hN (by decide)).mp n6
  have q := cntF x y hs
  have e : partD (nI x.val) (nI y.val) p (nI N) = foldN (fun b a => a * facD (nI x.val) (nI y.val) p b) (1 : Int64) 6 := by
    unfold partD foldI
    rw [nI_clamp hN]
    have := part_up (nI x.val) (nI y.val) p N (fun b h1 h2 => bits_hiF x ⟨N, by omega⟩ ⟨b, h2⟩ hc h1) (6 - N) (by omega)
    rw [show N + (6 - N) = 6 by omega] at this
    exact this.symm
  rw [q.1]
  rw [q.1] at q
  rw [q.2.1, e, part_pw, pwZ_nI _ (by omega), pwZ_nI _ (by omega)]
  exact ⟨rfl, nI_pos' (by omega), nI_pos' (by omega)⟩
theorem supF : ∀ (c t : Fin 64), nI c.val < nI t.val → ¬ nI t.val &&& (nI c.val ^^^ (-1)) = 0 := by decide +kernel
theorem dark_up {s : St} {b n p M : Int32} (c0 : 0 ≤ s 5) (c6 : s 5 < 64) (hM : M ≤ 64) (h : s 5 < M) : darkA s b n p M = darkA s b n p (s 5 + 1) := by
  have key := loop_up (P := fun i => s 5 + 1 ≤ i → i ≤ M → darkA s b n p i = darkA s b n p (s 5 + 1) → darkA s b n p M = darkA s b n p (s 5 + 1)) M (fun i hi ih h1 h2 h3 => by
    by_cases e : i < M
    · refine ih e (Int32.le_trans h1 (Int32.le_of_lt (inc_lt hi e).2.2)) (inc_lt hi e).2.1 ?_
      rw [← h3]
      have es : darkA s b n p (i + 1) = darkF s b n p (s 5) i (darkA s b n p i) := foldI_s _ _ hi e
      rw [es]
      unfold darkF
      have i6 : i < 64 := Int32.lt_of_lt_of_le e hM
      have lt : s 5 < i := Int32.lt_of_lt_of_le (by grind) h1
      obtain ⟨x, hx⟩ := as64 c0 c6
      obtain ⟨y, rfl⟩ := as64 hi i6
      rw [hx] at lt ⊢
      rw [if_neg (supF x y lt)]
    · rw [show M = i from Int32.le_antisymm (Int32.not_lt.mp e) h2]
      exact h3)
  exact key (s 5 + 1) (by grind) (Int32.le_refl _) (by grind) rfl
