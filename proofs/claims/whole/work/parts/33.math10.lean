def RW (z : St) : Prop := ∀ r, 0 ≤ r → r ≤ 7 → -1 ≤ z r ∧ z r ≤ 40
theorem ix40 {m i : Int32} (m0 : 0 ≤ m) (m1 : m ≤ 7) (i0 : 0 ≤ i) (i1 : i < 40) : (0 ≤ 40 * m + i ∧ 40 * m + i < 320) ∧ (0 ≤ 40 * m ∧ 40 * m ≤ 280) := by
  obtain ⟨a, ha, rfl⟩ := nI_of (Int32.not_lt.mpr m0)
  obtain ⟨b, hb, rfl⟩ := nI_of (Int32.not_lt.mpr i0)
  have h1 : a ≤ 7 := (nI_leI (b := 7) ha (by decide)).mp m1
  have h2 : b < 40 := (nI_ltI (b := 40) hb (by decide)).mp i1
  rw [show (40 : Int32) = nI 40 from rfl, pk_mul, nI_add]
  exact ⟨⟨nI_pos' (by omega), (nI_ltI (b := 320) (by omega) (by decide)).mpr (by omega)⟩, ⟨nI_pos' (by omega), (nI_leI (b := 280) (by omega) (by decide)).mpr (by omega)⟩⟩
theorem le7 {r : Int32} (h : r ≤ 7) : r < 8 := Int32.lt_of_le_of_lt h (by decide)
/-- items of a block become those of another list -/
def blkS (A s : St) (o n : Int32) : St := fun j => if o ≤ j ∧ j < o + n then s (j - o) else A j
theorem blk_step {D0 src D : St} {o i v : Int32} (o0 : 0 ≤ o) (o1 : o < 1000) (i0 : 0 ≤ i) (i1 : i < 1000) {N : Int32} (hv : v = src i) (h : ∀ j, 0 ≤ j → j < N → D j = blkS D0 src o i j) : ∀ j, 0 ≤ j → j < N → upI D (o + i) v j = blkS D0 src o (i + 1) j := by
  subst hv
  intro j j0 j1
  have a0 := t_le.mp o0
  have a1 := t_lt.mp o1
  have a2 := t_le.mp i0
  have a3 := t_lt.mp i1
  rw [show (0 : Int32).toInt = 0 by decide] at a0 a2
  rw [show (1000 : Int32).toInt = 1000 by decide] at a1 a3
  have e1 := t_add (x := o) (y := i) (by omega) (by omega)
  have c1 : (1 : Int32).toInt = 1 := by decide
  have e2 := t_add (x := i) (y := 1) (by omega) (by omega)
  have e3 := t_add (x := o) (y := i + 1) (by omega) (by omega)
  unfold blkS
  by_cases e : j = o + i
  · subst e
    rw [upI_same, if_pos, cancel_l]
    rw [t_le, t_lt, e3, e2, e1, c1]
    omega
  · rw [upI_ne _ _ e, h j j0 j1]
    unfold blkS
    have hne : j.toInt ≠ o.toInt + i.toInt := fun q => e (Int32.toInt_inj.mp (q.trans e1.symm))
    have hiff : (o ≤ j ∧ j < o + i) ↔ (o ≤ j ∧ j < o + (i + 1)) := by
      rw [t_le, t_lt, t_lt, e3, e2, e1, c1]
      omega
    simp only [hiff]
theorem blk_0 (D0 src : St) (o j : Int32) : D0 j = blkS D0 src o 0 j := putB_0 j
theorem li40 {i : Int32} (h : i < 40) : i < 1000 := Int32.lt_trans h (by decide)
theorem le280 {i : Int32} (h : i ≤ 280) : i < 1000 := Int32.lt_of_le_of_lt h (by decide)
theorem sz40 {i n : Int32} (i0 : 0 ≤ i) (n1 : n ≤ 40) (n0 : -1 ≤ n) (h : i ≤ n - 1) : i < 40 := by grind
theorem sz40' {i n k j : Int32} (i0 : 0 ≤ i) (n1 : n ≤ 40) (n0 : -1 ≤ n) (k1 : 1 ≤ k) (k2 : k ≤ 12) (h : i ≤ n - k) (j0 : 0 ≤ j) (j1 : j < k) : 0 ≤ i + j ∧ i + j < 40 := by
  rw [t_le, t_lt] at *
  have c0 : (0 : Int32).toInt = 0 := by decide
  have c1 : (-1 : Int32).toInt = -1 := by decide
  have c40 : (40 : Int32).toInt = 40 := by decide
  have c12 : (12 : Int32).toInt = 12 := by decide
  have o1 : (1 : Int32).toInt = 1 := by decide
  rw [c0] at i0 j0
  rw [c40] at n1
  rw [c1] at n0
  rw [o1] at k1
  rw [c12] at k2
  have e := t_sub (x := n) (y := k) (by omega) (by omega)
  rw [e] at h
  rw [c0, c40, t_add (by omega) (by omega)]
  omega
theorem add_as (a b c : Int32) : a + b + c = a + (b + c) := Int32.add_assoc a b c
/-- the answers of a row -/
def soF (s I : St) (b at_ k a : Int32) : Int32 := if a = 0 then 0 else if I (at_ + k) = gS s (k + 1) (8 + b) then 1 else 0
def soR (s I : St) (b at_ n : Int32) : Int32 := foldI (soF s I b at_) 1 n
theorem so_01 (s I : St) (b a : Int32) {n : Int32} (n0 : 0 ≤ n) : soR s I b a n = 0 ∨ soR s I b a n = 1 := by
  refine foldI_inv (f := soF s I b a) (n := n) (fun (_ : Int32) (z : Int32) => z = 0 ∨ z = 1) (Or.inr rfl) ?_ n n0 (Int32.le_refl _)
  intro i i0 i1 z hz
  unfold soF
  split
  · exact Or.inl rfl
  · split
    · exact Or.inr rfl
    · exact Or.inl rfl
def fitF (s I : St) (at_ low b f n v a : Int32) : Int32 := if v < low then a else a ||| (if soR (upI s at_ v) I b f n = 0 then 0 else shl32 1 v)
def fitR (s I : St) (at_ low high b f n : Int32) : Int32 := foldI (fitF s I at_ low b f n) 0 (high + 1)
def lackQ (z m m' : St) (row i n r : Int32) : Prop := if z row < 0 then r = -1000011 ∧ m' = upI m 3 1 else if inR 0 i (z row - n) then r = 0 ∧ m' = m else r = -1000012 ∧ m' = upI m 3 2
theorem fit_skip (s I : St) (a l b f n : Int32) (l0 : 0 ≤ l) : (0 : Int32) = foldI (fitF s I a l b f n) 0 l := by
  have := foldI_inv (f := fitF s I a l b f n) (a := (0 : Int32)) (n := l) (fun (_ : Int32) (z : Int32) => (0 : Int32) = z) rfl (by
    intro i i0 i1 z hz
    unfold fitF
    rw [if_pos i1]
    exact hz) l l0 (Int32.le_refl _)
  exact this
theorem ha_of {w i n z : Int32} (w0 : 0 ≤ w) (w7 : w ≤ 7) (z1 : z ≤ 40) (z0 : -1 ≤ z) (hn : inR 1 n 12) (hi : inR 0 i (z - n)) : ∀ k, 0 ≤ k → k < n → 0 ≤ 40 * w + i + k ∧ 40 * w + i + k < 320 := by
  intro k k0 k1
  have := sz40' hi.1 z1 z0 hn.1 hn.2 hi.2 k0 k1
  rw [add_as]
  exact (ix40 w0 w7 this.1 this.2).1
theorem lack_ok {σ τ : Sg} {z i n r : Int32} (q : if z < 0 then r = -1000011 ∧ τ = up σ 40 0 (upI (σ 40 0) 3 1) else if inR 0 i (z - n) then r = 0 ∧ τ = σ else r = -1000012 ∧ τ = up σ 40 0 (upI (σ 40 0) 3 2)) (h : ¬ r < 0) : ¬ z < 0 ∧ inR 0 i (z - n) ∧ τ = σ := by
  by_cases h1 : z < 0
  · rw [if_pos h1] at q
    rw [q.1] at h
    exact absurd (by decide) h
  · rw [if_neg h1] at q
    by_cases h2 : inR 0 i (z - n)
    · rw [if_pos h2] at q
      exact ⟨h1, h2, q.2⟩
    · rw [if_neg h2] at q
      rw [q.1] at h
      exact absurd (by decide) h
theorem lack_no {σ τ : Sg} {z i n r : Int32} {P : Prop} (q : if z < 0 then r = -1000011 ∧ τ = up σ 40 0 (upI (σ 40 0) 3 1) else if inR 0 i (z - n) then r = 0 ∧ τ = σ else r = -1000012 ∧ τ = up σ 40 0 (upI (σ 40 0) 3 2)) (h : r < 0) : if z < 0 then r = -1000011 ∧ τ = up σ 40 0 (upI (σ 40 0) 3 1) else if ¬ inR 0 i (z - n) then r = -1000012 ∧ τ = up σ 40 0 (upI (σ 40 0) 3 2) else P := by
  by_cases h1 : z < 0
  · rw [if_pos h1] at q ⊢
    exact q
  · rw [if_neg h1] at q ⊢
    by_cases h2 : inR 0 i (z - n)
    · rw [if_pos h2] at q
      rw [q.1] at h
      exact absurd h (by decide)
    · rw [if_neg h2] at q
      rw [if_pos h2]
      exact q
theorem v5a (v : Int32) (h : ¬ 5 < v) : v < 5 + 1 := Int32.lt_of_le_of_lt (Int32.not_lt.mp h) (by decide)
theorem v5b (v : Int32) (h : (5 : Int32) < v) : (5 : Int32) + 1 ≤ v := by grind
theorem v9a (v : Int32) (h : ¬ 9 < v) : v < 9 + 1 := Int32.lt_of_le_of_lt (Int32.not_lt.mp h) (by decide)
theorem v9b (v : Int32) (h : (9 : Int32) < v) : (9 : Int32) + 1 ≤ v := by grind
theorem nn1 (n : Int32) : n - 1 + 1 = n := by grind
theorem vna {n : Int32} (n1 : 1 ≤ n) (v : Int32) (h : ¬ n - 1 < v) : v < n - 1 + 1 := by
  rw [nn1]
  have := Int32.not_lt.mp h
  grind
theorem vnb {n : Int32} (n1 : 1 ≤ n) (v : Int32) (h : n - 1 < v) : n - 1 + 1 ≤ v := by
  rw [nn1]
  grind
theorem WF.hu {s : St} (h : WF s) {v : Int32} (v0 : 1 ≤ v) (v1 : v ≤ 9) : WF (upI s 2 v) := h.wd (k := 2) (by omega) ⟨fun _ => ⟨v0, v1⟩, fun e => absurd e (by omega), fun e => absurd e (by omega), fun e => absurd e (by omega)⟩
theorem neg1_le {z : Int32} (h : ¬ z < 0) : -1 ≤ z := Int32.le_trans (by decide) (Int32.not_lt.mp h)
def rowZ (A : St) (r : Int32) : St := blkS A (fun _ => 0) (40 * r) 40
