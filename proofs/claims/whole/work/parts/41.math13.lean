theorem rem64_spec {x y : Int64} (h0 : 0 ≤ x) (h1 : 0 < y) : 0 ≤ rem64 x y ∧ rem64 x y < y ∧ (rem64 x y).toInt = x.toInt % y.toInt := by
  obtain ⟨a, ha, rfl⟩ := pk_lOf (Int64.not_lt.mpr h0)
  obtain ⟨d, hd, rfl⟩ := pk_lOf (x := y) (Int64.not_lt.mpr (Int64.le_of_lt h1))
  have hd0 : 0 < d := (pk_lLT (a := 0) (by decide) hd).mp h1
  have hm := Nat.mod_lt a hd0
  unfold rem64
  rw [pk_lRem ha hd0 hd]
  refine ⟨(pk_lLE (a := 0) (by decide) (by omega)).mpr (Nat.zero_le _), (pk_lLT (by omega) hd).mpr hm, ?_⟩
  rw [pk_lT (by omega), pk_lT ha, pk_lT hd]
  rfl
theorem L_le {x y : Int64} : x ≤ y ↔ x.toInt ≤ y.toInt := Int64.le_iff_toInt_le
theorem L_lt {x y : Int64} : x < y ↔ x.toInt < y.toInt := Int64.lt_iff_toInt_lt
theorem toL_lt (a b : Int32) : a.toInt64 < b.toInt64 ↔ a < b := by
  rw [Int64.lt_iff_toInt_lt, Int32.lt_iff_toInt_lt, Int32.toInt_toInt64, Int32.toInt_toInt64]
theorem x_next {x : Int64} (h0 : 0 ≤ x) (h1 : x < 2147483647) : 0 ≤ rem64 (x * 16807) 2147483647 ∧ rem64 (x * 16807) 2147483647 < 2147483647 := by
  have a0 := L_le.mp h0
  have a1 := L_lt.mp h1
  rw [show (0 : Int64).toInt = 0 by decide] at a0
  rw [show (2147483647 : Int64).toInt = 2147483647 by decide] at a1
  have e : (x * 16807).toInt = x.toInt * 16807 := by
    rw [Int64.toInt_mul, show (16807 : Int64).toInt = 16807 by decide]
    exact Int.bmod_eq_of_le (by omega) (by omega)
  have h : 0 ≤ x * 16807 := by
    rw [L_le, e, show (0 : Int64).toInt = 0 by decide]
    omega
  have := rem64_spec h (y := 2147483647) (by decide)
  exact ⟨this.1, this.2.1⟩
def bD (s : St) (x : Int64) : Int32 := (rem64 x (s 0).toInt64).toInt32
theorem bD_rng {s : St} (h : 1 ≤ s 0) (h6 : s 0 ≤ 6) {x : Int64} (h0 : 0 ≤ x) : 0 ≤ bD s x ∧ bD s x < s 0 := by
  have p : (0 : Int64) < (s 0).toInt64 := by
    rw [show (0 : Int64) = (0 : Int32).toInt64 by decide, toL_lt]
    exact Int32.lt_of_lt_of_le (by decide) h
  have r := rem64_spec h0 p
  have a0 := L_le.mp r.1
  have a1 := L_lt.mp r.2.1
  rw [show (0 : Int64).toInt = 0 by decide] at a0
  rw [Int32.toInt_toInt64] at a1
  have a6 := t_le.mp h6
  rw [show (6 : Int32).toInt = 6 by decide] at a6
  have e : (bD s x).toInt = (rem64 x (s 0).toInt64).toInt := by
    unfold bD
    rw [Int64.toInt_toInt32]
    exact Int.bmod_eq_of_le (by omega) (by omega)
  rw [t_le, t_lt, e, show (0 : Int32).toInt = 0 by decide]
  exact ⟨a0, a1⟩
def litD (s : St) (x : Int64) : Int32 := if bitv (s 5) (bD s x) = 0 then (if rem64 x 3 = 0 ∧ ones (s 5) < s 3 then s 5 ||| shl32 1 (bD s x) else s 5) else (if rem64 x 5 = 0 then s 5 &&& (shl32 1 (bD s x) ^^^ (-1)) else s 5)
abbrev Dq : Type := St × Int64
def drawF (q : Dq) : Dq := ((night (upI q.1 5 (litD q.1 (rem64 (q.2 * 16807) 2147483647)), fun _ => 0)).1, rem64 (q.2 * 16807) 2147483647)
def drawS (s : St) (x : Int64) (n : Int32) : Dq := foldI (fun _ q => drawF q) (s, x) n
theorem drawS_s {s : St} {x : Int64} {i n : Int32} (h0 : 0 ≤ i) (h1 : i < n) : drawS s x (i + 1) = drawF (drawS s x i) := foldI_s _ _ h0 h1
theorem andF64 : ∀ x : Fin 64, ∀ k : Fin 6, 0 ≤ nI x.val &&& (shl32 1 (nI k.val) ^^^ (-1)) ∧ nI x.val &&& (shl32 1 (nI k.val) ^^^ (-1)) < 64 := by decide +kernel
theorem litD_rng {s : St} (h : WF s) {x : Int64} (h0 : 0 ≤ x) : 0 ≤ litD s x ∧ litD s x < 64 := by
  have b := bD_rng h.1.1.1 h.1.1.2 h0
  have b6 := h.b6 b.2
  have l := h.1.2.2.2.2.1
  unfold litD
  split
  · split
    · exact (or_bit l.1 l.2 b.1 b6).1
    · exact l
  · split
    · obtain ⟨i, hi⟩ := as64 l.1 l.2
      obtain ⟨j, hj⟩ := as6 b.1 b6
      rw [hi, hj]
      exact andF64 i j
    · exact l
theorem drawS_WF {s : St} (h : WF s) {x : Int64} (x0 : 0 ≤ x) (x1 : x < 2147483647) (n : Int32) : (WF (drawS s x n).1 ∧ (drawS s x n).1 0 = s 0 ∧ (drawS s x n).1 1 = s 1) ∧ 0 ≤ (drawS s x n).2 ∧ (drawS s x n).2 < 2147483647 := by
  unfold drawS foldI
  generalize n.toNatClampNeg = k
  induction k with
  | zero => exact ⟨⟨h, rfl, rfl⟩, x0, x1⟩
  | succ k ih =>
    show (WF (drawF (foldN (fun _ q => drawF q) (s, x) k)).1 ∧ (drawF (foldN (fun _ q => drawF q) (s, x) k)).1 0 = s 0 ∧ (drawF (foldN (fun _ q => drawF q) (s, x) k)).1 1 = s 1) ∧ 0 ≤ (drawF (foldN (fun _ q => drawF q) (s, x) k)).2 ∧ (drawF (foldN (fun _ q => drawF q) (s, x) k)).2 < 2147483647
    generalize foldN (fun _ q => drawF q) (s, x) k = z at ih ⊢
    have xn := x_next ih.2.1 ih.2.2
    have l := litD_rng ih.1.1 xn.1
    have w := night_WF (p := (upI z.1 5 (litD z.1 (rem64 (z.2 * 16807) 2147483647)), fun _ => 0)) (ih.1.1.li l.1 l.2)
    have k0 : upI z.1 5 (litD z.1 (rem64 (z.2 * 16807) 2147483647)) 0 = z.1 0 := upI_ne _ _ (by decide)
    have k1 : upI z.1 5 (litD z.1 (rem64 (z.2 * 16807) 2147483647)) 1 = z.1 1 := upI_ne _ _ (by decide)
    exact ⟨⟨w.1, (w.2.1.trans k0).trans ih.1.2.1, (w.2.2.trans k1).trans ih.1.2.2⟩, xn⟩
def drawnR (s : St) (n d w : Int32) : Int32 := if w = 0 then sumP (drawS s d.toInt64 n).1 ((drawS s d.toInt64 n).1 0) else ones (emptyM (drawS s d.toInt64 n).1 ((drawS s d.toInt64 n).1 0))
theorem seed_rng {d : Int32} (h : inR 1 d 999999) : (0 : Int64) ≤ d.toInt64 ∧ d.toInt64 < 2147483647 := by
  have a := t_le.mp h.1
  have b := t_le.mp h.2
  rw [show (1 : Int32).toInt = 1 by decide] at a
  rw [show (999999 : Int32).toInt = 999999 by decide] at b
  rw [L_le, L_lt, Int32.toInt_toInt64, show (0 : Int64).toInt = 0 by decide, show (2147483647 : Int64).toInt = 2147483647 by decide]
  omega
theorem rem5_ne (x : Int64) : ¬ (5 : Int64) = 0 := by decide
theorem L0 {n : Int32} (h : 1 ≤ n) : ¬ n.toInt64 = 0 := by
  intro e
  have := Int64.toInt_inj.mpr e
  rw [Int32.toInt_toInt64, show (0 : Int64).toInt = 0 by decide] at this
  have a := t_le.mp h
  rw [show (1 : Int32).toInt = 1 by decide] at a
  omega
theorem frm_draw {σ τ : Sg} (h : frm σ τ 40 [4, 8, 10]) (e : τ 40 10 = σ 40 4) : frm σ (up τ 40 4 (τ 40 10)) 40 [8, 10] := by
  intro c k hn
  by_cases e4 : c = 40 ∧ k = 4
  · obtain ⟨rfl, rfl⟩ := e4
    rw [up_same, e]
  · rw [up_ne _ _ e4]
    refine h c k (fun q => ?_)
    have := q.2
    simp at this
    rcases this with r | r | r
    · exact e4 ⟨q.1, r⟩
    · exact hn ⟨q.1, by simp [r]⟩
    · exact hn ⟨q.1, by simp [r]⟩
