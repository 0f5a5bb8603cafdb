def cntX (R : Int32) (s : St) (m y w : Int32) : Int32 := if w = 0 then R else if w = 1 then s 0 else if w = 2 then s 1 else if w = 3 then s 4 else if w = 4 then sumP s (s 0) else if w = 5 then dustT s (s 1) else if w = 6 then m else if w = 7 then y else -1000001
theorem cntX_R (z s : St) (m y w : Int32) : countR z s m y w = cntX (rowsC z 8) s m y w := rfl
theorem lg_gt (x : Int64) : 0 < lg_cmp x 0 ↔ 0 < x := lg_le x 0
theorem told_rng {L Z : St} {w i n : Int32} (h : fdR L Z w i n = 0) (hB : RowB L Z) : ∀ k, 0 ≤ k → k < n → 0 ≤ w * 40 + i + k ∧ w * 40 + i + k < 320 := by
  intro k k0 k1
  have z := fd_0 h
  have b := hB w z.1.1 z.1.2 z.2.1
  have i0 := t_le.mp z.2.2.1
  have n0 := t_le.mp z.2.2.2.1
  have h1 := t_le.mp z.2.2.2.2.1
  have h2 := t_le.mp z.2.2.2.2.2
  have b0 := t_le.mp b.1
  have b1 := t_le.mp b.2
  have q0 := t_le.mp k0
  have q1 := t_lt.mp k1
  rw [show (0 : Int32).toInt = 0 by decide] at i0 n0 b0 q0
  rw [show (40 : Int32).toInt = 40 by decide] at b1
  rw [t_sub (by omega) (by omega)] at h2
  have e := t_add (x := i) (y := k) (by omega) (by omega)
  rw [add_as]
  refine ix_row z.1.1 z.1.2 ?_ ?_
  · rw [t_le, e, show (0 : Int32).toInt = 0 by decide]; omega
  · rw [t_lt, e, show (40 : Int32).toInt = 40 by decide]; omega
/-- what stands beside the answer of what fits -/
def frW (σ τ : Sg) : Prop := ∀ c k, c ≠ 10 → c ≠ 5 → ¬ (c = 1 ∧ k = 0) → ¬ (c = 0 ∧ k = 0) → τ c k = σ c k
def frs (σ τ : Sg) (ps : List (Nat × Nat)) : Prop := ∀ c k, (c, k) ∉ ps → τ c k = σ c k
theorem frs_r (σ : Sg) (ps : List (Nat × Nat)) : frs σ σ ps := fun _ _ _ => rfl
theorem frs_u {σ τ : Sg} {ps : List (Nat × Nat)} {c k : Nat} {f : St} (h : frs σ τ ps) (hk : (c, k) ∈ ps) : frs σ (up τ c k f) ps := fun a b hn => by
  rw [up_ne _ _ (fun e => hn (by rw [e.1, e.2]; exact hk))]
  exact h a b hn
theorem frs_f {σ τ : Sg} {ps : List (Nat × Nat)} {c : Nat} {ks : List Nat} (h : frm σ τ c ks) (hk : ∀ k ∈ ks, (c, k) ∈ ps) : frs σ τ ps := fun a b hn => h a b (fun e => hn (by rw [e.1]; exact hk b e.2))
theorem frs_t {σ τ υ : Sg} {ps : List (Nat × Nat)} (h1 : frs σ τ ps) (h2 : frs τ υ ps) : frs σ υ ps := fun a b hn => (h2 a b hn).trans (h1 a b hn)
theorem pick_0 {σ : Sg} {w i n : Int32} (h : fdR (σ 1 1) (σ 1 2) w i n = 0) : pickS σ w i n = up σ 1 0 (upI (upI (σ 1 0) 3 (w * 40 + i)) 4 n) := if_pos h
theorem fit_fin {σ τ : Sg} {w i n : Int32} (h : frm (up σ 1 0 (upI (upI (σ 1 0) 3 (w * 40 + i)) 4 n)) τ 10 [0, 1, 2, 3, 4, 5, 6, 7, 8]) : (up τ 0 0 (upI (τ 0 0) 9 0)) 0 0 = upI (σ 0 0) 9 0 ∧ frW σ (up τ 0 0 (upI (τ 0 0) 9 0)) := by
  have e0 : τ 0 0 = σ 0 0 := by rw [h 0 0 (by decide), up_ne _ _ (by decide)]
  refine ⟨by rw [up_same, e0], fun c k h1 h2 h3 h4 => ?_⟩
  rw [up_ne _ _ h4, h c k (fun e => h1 e.1), up_ne _ _ h3]
def bgC (σ : Sg) (f k p d : Int32) : Sg := up σ 4 0 (upI (upI (upI (upI (upI (σ 4 0) 1 0) 2 f) 3 k) 4 p) 5 d)
theorem bgC_f (σ : Sg) (f k p d : Int32) : bgC σ f k p d 4 0 2 = f ∧ bgC σ f k p d 4 0 3 = k ∧ bgC σ f k p d 4 0 4 = p ∧ bgC σ f k p d 4 0 5 = d ∧ bgC σ f k p d 4 0 1 = 0 := by
  unfold bgC
  simp [up, upI]
