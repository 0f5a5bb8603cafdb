theorem ask_k (σ : Sg) (f k p d : Int32) (l : List Int32) (j : Nat) : levs (bgC σ f k p d) l 40 j = σ 40 j := by
  rw [lev_fr _ _ _ _ (by decide)]
  unfold bgC
  rw [up_ne _ _ (by omega)]
theorem k_row {σ τ : Sg} {w : Int32} {q : Int32} {n : Int32} {r : Int32} (g : if ¬ ((0 ≤ w ∧ w < 8) ∧ (0 ≤ q ∧ q ≤ 2) ∧ ¬ 40 < n) then r = -1000001 ∧ τ = σ else if n < 0 then r = -1000014 ∧ τ = up σ 0 0 (upI (σ 0 0) 9 (4)) else r = n ∧ τ 1 1 = upI (σ 1 1) w q ∧ τ 1 2 = upI (σ 1 2) w n ∧ τ 1 3 = rowZ (σ 1 3) w ∧ τ 0 0 = upI (σ 0 0) 9 0 ∧ frs σ τ [(0, 0), (1, 1), (1, 2), (1, 3)]) : τ 40 = σ 40 := by
  split at g
  · rw [g.2]
  split at g
  · rw [g.2]; exact funext (fun k => up_ne _ _ (by omega))
  exact funext (fun k => g.2.2.2.2.2 40 k (by simp))
theorem k_set {σ τ : Sg} {w : Int32} {i : Int32} {v : Int32} {r : Int32} (g : if ¬ (0 ≤ w ∧ w < 8) then r = -1000001 ∧ τ = σ else if ¬ (fdR (σ 1 1) (σ 1 2) w i 1) = 0 then r = -1000010 - (fdR (σ 1 1) (σ 1 2) w i 1) ∧ τ = up σ 0 0 (upI (σ 0 0) 9 ((fdR (σ 1 1) (σ 1 2) w i 1))) else r = lanV (σ 1 1 w) v ∧ τ 1 3 = upI (σ 1 3) (w * 40 + i) (lanV (σ 1 1 w) v) ∧ τ 0 0 = upI (σ 0 0) 9 0 ∧ frs σ τ [(0, 0), (1, 3)]) : τ 40 = σ 40 := by
  split at g
  · rw [g.2]
  split at g
  · rw [g.2]; exact funext (fun k => up_ne _ _ (by omega))
  exact funext (fun k => g.2.2.2 40 k (by simp))
theorem k_copy {σ τ : Sg} {a : Int32} {i : Int32} {b : Int32} {j : Int32} {n : Int32} {r : Int32} (g : if ¬ ((0 ≤ a ∧ a < 8) ∧ (0 ≤ b ∧ b < 8)) then r = -1000001 ∧ τ = σ else if ¬ (fdC (σ 1 1) (σ 1 2) a i b j n) = 0 then r = -1000010 - (fdC (σ 1 1) (σ 1 2) a i b j n) ∧ τ = up σ 0 0 (upI (σ 0 0) 9 ((fdC (σ 1 1) (σ 1 2) a i b j n))) else r = n ∧ τ 1 3 = blkS (σ 1 3) (fun x => σ 1 3 (a * 40 + i + x)) (b * 40 + j) n ∧ τ 0 0 = upI (σ 0 0) 9 0 ∧ frs σ τ [(0, 0), (1, 3)]) : τ 40 = σ 40 := by
  split at g
  · rw [g.2]
  split at g
  · rw [g.2]; exact funext (fun k => up_ne _ _ (by omega))
  exact funext (fun k => g.2.2.2 40 k (by simp))
theorem k_drop {σ τ : Sg} {w : Int32} {r : Int32} (g : if ¬ (0 ≤ w ∧ w < 8) then r = -1000001 ∧ τ = σ else if σ 1 1 w = -1 then r = -1000011 ∧ τ = up σ 0 0 (upI (σ 0 0) 9 (1)) else r = σ 1 2 w ∧ τ 1 1 = upI (σ 1 1) w (-1) ∧ τ 0 0 = upI (σ 0 0) 9 0 ∧ frs σ τ [(0, 0), (1, 1)]) : τ 40 = σ 40 := by
  split at g
  · rw [g.2]
  split at g
  · rw [g.2]; exact funext (fun k => up_ne _ _ (by omega))
  exact funext (fun k => g.2.2.2 40 k (by simp))
theorem k_feed {σ τ : Sg} {c : Int32} {r : Int32} (g : if ¬ (0 ≤ c ∧ c ≤ 255) then r = -1000001 ∧ τ = σ else if ¬ σ 2 0 1 < 120 then r = -1000003 ∧ τ = σ else r = σ 2 0 1 + 1 ∧ τ 2 1 = upI (σ 2 1) (σ 2 0 1) c ∧ τ 2 0 = upI (σ 2 0) 1 (σ 2 0 1 + 1) ∧ frm σ τ 2 [0, 1]) : τ 40 = σ 40 := by
  split at g
  · rw [g.2]
  split at g
  · rw [g.2]
  exact funext (fun k => g.2.2.2 40 k (by simp))
theorem k_library {σ τ : Sg}  {r : Int32} {N : Nat} (g : libC σ τ r (libP (σ 40 6) N)) : τ 40 = σ 40 := by
  funext k
  cases hh : (libP (σ 40 6) N).1 with
  | false => exact (g.1 hh).2.2.2 40 k (by decide) (by simp)
  | true => exact (g.2 hh).2.2.2.2.2 40 k (by decide) (by decide) (by simp) (by simp)
theorem k_fault {σ τ : Sg}  {r : Int32} (g : τ = σ ∧ r = σ 2 0 2) : τ 40 = σ 40 := by
  obtain ⟨e, _⟩ := g
  rw [e]
theorem k_undo {σ τ : Sg}  {r : Int32} (g : if σ 40 0 18 = 0 then r = -1000002 ∧ τ = σ else r = σ 40 0 18 - 1 ∧ LibF (τ 6) (getB (σ 40 9) (41 * (σ 40 0 18 - 1))) ∧ OK (getB (σ 40 9) (41 * (σ 40 0 18 - 1))) ∧ AR (τ 3 0 1) (τ 3 0 2) τ (σ 40 9) (σ 40 0 18 - 1) ∧ (∀ c k, c ≠ 3 → c ≠ 6 → τ c k = σ c k)) : τ 40 = σ 40 := by
  split at g
  · rw [g.2]
  exact funext (fun k => g.2.2.2.2 40 k (by decide) (by decide))
theorem k_nights {σ τ : Sg} {n : Int32} {r : Int32} (g : if σ 40 0 4 = 0 then r = -1000002 ∧ τ = σ else if ¬ inR 1 n 24 then r = -1000001 ∧ τ = σ else if 999 < σ 40 4 4 + n then r = -1000003 ∧ τ = σ else r = sumP (nst (σ 40 4, σ 40 9, σ 40 0 18, σ 40 8) n).1 ((nst (σ 40 4, σ 40 9, σ 40 0 18, σ 40 8) n).1 0) ∧ LibF (τ 6) (nst (σ 40 4, σ 40 9, σ 40 0 18, σ 40 8) n).1 ∧ OK (nst (σ 40 4, σ 40 9, σ 40 0 18, σ 40 8) n).1 ∧ AR (τ 3 0 1) (τ 3 0 2) τ (nst (σ 40 4, σ 40 9, σ 40 0 18, σ 40 8) n).2.1 (nst (σ 40 4, σ 40 9, σ 40 0 18, σ 40 8) n).2.2.1 ∧ frA σ τ) : τ 40 = σ 40 := by
  split at g
  · rw [g.2]
  split at g
  · rw [g.2]
  split at g
  · rw [g.2]
  exact funext (fun k => g.2.2.2.2 40 k (by decide) (by decide) (by omega))
theorem k_light {σ τ : Sg} {b : Int32} {o : Int32} {r : Int32} (g : if ¬ (isB (σ 40 4) b ∧ inR 0 o 1) then r = -1000001 ∧ τ = σ else if bitv (σ 40 4 5) b = o ∨ (o = 1 ∧ ¬ ones (σ 40 4 5) < σ 40 4 3) then r = -1000002 ∧ τ = σ else r = σ 40 4 5 ^^^ shl32 1 b ∧ actC (σ 40 9) (σ 40 0 18) (σ 40 4) σ τ (upI (σ 40 4) 5 (σ 40 4 5 ^^^ shl32 1 b))) : τ 40 = σ 40 := by
  split at g
  · rw [g.2]
  split at g
  · rw [g.2]
  exact funext (fun k => g.2.2.2 40 k (by decide) (by decide) (by omega))
theorem k_keepIt {σ τ : Sg} {b : Int32} {o : Int32} {r : Int32} (g : if ¬ (isB (σ 40 4) b ∧ inR 0 o 1) then r = -1000001 ∧ τ = σ else if bitv (σ 40 4 6) b = o then r = -1000002 ∧ τ = σ else r = σ 40 4 6 ^^^ shl32 1 b ∧ actC (σ 40 9) (σ 40 0 18) (σ 40 4) σ τ (upI (σ 40 4) 6 (σ 40 4 6 ^^^ shl32 1 b))) : τ 40 = σ 40 := by
  split at g
  · rw [g.2]
  split at g
  · rw [g.2]
  exact funext (fun k => g.2.2.2 40 k (by decide) (by decide) (by omega))
theorem k_change {σ τ : Sg} {b : Int32} {o : Int32} {r : Int32} (g : if ¬ (isB (σ 40 4) b ∧ isB (σ 40 4) o ∧ ¬ b = o) then r = -1000001 ∧ τ = σ else r = σ 40 4 (20 + o) ∧ actC (σ 40 9) (σ 40 0 18) (σ 40 4) σ τ (chgS (σ 40 4) b o)) : τ 40 = σ 40 := by
  split at g
  · rw [g.2]
  exact funext (fun k => g.2.2.2 40 k (by decide) (by decide) (by omega))
theorem k_move {σ τ : Sg} {f : Int32} {p : Int32} {r : Int32} (g : if ¬ (isF (σ 40 4) f ∧ isB (σ 40 4) p) then r = -1000001 ∧ τ = σ else if ¬ bitv (σ 40 4 7) f = 0 ∨ σ 40 4 (31 + f) = p then r = -1000002 ∧ τ = σ else r = σ 40 4 (31 + f) ∧ actC (σ 40 9) (σ 40 0 18) (σ 40 4) σ τ (upI (σ 40 4) (31 + f) p)) : τ 40 = σ 40 := by
  split at g
  · rw [g.2]
  split at g
  · rw [g.2]
  exact funext (fun k => g.2.2.2 40 k (by decide) (by decide) (by omega))
theorem k_catchIt {σ τ : Sg} {f : Int32} {r : Int32} (g : if ¬ isF (σ 40 4) f then r = -1000001 ∧ τ = σ else if ¬ bitv (σ 40 4 7) f = 0 then r = -1000002 ∧ τ = σ else r = σ 40 4 7 ||| shl32 1 f ∧ actC (σ 40 9) (σ 40 0 18) (σ 40 4) σ τ (upI (σ 40 4) 7 (σ 40 4 7 ||| shl32 1 f))) : τ 40 = σ 40 := by
  split at g
  · rw [g.2]
  split at g
  · rw [g.2]
  exact funext (fun k => g.2.2.2 40 k (by decide) (by decide) (by omega))
theorem k_book {σ τ : Sg} {b : Int32} {w : Int32} {r : Int32} (g : τ = σ ∧ r = bookR (σ 40 4) b w) : τ 40 = σ 40 := by
  obtain ⟨e, _⟩ := g
  rw [e]
theorem k_fish {σ τ : Sg} {f : Int32} {w : Int32} {r : Int32} (g : τ = σ ∧ r = fishR (σ 40 4) f w) : τ 40 = σ 40 := by
  obtain ⟨e, _⟩ := g
  rw [e]
theorem k_stand {σ τ : Sg} {w : Int32} {r : Int32} (g : τ = σ ∧ r = standR (σ 40 4) (σ 40 0 4) w) : τ 40 = σ 40 := by
  obtain ⟨e, _⟩ := g
  rw [e]
theorem k_ahead {σ τ : Sg} {b : Int32} {n : Int32} {w : Int32} {r : Int32} (g : r = aheadR (σ 40 4) b n w ∧ fr2 σ τ) : τ 40 = σ 40 := by
  exact funext (fun k => g.2 40 k (by decide) (by decide))
theorem k_later {σ τ : Sg} {f : Int32} {n : Int32} {w : Int32} {r : Int32} (g : r = laterR (σ 40 4) f n w ∧ fr2 σ τ) : τ 40 = σ 40 := by
  exact funext (fun k => g.2 40 k (by decide) (by decide))
theorem k_when {σ τ : Sg} {b : Int32} {r : Int32} (g : (if isB (σ 40 4) b then isFirst (fun n => gS (σ 40 4) n (8 + b) = 0) r else r = -1000001) ∧ fr2 σ τ) : τ 40 = σ 40 := by
  exact funext (fun k => g.2 40 k (by decide) (by decide))
theorem k_first {σ τ : Sg} {w : Int32} {r : Int32} (g : firstQ (σ 40 0 4) (σ 40 4) w r ∧ fr2 σ τ) : τ 40 = σ 40 := by
  exact funext (fun k => g.2 40 k (by decide) (by decide))
theorem k_hole {σ τ : Sg} {f : Int32} {n : Int32} {r : Int32} (g : r = holeR (σ 40 4) f n (σ 40 8) ∧ fr2 σ τ) : τ 40 = σ 40 := by
  exact funext (fun k => g.2 40 k (by decide) (by decide))
theorem k_order {σ τ : Sg} {v : Int32} {n : Int32} {i : Int32} {r : Int32} (g : r = (if σ 40 0 4 = 0 then -1000002 else if ¬ (inR 0 v (shl32 1 (σ 40 4 0) - 1) ∧ inR 1 n 12 ∧ inR (-1) i (σ 40 4 0 - 1)) then -1000001 else ordR (σ 40 4) v n i) ∧ fr2 σ τ) : τ 40 = σ 40 := by
  exact funext (fun k => g.2 40 k (by decide) (by decide))
theorem k_lamp {σ τ : Sg} {b : Int32} {n : Int32} {w : Int32} {r : Int32} (g : r = lampR (σ 40 4) b n w ∧ fr2 σ τ) : τ 40 = σ 40 := by
  exact funext (fun k => g.2 40 k (by decide) (by decide))
theorem k_caught {σ τ : Sg} {b : Int32} {n : Int32} {w : Int32} {r : Int32} (g : r = catchR (σ 40 4) b n w ∧ fr2 σ τ) : τ 40 = σ 40 := by
  exact funext (fun k => g.2 40 k (by decide) (by decide))
theorem k_grams {σ τ : Sg} {f : Int32} {n : Int32} {r : Int32} (g : r = gramsR (σ 40 4) f n ∧ fr2 σ τ) : τ 40 = σ 40 := by
  exact funext (fun k => g.2 40 k (by decide) (by decide))
theorem k_who {σ τ : Sg} {f : Int32} {v : Int32} {b : Int32} {w : Int32} {i : Int32} {n : Int32} {r : Int32} (g : if ¬ (isF (σ 40 4) f ∧ inR 0 v 1 ∧ isB (σ 40 4) b ∧ (0 ≤ w ∧ w < 8) ∧ inR 1 n 12) then r = -1000001 ∧ τ = σ else if ¬ bitv (σ 40 4 7) f = 0 then r = -1000002 ∧ τ = σ else if ¬ (fdR (σ 1 1) (σ 1 2) w i n) = 0 then r = -1000010 - (fdR (σ 1 1) (σ 1 2) w i n) ∧ τ = up σ 0 0 (upI (σ 0 0) 9 ((fdR (σ 1 1) (σ 1 2) w i n))) else r = (if v = 0 then fitR (σ 40 4) (σ 1 3) (26 + f) 1 5 b (w * 40 + i) n else fitR (σ 40 4) (σ 1 3) (31 + f) 0 (σ 40 4 0 - 1) b (w * 40 + i) n) ∧ τ 0 0 = upI (σ 0 0) 9 0 ∧ frW σ τ) : τ 40 = σ 40 := by
  split at g
  · rw [g.2]
  split at g
  · rw [g.2]
  split at g
  · rw [g.2]; exact funext (fun k => up_ne _ _ (by omega))
  exact funext (fun k => g.2.2 40 k (by decide) (by decide) (by omega) (by omega))
theorem k_paste {σ τ : Sg} {b : Int32} {o : Int32} {w : Int32} {i : Int32} {n : Int32} {r : Int32} (g : if ¬ (isB (σ 40 4) b ∧ isB (σ 40 4) o ∧ (0 ≤ w ∧ w < 8) ∧ inR 1 n 12) then r = -1000001 ∧ τ = σ else if ¬ (fdR (σ 1 1) (σ 1 2) w i n) = 0 then r = -1000010 - (fdR (σ 1 1) (σ 1 2) w i n) ∧ τ = up σ 0 0 (upI (σ 0 0) 9 ((fdR (σ 1 1) (σ 1 2) w i n))) else r = fitR (σ 40 4) (σ 1 3) (14 + b) 0 9 o (w * 40 + i) n ∧ τ 0 0 = upI (σ 0 0) 9 0 ∧ frW σ τ) : τ 40 = σ 40 := by
  split at g
  · rw [g.2]
  split at g
  · rw [g.2]; exact funext (fun k => up_ne _ _ (by omega))
  exact funext (fun k => g.2.2 40 k (by decide) (by decide) (by omega) (by omega))
theorem k_hungers {σ τ : Sg} {b : Int32} {w : Int32} {i : Int32} {n : Int32} {r : Int32} (g : if ¬ (isB (σ 40 4) b ∧ (0 ≤ w ∧ w < 8) ∧ inR 1 n 12) then r = -1000001 ∧ τ = σ else if ¬ (fdR (σ 1 1) (σ 1 2) w i n) = 0 then r = -1000010 - (fdR (σ 1 1) (σ 1 2) w i n) ∧ τ = up σ 0 0 (upI (σ 0 0) 9 ((fdR (σ 1 1) (σ 1 2) w i n))) else r = fitR (σ 40 4) (σ 1 3) 2 1 9 b (w * 40 + i) n ∧ τ 0 0 = upI (σ 0 0) 9 0 ∧ frW σ τ) : τ 40 = σ 40 := by
  split at g
  · rw [g.2]
  split at g
  · rw [g.2]; exact funext (fun k => up_ne _ _ (by omega))
  exact funext (fun k => g.2.2 40 k (by decide) (by decide) (by omega) (by omega))
theorem k_dark {σ τ : Sg} {b : Int32} {n : Int32} {p : Int32} {w : Int32} {r : Int64} (g : r = darkR (σ 40 4) b n p w ∧ fr2 σ τ) : τ 40 = σ 40 := by
  exact funext (fun k => g.2 40 k (by decide) (by decide))
theorem k_drawn {σ τ : Sg} {n : Int32} {d : Int32} {v : Int32} {r : Int32} (g : r = (if σ 40 0 4 = 0 then -1000002 else if ¬ (inR 0 n 60 ∧ inR 1 d 999999 ∧ inR 0 v 1) then -1000001 else drawnR (σ 40 4) n d v) ∧ fr2 σ τ) : τ 40 = σ 40 := by
  exact funext (fun k => g.2 40 k (by decide) (by decide))
theorem k_image {σ τ : Sg} {k : Int32} {r : Int32} (g : if ¬ inR 0 k 1 then r = -1000001 ∧ τ = σ else if σ 40 0 4 = 0 then r = -1000002 ∧ τ = σ else r = 1 ∧ LibF (τ (if k = 0 then 8 else 9)) (σ 40 4) ∧ (∀ c j, c ≠ (if k = 0 then 8 else 9) → τ c j = σ c j)) : τ 40 = σ 40 := by
  split at g
  · rw [g.2]
  split at g
  · rw [g.2]
  exact funext (fun k => g.2.2 40 k (by split <;> decide))
theorem k_restore {σ τ : Sg} {k : Int32} {r : Int32} (g : if ¬ inR 0 k 1 then r = -1000001 ∧ τ = σ else if ¬ 0 < σ (if k = 0 then 8 else 9) 0 0 then r = -1000002 ∧ τ = σ else r = 1 ∧ Tk0 σ τ 6 (if k = 0 then 8 else 9) ∧ τ 3 0 = upI (σ 3 0) 2 0 ∧ (∀ c j, c ≠ 6 → ¬ (c = 3 ∧ j = 0) → τ c j = σ c j)) : τ 40 = σ 40 := by
  by_cases c0 : ¬ inR 0 k 1
  · rw [if_pos c0] at g
    rw [g.2]
  · rw [if_neg c0] at g
    by_cases c1 : ¬ 0 < σ (if k = 0 then 8 else 9) 0 0
    · rw [if_pos c1] at g
      rw [g.2]
    · rw [if_neg c1] at g
      exact funext (fun j => g.2.2.2 40 j (by decide) (by simp))
theorem k_kind {σ τ : Sg} {f : Int32} {r : Int32} (g : τ = σ ∧ r = if isF (σ 40 4) f then σ 40 4 (26 + f) else -1000001) : τ 40 = σ 40 := by
  obtain ⟨e, _⟩ := g
  rw [e]
theorem k_as {σ τ : Sg} {f : Int32} {k : Int32} {r : Int32} (g : if ¬ (isF (σ 40 4) f ∧ inR 0 k 5) then r = -1000001 ∧ τ = σ else if kindB (σ 40 4 (26 + f)) k then r = f ∧ τ = up σ 0 0 (upI (σ 0 0) 9 (0)) else r = -1000013 ∧ τ = up σ 0 0 (upI (σ 0 0) 9 (3))) : τ 40 = σ 40 := by
  split at g
  · rw [g.2]
  split at g
  · rw [g.2]; exact funext (fun k => up_ne _ _ (by omega))
  rw [g.2]; exact funext (fun k => up_ne _ _ (by omega))
theorem k_ask {σ τ : Sg} {f : Int32} {v : Int32} {r : Int32} (g : if ¬ (isF (σ 40 4) f ∧ inR 0 v 1) then r = -1000001 ∧ τ = σ else if v = 0 then r = szC (σ 40 4 (26 + f)) f (σ 40 4 (31 + f)) (σ 40 4 (36 + f)) ∧ τ = levs (bgC σ f (σ 40 4 (26 + f)) (σ 40 4 (31 + f)) (σ 40 4 (36 + f))) (szCl (σ 40 4 (26 + f))) else r = mrC (σ 40 4 (26 + f)) f (σ 40 4 (31 + f)) (σ 40 4 (36 + f)) ∧ τ = levs (bgC σ f (σ 40 4 (26 + f)) (σ 40 4 (31 + f)) (σ 40 4 (36 + f))) (mrCl (σ 40 4 (26 + f)))) : τ 40 = σ 40 := by
  split at g
  · rw [g.2]
  split at g
  · rw [g.2]; exact funext (fun k => ask_k σ _ _ _ _ _ k)
  rw [g.2]; exact funext (fun k => ask_k σ _ _ _ _ _ k)
theorem k_trace {σ τ : Sg} {i : Int32} {r : Int32} (g : τ = σ ∧ r = if 0 ≤ i ∧ i < σ 4 0 1 ∧ i < 16 then σ 4 1 i else -1000000) : τ 40 = σ 40 := by
  obtain ⟨e, _⟩ := g
  rw [e]
theorem k_count {σ τ : Sg} {w : Int32} {r : Int32} (g : τ = σ ∧ r = cntX (rowsL (σ 1 1) 8) (σ 40 4) (σ 3 0 2) (σ 2 0 1) w) : τ 40 = σ 40 := by
  obtain ⟨e, _⟩ := g
  rw [e]
theorem k_status {σ τ : Sg}  {r : Int32} (g : τ = σ ∧ r = σ 0 0 9) : τ 40 = σ 40 := by
  obtain ⟨e, _⟩ := g
  rw [e]
