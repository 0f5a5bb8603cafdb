def bkAt (s : St) (w : Int32) : Int32 := if s 20 = w then 0 else if s 21 = w then 1 else if s 22 = w then 2 else if s 23 = w then 3 else if s 24 = w then 4 else if s 25 = w then 5 else 6
def shut (s : St) (b : Int32) : Prop := bitv (s 5 ||| s 6) b = 1
def likes (s : St) (f b : Int32) : Int32 := (if s (26 + f) = 2 then 2 * s (14 + b) else s (14 + b)) + s (8 + b) / 10 - (if s (20 + b) - s (31 + f) < 0 then -(s (20 + b) - s (31 + f)) else s (20 + b) - s (31 + f))
def likeF (s : St) (f w : Int32) (p : Int32 × Int32) : Int32 × Int32 := if bitv (s 5 ||| s 6) (bkAt s w) = 0 ∧ 0 < s (8 + bkAt s w) ∧ (p.1 < 0 ∨ p.2 < likes s f (bkAt s w)) then (w, likes s f (bkAt s w)) else p
def likedBy (s : St) (f : Int32) : Int32 := if s (26 + f) < 4 then (foldI (likeF s f) ((-1000000 : Int32), (0 : Int32)) (s 0)).1 else -1000000
def goesTo (s : St) (f : Int32) : Int32 :=
  if s (26 + f) = 3 ∧ bitv (s 5) (bkAt s (s (31 + f))) = 1 then rem32 (s (31 + f) + 2) (s 0)
  else if s (26 + f) < 4 then (if likedBy s f < 0 ∨ likedBy s f = s (31 + f) then s (31 + f) else if s (31 + f) < likedBy s f then s (31 + f) + 1 else s (31 + f) - 1)
  else if s (26 + f) = 4 ∨ bitv (s 5 ||| s 6) (bkAt s (s (31 + f))) = 1 ∨ s (8 + bkAt s (s (31 + f))) = 0 then rem32 (s (31 + f) + 1) (s 0) else s (31 + f)
def muchE (s : St) (f : Int32) : Int32 := if bitv (s 5 ||| s 6) (bkAt s (s (31 + f))) = 1 then 0 else if s (8 + bkAt s (s (31 + f))) < s 2 then s (8 + bkAt s (s (31 + f))) else s 2
def eatsS (s : St) (f : Int32) : St := upI (upI s (8 + bkAt s (s (31 + f))) (s (8 + bkAt s (s (31 + f))) - muchE s f)) (36 + f) (if 999 < s (36 + f) + muchE s f then 999 else s (36 + f) + muchE s f)
def eatsH (s h : St) (f : Int32) : St := upI h f (h f ||| (if 0 < muchE s f then shl32 1 (bkAt s (s (31 + f))) else 0))
def nightF (f : Int32) (p : St × St) : St × St := if bitv (p.1 7) f = 1 then p else (eatsS (upI p.1 (31 + f) (goesTo p.1 f)) f, eatsH (upI p.1 (31 + f) (goesTo p.1 f)) p.2 f)
def pasteF (b : Int32) (s : St) : St := if bitv (s 6) b = 0 ∧ s (14 + b) < 9 then upI s (14 + b) (s (14 + b) + 1) else s
def dampS (s : St) : St := if rem32 (s 4) 4 = 3 then foldI pasteF s (s 0) else s
def night (p : St × St) : St × St := (upI (dampS (foldI nightF p (p.1 1)).1) 4 (dampS (foldI nightF p (p.1 1)).1 4 + 1), (foldI nightF p (p.1 1)).2)
def wfN (s : St) : Prop := (1 ≤ s 0 ∧ s 0 ≤ 6) ∧ (0 ≤ s 1 ∧ s 1 ≤ 5) ∧ (1 ≤ s 2 ∧ s 2 ≤ 9) ∧ (0 ≤ s 3 ∧ s 3 ≤ 8) ∧ (0 ≤ s 5 ∧ s 5 < 64) ∧ (0 ≤ s 6 ∧ s 6 < 64) ∧ (0 ≤ s 7 ∧ s 7 < 32)
def wfB (s : St) : Prop := ∀ b, 0 ≤ b → b < s 0 → (0 ≤ s (8 + b) ∧ s (8 + b) ≤ 99) ∧ (0 ≤ s (14 + b) ∧ s (14 + b) ≤ 9) ∧ (0 ≤ s (20 + b) ∧ s (20 + b) < s 0) ∧ bkAt s (s (20 + b)) = b
def wfP (s : St) : Prop := ∀ p, 0 ≤ p → p < s 0 → 0 ≤ bkAt s p ∧ bkAt s p < s 0 ∧ s (20 + bkAt s p) = p
def wfF (s : St) : Prop := ∀ f, 0 ≤ f → f < s 1 → (1 ≤ s (26 + f) ∧ s (26 + f) ≤ 5) ∧ (0 ≤ s (31 + f) ∧ s (31 + f) < s 0) ∧ (0 ≤ s (36 + f) ∧ s (36 + f) ≤ 999)
def WF (s : St) : Prop := wfN s ∧ wfB s ∧ wfP s ∧ wfF s
theorem bk_step {s : St} {w b : Int32} (h0 : 0 ≤ b) (h1 : b < 6) (hb : b ≤ bkAt s w) (hn : s (20 + b) ≠ w) : b + 1 ≤ bkAt s w := by
  rcases (by grind : b = 0 ∨ b = 1 ∨ b = 2 ∨ b = 3 ∨ b = 4 ∨ b = 5) with rfl | rfl | rfl | rfl | rfl | rfl <;> revert hn <;> simp only [show (20 : Int32) + 0 = 20 by decide, show (20 : Int32) + 1 = 21 by decide, show (20 : Int32) + 2 = 22 by decide, show (20 : Int32) + 3 = 23 by decide, show (20 : Int32) + 4 = 24 by decide, show (20 : Int32) + 5 = 25 by decide] <;> unfold bkAt at hb ⊢ <;> grind
theorem bk_here {s : St} {w b : Int32} (h0 : 0 ≤ b) (h1 : b < 6) (hb : b ≤ bkAt s w) (hn : s (20 + b) = w) : b = bkAt s w := by
  rcases (by grind : b = 0 ∨ b = 1 ∨ b = 2 ∨ b = 3 ∨ b = 4 ∨ b = 5) with rfl | rfl | rfl | rfl | rfl | rfl <;> revert hn <;> simp only [show (20 : Int32) + 0 = 20 by decide, show (20 : Int32) + 1 = 21 by decide, show (20 : Int32) + 2 = 22 by decide, show (20 : Int32) + 3 = 23 by decide, show (20 : Int32) + 4 = 24 by decide, show (20 : Int32) + 5 = 25 by decide] <;> unfold bkAt at hb ⊢ <;> grind
theorem bk_rng (s : St) (w : Int32) : 0 ≤ bkAt s w ∧ bkAt s w ≤ 6 := by
  unfold bkAt
  grind
theorem bk_congr {s t : St} (h : ∀ b, 0 ≤ b → b < 6 → s (20 + b) = t (20 + b)) (w : Int32) : bkAt s w = bkAt t w := by
  have e0 : s 20 = t 20 := h 0 (by decide) (by decide)
  have e1 : s 21 = t 21 := h 1 (by decide) (by decide)
  have e2 : s 22 = t 22 := h 2 (by decide) (by decide)
  have e3 : s 23 = t 23 := h 3 (by decide) (by decide)
  have e4 : s 24 = t 24 := h 4 (by decide) (by decide)
  have e5 : s 25 = t 25 := h 5 (by decide) (by decide)
  unfold bkAt
  rw [e0, e1, e2, e3, e4, e5]
