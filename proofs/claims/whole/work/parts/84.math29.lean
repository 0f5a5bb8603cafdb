/-- a body leaves a number -/
def lev (σ : Sg) (b : Int32) : Sg := if ¬ σ 4 0 1 < 0 ∧ σ 4 0 1 < 16 then up (up σ 4 1 (upI (σ 4 1) (σ 4 0 1) b)) 4 0 (upI (σ 4 0) 1 (σ 4 0 1 + 1)) else σ
def levs (σ : Sg) (l : List Int32) : Sg := l.foldl lev σ
theorem lev_f (σ : Sg) (b : Int32) {k : Int32} (h : k ≠ 1) : lev σ b 4 0 k = σ 4 0 k := by
  unfold lev
  split
  · rw [up_same, upI_ne _ _ h]
  · rfl
theorem levs_f (σ : Sg) (l : List Int32) {k : Int32} (h : k ≠ 1) : levs σ l 4 0 k = σ 4 0 k := by
  unfold levs
  induction l generalizing σ with
  | nil => rfl
  | cons a l ih =>
    show List.foldl lev (lev σ a) l 4 0 k = _
    rw [ih, lev_f _ _ h]
theorem levs_1 (σ : Sg) (b : Int32) : lev σ b = levs σ [b] := rfl
theorem levs_a (σ : Sg) (l m : List Int32) : levs (levs σ l) m = levs σ (l ++ m) := by
  unfold levs
  rw [List.foldl_append]
def mkC (K W P : Int32) : Int32 := if K = 2 then 2 * (W + P) else if K = 3 then W + P - 1000 else W + P
def mkCl (K : Int32) : List Int32 := if K = 2 then [24, 21, 20] else if K = 3 then [22, 21, 20] else [21, 20]
def swC (K D : Int32) : Int32 := if K = 5 then 2 * (D - 100) else D - 100
def swCl (K : Int32) : List Int32 := if K = 5 then [14, 13, 10] else [13, 10]
def rsC (K W P D : Int32) : Int32 := if K = 2 then -(D + mkC K W P) else D + mkC K W P
def rsCl (K : Int32) : List Int32 := if K = 2 then [12] ++ ([11, 10] ++ mkCl K) else [11, 10] ++ mkCl K
def szC (K W P D : Int32) : Int32 := if ikF 6 K 4 = 0 then rsC K W P D else swC K D
def szCl (K : Int32) : List Int32 := if ikF 6 K 4 = 0 then rsCl K else swCl K
def mrC (K W P D : Int32) : Int32 := if ikF 6 K 4 = 0 then mkC K W P else W - swC K D
def mrCl (K : Int32) : List Int32 := if ikF 6 K 4 = 0 then mkCl K else [23, 20] ++ swCl K
theorem frm_lev {σ τ : Sg} {l : List Int32} (h : frm σ τ 4 [0, 1]) : frm σ (levs τ l) 4 [0, 1] := by
  unfold levs
  induction l generalizing τ with
  | nil => exact h
  | cons a l ih =>
    refine ih ?_
    unfold lev
    split
    · exact frm_up (frm_up h (by decide)) (by decide)
    · exact h
