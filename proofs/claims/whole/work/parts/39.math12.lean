def bgn (σ : Sg) (b : Int32) : Sg := if σ 40 0 25 < 16 then up (up σ 40 15 (upI (σ 40 15) (σ 40 0 25) b)) 40 0 (upI (σ 40 0) 25 (σ 40 0 25 + 1)) else σ
def bgs (σ : Sg) (l : List Int32) : Sg := l.foldl bgn σ
theorem bgs_app (σ : Sg) (a b : List Int32) : bgs σ (a ++ b) = bgs (bgs σ a) b := List.foldl_append
theorem bgs_1 (σ : Sg) (b : Int32) (l : List Int32) : bgs σ (b :: l) = bgs (bgn σ b) l := rfl
theorem bgs_0 (σ : Sg) : bgs σ [] = σ := rfl
theorem bgn_st (σ : Sg) (b : Int32) {k : Nat} (hk : k ≠ 0 ∧ k ≠ 15) : bgn σ b 40 k = σ 40 k := by
  unfold bgn
  split
  · rw [up_ne _ _ (by simp [hk.1]), up_ne _ _ (by simp [hk.2])]
  · rfl
theorem bgs_st (σ : Sg) (l : List Int32) {k : Nat} (hk : k ≠ 0 ∧ k ≠ 15) : bgs σ l 40 k = σ 40 k := by
  induction l generalizing σ with
  | nil => rfl
  | cons a l ih =>
    rw [bgs_1, ih]
    exact bgn_st _ _ hk
theorem bgn_pos {σ : Sg} {b : Int32} (h : 0 ≤ σ 40 0 25) : 0 ≤ bgn σ b 40 0 25 := by
  unfold bgn
  split
  · rename_i hlt
    rw [up_same, upI_same]
    exact (inc_lt h hlt).1
  · exact h
theorem bgs_pos {σ : Sg} {l : List Int32} (h : 0 ≤ σ 40 0 25) : 0 ≤ bgs σ l 40 0 25 := by
  induction l generalizing σ with
  | nil => exact h
  | cons a l ih => exact ih (bgn_pos h)
theorem bgn_frm (σ : Sg) (b : Int32) : frm σ (bgn σ b) 40 [0, 15] := by
  unfold bgn
  split
  · exact frm_up (frm_up (frm_refl _ _ _) (by decide)) (by decide)
  · exact frm_refl _ _ _
theorem bgs_frm (σ : Sg) (l : List Int32) : frm σ (bgs σ l) 40 [0, 15] := by
  induction l generalizing σ with
  | nil => exact frm_refl _ _ _
  | cons a l ih => exact frm_trans (bgn_frm σ a) (ih _)
def swR (s : St) (w : Int32) : Int32 := if s (26 + w) = 5 then 2 * (s (36 + w) - 100) else s (36 + w) - 100
def swL (s : St) (w : Int32) : List Int32 := if s (26 + w) = 5 then [14, 13, 10] else [13, 10]
def mkR (s : St) (w : Int32) : Int32 := if s (26 + w) = 2 then 2 * (w + s (31 + w)) else if s (26 + w) = 3 then w + s (31 + w) - 1000 else if s (26 + w) = 1 then w + s (31 + w) else w - swR s w
def mkL (s : St) (w : Int32) : List Int32 := if s (26 + w) = 2 then [24, 21, 20] else if s (26 + w) = 3 then [22, 21, 20] else if s (26 + w) = 1 then [21, 20] else 23 :: 20 :: swL s w
def rsR (s : St) (w : Int32) : Int32 := s (36 + w) + mkR s w
def rsL (s : St) (w : Int32) : List Int32 := 11 :: 10 :: mkL s w
def szR (s : St) (w : Int32) : Int32 := if s (26 + w) = 2 then -rsR s w else if s (26 + w) < 4 then rsR s w else swR s w
def szL (s : St) (w : Int32) : List Int32 := if s (26 + w) = 2 then 12 :: rsL s w else if s (26 + w) < 4 then rsL s w else swL s w
