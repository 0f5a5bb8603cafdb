abbrev inR (a x b : Int32) : Prop := a ≤ x ∧ x ≤ b
abbrev isB (s : St) (b : Int32) : Prop := 0 ≤ b ∧ b ≤ s 0 - 1
abbrev isF (s : St) (f : Int32) : Prop := 0 ≤ f ∧ f ≤ s 1 - 1
def SW (s : St) : Prop := WF s ∨ (s 0 = 0 ∧ s 1 = 0)
theorem SW.z {s : St} (h : SW s) : WF0 s := by
  rcases h with h | ⟨h0, h1⟩
  · exact h.z
  · exact ⟨by rw [h0]; decide, by rw [h0]; decide, by rw [h1]; decide, by rw [h1]; decide⟩
theorem le_pred {b n : Int32} (h0 : 0 ≤ b) (n0 : 0 ≤ n) (h : b ≤ n - 1) : b < n := by grind
theorem le_pred' {b n : Int32} (n0 : 0 ≤ n) (h : b < n) (hb : 0 ≤ b) : b ≤ n - 1 := by grind
theorem SW.b {s : St} (h : SW s) {b : Int32} (hb : isB s b) : WF s ∧ b < s 0 ∧ b < 6 := by
  have z := h.z
  have k := le_pred hb.1 z.1 hb.2
  rcases h with h | ⟨h0, h1⟩
  · exact ⟨h, k, h.b6 k⟩
  · rw [h0] at k
    exact absurd (Int32.lt_of_le_of_lt hb.1 k) (by decide)
theorem SW.f {s : St} (h : SW s) {f : Int32} (hb : isF s f) : WF s ∧ f < s 1 ∧ f < 5 := by
  have z := h.z
  have k := le_pred hb.1 z.2.2.1 hb.2
  rcases h with h | ⟨h0, h1⟩
  · exact ⟨h, k, h.f5 k⟩
  · rw [h1] at k
    exact absurd (Int32.lt_of_le_of_lt hb.1 k) (by decide)
theorem isB_iff {s : St} (h : WF0 s) {b : Int32} : isB s b ↔ 0 ≤ b ∧ b < s 0 := ⟨fun q => ⟨q.1, le_pred q.1 h.1 q.2⟩, fun q => ⟨q.1, le_pred' h.1 q.2 q.1⟩⟩
theorem isF_iff {s : St} (h : WF0 s) {b : Int32} : isF s b ↔ 0 ≤ b ∧ b < s 1 := ⟨fun q => ⟨q.1, le_pred q.1 h.2.2.1 q.2⟩, fun q => ⟨q.1, le_pred' h.2.2.1 q.2 q.1⟩⟩
/-! results -/
def bookR (s : St) (b w : Int32) : Int32 := if isB s b then (if w = 0 then s (8 + b) else if w = 1 then s (14 + b) else if w = 2 then s (20 + b) else if w = 3 then bitv (s 5) b else if w = 4 then bitv (s 6) b else if w = 5 then fishAtM s (s (20 + b)) (s 1) else -1000001) else -1000001
def fishR (s : St) (f w : Int32) : Int32 := if isF s f ∧ inR 0 w 3 then (if w = 1 then s (36 + f) else if bitv (s 7) f = 1 then -1000000 else if w = 0 then s (31 + f) else if w = 2 then likedBy s f else bkAt s (s (31 + f))) else -1000001
def standR (s : St) (t w : Int32) : Int32 := if t = 0 then -1000002 else if w = 0 then s 5 else if w = 1 then s 6 else if w = 2 then s 7 else if w = 3 then sumP s (s 0) else if w = 4 then s 2 else if w = 5 then s 3 else -1000001
theorem night_fst (s h h' : St) : (night (s, h)).1 = (night (s, h')).1 := by
  have e : ∀ i : Int32, 0 ≤ i → i ≤ s 1 → (foldI nightF (s, h) i).1 = (foldI nightF (s, h') i).1 := by
    intro i h0 h1
    refine foldI_rel (f := nightF) (g := nightF) (a := (s, h)) (b := (s, h')) (n := s 1) (fun (_ : Int32) (x y : St × St) => x.1 = y.1) rfl ?_ i h0 h1
    intro j j0 j1 x y hxy
    unfold nightF
    rw [hxy]
    split
    · exact hxy
    · rfl
  unfold night
  by_cases hs : 0 ≤ s 1
  · show upI (dampS (foldI nightF (s, h) (s 1)).1) 4 (dampS (foldI nightF (s, h) (s 1)).1 4 + 1) = upI (dampS (foldI nightF (s, h') (s 1)).1) 4 (dampS (foldI nightF (s, h') (s 1)).1 4 + 1)
    rw [e (s 1) hs (Int32.le_refl _)]
  · have z : (s 1).toNatClampNeg = 0 := by
      have : (s 1).toInt < 0 := by
        have := Int32.lt_iff_toInt_lt.mp (Int32.not_le.mp hs)
        simpa using this
      show (s 1).toInt.toNat = 0
      omega
    have f0 : ∀ p : St × St, foldI nightF p (s 1) = p := fun p => by unfold foldI; rw [z]; rfl
    show upI (dampS (foldI nightF (s, h) (s 1)).1) 4 _ = upI (dampS (foldI nightF (s, h') (s 1)).1) 4 _
    rw [f0, f0]
def gS (s : St) (n : Int32) : St := (gon (s, fun _ => 0) n).1
theorem gon_fst (s h : St) (n : Int32) : (gon (s, h) n).1 = gS s n := by
  unfold gS gon foldI
  generalize n.toNatClampNeg = k
  have : ∀ k, (foldN (fun _ q => night q) (s, h) k).1 = (foldN (fun _ q => night q) (s, fun _ => 0) k).1 := by
    intro k
    induction k with
    | zero => rfl
    | succ k ih =>
      show (night (foldN (fun _ q => night q) (s, h) k)).1 = (night (foldN (fun _ q => night q) (s, fun _ => 0) k)).1
      rw [show foldN (fun _ q => night q) (s, h) k = ((foldN (fun _ q => night q) (s, h) k).1, (foldN (fun _ q => night q) (s, h) k).2) from rfl, ih]
      exact night_fst _ _ _
  exact this k
def gH (s h : St) (n : Int32) : St := (gon (s, h) n).2
theorem gS_WF {s : St} (h : WF s) (n : Int32) : WF (gS s n) ∧ gS s n 0 = s 0 ∧ gS s n 1 = s 1 := gon_WF (p := (s, fun _ => 0)) h n
theorem gS_0 (s : St) : gS s 0 = s := rfl
theorem gS_s {s : St} {i n : Int32} (h0 : 0 ≤ i) (h1 : i < n) : gS s (i + 1) = (night (gS s i, fun _ => 0)).1 := by
  unfold gS
  rw [gon_s h0 h1]
  exact night_fst _ _ _
def aheadR (s : St) (b n w : Int32) : Int32 := if isB s b ∧ inR 0 n 60 ∧ inR 0 w 1 then (if w = 0 then gS s n (8 + b) else gS s n (14 + b)) else -1000001
def laterR (s : St) (f n w : Int32) : Int32 := if isF s f ∧ inR 0 n 60 ∧ inR 0 w 1 then (if w = 1 then gS s n (36 + f) else if bitv (gS s n 7) f = 1 then -1000000 else gS s n (31 + f)) else -1000001
def holeR (s : St) (f n : Int32) (h : St) : Int32 := if isF s f ∧ inR 0 n 60 then gH s (upI h f 0) n f else -1000001
theorem frm_back {σ τ : Sg} (h : frm (up σ 40 10 (σ 40 4)) τ 40 [4, 8]) : frm σ (up τ 40 4 (τ 40 10)) 40 [8, 10] := by
  intro c k hn
  by_cases e : c = 40 ∧ k = 4
  · obtain ⟨rfl, rfl⟩ := e
    rw [up_same, h 40 10 (by decide), up_same]
  · rw [up_ne _ _ e, h c k (fun q => by
      have := q.2
      simp at this
      rcases this with r | r
      · exact e ⟨q.1, r⟩
      · exact hn ⟨q.1, by simp [r]⟩), up_ne]
    exact fun q => hn ⟨q.1, by simp [q.2]⟩
theorem nt4 {w : Int32} (h : ¬ (0 ≤ w ∧ w ≤ 3)) : ¬ w = 0 ∧ ¬ w = 1 ∧ ¬ w = 2 ∧ ¬ w = 3 := ⟨fun e => h (by subst e; exact ⟨by decide, by decide⟩), fun e => h (by subst e; exact ⟨by decide, by decide⟩), fun e => h (by subst e; exact ⟨by decide, by decide⟩), fun e => h (by subst e; exact ⟨by decide, by decide⟩)⟩
theorem nt6 {w : Int32} (h : ¬ (0 ≤ w ∧ w ≤ 5)) : ¬ w = 0 ∧ ¬ w = 1 ∧ ¬ w = 2 ∧ ¬ w = 3 ∧ ¬ w = 4 ∧ ¬ w = 5 := ⟨fun e => h (by subst e; exact ⟨by decide, by decide⟩), fun e => h (by subst e; exact ⟨by decide, by decide⟩), fun e => h (by subst e; exact ⟨by decide, by decide⟩), fun e => h (by subst e; exact ⟨by decide, by decide⟩), fun e => h (by subst e; exact ⟨by decide, by decide⟩), fun e => h (by subst e; exact ⟨by decide, by decide⟩)⟩
theorem nt8 {w : Int32} (h : ¬ (0 ≤ w ∧ w ≤ 7)) : ¬ w = 0 ∧ ¬ w = 1 ∧ ¬ w = 2 ∧ ¬ w = 3 ∧ ¬ w = 4 ∧ ¬ w = 5 ∧ ¬ w = 6 ∧ ¬ w = 7 := ⟨fun e => h (by subst e; exact ⟨by decide, by decide⟩), fun e => h (by subst e; exact ⟨by decide, by decide⟩), fun e => h (by subst e; exact ⟨by decide, by decide⟩), fun e => h (by subst e; exact ⟨by decide, by decide⟩), fun e => h (by subst e; exact ⟨by decide, by decide⟩), fun e => h (by subst e; exact ⟨by decide, by decide⟩), fun e => h (by subst e; exact ⟨by decide, by decide⟩), fun e => h (by subst e; exact ⟨by decide, by decide⟩)⟩
theorem bt1' {s k : Int32} (h : ¬ bitv s k = 0) : bitv s k = 1 := (bt1 s k).mpr h
theorem frm_back2 {σ σ0 τ : Sg} (h0 : frm σ σ0 40 [8, 10]) (e : σ0 40 10 = σ 40 4) (h : frm σ0 τ 40 [4, 8]) : frm σ (up τ 40 4 (τ 40 10)) 40 [8, 10] := by
  intro c k hn
  by_cases e4 : c = 40 ∧ k = 4
  · obtain ⟨rfl, rfl⟩ := e4
    rw [up_same, h 40 10 (by decide), e]
  · rw [up_ne _ _ e4, h c k (fun q => by
      have := q.2
      simp at this
      rcases this with r | r
      · exact e4 ⟨q.1, r⟩
      · exact hn ⟨q.1, by simp [r]⟩)]
    exact h0 c k hn
def isFirst (P : Int32 → Prop) (r : Int32) : Prop := (0 ≤ r ∧ r ≤ 60 ∧ P r ∧ ∀ m, 0 ≤ m → m < r → ¬ P m) ∨ (r = -1000000 ∧ ∀ m, 0 ≤ m → m ≤ 60 → ¬ P m)
theorem isFirst_one {P : Int32 → Prop} {r r' : Int32} (h : isFirst P r) (h' : isFirst P r') : r = r' := by
  rcases h with ⟨a0, a1, a2, a3⟩ | ⟨a0, a1⟩ <;> rcases h' with ⟨b0, b1, b2, b3⟩ | ⟨b0, b1⟩
  · rcases Int32.lt_or_le r r' with q | q
    · exact absurd a2 (b3 r a0 q)
    · rcases Int32.lt_or_eq_of_le q with q | q
      · exact absurd b2 (a3 r' b0 q)
      · exact q.symm
  · exact absurd a2 (b1 r a0 a1)
  · exact absurd b2 (a1 r' b0 b1)
  · rw [a0, b0]
def leastR (m : Int32) : Int32 := if bitv m 0 = 1 then 0 else if bitv m 1 = 1 then 1 else if bitv m 2 = 1 then 2 else if bitv m 3 = 1 then 3 else if bitv m 4 = 1 then 4 else if bitv m 5 = 1 then 5 else 6
theorem least_rng (m : Int32) : 0 ≤ leastR m ∧ leastR m ≤ 6 := by
  unfold leastR
  repeat' split
  all_goals exact ⟨by decide, by decide⟩
theorem cases6 {b : Int32} (h0 : 0 ≤ b) (h1 : b < 6) : b = 0 ∨ b = 1 ∨ b = 2 ∨ b = 3 ∨ b = 4 ∨ b = 5 := by grind
theorem least_step {m b : Int32} (h0 : 0 ≤ b) (h1 : b < 6) (hb : b ≤ leastR m) (hn : bitv m b = 0) : b + 1 ≤ leastR m := by
  have hn : ¬ bitv m b = 1 := by rw [hn]; decide
  unfold leastR at hb ⊢
  rcases cases6 h0 h1 with rfl | rfl | rfl | rfl | rfl | rfl <;> simp only [hn, if_false] at hb ⊢ <;> revert hb <;> repeat' split
  all_goals decide
theorem least_here {m b : Int32} (h0 : 0 ≤ b) (h1 : b < 6) (hb : b ≤ leastR m) (hn : bitv m b = 1) : b = leastR m := by
  unfold leastR at hb ⊢
  rcases cases6 h0 h1 with rfl | rfl | rfl | rfl | rfl | rfl <;> simp only [hn, if_true] at hb ⊢ <;> revert hb <;> repeat' split
  all_goals decide
theorem first60 {P : Int32 → Int32} {n : Int32} (hm : ∀ m, 0 ≤ m → m < n → ¬ P m = 0) (hor : ¬ 0 < P n ∨ n = 60) (h : ¬ P n = 0) (h0 : 0 ≤ P n) : ∀ m, 0 ≤ m → m ≤ 60 → ¬ P m = 0 := by
  rcases hor with q | q
  · exact absurd (Int32.le_antisymm (Int32.not_lt.mp q) h0) h
  · subst q
    intro m m0 m1
    rcases Int32.lt_or_eq_of_le m1 with q | q
    · exact hm m m0 q
    · rw [q]; exact h
