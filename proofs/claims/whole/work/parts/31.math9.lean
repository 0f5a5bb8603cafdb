def lampF (s : St) (b n i : Int32) (p : Int32 × Int32) : Int32 × Int32 := if s 3 < ones i then p else if p.2 < gS (upI s 5 i) n (8 + b) ∨ (gS (upI s 5 i) n (8 + b) = p.2 ∧ ones i < ones p.1) then (i, gS (upI s 5 i) n (8 + b)) else p
def lampP (s : St) (b n i : Int32) : Int32 × Int32 := foldI (lampF s b n) ((0 : Int32), (-1 : Int32)) i
def lampR (s : St) (b n w : Int32) : Int32 := if isB s b ∧ inR 1 n 60 ∧ inR 0 w 1 then (if w = 0 then (lampP s b n (shl32 1 (s 0))).2 else (lampP s b n (shl32 1 (s 0))).1) else -1000001
def catchF (s : St) (b n i p : Int32) : Int32 := if i &&& s 7 = 0 ∧ (p < 0 ∨ ones i < ones p) then (if gS (upI s 7 (s 7 ||| i)) n (8 + b) = s (8 + b) then i else p) else p
def catchP (s : St) (b n i : Int32) : Int32 := foldI (catchF s b n) (-1000000 : Int32) i
def catchR (s : St) (b n w : Int32) : Int32 := if isB s b ∧ inR 1 n 60 ∧ inR 0 w 1 then (if w = 0 then ones (catchP s b n (shl32 1 (s 1))) else catchP s b n (shl32 1 (s 1))) else -1000001
theorem pow6F : ∀ k : Fin 7, 0 ≤ shl32 1 (nI k.val) ∧ shl32 1 (nI k.val) ≤ 64 := by decide +kernel
theorem pow6 {k : Int32} (h0 : 0 ≤ k) (h1 : k ≤ 6) : 0 ≤ shl32 1 k ∧ shl32 1 k ≤ 64 := by
  obtain ⟨j, hj, rfl⟩ := nI_of (Int32.not_lt.mpr h0)
  have := (nI_leI (b := 6) hj (by decide)).mp h1
  exact pow6F ⟨j, by omega⟩
theorem pow5F : ∀ k : Fin 6, 0 ≤ shl32 1 (nI k.val) ∧ shl32 1 (nI k.val) ≤ 32 := by decide +kernel
theorem pow5 {k : Int32} (h0 : 0 ≤ k) (h1 : k ≤ 5) : 0 ≤ shl32 1 k ∧ shl32 1 k ≤ 32 := by
  obtain ⟨j, hj, rfl⟩ := nI_of (Int32.not_lt.mpr h0)
  have := (nI_leI (b := 5) hj (by decide)).mp h1
  exact pow5F ⟨j, by omega⟩
theorem WF.li {s : St} (h : WF s) {v : Int32} (v0 : 0 ≤ v) (v1 : v < 64) : WF (upI s 5 v) := h.wd (k := 5) (by omega) ⟨fun e => absurd e (by omega), fun _ => ⟨v0, v1⟩, fun e => absurd e (by omega), fun e => absurd e (by omega)⟩
theorem WF.ca {s : St} (h : WF s) {v : Int32} (v0 : 0 ≤ v) (v1 : v < 32) : WF (upI s 7 v) := h.wd (k := 7) (by omega) ⟨fun e => absurd e (by omega), fun e => absurd e (by omega), fun e => absurd e (by omega), fun _ => ⟨v0, v1⟩⟩
theorem lamp_rng (s : St) (b n : Int32) {i N : Int32} (i0 : 0 ≤ i) (i1 : i ≤ N) (hN : N ≤ 64) : 0 ≤ (lampP s b n i).1 ∧ (lampP s b n i).1 < 64 := by
  unfold lampP
  refine foldI_inv (f := lampF s b n) (n := N) (fun (_ : Int32) (p : Int32 × Int32) => 0 ≤ p.1 ∧ p.1 < 64) ⟨by decide, by decide⟩ ?_ i i0 i1
  intro j j0 j1 p hp
  unfold lampF
  split
  · exact hp
  · split
    · exact ⟨j0, Int32.lt_of_lt_of_le j1 hN⟩
    · exact hp
theorem or32F : ∀ x y : Fin 32, 0 ≤ nI x.val ||| nI y.val ∧ nI x.val ||| nI y.val < 32 := by decide +kernel
theorem as32 {x : Int32} (h0 : 0 ≤ x) (h1 : x < 32) : ∃ j : Fin 32, x = nI j.val := by
  obtain ⟨j, hj, rfl⟩ := nI_of (Int32.not_lt.mpr h0)
  exact ⟨⟨j, (nI_ltI (b := 32) hj (by decide)).mp h1⟩, rfl⟩
theorem or32 {x y : Int32} (x0 : 0 ≤ x) (x1 : x < 32) (y0 : 0 ≤ y) (y1 : y < 32) : 0 ≤ x ||| y ∧ x ||| y < 32 := by
  obtain ⟨i, rfl⟩ := as32 x0 x1
  obtain ⟨j, rfl⟩ := as32 y0 y1
  exact or32F i j
theorem catch_rng (s : St) (b n : Int32) {i N : Int32} (i0 : 0 ≤ i) (i1 : i ≤ N) (hN : N ≤ 32) : catchP s b n i = -1000000 ∨ (0 ≤ catchP s b n i ∧ catchP s b n i < i) := by
  unfold catchP
  have := foldI_inv (f := catchF s b n) (a := (-1000000 : Int32)) (n := N) (fun (j : Int32) (p : Int32) => p = -1000000 ∨ (0 ≤ p ∧ p < j)) (Or.inl rfl) (by
    intro j j0 j1 p hp
    have hs : p = -1000000 ∨ (0 ≤ p ∧ p < j + 1) := by
      rcases hp with h | h
      · exact Or.inl h
      · exact Or.inr ⟨h.1, Int32.lt_trans h.2 (inc_lt j0 j1).2.2⟩
    unfold catchF
    split
    · split
      · exact Or.inr ⟨j0, (inc_lt j0 j1).2.2⟩
      · exact hs
    · exact hs) i i0 i1
  exact this
/-- with all fish caught, nothing is eaten -/
theorem nightFs_id {p : St × St} (h : ∀ f, 0 ≤ f → f < p.1 1 → bitv (p.1 7) f = 1) {i : Int32} (i0 : 0 ≤ i) (i1 : i ≤ p.1 1) : foldI nightF p i = p := by
  have := foldI_inv (f := nightF) (a := p) (n := p.1 1) (fun (_ : Int32) (q : St × St) => q = p) rfl (by
    intro j j0 j1 q hq
    subst hq
    unfold nightF
    rw [if_pos (h j j0 j1)]) i i0 i1
  exact this
theorem caught_pg {s : St} (hw : WF s) (h : ∀ f, 0 ≤ f → f < s 1 → bitv (s 7) f = 1) {b : Int32} (b0 : 0 ≤ b) (b1 : b < s 0) (n : Int32) : gS s n (8 + b) = s (8 + b) := by
  unfold gS gon foldI
  generalize n.toNatClampNeg = k
  have key : WF (foldN (fun _ q => night q) (s, fun _ => 0) k).1 ∧ (foldN (fun _ q => night q) (s, fun _ => 0) k).1 1 = s 1 ∧ (foldN (fun _ q => night q) (s, fun _ => 0) k).1 7 = s 7 ∧ (foldN (fun _ q => night q) (s, fun _ => 0) k).1 (8 + b) = s (8 + b) := by
    induction k with
    | zero => exact ⟨hw, rfl, rfl, rfl⟩
    | succ k ih =>
      generalize hz : foldN (fun _ q => night q) (s, fun _ => 0) k = z at ih
      show WF (night (foldN (fun _ q => night q) (s, fun _ => 0) k)).1 ∧ (night (foldN (fun _ q => night q) (s, fun _ => 0) k)).1 1 = s 1 ∧ (night (foldN (fun _ q => night q) (s, fun _ => 0) k)).1 7 = s 7 ∧ (night (foldN (fun _ q => night q) (s, fun _ => 0) k)).1 (8 + b) = s (8 + b)
      rw [hz]
      have w := night_WF ih.1
      have e := nightFs_id (p := z) (fun f f0 f1 => by rw [ih.2.2.1]; exact h f f0 (by rw [← ih.2.1]; exact f1)) (i := z.1 1) ih.1.1.2.1.1 (Int32.le_refl _)
      have q : (night z).1 = upI (dampS (foldI nightF z (z.1 1)).1) 4 (dampS (foldI nightF z (z.1 1)).1 4 + 1) := rfl
      rw [e] at q
      refine ⟨w.1, w.2.2.trans ih.2.1, ?_, ?_⟩
      · rw [q, upI_ne _ _ (show (7 : Int32) ≠ 4 by decide)]
        have d7 : dampS z.1 7 = z.1 7 := by
          unfold dampS
          split
          · exact foldI_inv (f := pasteF) (a := z.1) (n := z.1 0) (fun (_ : Int32) (y : St) => y 7 = z.1 7) rfl (by
              intro i i0 i1 y hy
              unfold pasteF
              split
              · rw [upI_ne _ _ (show (7 : Int32) ≠ 14 + i from (ix_c 14 6 7 i0 (ih.1.b6 i1)).symm)]; exact hy
              · exact hy) (z.1 0) (le0_of ih.1.1.1.1) (Int32.le_refl _)
          · rfl
        rw [d7]; exact ih.2.2.1
      · rw [q, upI_ne _ _ (show (8 : Int32) + b ≠ 4 from ix_c 8 6 4 b0 (hw.b6 b1)), damp_pg ih.1 b0 (hw.b6 b1)]
        exact ih.2.2.2
  exact key.2.2.2
def restU (c k : Int32) : Int32 := (shl32 1 k - 1) &&& (c ^^^ (-1))
theorem restF : ∀ c : Fin 32, ∀ k : Fin 6, (0 ≤ restU (nI c.val) (nI k.val) ∧ restU (nI c.val) (nI k.val) < shl32 1 (nI k.val)) ∧ restU (nI c.val) (nI k.val) &&& nI c.val = 0 ∧ ∀ f : Fin 5, f.val < k.val → bitv (nI c.val ||| restU (nI c.val) (nI k.val)) (nI f.val) = 1 := by decide +kernel
theorem rest_spec {c k : Int32} (c0 : 0 ≤ c) (c1 : c < 32) (k0 : 0 ≤ k) (k1 : k ≤ 5) : (0 ≤ restU c k ∧ restU c k < shl32 1 k) ∧ restU c k &&& c = 0 ∧ ∀ f, 0 ≤ f → f < k → bitv (c ||| restU c k) f = 1 := by
  obtain ⟨i, rfl⟩ := as32 c0 c1
  obtain ⟨j, hj, rfl⟩ := nI_of (Int32.not_lt.mpr k0)
  have j6 := (nI_leI (b := 5) hj (by decide)).mp k1
  have := restF i ⟨j, by omega⟩
  refine ⟨this.1, this.2.1, fun f f0 f1 => ?_⟩
  obtain ⟨m, hm, rfl⟩ := nI_of (Int32.not_lt.mpr f0)
  have m1 := (nI_ltI hm hj).mp f1
  exact this.2.2 ⟨m, by omega⟩ m1
theorem catch_end {s : St} (hw : WF s) {b n : Int32} (b0 : 0 ≤ b) (b1 : b < s 0) : 0 ≤ catchP s b n (shl32 1 (s 1)) ∧ catchP s b n (shl32 1 (s 1)) < 32 := by
  have c7 := hw.1.2.2.2.2.2.2
  have f1 := hw.1.2.1
  have p5 := pow5 f1.1 f1.2
  have u := rest_spec c7.1 c7.2 f1.1 f1.2
  have o := or32 c7.1 c7.2 u.1.1 (Int32.lt_of_lt_of_le u.1.2 p5.2)
  have wz := hw.ca o.1 o.2
  have hz : gS (upI s 7 (s 7 ||| restU (s 7) (s 1))) n (8 + b) = s (8 + b) := by
    have := caught_pg wz (fun f f0 f1 => by
      rw [upI_same]
      exact u.2.2 f f0 f1) (b := b) b0 b1 n
    rw [this, upI_ne _ _ (show (8 : Int32) + b ≠ 7 from ix_c 8 6 7 b0 (hw.b6 b1))]
  have rg := catch_rng s b n p5.1 (Int32.le_refl _) p5.2
  have key : ∀ i, 0 ≤ i → i ≤ shl32 1 (s 1) → restU (s 7) (s 1) < i → ¬ catchP s b n i < 0 := by
    intro i i0 i1
    have := foldI_inv (f := catchF s b n) (a := (-1000000 : Int32)) (n := shl32 1 (s 1)) (fun (j : Int32) (p : Int32) => restU (s 7) (s 1) < j → ¬ p < 0) (fun h => absurd (Int32.lt_of_le_of_lt u.1.1 h) (by decide)) (by
      intro j j0 j1 p hp hj
      by_cases e : restU (s 7) (s 1) = j
      · subst e
        by_cases hneg : p < 0
        · unfold catchF
          rw [if_pos ⟨u.2.1, Or.inl hneg⟩, if_pos hz]
          exact Int32.not_lt.mpr j0
        · unfold catchF
          split
          · exact Int32.not_lt.mpr j0
          · exact hneg
      · have hlt := lt_of_inc j0 j1 hj e
        unfold catchF
        split
        · split
          · exact Int32.not_lt.mpr j0
          · exact hp hlt
        · exact hp hlt) i i0 i1
    exact this
  have k := key _ p5.1 (Int32.le_refl _) u.1.2
  rcases rg with h | h
  · rw [h] at k
    exact absurd (by decide) k
  · exact ⟨h.1, Int32.lt_of_lt_of_le h.2 p5.2⟩
def dustV (s : St) (f : Int32) : Int32 := if bitv (s 7) f = 0 then s (36 + f) else 0
def dustA (s : St) (n : Int32) : Int32 := foldI (fun f a => a + dustV s f) 0 n
def overA (s : St) (g a n : Int32) : Int32 := foldI (fun f z => z - g * dustV s f / a) g n
def befA (s : St) (n : Int32) : Int32 := foldI (fun f z => z + (if 0 < dustV s f then 1 else 0)) 0 n
def gramsR (s : St) (f n : Int32) : Int32 := if isF s f ∧ inR 0 n 999 then (if dustA s (s 1) = 0 then 0 else n * dustV s f / dustA s (s 1) + (if 0 < dustV s f ∧ befA s f < overA s n (dustA s (s 1)) (s 1) then 1 else 0)) else -1000001
theorem frm_lamp {σ τ υ : Sg} {f : St} (hfr : frm σ τ 40 [8, 10]) (h : frm (up τ 40 4 f) υ 40 [4, 8]) (e : υ 40 4 = σ 40 4) : frm σ υ 40 [8, 10] := by
  intro c k hn
  by_cases e4 : c = 40 ∧ k = 4
  · obtain ⟨rfl, rfl⟩ := e4
    exact e
  · rw [h c k (fun q => by
      have := q.2
      simp at this
      rcases this with r | r
      · exact e4 ⟨q.1, r⟩
      · exact hn ⟨q.1, by simp [r]⟩), up_ne _ _ e4]
    exact hfr c k hn
