theorem i_sub_rng {p m : Int32} (m0 : 0 ≤ m) (m1 : m ≤ p) : 0 ≤ p - m ∧ p - m ≤ p := by grind
theorem i_dust {d m : Int32} (d0 : 0 ≤ d) (d1 : d ≤ 999) (m0 : 0 ≤ m) (m1 : m ≤ 99) : 0 ≤ (if 999 < d + m then 999 else d + m) ∧ (if 999 < d + m then 999 else d + m) ≤ 999 := by
  split
  · exact ⟨by decide, by decide⟩
  · rename_i h
    exact ⟨by grind, Int32.not_lt.mp h⟩
theorem WF.bk {s : St} (h : WF s) {f : Int32} (f0 : 0 ≤ f) (f1 : f < s 1) : 0 ≤ bkAt s (s (31 + f)) ∧ bkAt s (s (31 + f)) < s 0 ∧ s (20 + bkAt s (s (31 + f))) = s (31 + f) := by
  have k := (h.2.2.2 f f0 f1).2.1
  exact h.2.2.1 _ k.1 k.2
theorem much_rng {s : St} (h : WF s) {f : Int32} (f0 : 0 ≤ f) (f1 : f < s 1) : 0 ≤ muchE s f ∧ muchE s f ≤ s (8 + bkAt s (s (31 + f))) ∧ muchE s f ≤ 99 := by
  have k := h.bk f0 f1
  have k1 := (h.2.1 _ k.1 k.2.1).1
  have k2 := h.1.2.2.1
  unfold muchE
  clear h k
  generalize s (8 + bkAt s (s (31 + f))) = z at *
  generalize bitv _ _ = w at *
  generalize s 2 = u at *
  split
  · exact ⟨by decide, k1.1, by decide⟩
  · split
    · exact ⟨k1.1, Int32.le_refl _, k1.2⟩
    · rename_i q
      have q := Int32.not_lt.mp q
      exact ⟨Int32.le_trans (by decide) k2.1, q, Int32.le_trans q k1.2⟩
theorem eats_WF {s : St} (h : WF s) {f : Int32} (f0 : 0 ≤ f) (f1 : f < s 1) : WF (eatsS s f) ∧ (eatsS s f) 0 = s 0 ∧ (eatsS s f) 1 = s 1 := by
  have k := h.bk f0 f1
  have m := much_rng h f0 f1
  have k1 := (h.2.1 _ k.1 k.2.1).1
  have b6 := h.b6 k.2.1
  have f5 := h.f5 f1
  have r := i_sub_rng m.1 m.2.1
  have e0 : upI s (8 + bkAt s (s (31 + f))) (s (8 + bkAt s (s (31 + f))) - muchE s f) 0 = s 0 := upI_ne _ _ (ix_c 8 6 0 k.1 b6).symm
  have e1 : upI s (8 + bkAt s (s (31 + f))) (s (8 + bkAt s (s (31 + f))) - muchE s f) 1 = s 1 := upI_ne _ _ (ix_c 8 6 1 k.1 b6).symm
  have e36 : upI s (8 + bkAt s (s (31 + f))) (s (8 + bkAt s (s (31 + f))) - muchE s f) (36 + f) = s (36 + f) := upI_ne _ _ (ix_ne 36 8 5 6 f0 f5 k.1 b6)
  have w1 := h.pg k.1 k.2.1 r.1 (Int32.le_trans r.2 k1.2)
  have d := (h.2.2.2 f f0 f1).2.2
  have dd := i_dust d.1 d.2 m.1 m.2.2
  unfold eatsS
  refine ⟨w1.du f0 (by rw [e1]; exact f1) dd.1 dd.2, ?_, ?_⟩
  · exact (upI_ne _ _ (ix_c 36 5 0 f0 f5).symm).trans e0
  · exact (upI_ne _ _ (ix_c 36 5 1 f0 f5).symm).trans e1
theorem at_keep {s : St} {f v : Int32} (f0 : 0 ≤ f) (f5 : f < 5) : upI s (31 + f) v 0 = s 0 ∧ upI s (31 + f) v 1 = s 1 := ⟨upI_ne _ _ (ix_c 31 5 0 f0 f5).symm, upI_ne _ _ (ix_c 31 5 1 f0 f5).symm⟩
theorem nightF_WF {p : St × St} (h : WF p.1) {f : Int32} (f0 : 0 ≤ f) (f1 : f < p.1 1) : WF (nightF f p).1 ∧ (nightF f p).1 0 = p.1 0 ∧ (nightF f p).1 1 = p.1 1 := by
  unfold nightF
  split
  · exact ⟨h, rfl, rfl⟩
  · have g := goesTo_rng h f0 f1
    have w := h.at f0 f1 g.1 g.2
    have k := at_keep (s := p.1) (v := goesTo p.1 f) f0 (h.f5 f1)
    have := eats_WF w f0 (by rw [k.2]; exact f1)
    exact ⟨this.1, this.2.1.trans k.1, this.2.2.trans k.2⟩
theorem nightFs_WF {p : St × St} (h : WF p.1) (i : Int32) (i0 : 0 ≤ i) (i1 : i ≤ p.1 1) : WF (foldI nightF p i).1 ∧ (foldI nightF p i).1 0 = p.1 0 ∧ (foldI nightF p i).1 1 = p.1 1 := by
  refine foldI_inv (f := nightF) (n := p.1 1) (fun (_ : Int32) (q : St × St) => WF q.1 ∧ q.1 0 = p.1 0 ∧ q.1 1 = p.1 1) ⟨h, rfl, rfl⟩ ?_ i i0 i1
  intro j j0 j1 q hq
  have := nightF_WF hq.1 j0 (by rw [hq.2.2]; exact j1)
  exact ⟨this.1, this.2.1.trans hq.2.1, this.2.2.trans hq.2.2⟩
theorem pasteF_WF {s : St} (h : WF s) {b : Int32} (b0 : 0 ≤ b) (b1 : b < s 0) : WF (pasteF b s) ∧ pasteF b s 0 = s 0 ∧ pasteF b s 1 = s 1 ∧ pasteF b s 4 = s 4 ∧ pasteF b s 6 = s 6 := by
  unfold pasteF
  split
  · rename_i hc
    have k := (h.2.1 b b0 b1).2.1
    have b6 := h.b6 b1
    have r : 0 ≤ s (14 + b) + 1 ∧ s (14 + b) + 1 ≤ 9 := by
      have := inc_lt k.1 hc.2
      exact ⟨this.1, this.2.1⟩
    exact ⟨h.ps b0 b1 r.1 r.2, upI_ne _ _ (ix_c 14 6 0 b0 b6).symm, upI_ne _ _ (ix_c 14 6 1 b0 b6).symm, upI_ne _ _ (ix_c 14 6 4 b0 b6).symm, upI_ne _ _ (ix_c 14 6 6 b0 b6).symm⟩
  · exact ⟨h, rfl, rfl, rfl, rfl⟩
theorem pasteFs_WF {s : St} (h : WF s) (i : Int32) (i0 : 0 ≤ i) (i1 : i ≤ s 0) : WF (foldI pasteF s i) ∧ foldI pasteF s i 0 = s 0 ∧ foldI pasteF s i 1 = s 1 ∧ foldI pasteF s i 4 = s 4 ∧ foldI pasteF s i 6 = s 6 := by
  refine foldI_inv (f := pasteF) (n := s 0) (fun (_ : Int32) (q : St) => WF q ∧ q 0 = s 0 ∧ q 1 = s 1 ∧ q 4 = s 4 ∧ q 6 = s 6) ⟨h, rfl, rfl, rfl, rfl⟩ ?_ i i0 i1
  intro j j0 j1 q hq
  have := pasteF_WF hq.1 j0 (by rw [hq.2.1]; exact j1)
  exact ⟨this.1, this.2.1.trans hq.2.1, this.2.2.1.trans hq.2.2.1, this.2.2.2.1.trans hq.2.2.2.1, this.2.2.2.2.trans hq.2.2.2.2⟩
theorem le0_of {n : Int32} (h : 1 ≤ n) : 0 ≤ n := Int32.le_trans (by decide) h
theorem damp_WF {s : St} (h : WF s) : WF (dampS s) ∧ dampS s 0 = s 0 ∧ dampS s 1 = s 1 ∧ dampS s 4 = s 4 := by
  unfold dampS
  split
  · have := pasteFs_WF h (s 0) (le0_of h.1.1.1) (Int32.le_refl _)
    exact ⟨this.1, this.2.1, this.2.2.1, this.2.2.2.1⟩
  · exact ⟨h, rfl, rfl, rfl⟩
theorem night_WF {p : St × St} (h : WF p.1) : WF (night p).1 ∧ (night p).1 0 = p.1 0 ∧ (night p).1 1 = p.1 1 := by
  have a := nightFs_WF h (p.1 1) h.1.2.1.1 (Int32.le_refl _)
  have b := damp_WF a.1
  have q : (night p).1 = upI (dampS (foldI nightF p (p.1 1)).1) 4 (dampS (foldI nightF p (p.1 1)).1 4 + 1) := rfl
  rw [q, upI_ne _ _ (show (0 : Int32) ≠ 4 by decide), upI_ne _ _ (show (1 : Int32) ≠ 4 by decide)]
  exact ⟨b.1.wd (k := 4) (by omega) ⟨fun e => absurd e (by omega), fun e => absurd e (by omega), fun e => absurd e (by omega), fun e => absurd e (by omega)⟩, b.2.1.trans a.2.1, b.2.2.1.trans a.2.2⟩
