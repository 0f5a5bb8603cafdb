theorem eats_5 {s : St} (h : WF s) {f : Int32} (f0 : 0 ≤ f) (f1 : f < s 1) : eatsS s f 5 = s 5 := by
  have bk := h.bk f0 f1
  unfold eatsS
  rw [upI_ne _ _ (show (5 : Int32) ≠ 36 + f from (ix_c 36 5 5 f0 (h.f5 f1) (by omega) (by omega)).symm), upI_ne _ _ (show (5 : Int32) ≠ 8 + bkAt s (s (31 + f)) from (ix_c 8 6 5 bk.1 (h.b6 bk.2.1) (by omega) (by omega)).symm)]
theorem nightF_5 {p : St × St} (h : WF p.1) {f : Int32} (f0 : 0 ≤ f) (f1 : f < p.1 1) : (nightF f p).1 5 = p.1 5 := by
  unfold nightF
  split
  · rfl
  · have g := goesTo_rng h f0 f1
    have w := h.at f0 f1 g.1 g.2
    have u1 : f < upI p.1 (31 + f) (goesTo p.1 f) 1 := by
      rw [upI_ne _ _ (show (1 : Int32) ≠ 31 + f from (ix_c 31 5 1 f0 (h.f5 f1) (by omega) (by omega)).symm)]
      exact f1
    show eatsS (upI p.1 (31 + f) (goesTo p.1 f)) f 5 = p.1 5
    rw [eats_5 w f0 u1, upI_ne _ _ (show (5 : Int32) ≠ 31 + f from (ix_c 31 5 5 f0 (h.f5 f1) (by omega) (by omega)).symm)]
theorem damp_5 {s : St} (h : WF s) : dampS s 5 = s 5 := by
  unfold dampS
  split
  · have key := foldI_inv (f := pasteF) (a := s) (n := s 0) (fun (_ : Int32) (z : St) => z 5 = s 5) rfl (by
      intro i i0 i1 z hz
      unfold pasteF
      split
      · rw [upI_ne _ _ (show (5 : Int32) ≠ 14 + i from (ix_c 14 6 5 i0 (h.b6 i1) (by omega) (by omega)).symm)]
        exact hz
      · exact hz) (s 0) (le0_of h.1.1.1) (Int32.le_refl _)
    exact key
  · rfl
theorem night_5 {s h : St} (hW : WF s) : (night (s, h)).1 5 = s 5 := by
  have f := hW.1.2.1
  have key := foldI_inv (f := nightF) (a := (s, h)) (n := s 1) (fun (_ : Int32) (p : St × St) => WF p.1 ∧ p.1 1 = s 1 ∧ p.1 5 = s 5) ⟨hW, rfl, rfl⟩ (by
    intro i i0 i1 p hp
    have i1' : i < p.1 1 := by rw [hp.2.1]; exact i1
    have w := nightF_WF hp.1 i0 i1'
    exact ⟨w.1, w.2.2.trans hp.2.1, (nightF_5 hp.1 i0 i1').trans hp.2.2⟩) (s 1) f.1 (Int32.le_refl _)
  unfold night
  show upI (dampS (foldI nightF (s, h) (s 1)).1) 4 (dampS (foldI nightF (s, h) (s 1)).1 4 + 1) 5 = s 5
  rw [upI_ne _ _ (by decide), damp_5 key.1]
  exact key.2.2
theorem night_OK {s : St} (h : St) (hO : OK s) : OK (night (s, h)).1 := by
  have w := night_WF (p := (s, h)) hO.1
  refine ⟨w.1, ?_⟩
  rw [w.2.1, night_5 hO.1]
  exact hO.2
theorem frA_r (σ : Sg) : frA σ σ := fun _ _ _ _ _ => rfl
theorem frA_t {σ τ υ : Sg} (h1 : frA σ τ) (h2 : frA τ υ) : frA σ υ := fun c k a b d => (h2 c k a b d).trans (h1 c k a b d)
theorem frA_n {σ τ υ : Sg} {ks : List Nat} (r : 0 ≤ σ 3 0 1 ∧ σ 3 0 1 < 24) (q : ∀ c k, c ≠ 3 → c ≠ 11 + (σ 3 0 1).toNatClampNeg → τ c k = σ c k) (h : frm τ υ 6 ks) : frA σ υ := fun c k h3 h6 h11 => by
  rw [h c k (fun e => h6 e.1)]
  exact q c k h3 (fun e => h11 (by have := (i_ok (n := 24) r.1 r.2 rfl (by decide)).1; omega))
theorem nst_OK {q : Nq} (h : OK q.1) : OK (nstep q).1 := night_OK _ h
theorem lit_xF : ∀ (n : Fin 7) (x : Fin 64) (b : Fin 6), nI x.val < shl32 1 (nI n.val) → b.val < n.val → (0 ≤ nI x.val ^^^ shl32 1 (nI b.val) ∧ nI x.val ^^^ shl32 1 (nI b.val) < 64) ∧ nI x.val ^^^ shl32 1 (nI b.val) < shl32 1 (nI n.val) := by decide +kernel
theorem lit_x {s : St} (h : OK s) {b : Int32} (b0 : 0 ≤ b) (b1 : b < s 0) : OK (upI s 5 (s 5 ^^^ shl32 1 b)) := by
  have n := h.1.1.1
  obtain ⟨N, hN, e⟩ := nI_of (x := s 0) (Int32.not_lt.mpr (le0_of n.1))
  obtain ⟨x, hx⟩ := as64 h.1.1.2.2.2.2.1.1 h.1.1.2.2.2.2.1.2
  obtain ⟨j, hj, ej⟩ := nI_of (Int32.not_lt.mpr b0)
  have n6 := n.2
  have hl := h.2
  rw [e] at n6 b1 hl
  rw [hx] at hl
  rw [ej] at b1
  have h6 := (nI_leI (b := 6) hN (by decide)).mp n6
  have jn := (nI_ltI hj hN).mp b1
  have q := lit_xF ⟨N, by omega⟩ x ⟨j, by omega⟩ hl jn
  rw [hx, ej]
  refine ⟨h.1.li q.1.1 q.1.2, ?_⟩
  rw [upI_same, upI_ne _ _ (by decide), e]
  exact q.2
theorem kep_xF : ∀ (x : Fin 64) (b : Fin 6), 0 ≤ nI x.val ^^^ shl32 1 (nI b.val) ∧ nI x.val ^^^ shl32 1 (nI b.val) < 64 := by decide +kernel
theorem kep_x {s : St} (h : OK s) {b : Int32} (b0 : 0 ≤ b) (b1 : b < s 0) : OK (upI s 6 (s 6 ^^^ shl32 1 b)) := by
  have k6 := h.1.1.2.2.2.2.2.1
  obtain ⟨x, hx⟩ := as64 k6.1 k6.2
  obtain ⟨j, hj⟩ := as6 b0 (h.1.b6 b1)
  have q := kep_xF x j
  rw [← hx, ← hj] at q
  refine ⟨h.1.wd (k := 6) (by omega) ⟨fun e => absurd e (by omega), fun e => absurd e (by omega), fun _ => q, fun e => absurd e (by omega)⟩, ?_⟩
  rw [upI_ne _ _ (show (5 : Int32) ≠ 6 by decide), upI_ne _ _ (show (0 : Int32) ≠ 6 by decide)]
  exact h.2
theorem cau_xF : ∀ (x : Fin 32) (b : Fin 5), 0 ≤ nI x.val ||| shl32 1 (nI b.val) ∧ nI x.val ||| shl32 1 (nI b.val) < 32 := by decide +kernel
theorem cau_x {s : St} (h : OK s) {f : Int32} (f0 : 0 ≤ f) (f1 : f < s 1) : OK (upI s 7 (s 7 ||| shl32 1 f)) := by
  have k7 := h.1.1.2.2.2.2.2.2
  obtain ⟨x, hx⟩ := as32 k7.1 k7.2
  obtain ⟨j, hj, ej⟩ := nI_of (Int32.not_lt.mpr f0)
  have j5 := (nI_ltI (b := 5) hj (by decide)).mp (by rw [← ej]; exact h.1.f5 f1)
  have q := cau_xF x ⟨j, j5⟩
  have q2 : 0 ≤ s 7 ||| shl32 1 f ∧ s 7 ||| shl32 1 f < 32 := by rw [hx, ej]; exact q
  refine ⟨h.1.ca q2.1 q2.2, ?_⟩
  rw [upI_ne _ _ (show (5 : Int32) ≠ 7 by decide), upI_ne _ _ (show (0 : Int32) ≠ 7 by decide)]
  exact h.2
theorem mov_x {s : St} (h : OK s) {f p : Int32} (f0 : 0 ≤ f) (f1 : f < s 1) (p0 : 0 ≤ p) (p1 : p < s 0) : OK (upI s (31 + f) p) := by
  have f5 := h.1.f5 f1
  refine ⟨h.1.at f0 f1 p0 p1, ?_⟩
  rw [upI_ne _ _ (show (5 : Int32) ≠ 31 + f from (ix_c 31 5 5 f0 f5 (by omega) (by omega)).symm), upI_ne _ _ (show (0 : Int32) ≠ 31 + f from (ix_c 31 5 0 f0 f5 (by omega) (by omega)).symm)]
  exact h.2
theorem chg_x {s : St} (h : OK s) {b o : Int32} (b0 : 0 ≤ b) (b1 : b < s 0) (o0 : 0 ≤ o) (o1 : o < s 0) (hbo : ¬ b = o) : OK (chgS s b o) := by
  have w := WF_chg h.1 b0 b1 o0 o1 hbo
  refine ⟨w.1, ?_⟩
  rw [w.2.2, w.2.1]
  exact h.2
