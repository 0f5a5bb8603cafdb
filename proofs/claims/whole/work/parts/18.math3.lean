theorem ix_ne (A B m n : Nat) {x y : Int32} (x0 : 0 ≤ x) (x1 : x < nI m) (y0 : 0 ≤ y) (y1 : y < nI n) (h : (A + m ≤ B ∨ B + n ≤ A) := by omega) (hs : A + m < 100000 ∧ B + n < 100000 := by omega) : nI A + x ≠ nI B + y := by
  obtain ⟨a, ha, rfl⟩ := nI_of (Int32.not_lt.mpr x0)
  obtain ⟨b, hb, rfl⟩ := nI_of (Int32.not_lt.mpr y0)
  have h1 := (nI_ltI ha (by omega)).mp x1
  have h2 := (nI_ltI hb (by omega)).mp y1
  rw [nI_add, nI_add]
  intro e
  have := (nI_eq (by omega) (by omega)).mp e
  omega
theorem ix_in (A : Nat) {x y : Int32} (hA : A < 100000 := by omega) (x0 : 0 ≤ x) (x1 : x < 1000) (y0 : 0 ≤ y) (y1 : y < 1000) (e : nI A + x = nI A + y) : x = y := by
  obtain ⟨a, ha, rfl⟩ := nI_of (Int32.not_lt.mpr x0)
  obtain ⟨b, hb, rfl⟩ := nI_of (Int32.not_lt.mpr y0)
  have h1 := (nI_ltI (b := 1000) ha (by decide)).mp x1
  have h2 := (nI_ltI (b := 1000) hb (by decide)).mp y1
  rw [nI_add, nI_add] at e
  have := (nI_eq (by omega) (by omega)).mp e
  rw [show a = b by omega]
theorem ix_c (A m k : Nat) {x : Int32} (x0 : 0 ≤ x) (x1 : x < nI m) (h : (k < A ∨ A + m ≤ k) := by omega) (hs : A + m < 100000 ∧ k < 100000 := by omega) : nI A + x ≠ nI k := by
  obtain ⟨a, ha, rfl⟩ := nI_of (Int32.not_lt.mpr x0)
  have h1 := (nI_ltI ha (by omega)).mp x1
  rw [nI_add]
  intro e
  have := (nI_eq (by omega) (by omega)).mp e
  omega
theorem WF_of {s t : St} (h : WF s) (e0 : t 0 = s 0) (e1 : t 1 = s 1) (e2 : t 2 = s 2) (e3 : t 3 = s 3) (h5 : 0 ≤ t 5 ∧ t 5 < 64) (h6 : 0 ≤ t 6 ∧ t 6 < 64) (h7 : 0 ≤ t 7 ∧ t 7 < 32)
    (eP : ∀ b, 0 ≤ b → b < 6 → t (20 + b) = s (20 + b)) (hB : ∀ b, 0 ≤ b → b < s 0 → (0 ≤ t (8 + b) ∧ t (8 + b) ≤ 99) ∧ (0 ≤ t (14 + b) ∧ t (14 + b) ≤ 9))
    (hF : ∀ f, 0 ≤ f → f < s 1 → (1 ≤ t (26 + f) ∧ t (26 + f) ≤ 5) ∧ (0 ≤ t (31 + f) ∧ t (31 + f) < s 0) ∧ (0 ≤ t (36 + f) ∧ t (36 + f) ≤ 999)) : WF t := by
  obtain ⟨gN, gB, gP, gF⟩ := h
  have hb : ∀ w, bkAt t w = bkAt s w := bk_congr eP
  have n6 := gN.1.2
  refine ⟨?_, ?_, ?_, ?_⟩
  · unfold wfN
    rw [e0, e1, e2, e3]
    exact ⟨gN.1, gN.2.1, gN.2.2.1, gN.2.2.2.1, h5, h6, h7⟩
  · intro b b0 b1
    rw [e0] at b1
    have b6 := Int32.lt_of_lt_of_le b1 n6
    rw [hb, eP b b0 b6, e0]
    have := gB b b0 b1
    exact ⟨(hB b b0 b1).1, (hB b b0 b1).2, this.2.2⟩
  · intro p p0 p1
    rw [e0] at p1 ⊢
    rw [hb]
    have := gP p p0 p1
    rw [eP _ this.1 (Int32.lt_of_lt_of_le this.2.1 n6)]
    exact this
  · intro f f0 f1
    rw [e1] at f1
    rw [e0]
    exact hF f f0 f1
theorem WF.b6 {s : St} (h : WF s) {b : Int32} (b1 : b < s 0) : b < 6 := Int32.lt_of_lt_of_le b1 h.1.1.2
theorem WF.f5 {s : St} (h : WF s) {f : Int32} (f1 : f < s 1) : f < 5 := Int32.lt_of_lt_of_le f1 h.1.2.1.2
theorem WF.pg {s : St} (h : WF s) {b v : Int32} (b0 : 0 ≤ b) (b1 : b < s 0) (v0 : 0 ≤ v) (v1 : v ≤ 99) : WF (upI s (8 + b) v) := by
  have b6 := h.b6 b1
  have c : ∀ k, k < 8 → upI s (8 + b) v (nI k) = s (nI k) := fun k hk => upI_ne _ _ (ix_c 8 6 k b0 b6 (by omega) (by omega)).symm
  refine WF_of h (c 0 (by omega)) (c 1 (by omega)) (c 2 (by omega)) (c 3 (by omega)) ?_ ?_ ?_ ?_ ?_ ?_
  · rw [show upI s (8 + b) v 5 = s 5 from c 5 (by omega)]; exact h.1.2.2.2.2.1
  · rw [show upI s (8 + b) v 6 = s 6 from c 6 (by omega)]; exact h.1.2.2.2.2.2.1
  · rw [show upI s (8 + b) v 7 = s 7 from c 7 (by omega)]; exact h.1.2.2.2.2.2.2
  · exact fun x x0 x1 => upI_ne _ _ (ix_ne 20 8 6 6 x0 x1 b0 b6)
  · intro x x0 x1
    have k := h.2.1 x x0 x1
    rw [show upI s (8 + b) v (14 + x) = s (14 + x) from upI_ne _ _ (ix_ne 14 8 6 6 x0 (h.b6 x1) b0 b6)]
    refine ⟨?_, k.2.1⟩
    by_cases e : 8 + x = 8 + b
    · rw [e, upI_same]; exact ⟨v0, v1⟩
    · rw [upI_ne _ _ e]; exact k.1
  · intro f f0 f1
    have k := h.2.2.2 f f0 f1
    rw [show upI s (8 + b) v (26 + f) = s (26 + f) from upI_ne _ _ (ix_ne 26 8 5 6 f0 (h.f5 f1) b0 b6), show upI s (8 + b) v (31 + f) = s (31 + f) from upI_ne _ _ (ix_ne 31 8 5 6 f0 (h.f5 f1) b0 b6), show upI s (8 + b) v (36 + f) = s (36 + f) from upI_ne _ _ (ix_ne 36 8 5 6 f0 (h.f5 f1) b0 b6)]
    exact k
theorem WF.ps {s : St} (h : WF s) {b v : Int32} (b0 : 0 ≤ b) (b1 : b < s 0) (v0 : 0 ≤ v) (v1 : v ≤ 9) : WF (upI s (14 + b) v) := by
  have b6 := h.b6 b1
  have c : ∀ k, k < 8 → upI s (14 + b) v (nI k) = s (nI k) := fun k hk => upI_ne _ _ (ix_c 14 6 k b0 b6 (by omega) (by omega)).symm
  refine WF_of h (c 0 (by omega)) (c 1 (by omega)) (c 2 (by omega)) (c 3 (by omega)) ?_ ?_ ?_ ?_ ?_ ?_
  · rw [show upI s (14 + b) v 5 = s 5 from c 5 (by omega)]; exact h.1.2.2.2.2.1
  · rw [show upI s (14 + b) v 6 = s 6 from c 6 (by omega)]; exact h.1.2.2.2.2.2.1
  · rw [show upI s (14 + b) v 7 = s 7 from c 7 (by omega)]; exact h.1.2.2.2.2.2.2
  · exact fun x x0 x1 => upI_ne _ _ (ix_ne 20 14 6 6 x0 x1 b0 b6)
  · intro x x0 x1
    have k := h.2.1 x x0 x1
    rw [show upI s (14 + b) v (8 + x) = s (8 + x) from upI_ne _ _ (ix_ne 8 14 6 6 x0 (h.b6 x1) b0 b6)]
    refine ⟨k.1, ?_⟩
    by_cases e : 14 + x = 14 + b
    · rw [e, upI_same]; exact ⟨v0, v1⟩
    · rw [upI_ne _ _ e]; exact k.2.1
  · intro f f0 f1
    have k := h.2.2.2 f f0 f1
    rw [show upI s (14 + b) v (26 + f) = s (26 + f) from upI_ne _ _ (ix_ne 26 14 5 6 f0 (h.f5 f1) b0 b6), show upI s (14 + b) v (31 + f) = s (31 + f) from upI_ne _ _ (ix_ne 31 14 5 6 f0 (h.f5 f1) b0 b6), show upI s (14 + b) v (36 + f) = s (36 + f) from upI_ne _ _ (ix_ne 36 14 5 6 f0 (h.f5 f1) b0 b6)]
    exact k
theorem WF.fx {s : St} (h : WF s) {A : Nat} (hA : A = 26 ∨ A = 31 ∨ A = 36) {g v : Int32} (g0 : 0 ≤ g) (g1 : g < s 1) (hv : (A = 26 → 1 ≤ v ∧ v ≤ 5) ∧ (A = 31 → 0 ≤ v ∧ v < s 0) ∧ (A = 36 → 0 ≤ v ∧ v ≤ 999)) : WF (upI s (nI A + g) v) := by
  have g5 := h.f5 g1
  have c : ∀ k, k < 8 → upI s (nI A + g) v (nI k) = s (nI k) := fun k hk => upI_ne _ _ (ix_c A 5 k g0 g5 (by omega) (by omega)).symm
  refine WF_of h (c 0 (by omega)) (c 1 (by omega)) (c 2 (by omega)) (c 3 (by omega)) ?_ ?_ ?_ ?_ ?_ ?_
  · rw [show upI s (nI A + g) v 5 = s 5 from c 5 (by omega)]; exact h.1.2.2.2.2.1
  · rw [show upI s (nI A + g) v 6 = s 6 from c 6 (by omega)]; exact h.1.2.2.2.2.2.1
  · rw [show upI s (nI A + g) v 7 = s 7 from c 7 (by omega)]; exact h.1.2.2.2.2.2.2
  · exact fun x x0 x1 => upI_ne _ _ (ix_ne 20 A 6 5 x0 x1 g0 g5)
  · intro x x0 x1
    have k := h.2.1 x x0 x1
    rw [show upI s (nI A + g) v (8 + x) = s (8 + x) from upI_ne _ _ (ix_ne 8 A 6 5 x0 (h.b6 x1) g0 g5), show upI s (nI A + g) v (14 + x) = s (14 + x) from upI_ne _ _ (ix_ne 14 A 6 5 x0 (h.b6 x1) g0 g5)]
    exact ⟨k.1, k.2.1⟩
  · intro f f0 f1
    have k := h.2.2.2 f f0 f1
    have f5 := h.f5 f1
    have main : ∀ B : Nat, (B = 26 ∨ B = 31 ∨ B = 36) → (B = A ∧ upI s (nI A + g) v (nI B + f) = v) ∨ upI s (nI A + g) v (nI B + f) = s (nI B + f) := by
      intro B hB
      by_cases e : nI B + f = nI A + g
      · left
        refine ⟨?_, by rw [e, upI_same]⟩
        apply Classical.byContradiction
        intro hne
        exact ix_ne B A 5 5 f0 f5 g0 g5 (by omega) (by omega) e
      · exact Or.inr (upI_ne _ _ e)
    refine ⟨?_, ?_, ?_⟩
    · rcases main 26 (by omega) with ⟨e, q⟩ | q
      · rw [show (26 : Int32) = nI 26 from rfl, q]; exact hv.1 e.symm
      · rw [show (26 : Int32) = nI 26 from rfl, q]; exact k.1
    · rcases main 31 (by omega) with ⟨e, q⟩ | q
      · rw [show (31 : Int32) = nI 31 from rfl, q]; exact hv.2.1 e.symm
      · rw [show (31 : Int32) = nI 31 from rfl, q]; exact k.2.1
    · rcases main 36 (by omega) with ⟨e, q⟩ | q
      · rw [show (36 : Int32) = nI 36 from rfl, q]; exact hv.2.2 e.symm
      · rw [show (36 : Int32) = nI 36 from rfl, q]; exact k.2.2
theorem WF.at {s : St} (h : WF s) {f v : Int32} (f0 : 0 ≤ f) (f1 : f < s 1) (v0 : 0 ≤ v) (v1 : v < s 0) : WF (upI s (31 + f) v) := h.fx (A := 31) (by omega) f0 f1 ⟨fun e => absurd e (by omega), fun _ => ⟨v0, v1⟩, fun e => absurd e (by omega)⟩
theorem WF.du {s : St} (h : WF s) {f v : Int32} (f0 : 0 ≤ f) (f1 : f < s 1) (v0 : 0 ≤ v) (v1 : v ≤ 999) : WF (upI s (36 + f) v) := h.fx (A := 36) (by omega) f0 f1 ⟨fun e => absurd e (by omega), fun e => absurd e (by omega), fun _ => ⟨v0, v1⟩⟩
theorem WF.ki {s : St} (h : WF s) {f v : Int32} (f0 : 0 ≤ f) (f1 : f < s 1) (v0 : 1 ≤ v) (v1 : v ≤ 5) : WF (upI s (26 + f) v) := h.fx (A := 26) (by omega) f0 f1 ⟨fun _ => ⟨v0, v1⟩, fun e => absurd e (by omega), fun e => absurd e (by omega)⟩
/-- a word of the first eight -/
theorem WF.wd {s : St} (h : WF s) {k : Nat} (hk : k = 2 ∨ k = 4 ∨ k = 5 ∨ k = 6 ∨ k = 7) {v : Int32} (hv : (k = 2 → 1 ≤ v ∧ v ≤ 9) ∧ (k = 5 → 0 ≤ v ∧ v < 64) ∧ (k = 6 → 0 ≤ v ∧ v < 64) ∧ (k = 7 → 0 ≤ v ∧ v < 32)) : WF (upI s (nI k) v) := by
  obtain ⟨gN, gB, gP, gF⟩ := h
  have h : WF s := ⟨gN, gB, gP, gF⟩
  have n : ∀ (A m : Nat), 8 ≤ A → A + m < 1000 → ∀ x, 0 ≤ x → x < nI m → upI s (nI k) v (nI A + x) = s (nI A + x) := fun A m hA hm x x0 x1 => upI_ne _ _ (ix_c A m k x0 x1 (by omega) (by omega))
  have hb : ∀ w, bkAt (upI s (nI k) v) w = bkAt s w := bk_congr (fun b b0 b1 => n 20 6 (by omega) (by omega) b b0 b1)
  have c : ∀ j, j < 8 → (j = k → upI s (nI k) v (nI j) = v) ∧ (j ≠ k → upI s (nI k) v (nI j) = s (nI j)) := fun j hj => ⟨fun e => by rw [e, upI_same], fun e => upI_ne _ _ (fun q => e ((nI_eq (by omega) (by omega)).mp q))⟩
  have e0 : upI s (nI k) v 0 = s 0 := (c 0 (by omega)).2 (by omega)
  have e1 : upI s (nI k) v 1 = s 1 := (c 1 (by omega)).2 (by omega)
  have e3 : upI s (nI k) v 3 = s 3 := (c 3 (by omega)).2 (by omega)
  have get : ∀ (j : Nat), j < 8 → ∀ (P : Int32 → Prop), P (s (nI j)) → (k = j → P v) → P (upI s (nI k) v (nI j)) := by
    intro j hj P p1 p2
    by_cases e : j = k
    · rw [(c j hj).1 e]; exact p2 e.symm
    · rw [(c j hj).2 e]; exact p1
  refine ⟨?_, ?_, ?_, ?_⟩
  · unfold wfN
    rw [e0, e1, e3]
    exact ⟨gN.1, gN.2.1, get 2 (by omega) (fun z => 1 ≤ z ∧ z ≤ 9) gN.2.2.1 hv.1, gN.2.2.2.1, get 5 (by omega) (fun z => 0 ≤ z ∧ z < 64) gN.2.2.2.2.1 hv.2.1, get 6 (by omega) (fun z => 0 ≤ z ∧ z < 64) gN.2.2.2.2.2.1 hv.2.2.1, get 7 (by omega) (fun z => 0 ≤ z ∧ z < 32) gN.2.2.2.2.2.2 hv.2.2.2⟩
  · intro b b0 b1
    rw [e0] at b1 ⊢
    have b6 := h.b6 b1
    rw [hb, show upI s (nI k) v (8 + b) = s (8 + b) from n 8 6 (by omega) (by omega) b b0 b6, show upI s (nI k) v (14 + b) = s (14 + b) from n 14 6 (by omega) (by omega) b b0 b6, show upI s (nI k) v (20 + b) = s (20 + b) from n 20 6 (by omega) (by omega) b b0 b6]
    exact gB b b0 b1
  · intro p p0 p1
    rw [e0] at p1 ⊢
    have := gP p p0 p1
    rw [hb, show upI s (nI k) v (20 + bkAt s p) = s (20 + bkAt s p) from n 20 6 (by omega) (by omega) _ this.1 (h.b6 this.2.1)]
    exact this
  · intro f f0 f1
    rw [e1] at f1
    rw [e0]
    have f5 := h.f5 f1
    rw [show upI s (nI k) v (26 + f) = s (26 + f) from n 26 5 (by omega) (by omega) f f0 f5, show upI s (nI k) v (31 + f) = s (31 + f) from n 31 5 (by omega) (by omega) f f0 f5, show upI s (nI k) v (36 + f) = s (36 + f) from n 36 5 (by omega) (by omega) f f0 f5]
    exact gF f f0 f1
