def cinv (s : St) (b n i p : Int32) : Prop := (catchP s b n i < 0 ∧ p = restU (s 7) (s 1)) ∨ (0 ≤ catchP s b n i ∧ p = catchP s b n i)
theorem sub_onesF : ∀ (f : Fin 6) (c i : Fin 32), nI i.val < shl32 1 (nI f.val) → nI i.val &&& nI c.val = 0 → nI i.val = restU (nI c.val) (nI f.val) ∨ ones (nI i.val) < ones (restU (nI c.val) (nI f.val)) := by decide +kernel
theorem sub_ones {f c i : Int32} (f0 : 0 ≤ f) (f5 : f ≤ 5) (c0 : 0 ≤ c) (c1 : c < 32) (i0 : 0 ≤ i) (i1 : i < shl32 1 f) (h : i &&& c = 0) : i = restU c f ∨ ones i < ones (restU c f) := by
  have p5 := pow5 f0 f5
  obtain ⟨x, rfl⟩ := as32 c0 c1
  obtain ⟨y, rfl⟩ := as32 i0 (Int32.lt_of_lt_of_le i1 p5.2)
  obtain ⟨j, hj, rfl⟩ := nI_of (Int32.not_lt.mpr f0)
  have := (nI_leI (b := 5) hj (by decide)).mp f5
  exact sub_onesF ⟨j, by omega⟩ x y i1 h
theorem catch_s {s : St} {b n i : Int32} (i0 : 0 ≤ i) (i1 : i < shl32 1 (s 1)) : catchP s b n (i + 1) = catchF s b n i (catchP s b n i) := foldI_s _ _ i0 i1
theorem cinv_yes {s : St} {b n i p : Int32} (i0 : 0 ≤ i) (i1 : i < shl32 1 (s 1)) (h : cinv s b n i p) (hc : i &&& s 7 = 0) (ho : ones i < ones p) : cinv s b n (i + 1) (if gS (upI s 7 (s 7 ||| i)) n (8 + b) = s (8 + b) then i else p) := by
  unfold cinv
  rw [catch_s i0 i1]
  unfold catchF
  rcases h with ⟨h1, h2⟩ | ⟨h1, h2⟩
  · rw [if_pos ⟨hc, Or.inl h1⟩]
    by_cases e : gS (upI s 7 (s 7 ||| i)) n (8 + b) = s (8 + b)
    · rw [if_pos e, if_pos e]; exact Or.inr ⟨i0, rfl⟩
    · rw [if_neg e, if_neg e]; exact Or.inl ⟨h1, h2⟩
  · rw [if_pos ⟨hc, Or.inr (by rw [← h2]; exact ho)⟩]
    by_cases e : gS (upI s 7 (s 7 ||| i)) n (8 + b) = s (8 + b)
    · rw [if_pos e, if_pos e]; exact Or.inr ⟨i0, rfl⟩
    · rw [if_neg e, if_neg e]; exact Or.inr ⟨h1, h2⟩
theorem cinv_no {s : St} (hw : WF s) {b n i p : Int32} (b0 : 0 ≤ b) (b1 : b < s 0) (i0 : 0 ≤ i) (i1 : i < shl32 1 (s 1)) (h : cinv s b n i p) (hc : ¬ (i &&& s 7 = 0 ∧ ones i < ones p)) : cinv s b n (i + 1) p := by
  have c7 := hw.1.2.2.2.2.2.2
  have f1 := hw.1.2.1
  have p5 := pow5 f1.1 f1.2
  have u := rest_spec c7.1 c7.2 f1.1 f1.2
  have o := or32 c7.1 c7.2 u.1.1 (Int32.lt_of_lt_of_le u.1.2 p5.2)
  have wz := hw.ca o.1 o.2
  have hz : gS (upI s 7 (s 7 ||| restU (s 7) (s 1))) n (8 + b) = s (8 + b) := by
    have := caught_pg wz (fun f f0 f1 => by
      rw [upI_same]
      exact u.2.2 f f0 f1) (b := b) b0 b1 n
    rw [this, upI_ne _ _ (show (8 : Int32) + b ≠ 7 from ix_c 8 6 7 b0 (hw.b6 b1))]
  unfold cinv
  rw [catch_s i0 i1]
  unfold catchF
  rcases h with ⟨h1, h2⟩ | ⟨h1, h2⟩
  · by_cases e : i &&& s 7 = 0
    · have ek : i = restU (s 7) (s 1) := (sub_ones f1.1 f1.2 c7.1 c7.2 i0 i1 e).resolve_right (fun q => hc ⟨e, by rw [h2]; exact q⟩)
      rw [if_pos ⟨e, Or.inl h1⟩, ek, if_pos hz]
      exact Or.inr ⟨u.1.1, h2⟩
    · rw [if_neg (fun q => e q.1)]
      exact Or.inl ⟨h1, h2⟩
  · rw [if_neg (fun q => hc ⟨q.1, by rw [h2]; exact q.2.resolve_left (Int32.not_lt.mpr h1)⟩)]
    exact Or.inr ⟨h1, h2⟩
