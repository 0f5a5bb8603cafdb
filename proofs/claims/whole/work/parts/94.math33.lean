def OK (s : St) : Prop := WF s ∧ s 5 < shl32 1 (s 0)
/-- whether a library was told, and what it then is -/
def SO (t : Int32) (s : St) : Prop := (t = 0 ∧ s 0 = 0 ∧ s 1 = 0) ∨ (t = 1 ∧ OK s)
theorem SO.w {t : Int32} {s : St} (h : SO t s) : SW s := by
  rcases h with h | h
  · exact Or.inr h.2
  · exact Or.inl h.2.1
theorem SO.f {t : Int32} {s : St} (h : SO t s) (ht : ¬ t = 0) : WF s := by
  rcases h with h | h
  · exact absurd h.1 ht
  · exact h.2.1
theorem SO.ok {t : Int32} {s : St} (h : SO t s) (ht : ¬ t = 0) : OK s := by
  rcases h with h | h
  · exact absurd h.1 ht
  · exact h.2
theorem SO.o {t : Int32} {s : St} (h : SO t s) (hW : 0 < s 0) : OK s := by
  rcases h with h | h
  · rw [h.2.1] at hW; exact absurd hW (by decide)
  · exact h.2
theorem so_told {t : Int32} {s : St} (h : SO t s) : 0 < s 0 ↔ ¬ t = 0 := by
  rcases h with h | h
  · rw [h.1, h.2.1]
    exact ⟨fun q => absurd q (by decide), fun q => absurd rfl q⟩
  · rw [h.1]
    exact ⟨fun _ => by decide, fun _ => Int32.lt_of_lt_of_le (by decide) h.2.1.1.1.1⟩
theorem isb_iff {F : Nat → St} {s : St} (h : SW s) (hL : LibF F s) {b : Int32} : (0 ≤ b ∧ b < F 0 0 ∧ b < 6) ↔ isB s b := by
  rw [hL.1.1, isB_iff h.z]
  exact ⟨fun q => ⟨q.1, q.2.1⟩, fun q => ⟨q.1, q.2, Int32.lt_of_lt_of_le q.2 h.z.2.1⟩⟩
theorem isf_iff {F : Nat → St} {s : St} (h : SW s) (hL : LibF F s) {b : Int32} : (0 ≤ b ∧ b < F 0 1 ∧ b < 5) ↔ isF s b := by
  rw [hL.1.2.1, isF_iff h.z]
  exact ⟨fun q => ⟨q.1, q.2.1⟩, fun q => ⟨q.1, q.2, Int32.lt_of_lt_of_le q.2 h.z.2.2.2⟩⟩
theorem allF : ∀ (n : Fin 7) (b : Fin 6), b.val < n.val → bitv (shl32 1 (nI n.val) - 1) (nI b.val) = 1 := by decide +kernel
theorem sumAll {s : St} (n0 : 0 ≤ s 0) (n6 : s 0 ≤ 6) : sumSet s (shl32 1 (s 0) - 1) (s 0) = sumP s (s 0) := by
  obtain ⟨N, hN, e⟩ := nI_of (Int32.not_lt.mpr n0)
  rw [e] at n6
  have h6 := (nI_leI (b := 6) hN (by decide)).mp n6
  unfold sumSet sumP
  refine foldI_rel (f := fun b a => a + (if bitv (shl32 1 (s 0) - 1) b = 1 then s (8 + b) else 0)) (g := fun b a => a + s (8 + b)) (a := (0 : Int32)) (b := (0 : Int32)) (n := s 0) (fun _ x y => x = y) rfl ?_ (s 0) n0 (Int32.le_refl _)
  intro i i0 i1 x y hxy
  obtain ⟨j, hj, rfl⟩ := nI_of (Int32.not_lt.mpr i0)
  rw [e] at i1
  have jn := (nI_ltI hj hN).mp i1
  rw [e, hxy, if_pos (allF ⟨N, by omega⟩ ⟨j, by omega⟩ jn)]
theorem bit0F : ∀ f : Fin 5, bitv 0 (nI f.val) = 0 := by decide +kernel
theorem dustAll {s : St} (n0 : 0 ≤ s 1) (n5 : s 1 ≤ 5) : dustS s 0 (s 1) = dustT s (s 1) := by
  obtain ⟨N, hN, e⟩ := nI_of (Int32.not_lt.mpr n0)
  rw [e] at n5
  have h6 := (nI_leI (b := 5) hN (by decide)).mp n5
  unfold dustS dustT
  refine foldI_rel (f := fun f a => a + (if bitv 0 f = 0 then s (36 + f) else 0)) (g := fun f a => a + s (36 + f)) (a := (0 : Int32)) (b := (0 : Int32)) (n := s 1) (fun _ x y => x = y) rfl ?_ (s 1) n0 (Int32.le_refl _)
  intro i i0 i1 x y hxy
  obtain ⟨j, hj, rfl⟩ := nI_of (Int32.not_lt.mpr i0)
  rw [e] at i1
  have jn := (nI_ltI hj hN).mp i1
  rw [hxy, if_pos (bit0F ⟨j, by omega⟩)]
theorem extF : ∀ x y : Fin 64, (∀ b : Fin 6, bitv (nI x.val) (nI b.val) = bitv (nI y.val) (nI b.val)) → nI x.val = nI y.val := by decide +kernel
theorem ext64 {x y : Int32} (x0 : 0 ≤ x) (x1 : x < 64) (y0 : 0 ≤ y) (y1 : y < 64) (h : ∀ b, 0 ≤ b → b < 6 → (bitv x b = 1 ↔ bitv y b = 1)) : x = y := by
  obtain ⟨a, rfl⟩ := as64 x0 x1
  obtain ⟨c, rfl⟩ := as64 y0 y1
  refine extF a c (fun b => ?_)
  have q := h (nI b.val) (nI_pos' (by omega)) ((nI_ltI (b := 6) (by omega) (by decide)).mpr b.isLt)
  rcases bitv_01 (nI a.val) (nI b.val) with e | e
  · rcases bitv_01 (nI c.val) (nI b.val) with e2 | e2
    · rw [e, e2]
    · rw [q.mpr e2] at e; exact absurd e (by decide)
  · rw [e, q.mp e]
theorem andBF : ∀ (x y : Fin 64) (b : Fin 6), (bitv (nI x.val &&& (nI y.val ^^^ (-1))) (nI b.val) = 1 ↔ bitv (nI x.val) (nI b.val) = 1 ∧ ¬ bitv (nI y.val) (nI b.val) = 1) := by decide +kernel
theorem andB {x y b : Int32} (x0 : 0 ≤ x) (x1 : x < 64) (y0 : 0 ≤ y) (y1 : y < 64) (b0 : 0 ≤ b) (b1 : b < 6) : bitv (x &&& (y ^^^ (-1))) b = 1 ↔ bitv x b = 1 ∧ ¬ bitv y b = 1 := by
  obtain ⟨a, rfl⟩ := as64 x0 x1
  obtain ⟨c, rfl⟩ := as64 y0 y1
  obtain ⟨d, rfl⟩ := as6 b0 b1
  exact andBF a c d
theorem bz : ∀ b : Fin 6, ¬ bitv 0 (nI b.val) = 1 := by decide +kernel
theorem full_spec (s : St) {n : Int32} (n0 : 0 ≤ n) (n6 : n ≤ 6) : (0 ≤ fullM s n ∧ fullM s n < 64) ∧ ∀ b, 0 ≤ b → b < 6 → (bitv (fullM s n) b = 1 ↔ b < n ∧ 0 < s (8 + b)) := by
  refine foldI_inv (f := fun b a => a ||| (if 0 < s (8 + b) then shl32 1 b else 0)) (a := (0 : Int32)) (n := n) (fun (i z : Int32) => (0 ≤ z ∧ z < 64) ∧ ∀ b, 0 ≤ b → b < 6 → (bitv z b = 1 ↔ b < i ∧ 0 < s (8 + b))) ⟨⟨by decide, by decide⟩, fun b b0 b1 => ?_⟩ ?_ n n0 (Int32.le_refl _)
  · obtain ⟨d, rfl⟩ := as6 b0 b1
    exact ⟨fun q => absurd q (bz d), fun q => absurd (Int32.lt_of_le_of_lt b0 q.1) (by decide)⟩
  · intro i i0 i1 z hz
    have i6 := Int32.lt_of_lt_of_le i1 n6
    by_cases h : 0 < s (8 + i)
    · rw [if_pos h]
      have ob := or_bit hz.1.1 hz.1.2 i0 i6
      refine ⟨ob.1, fun b b0 b1 => ?_⟩
      rw [ob.2 b b0 b1]
      by_cases e : b = i
      · rw [if_pos e, e]
        exact ⟨fun _ => ⟨(inc_lt i0 i1).2.2, h⟩, fun _ => rfl⟩
      · rw [if_neg e, hz.2 b b0 b1]
        exact ⟨fun q => ⟨Int32.lt_trans q.1 (inc_lt i0 i1).2.2, q.2⟩, fun q => ⟨lt_of_inc i0 i1 q.1 e, q.2⟩⟩
    · rw [if_neg h, show z ||| 0 = z by simp]
      refine ⟨hz.1, fun b b0 b1 => ?_⟩
      rw [hz.2 b b0 b1]
      by_cases e : b = i
      · subst e
        exact ⟨fun q => absurd q.2 h, fun q => absurd q.2 h⟩
      · exact ⟨fun q => ⟨Int32.lt_trans q.1 (inc_lt i0 i1).2.2, q.2⟩, fun q => ⟨lt_of_inc i0 i1 q.1 e, q.2⟩⟩
theorem pg_z {s : St} (h : WF s) {b : Int32} (b0 : 0 ≤ b) (b1 : b < s 0) : ¬ 0 < s (8 + b) ↔ s (8 + b) = 0 := by
  have q := (h.2.1 b b0 b1).1.1
  exact ⟨fun e => Int32.le_antisymm (Int32.not_lt.mp e) q, fun e => by rw [e]; decide⟩
theorem first_set {s s' : St} (h : WF s) (h' : WF s') (e : s' 0 = s 0) : fullM s (s 0) &&& (fullM s' (s 0) ^^^ (-1)) = emptyM s' (s 0) &&& (emptyM s (s 0) ^^^ (-1)) := by
  have n0 := le0_of h.1.1.1
  have n6 := h.1.1.2
  have a := full_spec s n0 n6
  have b := full_spec s' n0 n6
  have c := empty_spec s n0 n6
  have d := empty_spec s' n0 n6
  have r1 := sub64 a.1.1 a.1.2 b.1.1 b.1.2
  have r2 := sub64 d.1.1 d.1.2 c.1.1 c.1.2
  refine ext64 r1.1 r1.2 r2.1 r2.2 (fun x x0 x1 => ?_)
  rw [andB a.1.1 a.1.2 b.1.1 b.1.2 x0 x1, andB d.1.1 d.1.2 c.1.1 c.1.2 x0 x1, a.2 x x0 x1, b.2 x x0 x1, c.2 x x0 x1, d.2 x x0 x1]
  by_cases hx : x < s 0
  · have p := pg_z h x0 hx
    have p' := pg_z h' x0 (by rw [e]; exact hx)
    constructor
    · intro q
      exact ⟨⟨hx, p'.mp (fun z => q.2 ⟨hx, z⟩)⟩, fun z => p.mpr z.2 q.1.2⟩
    · intro q
      refine ⟨⟨hx, ?_⟩, fun z => p'.mpr q.1.2 z.2⟩
      by_cases z : 0 < s (8 + x)
      · exact z
      · exact absurd ⟨hx, p.mp z⟩ q.2
  · exact ⟨fun q => absurd q.1.1 hx, fun q => absurd q.1.1 hx⟩
theorem one_andF : ∀ (b : Fin 6) (y : Fin 64), (shl32 1 (nI b.val) &&& (nI y.val ^^^ (-1)) ≠ 0 ↔ ¬ bitv (nI y.val) (nI b.val) = 1) := by decide +kernel
theorem when_set {s' : St} (h' : WF s') {n b : Int32} (e : s' 0 = n) (b0 : 0 ≤ b) (b1 : b < n) : shl32 1 b &&& (fullM s' n ^^^ (-1)) ≠ 0 ↔ s' (8 + b) = 0 := by
  subst e
  have a := full_spec s' (le0_of h'.1.1.1) h'.1.1.2
  have b6 := h'.b6 b1
  have q := a.2 b b0 b6
  have p := pg_z h' b0 b1
  obtain ⟨x, hx⟩ := as6 b0 b6
  obtain ⟨y, hy⟩ := as64 a.1.1 a.1.2
  rw [hy, hx, one_andF x y, ← hx, ← hy, q]
  constructor
  · intro z
    exact p.mp (fun g => z ⟨b1, g⟩)
  · intro z g
    exact p.mpr z g.2
theorem isFirst_c {P Q : Int32 → Prop} {r : Int32} (h : isFirst P r) (e : ∀ n, P n ↔ Q n) : isFirst Q r := by
  have : P = Q := funext (fun n => propext (e n))
  rw [← this]
  exact h
theorem onesF : ∀ (n : Fin 7) (x : Fin 64), nI x.val < shl32 1 (nI n.val) → nI n.val - ones ((shl32 1 (nI n.val) - 1) &&& (nI x.val ^^^ (-1))) = ones (nI x.val) := by decide +kernel
theorem hiF : ∀ (n : Fin 7) (x : Fin 64), (∀ b : Fin 6, bitv (nI x.val) (nI b.val) = 1 → b.val < n.val) → nI x.val < shl32 1 (nI n.val) := by decide +kernel
theorem allG : ∀ (n : Fin 7) (b : Fin 6), (bitv (shl32 1 (nI n.val) - 1) (nI b.val) = 1 ↔ b.val < n.val) := by decide +kernel
theorem allR : ∀ (n : Fin 7), 0 ≤ shl32 1 (nI n.val) - 1 ∧ shl32 1 (nI n.val) - 1 < 64 := by decide +kernel
theorem drawn_eq {s : St} (h : WF s) : s 0 - ones (fullM s (s 0)) = ones (emptyM s (s 0)) := by
  have n0 := le0_of h.1.1.1
  have n6 := h.1.1.2
  have a := full_spec s n0 n6
  have d := empty_spec s n0 n6
  obtain ⟨N, hN, e⟩ := nI_of (Int32.not_lt.mpr n0)
  have h6 : N ≤ 6 := (nI_leI (b := 6) hN (by decide)).mp (by rw [← e]; exact n6)
  obtain ⟨y, hy⟩ := as64 d.1.1 d.1.2
  have hb : nI y.val < shl32 1 (nI N) := hiF ⟨N, by omega⟩ y (fun b q => by
    have z := (d.2 (nI b.val) (nI_pos' (by omega)) ((nI_ltI (b := 6) (by omega) (by decide)).mpr b.isLt)).mp (by rw [hy]; exact q)
    rw [e] at z
    exact (nI_ltI (by omega) hN).mp z.1)
  have al := allR ⟨N, by omega⟩
  have r := sub64 al.1 al.2 d.1.1 d.1.2
  have ef : fullM s (s 0) = (shl32 1 (nI N) - 1) &&& (emptyM s (s 0) ^^^ (-1)) := by
    refine ext64 a.1.1 a.1.2 r.1 r.2 (fun x x0 x1 => ?_)
    rw [andB al.1 al.2 d.1.1 d.1.2 x0 x1, a.2 x x0 x1, d.2 x x0 x1]
    have g : bitv (shl32 1 (nI N) - 1) x = 1 ↔ x < s 0 := by
      obtain ⟨j, hj⟩ := as6 x0 x1
      rw [hj, e, allG ⟨N, by omega⟩ j]
      exact (nI_ltI (by omega) hN).symm
    rw [g]
    constructor
    · intro q
      exact ⟨q.1, fun z => (pg_z h x0 q.1).mpr z.2 q.2⟩
    · intro q
      refine ⟨q.1, ?_⟩
      by_cases z : 0 < s (8 + x)
      · exact z
      · exact absurd ⟨q.1, (pg_z h x0 q.1).mp z⟩ q.2
  rw [ef, hy]
  have := onesF ⟨N, by omega⟩ y hb
  rw [e]
  exact this
