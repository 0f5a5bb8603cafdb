/-! the world at the start -/
theorem arrV_cg {cI : ClassId} {n : Nat} {f g : Nat → Value} (h : ∀ j, j < n → f j = g j) : arrV cI n f = arrV cI n g := by
  have : (fun j : Fin n => f j.val) = fun j : Fin n => g j.val := funext (fun j => h j.val j.isLt)
  show ({ cls := cI, slots := Array.ofFn fun j : Fin n => f j.val } : Cell) = { cls := cI, slots := Array.ofFn fun j : Fin n => g j.val }
  rw [this]
theorem at_i {D : va_G} {cl : List vw_C} {H : Heap} {a n : Nat} {c : ClassId} {f g : Nat → Int32} (h : ∀ j, j < n → f j = g j) (h1 : va_at D cl (a, .inl (c, n, .inl f)) H) : va_at D cl (a, .inl (c, n, .inl g)) H := by
  have e : arrV c n (fun j => .int (f j)) = arrV c n (fun j => .int (g j)) := arrV_cg (fun j hj => by rw [h j hj])
  show H[a]? = some (arrV c n (fun j => .int (g j)))
  rw [← e]
  exact h1
theorem at_q {D : va_G} {cl : List vw_C} {H : Heap} {a n : Nat} {c : ClassId} {f g : Nat → Option Nat} (h : ∀ j, j < n → f j = g j) (h1 : va_at D cl (a, .inl (c, n, .inr (.inr (.inr (.inr f))))) H) : va_at D cl (a, .inl (c, n, .inr (.inr (.inr (.inr g))))) H := by
  have e : arrV c n (fun j => va_rf (f j)) = arrV c n (fun j => va_rf (g j)) := arrV_cg (fun j hj => by rw [h j hj])
  show H[a]? = some (arrV c n (fun j => va_rf (g j)))
  rw [← e]
  exact h1
def s0 : Sg := fun c k j => if (c = 1 ∧ k = 1) ∨ (c = 40 ∧ k = 2) then -1 else if c = 2 ∧ k = 0 ∧ j = 4 then -1000000 else 0
theorem s0_z {c k : Nat} (h : ¬ ((c = 1 ∧ k = 1) ∨ (c = 40 ∧ k = 2)) ∧ ¬ (c = 2 ∧ k = 0)) : s0 c k = fun _ => 0 := by
  funext j
  show (if (c = 1 ∧ k = 1) ∨ (c = 40 ∧ k = 2) then (-1 : Int32) else if c = 2 ∧ k = 0 ∧ j = 4 then -1000000 else 0) = 0
  rw [if_neg h.1, if_neg (fun e => h.2 ⟨e.1, e.2.1⟩)]
theorem ofF_0 (j : Nat) : ofF (fun _ => 0) j = 0 := by
  unfold ofF
  split <;> rfl
theorem rel0 : Rel s0 := by
  have z (c k : Nat) (h : ¬ ((c = 1 ∧ k = 1) ∨ (c = 40 ∧ k = 2)) ∧ ¬ (c = 2 ∧ k = 0)) : s0 c k = fun _ => 0 := s0_z h
  have z6 (k : Nat) : s0 6 k = fun _ => 0 := s0_z ⟨by omega, by omega⟩
  have z8 (k : Nat) : s0 8 k = fun _ => 0 := s0_z ⟨by omega, by omega⟩
  have z9 (k : Nat) : s0 9 k = fun _ => 0 := s0_z ⟨by omega, by omega⟩
  refine ⟨?_, ⟨fun w _ _ => Or.inl ⟨rfl, rfl⟩, ?_⟩, ?_, ?_, ?_, ?_, ?_, ?_⟩
  · show s0 0 0 9 = s0 40 0 3
    rw [z 0 0 (by decide), z 40 0 (by decide)]
  · rw [z 1 3 (by decide), z 40 3 (by decide)]
  · refine ⟨0, by decide, rfl, rfl, ?_, fun k hk => absurd hk (Nat.not_lt_zero _), rfl⟩
    rw [z 2 1 (by decide), z 40 6 (by decide)]
  · refine ⟨Or.inl ⟨rfl, rfl, rfl⟩, ⟨⟨rfl, rfl, rfl, rfl, rfl, rfl, rfl, rfl⟩, fun b h1 h2 => ?_, fun f h1 h2 => ?_⟩, fun _ => ⟨rfl, rfl, rfl⟩⟩
    · have h2' : b < 0 := h2
      exact absurd h2' (Int32.not_lt.mpr h1)
    · have h2' : f < 0 := h2
      exact absurd h2' (Int32.not_lt.mpr h1)
  · exact ⟨0, 0, by decide, by decide, rfl, rfl, rfl, fun a ha => absurd ha (Nat.not_lt_zero _)⟩
  · exact Or.inl ⟨rfl, by decide⟩
  · exact Or.inl ⟨rfl, by decide⟩
  · refine ⟨⟨by decide, by decide⟩, rfl, fun j h1 h2 => ?_⟩
    have h2' : j < 0 := h2
    exact absurd h2' (Int32.not_lt.mpr h1)
/-- the addresses of the world that the two constructors made -/
def ad0 (b : Nat → Nat → Nat) (a : Nat → Nat) : Nat → Nat → Nat := fun c k => if c = 40 then a k else b c k
def G0 (D : va_G) (cI cZ cL : ClassId) (b : Nat → Nat → Nat) (a : Nat → Nat) (t : Nat) : Gw := (D, (cI, cZ, cL), ad0 b a, t)
def W0 (cI cZ cL : ClassId) (b : Nat → Nat → Nat) (a : Nat → Nat) : va_W := grp_X6 cI cL b ++ grp_X7 cI cZ a
theorem P_mem {D : va_G} {cl : List vw_C} {ws : va_W} {H : Heap} (h : va_P D cl ws H) {x : Nat × va_E} (hx : x ∈ ws) : va_at D cl x H := by
  obtain ⟨k, hk⟩ := List.getElem?_of_mem hx
  exact h k x hk
theorem lib_at {D : va_G} {cI cZ cL : ClassId} {b : Nat → Nat → Nat} {a : Nat → Nat} {t : Nat} {H : Heap} {c k : Nat} (hc : isLib c) (hk : k < 9) (h : ∀ x ∈ grp_X3 cI (b c), va_at D vwCl x H) : va_at D vwCl (ad (G0 D cI cZ cL b a t) c k, cel (G0 D cI cZ cL b a t) c k (s0 c k)) H := by
  have e (i : Nat) : ad (G0 D cI cZ cL b a t) c i = b c i := by
    show (if c = 40 then a i else b c i) = b c i
    rw [if_neg (by have := hc.2; omega)]
  have z : s0 c k = fun _ => 0 := s0_z ⟨by have := hc.1; have := hc.2; omega, by have := hc.1; omega⟩
  rw [cel_lib _ hc, z]
  match k, hk with
  | 0, _ =>
    simp only [celL, e]
    exact h _ (by unfold grp_X3; exact List.mem_of_getElem? (i := 0) rfl)
  | 1, _ => rw [e]; exact at_i (fun j _ => (ofF_0 j).symm) (h _ (by unfold grp_X3; exact List.mem_of_getElem? (i := 1) rfl))
  | 2, _ => rw [e]; exact at_i (fun j _ => (ofF_0 j).symm) (h _ (by unfold grp_X3; exact List.mem_of_getElem? (i := 2) rfl))
  | 3, _ => rw [e]; exact at_i (fun j _ => (ofF_0 j).symm) (h _ (by unfold grp_X3; exact List.mem_of_getElem? (i := 3) rfl))
  | 4, _ => rw [e]; exact at_i (fun j _ => (ofF_0 j).symm) (h _ (by unfold grp_X3; exact List.mem_of_getElem? (i := 4) rfl))
  | 5, _ => rw [e]; exact at_i (fun j _ => (ofF_0 j).symm) (h _ (by unfold grp_X3; exact List.mem_of_getElem? (i := 5) rfl))
  | 6, _ => rw [e]; exact at_i (fun j _ => (ofF_0 j).symm) (h _ (by unfold grp_X3; exact List.mem_of_getElem? (i := 6) rfl))
  | 7, _ => rw [e]; exact at_i (fun j _ => (ofF_0 j).symm) (h _ (by unfold grp_X3; exact List.mem_of_getElem? (i := 7) rfl))
  | 8, _ => rw [e]; exact at_i (fun j _ => (ofF_0 j).symm) (h _ (by unfold grp_X3; exact List.mem_of_getElem? (i := 8) rfl))
  | k + 9, h => exact absurd h (by omega)
theorem mem_lib {cI : ClassId} {b : Nat → Nat → Nat} {i j : Nat} (h : j < i) {x : Nat × va_E} (hx : x ∈ grp_X3 cI (b j)) : x ∈ libq cI b i := by
  unfold libq
  exact List.mem_flatMap.mpr ⟨j, List.mem_range.mpr h, hx⟩
theorem neg8 : ∀ j : Nat, j < 8 → (upd (upd (upd (upd (upd (upd (upd (upd (fun _ => 0) (Int32.toNatClampNeg 0) (-1)) (Int32.toNatClampNeg 1) (-1)) (Int32.toNatClampNeg 2) (-1)) (Int32.toNatClampNeg 3) (-1)) (Int32.toNatClampNeg 4) (-1)) (Int32.toNatClampNeg 5) (-1)) (Int32.toNatClampNeg 6) (-1)) (Int32.toNatClampNeg 7) (-1)) j = ofF (fun _ => -1) j := by decide
section Wd0
variable {D : va_G} {cI cZ cL : ClassId} {b : Nat → Nat → Nat} {a : Nat → Nat} {t : Nat} {H : Heap}
theorem ad_b {c : Nat} (h : c ≠ 40) (k : Nat) : ad (G0 D cI cZ cL b a t) c k = b c k := if_neg h
theorem wd0 (h : va_P D vwCl (W0 cI cZ cL b a) H) : Wd (G0 D cI cZ cL b a t) s0 H := by
  have m6 : ∀ x ∈ grp_X6 cI cL b, va_at D vwCl x H := fun x hx => P_mem h (List.mem_append_left _ hx)
  have m7 : ∀ x ∈ grp_X7 cI cZ a, va_at D vwCl x H := fun x hx => P_mem h (List.mem_append_right _ hx)
  have mX4 : ∀ x ∈ grp_X4 cI (b 1), va_at D vwCl x H := fun x hx => m6 x (by simp [grp_X6, hx])
  have mX5 : ∀ x ∈ grp_X5 cI (b 2), va_at D vwCl x H := fun x hx => m6 x (by simp [grp_X6, hx])
  have m_6 : ∀ x ∈ grp_X3 cI (b 6), va_at D vwCl x H := fun x hx => m6 x (by simp [grp_X6, hx])
  have m_7 : ∀ x ∈ grp_X3 cI (b 7), va_at D vwCl x H := fun x hx => m6 x (by simp [grp_X6, hx])
  have m_8 : ∀ x ∈ grp_X3 cI (b 8), va_at D vwCl x H := fun x hx => m6 x (by simp [grp_X6, hx])
  have m_9 : ∀ x ∈ grp_X3 cI (b 9), va_at D vwCl x H := fun x hx => m6 x (by simp [grp_X6, hx])
  have mX0 : ∀ x ∈ grp_X0 cI cL (b0f b), va_at D vwCl x H := fun x hx => m6 x (by simp [grp_X6, hx])
  have mX2 : ∀ x ∈ grp_X2 cI (b2f b), va_at D vwCl x H := fun x hx => m6 x (by simp [grp_X6, hx])
  have mX1 : ∀ x ∈ grp_X1 cI (b 4), va_at D vwCl x H := fun x hx => m6 x (by simp [grp_X6, hx])
  have m_10 : ∀ x ∈ grp_X3 cI (b 10), va_at D vwCl x H := fun x hx => mX2 x (by
    have : x ∈ grp_X3 cI (b2f b 1) := hx
    simp [grp_X2, this])
  intro k0 q0 hk0
  have hq0 := List.mem_of_getElem? hk0
  simp only [wl, List.mem_map] at hq0
  obtain ⟨⟨c, k⟩, hck, rfl⟩ := hq0
  have hv := prs_vld hck
  show va_at D vwCl (ad (G0 D cI cZ cL b a t) c k, cel (G0 D cI cZ cL b a t) c k (s0 c k)) H
  have z (c k : Nat) (h : ¬ ((c = 1 ∧ k = 1) ∨ (c = 40 ∧ k = 2)) ∧ ¬ (c = 2 ∧ k = 0)) : s0 c k = fun _ => 0 := s0_z h
  match c, hv with
  | 0, hv =>
    have hk : k = 0 := by simpa [vld] using hv
    subst hk
    have e := m6 _ (List.mem_cons_self)
    exact e
  | 1, hv =>
    have hk : k < 4 := by simpa [vld] using hv
    match k, hk with
    | 0, _ => exact mX4 _ (by unfold grp_X4; exact List.mem_of_getElem? (i := 0) rfl)
    | 1, _ => exact at_i neg8 (mX4 _ (by unfold grp_X4; exact List.mem_of_getElem? (i := 1) rfl))
    | 2, _ => rw [z 1 2 (by decide)]; exact at_i (fun j _ => (ofF_0 j).symm) (mX4 _ (by unfold grp_X4; exact List.mem_of_getElem? (i := 2) rfl))
    | 3, _ => rw [z 1 3 (by decide)]; exact at_i (fun j _ => (ofF_0 j).symm) (mX4 _ (by unfold grp_X4; exact List.mem_of_getElem? (i := 3) rfl))
    | k + 4, h => exact absurd h (by omega)
  | 2, hv =>
    have hk : k < 2 := by simpa [vld] using hv
    match k, hk with
    | 0, _ => exact mX5 _ (by unfold grp_X5; exact List.mem_of_getElem? (i := 0) rfl)
    | 1, _ => rw [z 2 1 (by decide)]; exact at_i (fun j _ => (ofF_0 j).symm) (mX5 _ (by unfold grp_X5; exact List.mem_of_getElem? (i := 1) rfl))
    | k + 2, h => exact absurd h (by omega)
  | 3, hv =>
    have hk : k < 2 := by simpa [vld] using hv
    match k, hk with
    | 0, _ => exact mX0 _ (by unfold grp_X0; exact List.mem_of_getElem? (i := 0) rfl)
    | 1, _ =>
      refine at_q (f := ffq (b0f b) 24) (fun j hj => ?_) (mX0 _ (by unfold grp_X0; exact List.mem_of_getElem? (i := 1) rfl))
      show (if j < 24 then some (b0f b j 0) else none) = some (ad (G0 D cI cZ cL b a t) (11 + j) 0)
      rw [if_pos hj, ad_b (by omega)]
      show some ((if j = 24 then b 3 else b (11 + j)) 0) = _
      rw [if_neg (by omega)]
    | k + 2, h => exact absurd h (by omega)
  | 4, hv =>
    have hk : k < 2 := by simpa [vld] using hv
    match k, hk with
    | 0, _ => exact mX1 _ (by unfold grp_X1; exact List.mem_of_getElem? (i := 0) rfl)
    | 1, _ => rw [z 4 1 (by decide)]; exact at_i (fun j _ => (ofF_0 j).symm) (mX1 _ (by unfold grp_X1; exact List.mem_of_getElem? (i := 1) rfl))
    | k + 2, h => exact absurd h (by omega)
  | 5, hv =>
    have hk : k < 3 := by simpa [vld] using hv
    match k, hk with
    | 0, _ => exact mX2 _ (by unfold grp_X2; exact List.mem_of_getElem? (i := 0) rfl)
    | 1, _ => rw [z 5 1 (by decide)]; exact at_i (fun j _ => (ofF_0 j).symm) (mX2 _ (by unfold grp_X2 grp_X3; exact List.mem_of_getElem? (i := 10) rfl))
    | 2, _ => rw [z 5 2 (by decide)]; exact at_i (fun j _ => (ofF_0 j).symm) (mX2 _ (by unfold grp_X2 grp_X3; exact List.mem_of_getElem? (i := 11) rfl))
    | k + 3, h => exact absurd h (by omega)
  | c + 6, hv =>
    by_cases hc : c < 29
    · have hk : k < 9 := by simpa [vld, hc] using hv
      have hl : isLib (c + 6) := ⟨by omega, by omega⟩
      match c, hc with
      | 0, _ => exact lib_at hl hk m_6
      | 1, _ => exact lib_at hl hk m_7
      | 2, _ => exact lib_at hl hk m_8
      | 3, _ => exact lib_at hl hk m_9
      | 4, _ => exact lib_at hl hk m_10
      | c + 5, hc =>
        refine lib_at hl hk (fun x hx => mX0 x ?_)
        have e : b0f b c = b (c + 5 + 6) := by
          show (if c = 24 then b 3 else b (11 + c)) = _
          rw [if_neg (by omega)]
          congr 1
          omega
        rw [← e] at hx
        exact List.mem_cons_of_mem _ (List.mem_cons_of_mem _ (mem_lib (by omega) hx))
    · have hc2 : c = 34 ∧ k < 16 := by simpa [vld, hc] using hv
      obtain ⟨rfl, hk⟩ := hc2
      show va_at D vwCl (ad (G0 D cI cZ cL b a t) 40 k, celM (G0 D cI cZ cL b a t) k (s0 40 k)) H
      match k, hk with
      | 0, _ => exact m7 _ (by unfold grp_X7; exact List.mem_of_getElem? (i := 0) rfl)
      | 2, _ => exact at_i neg8 (m7 _ (by unfold grp_X7; exact List.mem_of_getElem? (i := 2) rfl))
      | 1, _ => rw [z 40 1 (by decide)]; exact at_i (fun j _ => (ofF_0 j).symm) (m7 _ (by unfold grp_X7; exact List.mem_of_getElem? (i := 1) rfl))
      | 3, _ => rw [z 40 3 (by decide)]; exact at_i (fun j _ => (ofF_0 j).symm) (m7 _ (by unfold grp_X7; exact List.mem_of_getElem? (i := 3) rfl))
      | 4, _ => rw [z 40 4 (by decide)]; exact at_i (fun j _ => (ofF_0 j).symm) (m7 _ (by unfold grp_X7; exact List.mem_of_getElem? (i := 4) rfl))
      | 5, _ => rw [z 40 5 (by decide)]; exact at_i (fun j _ => (ofF_0 j).symm) (m7 _ (by unfold grp_X7; exact List.mem_of_getElem? (i := 5) rfl))
      | 6, _ => rw [z 40 6 (by decide)]; exact at_i (fun j _ => (ofF_0 j).symm) (m7 _ (by unfold grp_X7; exact List.mem_of_getElem? (i := 6) rfl))
      | 7, _ => rw [z 40 7 (by decide)]; exact at_i (fun j _ => (ofF_0 j).symm) (m7 _ (by unfold grp_X7; exact List.mem_of_getElem? (i := 7) rfl))
      | 8, _ => rw [z 40 8 (by decide)]; exact at_i (fun j _ => (ofF_0 j).symm) (m7 _ (by unfold grp_X7; exact List.mem_of_getElem? (i := 8) rfl))
      | 9, _ => rw [z 40 9 (by decide)]; exact at_i (fun j _ => (ofF_0 j).symm) (m7 _ (by unfold grp_X7; exact List.mem_of_getElem? (i := 9) rfl))
      | 10, _ => rw [z 40 10 (by decide)]; exact at_i (fun j _ => (ofF_0 j).symm) (m7 _ (by unfold grp_X7; exact List.mem_of_getElem? (i := 10) rfl))
      | 11, _ => rw [z 40 11 (by decide)]; exact at_i (fun j _ => (ofF_0 j).symm) (m7 _ (by unfold grp_X7; exact List.mem_of_getElem? (i := 11) rfl))
      | 12, _ => rw [z 40 12 (by decide)]; exact at_i (fun j _ => (ofF_0 j).symm) (m7 _ (by unfold grp_X7; exact List.mem_of_getElem? (i := 12) rfl))
      | 13, _ => rw [z 40 13 (by decide)]; exact at_i (fun j _ => (ofF_0 j).symm) (m7 _ (by unfold grp_X7; exact List.mem_of_getElem? (i := 13) rfl))
      | 14, _ => rw [z 40 14 (by decide)]; exact at_i (fun j _ => (ofF_0 j).symm) (m7 _ (by unfold grp_X7; exact List.mem_of_getElem? (i := 14) rfl))
      | 15, _ => rw [z 40 15 (by decide)]; exact at_i (fun j _ => (ofF_0 j).symm) (m7 _ (by unfold grp_X7; exact List.mem_of_getElem? (i := 15) rfl))
      | k + 16, h => exact absurd h (by omega)
end Wd0
/-! the addresses are apart -/
def pX3 (c : Nat) : List (Nat × Nat) := (List.range 9).map fun k => (c, k)
def pX6 : List (Nat × Nat) := (0, 0) :: ((((((((([] ++ (List.range 4).map fun k => (1, k)) ++ (List.range 2).map fun k => (2, k)) ++ pX3 6) ++ pX3 7) ++ pX3 8) ++ pX3 9) ++ ((3, 0) :: (3, 1) :: (List.range 24).flatMap fun j => pX3 (11 + j))) ++ ((5, 0) :: ((([] ++ pX3 10) ++ [(5, 1)]) ++ [(5, 2)]))) ++ [(4, 0), (4, 1)])
def pos : List (Nat × Nat) := pX6 ++ (List.range 16).map fun k => (40, k)
theorem pos_nodup : pos.Nodup := by decide +kernel
theorem prs_pos : ∀ q ∈ prs, q ∈ pos := by
  have h : prs.all (fun q => decide (q ∈ pos)) = true := by decide +kernel
  intro q hq
  exact of_decide_eq_true (List.all_eq_true.mp h q hq)
section Apart
variable {D : va_G} {cI cZ cL : ClassId} {b : Nat → Nat → Nat} {a : Nat → Nat} {t : Nat}
theorem fst_X3 (c : Nat) (hc : c ≠ 40) : (grp_X3 cI (b c)).map Prod.fst = (pX3 c).map fun q => ad0 b a q.1 q.2 := by
  have e : ad0 b a c = b c := by
    funext k
    exact if_neg hc
  show _ = ((List.range 9).map fun k => (c, k)).map fun q => ad0 b a q.1 q.2
  rw [List.map_map]
  show _ = (List.range 9).map (ad0 b a c)
  rw [e]
  rfl
theorem fst_lib : ∀ i, i ≤ 24 → (libq cI (b0f b) i).map Prod.fst = ((List.range i).flatMap fun j => pX3 (11 + j)).map fun q => ad0 b a q.1 q.2
  | 0, _ => rfl
  | i + 1, h => by
    rw [libq_succ, List.map_append, fst_lib i (by omega), List.range_succ, List.flatMap_append, List.map_append]
    congr 1
    have e : b0f b i = b (11 + i) := if_neg (by omega)
    rw [e, fst_X3 (a := a) (11 + i) (by omega)]
    simp
set_option maxRecDepth 100000 in
theorem fst_W0 : (W0 cI cZ cL b a).map Prod.fst = pos.map fun q => ad0 b a q.1 q.2 := by
  unfold W0 pos
  rw [List.map_append, List.map_append]
  congr 1
theorem inj0 {A : Nat → Prop} (h : va_D A (W0 cI cZ cL b a)) : Ginj (G0 D cI cZ cL b a t) := by
  intro c k c' k' h1 h2 he
  obtain ⟨i, hi⟩ := List.getElem?_of_mem (prs_pos _ (prs_mem h1))
  obtain ⟨j, hj⟩ := List.getElem?_of_mem (prs_pos _ (prs_mem h2))
  have e1 : ((W0 cI cZ cL b a).map Prod.fst)[i]? = some (ad0 b a c k) := by
    rw [fst_W0, List.getElem?_map, hi]
    rfl
  have e2 : ((W0 cI cZ cL b a).map Prod.fst)[j]? = some (ad0 b a c' k') := by
    rw [fst_W0, List.getElem?_map, hj]
    rfl
  rw [List.getElem?_map, Option.map_eq_some_iff] at e1 e2
  obtain ⟨x, hx, ex⟩ := e1
  obtain ⟨y, hy, ey⟩ := e2
  have hij := h.1 i j x y hx hy (by rw [ex, ey]; exact he)
  subst hij
  have e := hi.symm.trans hj
  simp only [Option.some.injEq, Prod.mk.injEq] at e
  exact e
theorem AA0 {n : Nat} (h : va_D (fun q => n ≤ q) (W0 cI cZ cL b a)) : ∀ q, AA (G0 D cI cZ cL b a t) q → n ≤ q := by
  rintro q ⟨c, k, hv, rfl⟩
  obtain ⟨i, hi⟩ := List.getElem?_of_mem (prs_pos _ (prs_mem hv))
  have e1 : ((W0 cI cZ cL b a).map Prod.fst)[i]? = some (ad0 b a c k) := by
    rw [fst_W0, List.getElem?_map, hi]
    rfl
  rw [List.getElem?_map, Option.map_eq_some_iff] at e1
  obtain ⟨x, hx, ex⟩ := e1
  have := h.2 i x hx
  rw [ex] at this
  exact this
end Apart
