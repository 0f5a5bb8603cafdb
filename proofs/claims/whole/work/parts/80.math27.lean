def pwZ (x : Int64) (k : Int32) : Int64 := foldI (fun _ z => z * x) 1 k
def ikF : Nat → Int32 → Int32 → Int32
  | 0, _, _ => 0
  | n + 1, e, a => if e = a then 1 else if 0 ≤ e ∧ e ≤ 5 then ikF n (bkI e) a else 0
where bkI (e : Int32) : Int32 := if e = 0 then -1000000 else if e = 1 then 0 else if e = 2 then 1 else if e = 3 then 1 else if e = 4 then 0 else 4
theorem bk_at : ∀ j : Fin 6, bkf (nI j.val).toNatClampNeg = .int (ikF.bkI (nI j.val)) := by
  intro j
  rcases j with ⟨j, hj⟩
  rcases (by omega : j = 0 ∨ j = 1 ∨ j = 2 ∨ j = 3 ∨ j = 4 ∨ j = 5) with rfl | rfl | rfl | rfl | rfl | rfl <;> rfl
theorem bk_val {e : Int32} (h : 0 ≤ e ∧ e ≤ 5) : bkf e.toNatClampNeg = .int (ikF.bkI e) := by
  obtain ⟨j, hj, rfl⟩ := nI_of (Int32.not_lt.mpr h.1)
  have := (nI_leI (b := 5) hj (by decide)).mp h.2
  exact bk_at ⟨j, by omega⟩
theorem ik_allF : ∀ k a : Fin 6, 1 ≤ k.val → (ikF 6 (nI k.val) (nI a.val) = 1 ↔ (nI a.val = 0 ∨ nI k.val = nI a.val ∨ (nI a.val = 1 ∧ nI k.val < 4) ∨ (nI a.val = 4 ∧ nI k.val = 5))) ∧ (ikF 6 (nI k.val) (nI a.val) = 0 ∨ ikF 6 (nI k.val) (nI a.val) = 1) := by decide +kernel
theorem ik_all {k a : Int32} (k0 : 1 ≤ k) (k5 : k ≤ 5) (a0 : 0 ≤ a) (a5 : a ≤ 5) : (ikF 6 k a = 1 ↔ (a = 0 ∨ k = a ∨ (a = 1 ∧ k < 4) ∨ (a = 4 ∧ k = 5))) ∧ (ikF 6 k a = 0 ∨ ikF 6 k a = 1) := by
  obtain ⟨x, hx, rfl⟩ := nI_of (Int32.not_lt.mpr (Int32.le_trans (by decide) k0))
  obtain ⟨y, hy, rfl⟩ := nI_of (Int32.not_lt.mpr a0)
  have h1 := (nI_leI (b := 5) hx (by decide)).mp k5
  have h2 := (nI_leI (b := 5) hy (by decide)).mp a5
  have h3 := (nI_leI (a := 1) (by decide) hx).mp k0
  exact ik_allF ⟨x, by omega⟩ ⟨y, by omega⟩ h3
theorem gl_0 (x y : Int64) : gl 0 x y = x := rfl
theorem gl_s (n : Nat) (x y : Int64) : gl (n + 1) x y = if y = 0 then x else gl n y (rem64 x y) := rfl
theorem gl_z (n : Nat) {x y : Int64} (h : y = 0) : gl n x y = x := by
  cases n with
  | zero => rfl
  | succ n => rw [gl_s, if_pos h]
