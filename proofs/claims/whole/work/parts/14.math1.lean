/-! MATH: bits, and the model's words -/
abbrev St : Type := Int32 → Int32
def bitv (s k : Int32) : Int32 := shr32 s k &&& 1
theorem bitv_def (s k : Int32) : bitv s k = shr32 s k &&& 1 := rfl
theorem fin64 {P : Int32 → Prop} [DecidablePred P] (h : ∀ k : Fin 64, P (nI k.val)) (s : Int32) (h0 : 0 ≤ s) (h1 : s < 64) : P s := by
  obtain ⟨j, hj, rfl⟩ := nI_of (Int32.not_lt.mpr h0)
  exact h ⟨j, (nI_ltI (b := 64) hj (by decide)).mp h1⟩
theorem bitv_01 (s k : Int32) : bitv s k = 0 ∨ bitv s k = 1 := by
  obtain ⟨j, hj, e⟩ := pk_andE (shr32 s k) (m := 1) 1 (by decide)
  unfold bitv
  rw [e]
  have : j = 0 ∨ j = 1 := by omega
  rcases this with rfl | rfl
  · exact Or.inl rfl
  · exact Or.inr rfl
def ones (s : Int32) : Int32 := bitv s 0 + bitv s 1 + bitv s 2 + bitv s 3 + bitv s 4 + bitv s 5
theorem ones_rng (s : Int32) : 0 ≤ ones s ∧ ones s ≤ 6 := by
  have := bitv_01 s 0
  have := bitv_01 s 1
  have := bitv_01 s 2
  have := bitv_01 s 3
  have := bitv_01 s 4
  have := bitv_01 s 5
  unfold ones
  grind
theorem ones_step : ∀ k : Fin 64, k.val ≠ 0 → (ones (nI k.val &&& (nI k.val - 1)) + 1 = ones (nI k.val) ∧ 0 ≤ nI k.val &&& (nI k.val - 1) ∧ (nI k.val &&& (nI k.val - 1)) < nI k.val) := by decide +kernel
theorem toL_le (a b : Int32) : a.toInt64 ≤ b.toInt64 ↔ a ≤ b := by
  rw [Int64.le_iff_toInt_le, Int32.le_iff_toInt_le, Int32.toInt_toInt64, Int32.toInt_toInt64]
theorem in_eq {r : Int32} {v lo hi : Int64} {x a b : Int32} (h : r = if lo ≤ v ∧ v ≤ hi then 1 else 0) (hv : v = x.toInt64) (ha : lo = a.toInt64) (hb : hi = b.toInt64) : r = if a ≤ x ∧ x ≤ b then 1 else 0 := by
  subst hv ha hb
  simpa only [toL_le] using h
theorem lg_lt (x y : Int64) : lg_cmp x y < 0 ↔ x < y := by
  have := lg_cmp_ge x y
  rw [← Int32.not_le, this, Int64.not_le]
theorem lg_le (x y : Int64) : 0 < lg_cmp x y ↔ y < x := by
  unfold lg_cmp
  split
  · simp_all
  · split <;> simp_all
theorem lg_eq (x y : Int64) : lg_cmp x y = 0 ↔ x = y := by
  unfold lg_cmp
  split
  · rename_i h
    constructor
    · intro h2; simp at h2
    · intro h2; subst h2; exact absurd h (by simp [Int64.lt_irrefl])
  · split <;> simp_all
theorem arrV_ext {cA : ClassId} {n : Nat} {f g : Nat → Value} (h : ∀ j, j < n → f j = g j) : arrV cA n f = arrV cA n g := by
  unfold arrV
  have : (fun (j : Fin n) => f j.val) = fun (j : Fin n) => g j.val := funext fun j => h j.val j.isLt
  rw [this]
theorem iarr_ext {G : Gw} {D : va_G} {cl : List vw_C} {n : Nat} {n' : Int32} {f g : Int32 → Int32} {a : Nat} {H : Heap} (hn : nI n = n') (hn2 : n < 2147483648) (h : ∀ i, 0 ≤ i → i < n' → g i = f i) (hw : va_at D cl (a, iarr G n f) H) : va_at D cl (a, iarr G n g) H := by
  show H[a]? = some (vp_cell _ (n, .inl (ofF g)))
  have e : vp_cell G.2.1.1 (n, .inl (ofF g)) = vp_cell G.2.1.1 (n, .inl (ofF f)) := by
    rw [vp_cell_i, vp_cell_i]
    refine arrV_ext (fun j hj => ?_)
    unfold ofF
    rw [if_pos (by omega), if_pos (by omega), h _ (nI_pos' (by omega)) (by rw [← hn]; exact (nI_ltI (by omega) hn2).mpr hj)]
  rw [e]
  exact hw
theorem Wd_ext {G : Gw} {σ : Sg} {c k : Nat} {f : Int32 → Int32} {H : Heap} (hW : Wd G σ H) (h : ∀ a, va_at G.1 vwCl (a, cel G c k (σ c k)) H → va_at G.1 vwCl (a, cel G c k f) H) : Wd G (up σ c k f) H := by
  intro i q hq
  simp only [wl, List.getElem?_map, Option.map_eq_some_iff] at hq
  obtain ⟨p, hp, rfl⟩ := hq
  have h1 : (wl G σ)[i]? = some (ad G p.1 p.2, cel G p.1 p.2 (σ p.1 p.2)) := by simp [wl, hp]
  have h2 := hW i _ h1
  by_cases e : p.1 = c ∧ p.2 = k
  · obtain ⟨e1, e2⟩ := e
    rw [e1, e2] at h2
    show va_at G.1 vwCl (ad G p.1 p.2, cel G p.1 p.2 (up σ c k f p.1 p.2)) H
    rw [e1, e2, up_same]
    exact h _ h2
  · show va_at G.1 vwCl (ad G p.1 p.2, cel G p.1 p.2 (up σ c k f p.1 p.2)) H
    rw [up_ne _ _ e]
    exact h2
section Ext
variable {l : Launch} {G : Gw} {own : String} {cc : ByteArray} {nL fr lo : Nat} {ret : Option FieldType} {post : Option Value → Sg → Prop} {Φ : Ph} {pc : Nat} {L : List (Option Value)} {st : List Value} {σ : Sg}
theorem j_ext (M : Mach l G own cc nL ret fr lo post Φ) {c k : Nat} {f : Int32 → Int32} (h : ∀ (a : Nat) (H : Heap), va_at G.1 vwCl (a, cel G c k (σ c k)) H → va_at G.1 vwCl (a, cel G c k f) H) (kk : Φ pc L st (up σ c k f)) : Φ pc L st σ := by
  obtain ⟨p, e, R, s, m, args, below, meth, cd, cells, slots, Q, ⟨hx, hb, hml, hown, hts⟩, hWk, hRm, hRet, rfl⟩ := M
  intro hn H locs ls hW hS hl
  exact kk hn H locs ls (Wd_ext hW (fun a => h a H)) hS hl
theorem j_extA (M : Mach l G own cc nL ret fr lo post Φ) {c k n : Nat} {n' : Int32} {f : Int32 → Int32} (hc : ∀ f, cel G c k f = iarr G n f) (hn : nI n = n') (hn2 : n < 2147483648) (h : ∀ i, 0 ≤ i → i < n' → f i = σ c k i) (kk : Φ pc L st (up σ c k f)) : Φ pc L st σ :=
  j_ext M (fun a H hw => by rw [hc] at hw ⊢; exact iarr_ext hn hn2 h hw) kk
end Ext
