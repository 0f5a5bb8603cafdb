def frm (σ τ : Sg) (c0 : Nat) (ks : List Nat) : Prop := ∀ c k, ¬ (c = c0 ∧ k ∈ ks) → τ c k = σ c k
theorem frm_refl (σ : Sg) (c0 : Nat) (ks : List Nat) : frm σ σ c0 ks := fun _ _ _ => rfl
theorem frm_trans {σ τ υ : Sg} {c0 : Nat} {ks : List Nat} (h1 : frm σ τ c0 ks) (h2 : frm τ υ c0 ks) : frm σ υ c0 ks := fun c k h => (h2 c k h).trans (h1 c k h)
theorem frm_up {σ τ : Sg} {c0 k0 : Nat} {ks : List Nat} {f : Int32 → Int32} (h : frm σ τ c0 ks) (hk : k0 ∈ ks) : frm σ (up τ c0 k0 f) c0 ks := by
  intro c k hn
  rw [up_ne (c := c0) (k := k0) τ f (fun e => hn ⟨e.1, by rw [e.2]; exact hk⟩)]
  exact h c k hn
theorem frm_mono {σ τ : Sg} {c0 : Nat} {ks ks' : List Nat} (h : frm σ τ c0 ks) (hs : ∀ k ∈ ks, k ∈ ks') : frm σ τ c0 ks' := fun c k hn => h c k (fun e => hn ⟨e.1, hs k e.2⟩)
theorem ixS {b : Int32} (h0 : 0 ≤ b) (h1 : b < 6) : ((0 ≤ 8 + b ∧ 8 + b < 41) ∧ (0 ≤ 14 + b ∧ 14 + b < 41)) ∧ (0 ≤ 20 + b ∧ 20 + b < 41) := ⟨⟨ixb 8 6 41 h0 h1 ⟨by decide, by decide⟩, ixb 14 6 41 h0 h1 ⟨by decide, by decide⟩⟩, ixb 20 6 41 h0 h1 ⟨by decide, by decide⟩⟩
theorem ixT {b : Int32} (h0 : 0 ≤ b) (h1 : b < 5) : ((0 ≤ 26 + b ∧ 26 + b < 41) ∧ (0 ≤ 31 + b ∧ 31 + b < 41)) ∧ (0 ≤ 36 + b ∧ 36 + b < 41) := ⟨⟨ixb 26 5 41 h0 h1 ⟨by decide, by decide⟩, ixb 31 5 41 h0 h1 ⟨by decide, by decide⟩⟩, ixb 36 5 41 h0 h1 ⟨by decide, by decide⟩⟩
theorem bt_ne0 {s k : Int32} (h : ¬ bitv s k = 1) : bitv s k = 0 := (bitv_01 s k).resolve_right h
theorem ones_rng' {s : Int32} (h0 : 0 ≤ s) (h1 : s < 64) (hs : s ≠ 0) : ones (s &&& (s - 1)) + 1 = ones s ∧ 0 ≤ s &&& (s - 1) ∧ (s &&& (s - 1)) < s := by
  obtain ⟨j, hj, rfl⟩ := nI_of (Int32.not_lt.mpr h0)
  exact ones_step ⟨j, (nI_ltI (b := 64) hj (by decide)).mp h1⟩ (fun e => hs (by simp at e; rw [e]; rfl))
theorem loop_dn {P : Int32 → Prop} (h : ∀ i, 0 ≤ i → (∀ j, 0 ≤ j → j < i → P j) → P i) : ∀ i, 0 ≤ i → P i := by
  intro i hi
  obtain ⟨n, hn, rfl⟩ := nI_of (Int32.not_lt.mpr hi)
  clear hi
  induction n using Nat.strongRecOn with
  | _ n ih =>
    refine h _ (nI_pos' hn) (fun j j0 j1 => ?_)
    obtain ⟨m, hm, rfl⟩ := nI_of (Int32.not_lt.mpr j0)
    exact ih m ((nI_ltI hm hn).mp j1) hm
theorem ones_0 : ones 0 = 0 := by decide +kernel
theorem allP_step (a b : Int32) (c : Int32) (h : a + 1 = b) : c + a + 1 = c + b := by grind
def sumP (s : St) (n : Int32) : Int32 := foldI (fun b a => a + s (8 + b)) 0 n
def sumSet (s : St) (m n : Int32) : Int32 := foldI (fun b a => a + (if bitv m b = 1 then s (8 + b) else 0)) 0 n
def emptyM (s : St) (n : Int32) : Int32 := foldI (fun b a => a ||| (if s (8 + b) = 0 then shl32 1 b else 0)) 0 n
def fishAtM (s : St) (w n : Int32) : Int32 := foldI (fun f a => a ||| (if bitv (s 7) f = 0 ∧ s (31 + f) = w then shl32 1 f else 0)) 0 n
theorem bt1 (s k : Int32) : bitv s k = 1 ↔ ¬ bitv s k = 0 := by
  rcases bitv_01 s k with h | h <;> rw [h] <;> decide
theorem likedX {s : St} {f i n p q : Int32} (ei : i = n) (he : s (26 + f) < 4 → (p, q) = foldI (likeF s f) ((-1000000 : Int32), (0 : Int32)) i) (hz : ¬ s (26 + f) < 4 → p = -1000000) : p = if s (26 + f) < 4 then (foldI (likeF s f) ((-1000000 : Int32), (0 : Int32)) n).1 else -1000000 := by
  subst ei
  by_cases h : s (26 + f) < 4
  · rw [if_pos h, ← he h]
  · rw [if_neg h]
    exact hz h
def qd (p : St) (i : Int32) : St := if rem32 (p 4) 4 = 3 then foldI pasteF p i else p
theorem qd_WF {p : St} (h : WF p) (i : Int32) (i0 : 0 ≤ i) (i1 : i ≤ p 0) : WF (qd p i) ∧ qd p i 0 = p 0 ∧ qd p i 1 = p 1 ∧ qd p i 4 = p 4 ∧ qd p i 6 = p 6 := by
  unfold qd
  split
  · exact pasteFs_WF h i i0 i1
  · exact ⟨h, rfl, rfl, rfl, rfl⟩
theorem qd_0 (p : St) : qd p 0 = p := by
  unfold qd
  split <;> rfl
theorem qd_s {p : St} {i : Int32} (i0 : 0 ≤ i) (i1 : i < p 0) (h : rem32 (p 4) 4 = 3) : qd p (i + 1) = pasteF i (qd p i) := by
  unfold qd
  rw [if_pos h, if_pos h, foldI_s _ _ i0 i1]
theorem qd_end {p : St} {i : Int32} (h : i = p 0 ∨ ¬ rem32 (p 4) 4 = 3) : qd p i = dampS p := by
  unfold qd dampS
  split
  · rename_i h3
    rcases h with rfl | h
    · rfl
    · exact absurd h3 h
  · rfl
theorem lt_of_inc {i j n : Int32} (hi : 0 ≤ i) (hn : i < n) (h : j < i + 1) (hne : j ≠ i) : j < i := by grind
theorem frm_1 {σ τ : Sg} {c k : Nat} {f : Int32 → Int32} (h : frm σ τ c [k]) : up τ c k f = up σ c k f := by
  funext a b
  unfold up
  split
  · rfl
  · rename_i hn
    exact h a b (fun e => hn ⟨e.1, by simpa using e.2⟩)
def gon (p : St × St) (n : Int32) : St × St := foldI (fun _ q => night q) p n
theorem gon_s {p : St × St} {i n : Int32} (h0 : 0 ≤ i) (h1 : i < n) : gon p (i + 1) = night (gon p i) := foldI_s _ _ h0 h1
theorem gonN_WF {p : St × St} (h : WF p.1) (k : Nat) : WF (foldN (fun _ q => night q) p k).1 ∧ (foldN (fun _ q => night q) p k).1 0 = p.1 0 ∧ (foldN (fun _ q => night q) p k).1 1 = p.1 1 := by
  induction k with
  | zero => exact ⟨h, rfl, rfl⟩
  | succ k ih =>
    have := night_WF ih.1
    exact ⟨this.1, this.2.1.trans ih.2.1, this.2.2.trans ih.2.2⟩
theorem gon_WF {p : St × St} (h : WF p.1) (i : Int32) : WF (gon p i).1 ∧ (gon p i).1 0 = p.1 0 ∧ (gon p i).1 1 = p.1 1 := gonN_WF h _
def WF0 (s : St) : Prop := 0 ≤ s 0 ∧ s 0 ≤ 6 ∧ 0 ≤ s 1 ∧ s 1 ≤ 5
theorem WF.z {s : St} (h : WF s) : WF0 s := ⟨le0_of h.1.1.1, h.1.1.2, h.1.2.1.1, h.1.2.1.2⟩
