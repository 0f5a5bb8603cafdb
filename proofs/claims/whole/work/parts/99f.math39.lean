/-! what the class holds beside what the model holds -/
def RF (σ : Sg) : Prop := σ 0 0 9 = σ 40 0 3
def RR (σ : Sg) : Prop := (∀ w, 0 ≤ w → w < 8 → (σ 1 1 w = -1 ∧ σ 40 2 w = -1) ∨ (¬ σ 1 1 w = -1 ∧ σ 1 1 w = σ 40 1 w ∧ σ 1 2 w = σ 40 2 w ∧ 0 ≤ σ 40 2 w ∧ σ 40 2 w ≤ 40)) ∧ σ 1 3 = σ 40 3
def RTp (σ : Sg) : Prop := ∃ N : Nat, N ≤ 120 ∧ σ 2 0 1 = nI N ∧ σ 40 0 8 = nI N ∧ σ 2 1 = σ 40 6 ∧ (∀ k, k < N → 0 ≤ σ 40 6 (nI k)) ∧ σ 2 0 2 = σ 40 0 9
def RLb (σ : Sg) : Prop := SO (σ 40 0 4) (σ 40 4) ∧ LibF (σ 6) (σ 40 4) ∧ (σ 40 0 4 = 0 → σ 40 0 18 = 0 ∧ σ 40 13 0 = 0 ∧ σ 40 13 1 = 0)
def RA (σ : Sg) : Prop := AR (σ 3 0 1) (σ 3 0 2) σ (σ 40 9) (σ 40 0 18)
def RIm (σ : Sg) (c : Nat) (k : Int32) : Prop := (σ 40 13 k = 0 ∧ ¬ 0 < σ c 0 0) ∨ (σ 40 13 k = 1 ∧ LibF (σ c) (getB (σ 40 14) (41 * k)) ∧ OK (getB (σ 40 14) (41 * k)))
def RB (σ : Sg) : Prop := (0 ≤ σ 40 0 25 ∧ σ 40 0 25 ≤ 16) ∧ σ 4 0 1 = σ 40 0 25 ∧ ∀ j, 0 ≤ j → j < σ 40 0 25 → σ 4 1 j = σ 40 15 j
def Rel (σ : Sg) : Prop := RF σ ∧ RR σ ∧ RTp σ ∧ RLb σ ∧ RA σ ∧ RIm σ 8 0 ∧ RIm σ 9 1 ∧ RB σ
theorem RF_cg {σ τ : Sg} (h : RF σ) (a : τ 0 0 9 = σ 0 0 9) (b : τ 40 0 3 = σ 40 0 3) : RF τ := by
  unfold RF at h ⊢
  rw [a, b]
  exact h
theorem RR_cg {σ τ : Sg} (h : RR σ) (a : τ 1 1 = σ 1 1) (b : τ 1 2 = σ 1 2) (c : τ 1 3 = σ 1 3) (d : τ 40 1 = σ 40 1) (e : τ 40 2 = σ 40 2) (f : τ 40 3 = σ 40 3) : RR τ := by
  unfold RR at h ⊢
  rw [a, b, c, d, e, f]
  exact h
theorem RT_cg {σ τ : Sg} (h : RTp σ) (a : τ 2 0 = σ 2 0) (b : τ 2 1 = σ 2 1) (c : τ 40 0 8 = σ 40 0 8) (d : τ 40 6 = σ 40 6) (e : τ 40 0 9 = σ 40 0 9) : RTp τ := by
  unfold RTp at h ⊢
  rw [a, b, c, d, e]
  exact h
theorem RL_cg {σ τ : Sg} (h : RLb σ) (a : τ 6 = σ 6) (b : τ 40 0 4 = σ 40 0 4) (c : τ 40 4 = σ 40 4) (d : τ 40 0 18 = σ 40 0 18) (e : τ 40 13 = σ 40 13) : RLb τ := by
  unfold RLb at h ⊢
  rw [a, b, c, d, e]
  exact h
theorem RA_cg {σ τ : Sg} (h : RA σ) (a : τ 3 0 = σ 3 0) (b : ∀ c, 11 ≤ c → c < 35 → τ c = σ c) (c : τ 40 9 = σ 40 9) (d : τ 40 0 18 = σ 40 0 18) : RA τ := by
  unfold RA at h ⊢
  rw [c, d]
  exact AR_cg h a b
theorem RI_cg {σ τ : Sg} {c : Nat} {k : Int32} (h : RIm σ c k) (a : τ c = σ c) (b : τ 40 13 = σ 40 13) (d : τ 40 14 = σ 40 14) : RIm τ c k := by
  unfold RIm at h ⊢
  rw [a, b, d]
  exact h
theorem RB_cg {σ τ : Sg} (h : RB σ) (a : τ 4 0 = σ 4 0) (b : τ 4 1 = σ 4 1) (c : τ 40 0 25 = σ 40 0 25) (d : τ 40 15 = σ 40 15) : RB τ := by
  unfold RB at h ⊢
  rw [a, b, c, d]
  exact h
/-- what no later answer depends on -/
def irr (c k : Nat) : Bool := c == 5 || c == 10 || c == 7 || (c == 1 && k == 0) || (c == 40 && (k == 5 || k == 7 || k == 8 || k == 10 || k == 11 || k == 12))
def frG (σ τ : Sg) (ps : List (Nat × Nat)) : Prop := ∀ c k, irr c k = false → (c, k) ∉ ps → τ c k = σ c k
theorem frG_r (σ : Sg) (ps : List (Nat × Nat)) : frG σ σ ps := fun _ _ _ _ => rfl
theorem frG_t {σ τ υ : Sg} {ps qs : List (Nat × Nat)} (h1 : frG σ τ ps) (h2 : frG τ υ qs) : frG σ υ (ps ++ qs) := fun c k a b => (h2 c k a (fun e => b (List.mem_append.mpr (Or.inr e)))).trans (h1 c k a (fun e => b (List.mem_append.mpr (Or.inl e))))
theorem frG_2 {σ τ : Sg} (h : fr2 σ τ) (ps : List (Nat × Nat)) : frG σ τ ps := fun c k a _ => h c k (fun e => by subst e; simp [irr] at a) (fun e => by subst e; simp [irr] at a)
theorem frG_W {σ τ : Sg} (h : frW σ τ) : frG σ τ [(0, 0)] := fun c k a b => h c k (fun e => by subst e; simp [irr] at a) (fun e => by subst e; simp [irr] at a) (fun e => by obtain ⟨rfl, rfl⟩ := e; simp [irr] at a) (fun e => b (by rw [e.1, e.2]; decide))
theorem frG_s {σ τ : Sg} {ps : List (Nat × Nat)} (h : frs σ τ ps) : frG σ τ ps := fun c k _ b => h c k b
theorem frG_f {σ τ : Sg} {c : Nat} {ks : List Nat} {ps : List (Nat × Nat)} (h : frm σ τ c ks) (hk : ∀ k ∈ ks, irr c k = true ∨ (c, k) ∈ ps) : frG σ τ ps := fun a b i hn => h a b (fun e => by
  rcases hk b e.2 with q | q
  · rw [e.1, q] at i; exact absurd i (by decide)
  · exact hn (by rw [e.1]; exact q))
theorem frG_u {σ : Sg} {c k : Nat} {f : St} {ps : List (Nat × Nat)} (h : (c, k) ∈ ps) : frG σ (up σ c k f) ps := fun a b _ hn => up_ne _ _ (fun e => hn (by rw [e.1, e.2]; exact h))
theorem frG_l {σ τ : Sg} {ps : List (Nat × Nat)} (h : frG σ τ ps) {c : Nat} (hc : (c == 5 || c == 10 || c == 7 || c == 1 || c == 40) = false) (hp : ps.all (fun q => q.1 != c) = true) : τ c = σ c := funext (fun k => h c k (by
  simp only [Bool.or_eq_false_iff, beq_eq_false_iff_ne] at hc
  simp [irr, hc]) (fun e => by
  have := (List.all_eq_true.mp hp) _ e
  simp at this))
theorem frG_m {σ τ : Sg} {ps : List (Nat × Nat)} (h : frG σ τ ps) (hp : ps.all (fun q => decide (q.1 < 11) || decide (35 ≤ q.1)) = true) : ∀ c, 11 ≤ c → c < 35 → τ c = σ c := fun c c1 c2 => funext (fun k => h c k (by
  have a1 : (c == 5) = false := by rw [beq_eq_false_iff_ne]; omega
  have a2 : (c == 10) = false := by rw [beq_eq_false_iff_ne]; omega
  have a3 : (c == 7) = false := by rw [beq_eq_false_iff_ne]; omega
  have a4 : (c == 1) = false := by rw [beq_eq_false_iff_ne]; omega
  have a5 : (c == 40) = false := by rw [beq_eq_false_iff_ne]; omega
  simp [irr, a1, a2, a3, a4, a5]) (fun e => by
  have := (List.all_eq_true.mp hp) _ e
  simp at this
  omega))
theorem rel_same {σ τ : Sg} (hR : Rel σ) (h : frG σ τ []) : Rel τ := by
  obtain ⟨a, b, c, d, e, f, g, i⟩ := hR
  have z : ∀ c k, irr c k = false → τ c k = σ c k := fun c k hi => h c k hi (by simp)
  have e40 := z 40 0 rfl
  exact ⟨RF_cg a (by rw [z 0 0 rfl]) (by rw [e40]), RR_cg b (z 1 1 rfl) (z 1 2 rfl) (z 1 3 rfl) (z 40 1 rfl) (z 40 2 rfl) (z 40 3 rfl), RT_cg c (z 2 0 rfl) (z 2 1 rfl) (by rw [e40]) (z 40 6 rfl) (by rw [e40]), RL_cg d (frG_l h rfl rfl) (by rw [e40]) (z 40 4 rfl) (by rw [e40]) (z 40 13 rfl),
    RA_cg e (z 3 0 rfl) (frG_m h rfl) (z 40 9 rfl) (by rw [e40]), RI_cg f (frG_l h rfl rfl) (z 40 13 rfl) (z 40 14 rfl), RI_cg g (frG_l h rfl rfl) (z 40 13 rfl) (z 40 14 rfl), RB_cg i (z 4 0 rfl) (z 4 1 rfl) (by rw [e40]) (z 40 15 rfl)⟩
theorem Rel.S {σ : Sg} (h : Rel σ) : SO (σ 40 0 4) (σ 40 4) := h.2.2.2.1.1
theorem Rel.L {σ : Sg} (h : Rel σ) : LibF (σ 6) (σ 40 4) := h.2.2.2.1.2.1
theorem Rel.A {σ : Sg} (h : Rel σ) : AR (σ 3 0 1) (σ 3 0 2) σ (σ 40 9) (σ 40 0 18) := h.2.2.2.2.1
theorem Rel.B {σ : Sg} (h : Rel σ) : RowB (σ 1 1) (σ 1 2) := fun w w0 w8 hw => by
  rcases h.2.1.1 w w0 w8 with q | q
  · exact absurd q.1 hw
  · rw [q.2.2.1]; exact q.2.2.2
theorem Rel.W {σ : Sg} (h : Rel σ) : RW (σ 40 2) := fun w w0 w8 => by
  rcases h.2.1.1 w w0 (le7 w8) with q | q
  · rw [q.2]; exact ⟨by decide, by decide⟩
  · exact ⟨Int32.le_trans (by decide) q.2.2.2.1, q.2.2.2.2⟩
theorem Rel.m {σ : Sg} (h : Rel σ) : 0 ≤ σ 40 0 18 ∧ σ 40 0 18 ≤ 24 := (AR_rng h.A).2.1
theorem Rel.T {σ : Sg} (h : Rel σ) : 0 ≤ σ 40 0 25 ∧ σ 40 0 25 ≤ 16 := h.2.2.2.2.2.2.2.1
