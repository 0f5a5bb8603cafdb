theorem put_fin {F0 F : Nat → St} {s : St} {N : Nat} {l : List Nat} (hW : WF s) (n6 : N ≤ 6) (hn : s 0 = nI N) (hp : perm N l = true) (h0 : LibF F0 s) (hk : ∀ k, k ≠ 3 → k ≠ 4 → F k = F0 k) (h3 : ∀ b, 0 ≤ b → b < s 0 → F 3 b = plcN l s N (20 + b)) (h4 : ∀ i, i < N → F 4 (nI i) = nI (gt l i)) : LibF F (plc s l) := by
  have p := perm_spec hp
  have wp := WF_plc hW n6 hn hp
  have gx : ∀ i, i < l.length → 0 ≤ nI (gt l i) ∧ nI (gt l i) < nI 6 := fun i hi => by
    have := p.2.1 i (by omega)
    exact ⟨nI_pos' (by omega), (nI_ltI (by omega) (by omega)).mpr (by omega)⟩
  have cc : ∀ k, k < 8 → plc s l (nI k) = s (nI k) := fun k hk => plcN_ne _ (fun i hi => (ix_c 20 6 k (gx i hi).1 (gx i hi).2 (by omega) (by omega)).symm)
  have sh : ∀ (A m : Nat) (b : Int32), 0 ≤ b → b < nI m → (A + m ≤ 20 ∨ 26 ≤ A) → A + m < 1000 → plc s l (nI A + b) = s (nI A + b) := fun A m b b0 b1 hA hs =>
    plcN_ne _ (fun i hi => ix_ne A 20 m 6 b0 b1 (gx i hi).1 (gx i hi).2 (by omega) (by omega))
  have e1 : plc s l 1 = s 1 := cc 1 (by omega)
  refine ⟨?_, ?_, ?_⟩
  · rw [hk 0 (by decide) (by decide), show plc s l 0 = s 0 from cc 0 (by omega), e1, show plc s l 2 = s 2 from cc 2 (by omega), show plc s l 3 = s 3 from cc 3 (by omega), show plc s l 4 = s 4 from cc 4 (by omega), show plc s l 5 = s 5 from cc 5 (by omega), show plc s l 6 = s 6 from cc 6 (by omega), show plc s l 7 = s 7 from cc 7 (by omega)]
    exact h0.1
  · intro b b0 b1
    rw [wp.2] at b1
    have q := h0.2.1 b b0 b1
    have b6 := hW.b6 b1
    rw [hk 1 (by decide) (by decide), hk 2 (by decide) (by decide), h3 b b0 b1, show plc s l (8 + b) = s (8 + b) from sh 8 6 b b0 b6 (by omega) (by omega), show plc s l (14 + b) = s (14 + b) from sh 14 6 b b0 b6 (by omega) (by omega)]
    refine ⟨q.1, q.2.1, by unfold plc; rw [p.1], ?_⟩
    obtain ⟨x, hx, rfl⟩ := nI_of (Int32.not_lt.mpr b0)
    rw [hn] at b1
    have xn := (nI_ltI hx (by omega)).mp b1
    have a := p.2.1 x xn
    have w := (wp.1.2.1 (nI (gt l x)) (nI_pos' (by omega)) (by rw [wp.2, hn]; exact (nI_ltI (by omega) (by omega)).mpr a)).2.2.2
    rw [show plc s l (20 + nI (gt l x)) = nI x from plcN_at hp n6 _ (by omega) (by omega)] at w
    rw [h4 x xn, w]
  · intro f f0 f1
    rw [e1] at f1
    have f5 := hW.f5 f1
    rw [hk 5 (by decide) (by decide), hk 6 (by decide) (by decide), hk 7 (by decide) (by decide), show plc s l (26 + f) = s (26 + f) from sh 26 5 f f0 f5 (by omega) (by omega), show plc s l (31 + f) = s (31 + f) from sh 31 5 f f0 f5 (by omega) (by omega), show plc s l (36 + f) = s (36 + f) from sh 36 5 f f0 f5 (by omega) (by omega)]
    exact h0.2.2 f f0 f1
theorem chkG : ∀ n : Fin 6, chk 720 (n.val + 1) (List.range (n.val + 1)) = true := by decide +kernel
theorem chk_M {N : Nat} (h1 : 1 ≤ N) (h6 : N ≤ 6) : chk 720 N (List.range N) = true := by
  obtain ⟨k, rfl⟩ : ∃ k, N = k + 1 := ⟨N - 1, by omega⟩
  exact chkG ⟨k, by omega⟩
/-- what stands outside of what is foretold -/
def fr2 (σ τ : Sg) : Prop := ∀ c k, c ≠ 10 → c ≠ 5 → τ c k = σ c k
theorem fr2_r (σ : Sg) : fr2 σ σ := fun _ _ _ _ => rfl
theorem fr2_t {σ τ υ : Sg} (h1 : fr2 σ τ) (h2 : fr2 τ υ) : fr2 σ υ := fun c k a b => (h2 c k a b).trans (h1 c k a b)
theorem fr2_10 {σ τ : Sg} {ks : List Nat} (h : frm σ τ 10 ks) : fr2 σ τ := fun c k a _ => h c k (fun e => a e.1)
theorem fr2_5 {σ τ : Sg} {ks : List Nat} (h : frm σ τ 5 ks) : fr2 σ τ := fun c k _ b => h c k (fun e => b e.1)
theorem min6 {x : Int32} (h : x ≤ 6) : (if (6 : Int32) < x then 6 else x) = x := if_neg (Int32.not_lt.mpr h)
theorem cpy_isL {L B : St} {l : List Nat} (h : isL L l) (h6 : l.length ≤ 6) : isL (blkS B (fun t => L (0 + t)) 0 6) l := by
  intro k hk
  unfold blkS
  rw [if_pos ⟨nI_pos' (by omega), by rw [show (0 : Int32) + 6 = nI 6 from rfl]; exact (nI_ltI (by omega) (by omega)).mpr (by omega)⟩]
  show L (0 + (nI k - 0)) = _
  rw [show (0 : Int32) + (nI k - 0) = nI k by grind]
  exact h k hk
theorem plcN_rng (l : List Nat) (s : St) (k N : Nat) (h : N ≤ k) : min (k + 1) N = min k N := by omega
