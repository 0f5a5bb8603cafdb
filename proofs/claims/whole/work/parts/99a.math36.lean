/-- what agrees on the forty-one words of a library -/
def agr (x y : St) : Prop := ∀ t, t < 41 → x (nI t) = y (nI t)
theorem agr_s {x y : St} (h : agr x y) : agr y x := fun t ht => (h t ht).symm
theorem agr_i {x y : St} (h : agr x y) {A m : Nat} {b : Int32} (b0 : 0 ≤ b) (b1 : b < nI m) (hA : A + m ≤ 41) : x (nI A + b) = y (nI A + b) := by
  obtain ⟨t, ht, rfl⟩ := nI_of (Int32.not_lt.mpr b0)
  have tm := (nI_ltI ht (by omega)).mp b1
  rw [nI_add]
  exact h _ (by omega)
theorem agr_b {x y : St} (h : agr x y) : ∀ w, bkAt x w = bkAt y w := bk_congr (fun z z0 z6 => agr_i h (A := 20) (m := 6) z0 z6 (by omega))
theorem agr_L {F : Nat → St} {x y : St} (h : agr x y) (hW : WF0 y) (hL : LibF F y) : LibF F x := by
  obtain ⟨hf, hb, hg⟩ := hL
  have e0 : x 0 = y 0 := h 0 (by omega)
  have e1 : x 1 = y 1 := h 1 (by omega)
  refine ⟨⟨hf.1.trans e0.symm, hf.2.1.trans e1.symm, hf.2.2.1.trans (h 2 (by omega)).symm, hf.2.2.2.1.trans (h 3 (by omega)).symm, hf.2.2.2.2.1.trans (h 4 (by omega)).symm, hf.2.2.2.2.2.1.trans (h 5 (by omega)).symm, hf.2.2.2.2.2.2.1.trans (h 6 (by omega)).symm, hf.2.2.2.2.2.2.2.trans (h 7 (by omega)).symm⟩, fun b b0 b1 => ?_, fun f f0 f1 => ?_⟩
  · rw [e0] at b1
    have b6 : b < 6 := Int32.lt_of_lt_of_le b1 hW.2.1
    have q := hb b b0 b1
    rw [agr_b h, show x (8 + b) = y (8 + b) from agr_i h (A := 8) (m := 6) b0 b6 (by omega), show x (14 + b) = y (14 + b) from agr_i h (A := 14) (m := 6) b0 b6 (by omega), show x (20 + b) = y (20 + b) from agr_i h (A := 20) (m := 6) b0 b6 (by omega)]
    exact q
  · rw [e1] at f1
    have f5 : f < 5 := Int32.lt_of_lt_of_le f1 hW.2.2.2
    have q := hg f f0 f1
    rw [show x (26 + f) = y (26 + f) from agr_i h (A := 26) (m := 5) f0 f5 (by omega), show x (31 + f) = y (31 + f) from agr_i h (A := 31) (m := 5) f0 f5 (by omega), show x (36 + f) = y (36 + f) from agr_i h (A := 36) (m := 5) f0 f5 (by omega)]
    exact q
theorem agr_W {x y : St} (h : agr x y) (hW : WF y) : WF x := by
  have e0 : x 0 = y 0 := h 0 (by omega)
  have e1 : x 1 = y 1 := h 1 (by omega)
  obtain ⟨hn, hb, hp, hf⟩ := hW
  refine ⟨?_, fun b b0 b1 => ?_, fun p p0 p1 => ?_, fun f f0 f1 => ?_⟩
  · unfold wfN at hn ⊢
    rw [e0, e1, show x 2 = y 2 from h 2 (by omega), show x 3 = y 3 from h 3 (by omega), show x 5 = y 5 from h 5 (by omega), show x 6 = y 6 from h 6 (by omega), show x 7 = y 7 from h 7 (by omega)]
    exact hn
  · rw [e0] at b1 ⊢
    have b6 : b < 6 := Int32.lt_of_lt_of_le b1 hn.1.2
    rw [agr_b h, show x (8 + b) = y (8 + b) from agr_i h (A := 8) (m := 6) b0 b6 (by omega), show x (14 + b) = y (14 + b) from agr_i h (A := 14) (m := 6) b0 b6 (by omega), show x (20 + b) = y (20 + b) from agr_i h (A := 20) (m := 6) b0 b6 (by omega)]
    exact hb b b0 b1
  · rw [e0] at p1 ⊢
    have q := hp p p0 p1
    rw [agr_b h, show x (20 + bkAt y p) = y (20 + bkAt y p) from agr_i h (A := 20) (m := 6) q.1 (Int32.lt_of_lt_of_le q.2.1 hn.1.2) (by omega)]
    exact q
  · rw [e1] at f1
    have f5 : f < 5 := Int32.lt_of_lt_of_le f1 hn.2.1.2
    rw [e0, show x (26 + f) = y (26 + f) from agr_i h (A := 26) (m := 5) f0 f5 (by omega), show x (31 + f) = y (31 + f) from agr_i h (A := 31) (m := 5) f0 f5 (by omega), show x (36 + f) = y (36 + f) from agr_i h (A := 36) (m := 5) f0 f5 (by omega)]
    exact hf f f0 f1
theorem agr_O {x y : St} (h : agr x y) (hW : OK y) : OK x := ⟨agr_W h hW.1, by rw [show x 5 = y 5 from h 5 (by omega), show x 0 = y 0 from h 0 (by omega)]; exact hW.2⟩
/-- the ring of the class's acts holds the model's blocks -/
def AR (x y : Int32) (σ : Sg) (A : St) (m : Int32) : Prop := ∃ X M : Nat, X < 24 ∧ M ≤ 24 ∧ x = nI X ∧ y = nI M ∧ m = nI M ∧ ∀ a, a < M → LibF (σ (11 + (X + 24 - M + a) % 24)) (getB A (41 * nI a)) ∧ OK (getB A (41 * nI a))
theorem remF : ∀ x : Fin 24, rem32 (nI x.val + 1) 24 = nI ((x.val + 1) % 24) := by decide +kernel
theorem remG : ∀ x : Fin 24, rem32 (nI x.val + 24 - 1) 24 = nI ((x.val + 23) % 24) := by decide +kernel
theorem minF : ∀ x : Fin 25, (if 24 < nI x.val + 1 then 24 else nI x.val + 1) = nI (if x.val < 24 then x.val + 1 else 24) := by decide +kernel
theorem notF : ∀ x : Fin 25, noteM (nI x.val) = nI (if x.val < 24 then x.val + 1 else 24) := by decide +kernel
theorem ix41n (a t : Nat) : 41 * nI a + nI t = nI (41 * a + t) := by
  rw [show (41 : Int32) = nI 41 from rfl, pk_mul, nI_add]
theorem put_lo {A s : St} {M a : Nat} (h : a < M) (hM : M ≤ 24) : agr (getB (putB A s (41 * nI M)) (41 * nI a)) (getB A (41 * nI a)) := by
  intro t ht
  unfold getB putB
  rw [ix41n, show (41 : Int32) * nI M = nI (41 * M) by rw [show (41 : Int32) = nI 41 from rfl, pk_mul]]
  exact if_neg (fun q => by
    have := (nI_leI (by omega) (by omega)).mp q.1
    omega)
theorem put_eq {A s : St} {M : Nat} (hM : M ≤ 24) : agr (getB (putB A s (41 * nI M)) (41 * nI M)) s := by
  intro t ht
  unfold getB putB
  rw [ix41n, show (41 : Int32) * nI M = nI (41 * M) by rw [show (41 : Int32) = nI 41 from rfl, pk_mul]]
  rw [if_pos ⟨(nI_leI (by omega) (by omega)).mpr (by omega), by rw [show (41 : Int32) = nI 41 from rfl, nI_add]; exact (nI_ltI (by omega) (by omega)).mpr (by omega)⟩, ← nI_add, cancel_l]
theorem sh_at {A : St} {a : Nat} (h : a < 23) : agr (getB (shA A) (41 * nI a)) (getB A (41 * nI (a + 1))) := by
  intro t ht
  unfold getB shA
  rw [ix41n, ix41n, if_pos ⟨nI_pos' (by omega), (nI_ltI (b := 943) (by omega) (by decide)).mpr (by omega)⟩, show (41 : Int32) = nI 41 from rfl, nI_add, show 41 * a + t + 41 = 41 * (a + 1) + t by omega]
theorem agr_t {x y z : St} (h1 : agr x y) (h2 : agr y z) : agr x z := fun t ht => (h1 t ht).trans (h2 t ht)
theorem AR_note {σ τ : Sg} {d : Nat} {A s : St} {m : Int32} (h : AR (σ 3 0 1) (σ 3 0 2) σ A m) (hO : OK s) (hL : LibF (σ d) s) (q : Tk0 σ τ (11 + (σ 3 0 1).toNatClampNeg) d ∧ τ 3 0 1 = rem32 (σ 3 0 1 + 1) 24 ∧ τ 3 0 2 = (if 24 < σ 3 0 2 + 1 then 24 else σ 3 0 2 + 1) ∧ (∀ c k, c ≠ 3 → c ≠ 11 + (σ 3 0 1).toNatClampNeg → τ c k = σ c k)) : AR (τ 3 0 1) (τ 3 0 2) τ (noteA A s m) (noteM m) := by
  obtain ⟨X, M, hX, hM, e1, e2, e3, hb⟩ := h
  obtain ⟨q1, q2, q3, q4⟩ := q
  have cx : (σ 3 0 1).toNatClampNeg = X := by rw [e1]; exact nI_clamp (by omega)
  rw [cx] at q1 q4
  have fr : ∀ i, i < 24 → i ≠ X → τ (11 + i) = σ (11 + i) := fun i hi hx => funext (fun k => q4 (11 + i) k (by omega) (by omega))
  have LX := q1 s hO.1.z hL
  by_cases h24 : M < 24
  · refine ⟨(X + 1) % 24, M + 1, Nat.mod_lt _ (by omega), by omega, ?_, ?_, ?_, fun a ha => ?_⟩
    · rw [q2, e1]; exact remF ⟨X, hX⟩
    · rw [q3, e2]; have := minF ⟨M, by omega⟩; rw [if_pos h24] at this; exact this
    · rw [e3]; have := notF ⟨M, by omega⟩; rw [if_pos h24] at this; exact this
    · have en : noteA A s m = putB A s (41 * nI M) := by
        unfold noteA
        have hm : ¬ m = 24 := fun e => by rw [e3] at e; have := (nI_eq (b := 24) (by omega) (by decide)).mp e; omega
        rw [if_neg hm, if_neg hm, e3]
      rw [en]
      by_cases e : a = M
      · rw [e, show ((X + 1) % 24 + 24 - (M + 1) + M) % 24 = X by omega]
        have g := put_eq (A := A) (s := s) hM
        exact ⟨agr_L g hO.1.z LX, agr_O g hO⟩
      · have ea : ((X + 1) % 24 + 24 - (M + 1) + a) % 24 = (X + 24 - M + a) % 24 := by omega
        rw [ea, fr _ (Nat.mod_lt _ (by omega)) (by omega)]
        have o := hb a (by omega)
        have g := put_lo (A := A) (s := s) (show a < M by omega) hM
        exact ⟨agr_L g o.2.1.z o.1, agr_O g o.2⟩
  · have hM24 : M = 24 := by omega
    subst hM24
    refine ⟨(X + 1) % 24, 24, Nat.mod_lt _ (by omega), by omega, ?_, ?_, ?_, fun a ha => ?_⟩
    · rw [q2, e1]; exact remF ⟨X, hX⟩
    · rw [q3, e2]; exact minF ⟨24, by omega⟩
    · rw [e3]; exact notF ⟨24, by omega⟩
    · have en : noteA A s m = putB (shA A) s (41 * nI 23) := by
        unfold noteA
        have hm : m = 24 := e3
        rw [if_pos hm, if_pos hm]
        rfl
      rw [en]
      by_cases e : a = 23
      · rw [e, show ((X + 1) % 24 + 24 - 24 + 23) % 24 = X by omega]
        have g := put_eq (A := shA A) (s := s) (show 23 ≤ 24 by omega)
        exact ⟨agr_L g hO.1.z LX, agr_O g hO⟩
      · have ea : ((X + 1) % 24 + 24 - 24 + a) % 24 = (X + 24 - 24 + (a + 1)) % 24 := by omega
        rw [ea, fr _ (Nat.mod_lt _ (by omega)) (by omega)]
        have o := hb (a + 1) (by omega)
        have g := agr_t (put_lo (A := shA A) (s := s) (show a < 23 by omega) (by omega)) (sh_at (A := A) (show a < 23 by omega))
        exact ⟨agr_L g o.2.1.z o.1, agr_O g o.2⟩
theorem AR_cg {σ τ : Sg} {A : St} {m : Int32} (h : AR (σ 3 0 1) (σ 3 0 2) σ A m) (e3 : τ 3 0 = σ 3 0) (el : ∀ c, 11 ≤ c → c < 35 → τ c = σ c) : AR (τ 3 0 1) (τ 3 0 2) τ A m := by
  obtain ⟨X, M, hX, hM, e1, e2, e4, hb⟩ := h
  refine ⟨X, M, hX, hM, by rw [e3]; exact e1, by rw [e3]; exact e2, e4, fun a ha => ?_⟩
  have l : (X + 24 - M + a) % 24 < 24 := Nat.mod_lt _ (by omega)
  rw [el _ (by omega) (by omega)]
  exact hb a ha
theorem AR_rng {x y : Int32} {σ : Sg} {A : St} {m : Int32} (h : AR x y σ A m) : (0 ≤ x ∧ x < 24) ∧ (0 ≤ m ∧ m ≤ 24) ∧ y = m := by
  obtain ⟨X, M, hX, hM, e1, e2, e4, hb⟩ := h
  rw [e1, e4, e2]
  exact ⟨⟨nI_pos' (by omega), (nI_ltI (b := 24) (by omega) (by decide)).mpr hX⟩, ⟨nI_pos' (by omega), (nI_leI (b := 24) (by omega) (by decide)).mpr hM⟩, rfl⟩
theorem AR_back {σ τ : Sg} {A : St} {m : Int32} (h : AR (σ 3 0 1) (σ 3 0 2) σ A m) (hm : ¬ m = 0) (q : Tk0 σ τ 6 (11 + (rem32 (σ 3 0 1 + 24 - 1) 24).toNatClampNeg) ∧ τ 3 0 1 = rem32 (σ 3 0 1 + 24 - 1) 24 ∧ τ 3 0 2 = σ 3 0 2 - 1 ∧ (∀ c k, c ≠ 3 → c ≠ 6 → τ c k = σ c k)) : LibF (τ 6) (getB A (41 * (m - 1))) ∧ OK (getB A (41 * (m - 1))) ∧ AR (τ 3 0 1) (τ 3 0 2) τ A (m - 1) := by
  obtain ⟨X, M, hX, hM, e1, e2, e3, hb⟩ := h
  obtain ⟨q1, q2, q3, q4⟩ := q
  have g := remG ⟨X, hX⟩
  rw [e1] at q1 q2
  rw [g] at q1 q2
  have l : (X + 23) % 24 < 24 := Nat.mod_lt _ (by omega)
  rw [nI_clamp (by omega)] at q1
  obtain ⟨k, rfl⟩ : ∃ k, M = k + 1 := ⟨M - 1, by
    have : M ≠ 0 := fun e => hm (by rw [e3, e]; rfl)
    omega⟩
  have em : m - 1 = nI k := by rw [e3]; exact nI_pred k
  have o := hb k (by omega)
  rw [show (X + 24 - (k + 1) + k) % 24 = (X + 23) % 24 by omega] at o
  rw [em]
  refine ⟨q1 _ o.2.1.z o.1, o.2, (X + 23) % 24, k, l, by omega, q2, by rw [q3, e2]; exact nI_pred k, rfl, fun a ha => ?_⟩
  have w := hb a (by omega)
  have ea : ((X + 23) % 24 + 24 - k + a) % 24 = (X + 24 - (k + 1) + a) % 24 := by omega
  have l2 : (X + 24 - (k + 1) + a) % 24 < 24 := Nat.mod_lt _ (by omega)
  rw [ea, show τ (11 + (X + 24 - (k + 1) + a) % 24) = σ (11 + (X + 24 - (k + 1) + a) % 24) from funext (fun j => q4 _ j (by omega) (by omega))]
  exact w
def frA (σ τ : Sg) : Prop := ∀ c k, c ≠ 3 → c ≠ 6 → ¬ (11 ≤ c ∧ c < 35) → τ c k = σ c k
def actC (A : St) (m : Int32) (s : St) (σ τ : Sg) (s' : St) : Prop := LibF (τ 6) s' ∧ AR (τ 3 0 1) (τ 3 0 2) τ (noteA A s m) (noteM m) ∧ frA σ τ
theorem act_fin {σ υ τ : Sg} {A s s' : St} {m : Int32} (h : AR (σ 3 0 1) (σ 3 0 2) σ A m) (hO : OK s) (hL : LibF (σ 6) s) (q : Tk0 σ υ (11 + (σ 3 0 1).toNatClampNeg) 6 ∧ υ 3 0 1 = rem32 (σ 3 0 1 + 1) 24 ∧ υ 3 0 2 = (if 24 < σ 3 0 2 + 1 then 24 else σ 3 0 2 + 1) ∧ (∀ c k, c ≠ 3 → c ≠ 11 + (σ 3 0 1).toNatClampNeg → υ c k = σ c k)) (hf : ∀ c k, c ≠ 6 → τ c k = υ c k) (hL' : LibF (τ 6) s') : actC A m s σ τ s' := by
  have r := AR_rng h
  have a := AR_note h hO hL q
  have sl := sl_lib r.1.1 r.1.2
  refine ⟨hL', AR_cg a (hf 3 0 (by decide)) (fun c c1 c2 => funext (fun k => hf c k (by omega))), fun c k h3 h6 h11 => ?_⟩
  rw [hf c k h6]
  exact q.2.2.2 c k h3 (fun e => h11 (by have := (i_ok (n := 24) r.1.1 r.1.2 rfl (by decide)).1; omega))
theorem act_L {σ υ : Sg} {s : St} (r : 0 ≤ σ 3 0 1 ∧ σ 3 0 1 < 24) (q : ∀ c k, c ≠ 3 → c ≠ 11 + (σ 3 0 1).toNatClampNeg → υ c k = σ c k) (hL : LibF (σ 6) s) : LibF (υ 6) s := by
  rw [show υ 6 = σ 6 from funext (fun k => q 6 k (by decide) (by omega))]
  exact hL
