theorem bit_o {o : Int32} (h : inR 0 o 1) : (if o = 1 then (1 : Int32) else 0) = o := by
  by_cases e : o = 1
  · rw [if_pos e, e]
  · rw [if_neg e, w_01 h e]
theorem k_01 {k : Int32} (h : inR 0 k 1) : k = 0 ∨ k = 1 := by
  by_cases e : k = 1
  · exact Or.inr e
  · exact Or.inl (w_01 h e)
theorem bpos {t : Int32} {s : St} (h : SO t s) {b : Int32} (hb : isB s b) : 0 < s 0 := Int32.lt_of_le_of_lt hb.1 (h.w.b hb).2.1
theorem fpos {t : Int32} {s : St} (h : SO t s) {f : Int32} (hf : isF s f) : 0 < s 0 := Int32.lt_of_lt_of_le (by decide) (h.w.f hf).1.1.1.1
theorem act_rel {σ τ υ : Sg} {s' A' : St} {m' : Int32} (hR : Rel σ) (a2 : LibF (τ 6) s') (a3 : OK s') (a4 : AR (τ 3 0 1) (τ 3 0 2) τ A' m') (a5 : frA σ τ) (b2 : υ 40 4 = s') (b3 : υ 40 9 = A') (b4 : υ 40 0 = upI (σ 40 0) 18 m') (b6 : frm τ υ 40 [0, 4, 8, 9]) (c0 : ¬ σ 40 0 4 = 0) : Rel υ := by
  have u : ∀ c k, c ≠ 40 → υ c k = τ c k := fun c k hc => b6 c k (fun e => hc e.1)
  have t : ∀ c k, c ≠ 3 → c ≠ 6 → ¬ (11 ≤ c ∧ c < 35) → c ≠ 40 → υ c k = σ c k := fun c k x y z w => (u c k w).trans (a5 c k x y z)
  have t40 : ∀ k, k ≠ 0 → k ≠ 4 → k ≠ 8 → k ≠ 9 → υ 40 k = σ 40 k := fun k x y z w => (b6 40 k (by simp [x, y, z, w])).trans (a5 40 k (by decide) (by decide) (by omega))
  have m : ∀ i, i ≠ 18 → υ 40 0 i = σ 40 0 i := fun i hi => by rw [b4, upI_ne _ _ hi]
  have lib : ∀ c, c ≠ 3 → c ≠ 6 → ¬ (11 ≤ c ∧ c < 35) → c ≠ 40 → υ c = σ c := fun c x y z w => funext (fun k => t c k x y z w)
  obtain ⟨x1, x2, x3, x4, x5, x6, x7, x8⟩ := hR
  refine ⟨RF_cg x1 (by rw [t 0 0 (by decide) (by decide) (by omega) (by decide)]) (m 3 (by decide)), RR_cg x2 (t 1 1 (by decide) (by decide) (by omega) (by decide)) (t 1 2 (by decide) (by decide) (by omega) (by decide)) (t 1 3 (by decide) (by decide) (by omega) (by decide)) (t40 1 (by decide) (by decide) (by decide) (by decide)) (t40 2 (by decide) (by decide) (by decide) (by decide)) (t40 3 (by decide) (by decide) (by decide) (by decide)),
    RT_cg x3 (t 2 0 (by decide) (by decide) (by omega) (by decide)) (t 2 1 (by decide) (by decide) (by omega) (by decide)) (m 8 (by decide)) (t40 6 (by decide) (by decide) (by decide) (by decide)) (m 9 (by decide)), ⟨?_, ?_, ?_⟩, ?_, RI_cg x6 (lib 8 (by decide) (by decide) (by omega) (by decide)) (t40 13 (by decide) (by decide) (by decide) (by decide)) (t40 14 (by decide) (by decide) (by decide) (by decide)), RI_cg x7 (lib 9 (by decide) (by decide) (by omega) (by decide)) (t40 13 (by decide) (by decide) (by decide) (by decide)) (t40 14 (by decide) (by decide) (by decide) (by decide)),
    RB_cg x8 (t 4 0 (by decide) (by decide) (by omega) (by decide)) (t 4 1 (by decide) (by decide) (by omega) (by decide)) (m 25 (by decide)) (t40 15 (by decide) (by decide) (by decide) (by decide))⟩
  · rw [m 4 (by decide), b2]
    rcases x4.1 with e | e
    · exact absurd e.1 c0
    · exact Or.inr ⟨e.1, a3⟩
  · rw [show υ 6 = τ 6 from funext (fun k => u 6 k (by decide)), b2]
    exact a2
  · rw [m 4 (by decide)]
    exact fun e => absurd e c0
  · unfold RA
    rw [b3, b4, upI_same]
    exact AR_cg a4 (u 3 0 (by decide)) (fun c c1 c2 => funext (fun k => u c k (by omega)))
theorem act_go {σ τ υ : Sg} {s' : St} (hR : Rel σ) (g : actC (σ 40 9) (σ 40 0 18) (σ 40 4) σ τ s') (g' : actE τ υ s') (hO : OK s') (hp : 0 < σ 40 4 0) : Rel υ := by
  obtain ⟨a2, a4, a5⟩ := g
  obtain ⟨b2, b3, b4, b5⟩ := g'
  have t4 : τ 40 = σ 40 := funext (fun k => a5 40 k (by decide) (by decide) (by omega))
  rw [t4] at b3 b4
  exact act_rel hR a2 hO a4 a5 b2 b4 b3 (frm_mono b5 (by decide)) ((so_told hR.S).mp hp)
/-- the traces after the same numbers were left -/
def TrR (A B : Sg) : Prop := A 4 0 1 = B 40 0 25 ∧ (0 ≤ B 40 0 25 ∧ B 40 0 25 ≤ 16) ∧ ∀ j, 0 ≤ j → j < B 40 0 25 → A 4 1 j = B 40 15 j
theorem tr_1 {A B : Sg} (h : TrR A B) (b : Int32) : TrR (lev A b) (bgn B b) := by
  obtain ⟨h1, h2, h3⟩ := h
  unfold lev bgn
  rw [h1]
  by_cases e : B 40 0 25 < 16
  · rw [if_pos ⟨Int32.not_lt.mpr h2.1, e⟩, if_pos e]
    have i := inc_lt h2.1 e
    refine ⟨?_, ?_, fun j j0 j1 => ?_⟩
    · rw [up_same, upI_same, up_same, upI_same]
    · rw [up_same, upI_same]; exact ⟨i.1, i.2.1⟩
    · rw [up_same, upI_same] at j1
      rw [up_ne _ _ (by decide), up_same, up_ne _ _ (by decide), up_same]
      by_cases q : j = B 40 0 25
      · rw [q, upI_same, upI_same]
      · rw [upI_ne _ _ q, upI_ne _ _ q]
        exact h3 j j0 (lt_of_inc h2.1 e j1 q)
  · rw [if_neg (fun q => e q.2), if_neg e]
    exact ⟨h1, h2, h3⟩
theorem tr_l {l : List Int32} : ∀ {A B : Sg}, TrR A B → TrR (levs A l) (bgs B l) := by
  unfold levs bgs
  induction l with
  | nil => exact fun h => h
  | cons a l ih => exact fun h => ih (tr_1 h a)
theorem bgn_fr (B : Sg) (b : Int32) : (∀ c k, ¬ (c = 40 ∧ (k = 0 ∨ k = 15)) → bgn B b c k = B c k) ∧ (∀ i, i ≠ 25 → bgn B b 40 0 i = B 40 0 i) := by
  unfold bgn
  split
  · refine ⟨fun c k h => ?_, fun i hi => ?_⟩
    · rw [up_ne _ _ (fun e => h ⟨e.1, Or.inl e.2⟩), up_ne _ _ (fun e => h ⟨e.1, Or.inr e.2⟩)]
    · rw [up_same, upI_ne _ _ hi]
  · exact ⟨fun _ _ _ => rfl, fun _ _ => rfl⟩
theorem bgs_fr (l : List Int32) : ∀ B : Sg, (∀ c k, ¬ (c = 40 ∧ (k = 0 ∨ k = 15)) → bgs B l c k = B c k) ∧ (∀ i, i ≠ 25 → bgs B l 40 0 i = B 40 0 i) := by
  unfold bgs
  induction l with
  | nil => exact fun B => ⟨fun _ _ _ => rfl, fun _ _ => rfl⟩
  | cons a l ih =>
    intro B
    have q := ih (bgn B a)
    have p := bgn_fr B a
    exact ⟨fun c k h => (q.1 c k h).trans (p.1 c k h), fun i hi => (q.2 i hi).trans (p.2 i hi)⟩
theorem lev_fr (l : List Int32) (A : Sg) : ∀ c k, c ≠ 4 → levs A l c k = A c k := fun c k hc => frm_lev (l := l) (frm_refl A 4 [0, 1]) c k (fun e => hc e.1)
theorem ask_t4 (σ : Sg) (f k p d : Int32) (l : List Int32) : levs (bgC σ f k p d) l 40 4 = σ 40 4 := by
  rw [lev_fr _ _ _ _ (by decide)]
  unfold bgC
  rw [up_ne _ _ (by decide)]
theorem ask_go {σ τ υ : Sg} {f k p d : Int32} {l : List Int32} (hR : Rel σ) (e : τ = levs (bgC σ f k p d) l) (e' : υ = bgs (up τ 40 0 (upI (τ 40 0) 25 0)) l) : Rel υ := by
  have t : ∀ c k', c ≠ 4 → τ c k' = σ c k' := fun c k' hc => by
    rw [e, lev_fr _ _ _ _ hc]
    unfold bgC
    rw [up_ne _ _ (fun z => hc z.1)]
  have q := bgs_fr l (up τ 40 0 (upI (τ 40 0) 25 0))
  rw [← e'] at q
  have tr0 : TrR (bgC σ f k p d) (up τ 40 0 (upI (τ 40 0) 25 0)) := by
    refine ⟨?_, ?_, fun j j0 j1 => ?_⟩
    · rw [(bgC_f σ f k p d).2.2.2.2, up_same, upI_same]
    · rw [up_same, upI_same]; exact ⟨by decide, by decide⟩
    · rw [up_same, upI_same] at j1
      exact absurd (Int32.lt_of_le_of_lt j0 j1) (by decide)
  have tr := tr_l (l := l) tr0
  rw [← e, ← e'] at tr
  have u : ∀ c k', c ≠ 40 → υ c k' = τ c k' := fun c k' hc => by rw [q.1 c k' (fun z => hc z.1), up_ne _ _ (fun z => hc z.1)]
  have t' : ∀ c k', c ≠ 4 → ¬ (c = 40 ∧ (k' = 0 ∨ k' = 15)) → υ c k' = σ c k' := fun c k' h4 hn => by
    rw [q.1 c k' hn, up_ne _ _ (fun z => hn ⟨z.1, Or.inl z.2⟩)]
    exact t c k' h4
  have m : ∀ i, i ≠ 25 → υ 40 0 i = σ 40 0 i := fun i hi => by
    rw [q.2 i hi, up_same, upI_ne _ _ hi, t 40 0 (by decide)]
  have lib : ∀ c, c ≠ 4 → c ≠ 40 → υ c = σ c := fun c x y => funext (fun j => t' c j x (fun z => y z.1))
  obtain ⟨x1, x2, x3, x4, x5, x6, x7, x8⟩ := hR
  have g : ∀ c k', c ≠ 4 → c ≠ 40 → υ c k' = σ c k' := fun c k' x y => by rw [lib c x y]
  have g40 : ∀ k', k' ≠ 0 → k' ≠ 15 → υ 40 k' = σ 40 k' := fun k' x y => t' 40 k' (by decide) (fun z => z.2.elim x y)
  refine ⟨RF_cg x1 (by rw [g 0 0 (by decide) (by decide)]) (m 3 (by decide)), RR_cg x2 (g 1 1 (by decide) (by decide)) (g 1 2 (by decide) (by decide)) (g 1 3 (by decide) (by decide)) (g40 1 (by decide) (by decide)) (g40 2 (by decide) (by decide)) (g40 3 (by decide) (by decide)), RT_cg x3 (g 2 0 (by decide) (by decide)) (g 2 1 (by decide) (by decide)) (m 8 (by decide)) (g40 6 (by decide) (by decide)) (m 9 (by decide)),
    RL_cg x4 (lib 6 (by decide) (by decide)) (m 4 (by decide)) (g40 4 (by decide) (by decide)) (m 18 (by decide)) (g40 13 (by decide) (by decide)), RA_cg x5 (g 3 0 (by decide) (by decide)) (fun c c1 c2 => lib c (by omega) (by omega)) (g40 9 (by decide) (by decide)) (m 18 (by decide)), RI_cg x6 (lib 8 (by decide) (by decide)) (g40 13 (by decide) (by decide)) (g40 14 (by decide) (by decide)), RI_cg x7 (lib 9 (by decide) (by decide)) (g40 13 (by decide) (by decide)) (g40 14 (by decide) (by decide)), tr.2.1, ?_, fun j j0 j1 => ?_⟩
  · rw [u 4 0 (by decide)]; exact tr.1
  · rw [u 4 1 (by decide)]; exact tr.2.2 j j0 j1
theorem k_15 {k : Int32} (h1 : 1 ≤ k) (h5 : k ≤ 5) : k = 1 ∨ k = 2 ∨ k = 3 ∨ k = 4 ∨ k = 5 := by
  obtain ⟨n, hn, rfl⟩ := nI_of (Int32.not_lt.mpr (Int32.le_trans (by decide) h1))
  have a := (nI_leI (a := 1) (by decide) hn).mp h1
  have b := (nI_leI (b := 5) hn (by decide)).mp h5
  rcases (by omega : n = 1 ∨ n = 2 ∨ n = 3 ∨ n = 4 ∨ n = 5) with rfl | rfl | rfl | rfl | rfl
  · exact Or.inl rfl
  · exact Or.inr (Or.inl rfl)
  · exact Or.inr (Or.inr (Or.inl rfl))
  · exact Or.inr (Or.inr (Or.inr (Or.inl rfl)))
  · exact Or.inr (Or.inr (Or.inr (Or.inr rfl)))
theorem ask_eq {s : St} {f : Int32} (k1 : 1 ≤ s (26 + f)) (k5 : s (26 + f) ≤ 5) : szC (s (26 + f)) f (s (31 + f)) (s (36 + f)) = szR s f ∧ szCl (s (26 + f)) = szL s f ∧ mrC (s (26 + f)) f (s (31 + f)) (s (36 + f)) = mkR s f ∧ mrCl (s (26 + f)) = mkL s f := by
  unfold szC szR szCl szL mrC mkR mrCl mkL rsC rsR rsCl rsL mkC mkCl swC swR swCl swL
  unfold mkR mkL swR swL
  have i1 : ikF 6 1 4 = 0 := by decide
  have i2 : ikF 6 2 4 = 0 := by decide
  have i3 : ikF 6 3 4 = 0 := by decide
  have i4 : ¬ ikF 6 4 4 = 0 := by decide
  have i5 : ¬ ikF 6 5 4 = 0 := by decide
  rcases k_15 k1 k5 with e | e | e | e | e <;> rw [e] <;> simp [i1, i2, i3, i4, i5]
theorem put_ot {A s : St} {M a : Nat} (h : a ≠ M) (hM : M ≤ 24) (ha : a ≤ 24) : agr (getB (putB A s (41 * nI M)) (41 * nI a)) (getB A (41 * nI a)) := by
  intro t ht
  unfold getB putB
  rw [ix41n, show (41 : Int32) * nI M = nI (41 * M) by rw [show (41 : Int32) = nI 41 from rfl, pk_mul]]
  refine if_neg (fun q => ?_)
  have a1 := (nI_leI (by omega) (by omega)).mp q.1
  have a2 := q.2
  rw [show (41 : Int32) = nI 41 from rfl, nI_add] at a2
  have a3 := (nI_ltI (by omega) (by omega)).mp a2
  omega
theorem im_put {σ υ : Sg} {c : Nat} {M a : Nat} {s : St} (h : RIm σ c (nI a)) (hc : υ c = σ c) (b2 : υ 40 14 = putB (σ 40 14) s (41 * nI M)) (b3 : υ 40 13 = upI (σ 40 13) (nI M) 1) (ha : a ≠ M) (h1 : a ≤ 24) (h2 : M ≤ 24) : RIm υ c (nI a) := by
  unfold RIm at h ⊢
  rw [hc, b2, b3, upI_ne _ _ (fun z => ha ((nI_eq (by omega) (by omega)).mp z))]
  rcases h with h | h
  · exact Or.inl h
  · have g := put_ot (A := σ 40 14) (s := s) ha h2 h1
    exact Or.inr ⟨h.1, agr_L g h.2.2.1.z h.2.1, agr_O g h.2.2⟩
theorem im_new {σ υ : Sg} {c : Nat} {M : Nat} {s : St} (hL : LibF (υ c) s) (hO : OK s) (b2 : υ 40 14 = putB (σ 40 14) s (41 * nI M)) (b3 : υ 40 13 = upI (σ 40 13) (nI M) 1) (h2 : M ≤ 24) : RIm υ c (nI M) := by
  unfold RIm
  rw [b2, b3, upI_same]
  have g := put_eq (A := σ 40 14) (s := s) h2
  exact Or.inr ⟨rfl, agr_L g hO.1.z hL, agr_O g hO⟩
theorem img_rel {σ τ υ : Sg} {C M : Nat} (hR : Rel σ) (hC : C = 8 ∨ C = 9) (c1 : ¬ σ 40 0 4 = 0) (a3 : ∀ c j, c ≠ C → τ c j = σ c j) (b4 : frm τ υ 40 [13, 14]) (i8 : RIm υ 8 0) (i9 : RIm υ 9 1) : Rel υ := by
  have g : ∀ c k, c ≠ C → c ≠ 40 → υ c k = σ c k := fun c k x y => (b4 c k (fun e => y e.1)).trans (a3 c k x)
  have g40 : ∀ k, k ≠ 13 → k ≠ 14 → υ 40 k = σ 40 k := fun k x y => (b4 40 k (by simp [x, y])).trans (a3 40 k (by omega))
  have lib : ∀ c, c ≠ C → c ≠ 40 → υ c = σ c := fun c x y => funext (fun j => g c j x y)
  have e0 := g40 0 (by decide) (by decide)
  obtain ⟨x1, x2, x3, x4, x5, x6, x7, x8⟩ := hR
  refine ⟨RF_cg x1 (by rw [g 0 0 (by omega) (by decide)]) (by rw [e0]), RR_cg x2 (g 1 1 (by omega) (by decide)) (g 1 2 (by omega) (by decide)) (g 1 3 (by omega) (by decide)) (g40 1 (by decide) (by decide)) (g40 2 (by decide) (by decide)) (g40 3 (by decide) (by decide)), RT_cg x3 (g 2 0 (by omega) (by decide)) (g 2 1 (by omega) (by decide)) (by rw [e0]) (g40 6 (by decide) (by decide)) (by rw [e0]), ⟨?_, ?_, ?_⟩, RA_cg x5 (g 3 0 (by omega) (by decide)) (fun c c1 c2 => lib c (by omega) (by omega)) (g40 9 (by decide) (by decide)) (by rw [e0]), i8, i9, RB_cg x8 (g 4 0 (by omega) (by decide)) (g 4 1 (by omega) (by decide)) (by rw [e0]) (g40 15 (by decide) (by decide))⟩
  · rw [e0, g40 4 (by decide) (by decide)]; exact x4.1
  · rw [lib 6 (by omega) (by decide), g40 4 (by decide) (by decide)]; exact x4.2.1
  · rw [e0]; exact fun e => absurd e c1
theorem img_go {σ τ υ : Sg} {k : Int32} (hR : Rel σ) (hk : inR 0 k 1) (c1 : ¬ σ 40 0 4 = 0) (a2 : LibF (τ (if k = 0 then 8 else 9)) (σ 40 4)) (a3 : ∀ c j, c ≠ (if k = 0 then 8 else 9) → τ c j = σ c j) (b2 : υ 40 14 = putB (σ 40 14) (σ 40 4) (41 * k)) (b3 : υ 40 13 = upI (σ 40 13) k 1) (b4 : frm τ υ 40 [13, 14]) : Rel υ := by
  have hO := hR.S.ok c1
  have u : ∀ c, c ≠ 40 → υ c = τ c := fun c hc => funext (fun j => b4 c j (fun e => hc e.1))
  rcases k_01 hk with e | e
  · subst e
    rw [if_pos rfl] at a2 a3
    refine img_rel (C := 8) (M := 0) hR (Or.inl rfl) c1 a3 b4 ?_ ?_
    · exact im_new (M := 0) (by rw [u 8 (by decide)]; exact a2) hO b2 b3 (by omega)
    · exact im_put (M := 0) (a := 1) hR.2.2.2.2.2.2.1 (by rw [u 9 (by decide)]; exact funext (fun j => a3 9 j (by decide))) b2 b3 (by omega) (by omega) (by omega)
  · subst e
    rw [if_neg (by decide)] at a2 a3
    refine img_rel (C := 9) (M := 1) hR (Or.inr rfl) c1 a3 b4 ?_ ?_
    · exact im_put (M := 1) (a := 0) hR.2.2.2.2.2.1 (by rw [u 8 (by decide)]; exact funext (fun j => a3 8 j (by decide))) b2 b3 (by omega) (by omega) (by omega)
    · exact im_new (M := 1) (by rw [u 9 (by decide)]; exact a2) hO b2 b3 (by omega)
theorem rst_go {σ τ υ : Sg} {k : Int32} {x : St} (hR : Rel σ) (hk : inR 0 k 1) (n0 : ¬ σ 40 13 k = 0) (l : LibF (σ (if k = 0 then 8 else 9)) x) (o : OK x) (a2 : Tk0 σ τ 6 (if k = 0 then 8 else 9)) (a3 : τ 3 0 = upI (σ 3 0) 2 0) (a4 : ∀ c j, c ≠ 6 → ¬ (c = 3 ∧ j = 0) → τ c j = σ c j) (b2 : υ 40 4 = x) (b3 : υ 40 0 = upI (σ 40 0) 18 0) (b4 : frm τ υ 40 [0, 4]) : Rel υ := by
  obtain ⟨X, M, y1, y2, y3, y4, y5, y6⟩ := hR.A
  refine act_rel (A' := σ 40 9) (m' := 0) hR (a2 x o.1.z l) o ⟨X, 0, y1, by omega, ?_, ?_, rfl, fun a ha => absurd ha (by omega)⟩ (fun c j h3 h6 _ => a4 c j h6 (fun e => h3 e.1)) b2 ?_ b3 (frm_mono b4 (by decide)) (fun e => ?_)
  · rw [a3, upI_ne _ _ (by decide)]; exact y3
  · rw [a3, upI_same]; rfl
  · rw [b4 40 9 (by decide), a4 40 9 (by decide) (by simp)]
  · have q := hR.2.2.2.1.2.2 e
    rcases k_01 hk with z | z
    · rw [z] at n0; exact n0 q.2.1
    · rw [z] at n0; exact n0 q.2.2
theorem st_ask {σ τ υ : Sg} {f : Int32} {v : Int32} {r r' : Int32} (hR : Rel σ) (g : if ¬ (isF (σ 40 4) f ∧ inR 0 v 1) then r = -1000001 ∧ τ = σ else if v = 0 then r = szC (σ 40 4 (26 + f)) f (σ 40 4 (31 + f)) (σ 40 4 (36 + f)) ∧ τ = levs (bgC σ f (σ 40 4 (26 + f)) (σ 40 4 (31 + f)) (σ 40 4 (36 + f))) (szCl (σ 40 4 (26 + f))) else r = mrC (σ 40 4 (26 + f)) f (σ 40 4 (31 + f)) (σ 40 4 (36 + f)) ∧ τ = levs (bgC σ f (σ 40 4 (26 + f)) (σ 40 4 (31 + f)) (σ 40 4 (36 + f))) (mrCl (σ 40 4 (26 + f)))) (g' : if ¬ (isF (τ 40 4) f ∧ inR 0 v 1) then r' = -1000001 ∧ υ = τ else if v = 0 then r' = szR (τ 40 4) f ∧ υ = bgs (up τ 40 0 (upI (τ 40 0) 25 0)) (szL (τ 40 4) f) else r' = mkR (τ 40 4) f ∧ υ = bgs (up τ 40 0 (upI (τ 40 0) 25 0)) (mkL (τ 40 4) f)) : r = r' ∧ Rel υ := by
  by_cases c : ¬ (isF (σ 40 4) f ∧ inR 0 v 1)
  · rw [if_pos c] at g
    have t4 : τ 40 4 = σ 40 4 := by rw [g.2]
    rw [t4, if_pos c] at g'
    obtain ⟨a1, rfl⟩ := g
    obtain ⟨a2, rfl⟩ := g'
    exact ⟨a1.trans a2.symm, hR⟩
  · rw [if_neg c] at g
    have c' := Classical.not_not.mp c
    have hF := hR.S.w.f c'.1
    have k := (hF.1.2.2.2 f c'.1.1 hF.2.1).1
    have e := ask_eq k.1 k.2
    by_cases d : v = 0
    · rw [if_pos d] at g
      have t4 : τ 40 4 = σ 40 4 := by rw [g.2]; exact ask_t4 σ _ _ _ _ _
      rw [t4, if_neg c, if_pos d] at g'
      exact ⟨g.1.trans (e.1.trans g'.1.symm), ask_go hR g.2 (by rw [g'.2, e.2.1])⟩
    · rw [if_neg d] at g
      have t4 : τ 40 4 = σ 40 4 := by rw [g.2]; exact ask_t4 σ _ _ _ _ _
      rw [t4, if_neg c, if_neg d] at g'
      exact ⟨g.1.trans (e.2.2.1.trans g'.1.symm), ask_go hR g.2 (by rw [g'.2, e.2.2.2])⟩
theorem st_feed {σ τ υ : Sg} {c : Int32} {r r' : Int32} (hR : Rel σ) (g : if ¬ (0 ≤ c ∧ c ≤ 255) then r = -1000001 ∧ τ = σ else if ¬ σ 2 0 1 < 120 then r = -1000003 ∧ τ = σ else r = σ 2 0 1 + 1 ∧ τ 2 1 = upI (σ 2 1) (σ 2 0 1) c ∧ τ 2 0 = upI (σ 2 0) 1 (σ 2 0 1 + 1) ∧ frm σ τ 2 [0, 1]) (g' : if ¬ inR 0 c 255 then r' = -1000001 ∧ υ = τ else if τ 40 0 8 = 120 then r' = -1000003 ∧ υ = τ else r' = τ 40 0 8 + 1 ∧ υ 40 6 = upI (τ 40 6) (τ 40 0 8) c ∧ υ 40 0 = upI (τ 40 0) 8 (τ 40 0 8 + 1) ∧ frm τ υ 40 [0, 6]) : r = r' ∧ Rel υ := by
  obtain ⟨N, n1, n2, n3, n4, n5, n6⟩ := hR.2.2.1
  by_cases c1 : ¬ (0 ≤ c ∧ c ≤ 255)
  · rw [if_pos c1] at g
    rw [if_pos c1] at g'
    obtain ⟨a1, rfl⟩ := g
    obtain ⟨a2, rfl⟩ := g'
    exact ⟨a1.trans a2.symm, hR⟩
  · rw [if_neg c1] at g
    rw [if_neg c1] at g'
    rw [n2] at g
    by_cases d : N < 120
    · have d1 : nI N < 120 := (nI_ltI (b := 120) (by omega) (by decide)).mpr d
      rw [if_neg (fun z => z d1)] at g
      obtain ⟨a1, a2, a3, a4⟩ := g
      have t0 : τ 40 0 = σ 40 0 := a4 40 0 (by decide)
      have t6 : τ 40 6 = σ 40 6 := a4 40 6 (by decide)
      rw [t0, t6, n3, if_neg (fun z => by rw [z] at d1; exact absurd d1 (by decide))] at g'
      obtain ⟨b1, b2, b3, b4⟩ := g'
      have s : ∀ c k, irr c k = false → (c, k) ∉ [(2, 0), (2, 1), (40, 0), (40, 6)] → υ c k = σ c k := fun c k i j => frG_mo (frG_t (frG_f a4 (ps := [(2, 0), (2, 1)]) (by decide)) (frG_f b4 (ps := [(40, 0), (40, 6)]) (by decide))) (by decide) c k i j
      have h : frG σ υ [(2, 0), (2, 1), (40, 0), (40, 6)] := s
      have m : ∀ i, i ≠ 8 → υ 40 0 i = σ 40 0 i := fun i hi => by rw [b3, upI_ne _ _ hi]
      have u : ∀ k, υ 2 k = τ 2 k := fun k => b4 2 k (by simp)
      obtain ⟨x1, x2, x3, x4, x5, x6, x7, x8⟩ := hR
      refine ⟨a1.trans b1.symm, RF_cg x1 (by rw [s 0 0 rfl (by decide)]) (m 3 (by decide)), RR_cg x2 (s 1 1 rfl (by decide)) (s 1 2 rfl (by decide)) (s 1 3 rfl (by decide)) (s 40 1 rfl (by decide)) (s 40 2 rfl (by decide)) (s 40 3 rfl (by decide)), ?_, RL_cg x4 (frG_l h rfl rfl) (m 4 (by decide)) (s 40 4 rfl (by decide)) (m 18 (by decide)) (s 40 13 rfl (by decide)), RA_cg x5 (s 3 0 rfl (by decide)) (frG_m h rfl) (s 40 9 rfl (by decide)) (m 18 (by decide)), RI_cg x6 (frG_l h rfl rfl) (s 40 13 rfl (by decide)) (s 40 14 rfl (by decide)), RI_cg x7 (frG_l h rfl rfl) (s 40 13 rfl (by decide)) (s 40 14 rfl (by decide)), RB_cg x8 (s 4 0 rfl (by decide)) (s 4 1 rfl (by decide)) (m 25 (by decide)) (s 40 15 rfl (by decide))⟩
      refine ⟨N + 1, by omega, ?_, ?_, ?_, fun k hk => ?_, ?_⟩
      · rw [u, a3, upI_same, nI_succ]
      · rw [b3, upI_same, nI_succ]
      · rw [u, a2, b2, n4]
      · rw [b2]
        by_cases e : k = N
        · rw [e, upI_same]
          exact (Classical.not_not.mp c1).1
        · rw [upI_ne _ _ (fun z => e ((nI_eq (by omega) (by omega)).mp z))]
          exact n5 k (by omega)
      · rw [u, a3, upI_ne _ _ (by decide), m 9 (by decide)]
        exact n6
    · have d1 : ¬ nI N < 120 := fun z => d ((nI_ltI (b := 120) (by omega) (by decide)).mp z)
      have d2 : nI N = 120 := by rw [show N = 120 by omega]; rfl
      rw [if_pos d1] at g
      have t0 : τ 40 0 = σ 40 0 := by rw [g.2]
      rw [t0, n3, if_pos d2] at g'
      obtain ⟨a1, rfl⟩ := g
      obtain ⟨a2, rfl⟩ := g'
      exact ⟨a1.trans a2.symm, hR⟩
theorem st_library {σ τ υ : Sg}  {r r' : Int32} {N : Nat} (hR : Rel σ) (g : libC σ τ r (libP (σ 40 6) N)) (g' : libQ τ υ N r' (libP (τ 40 6) N)) : r = r' ∧ Rel υ := by
  cases hh : (libP (σ 40 6) N).1 with
  | false =>
    obtain ⟨a1, a2, a3, a4⟩ := g.1 hh
    have t40 : ∀ k, τ 40 k = σ 40 k := fun k => a4 40 k (by decide) (by simp)
    rw [t40] at g'
    obtain ⟨b1, b2, b3, b4, b5⟩ := g'.1 hh
    have h : frG σ υ [(2, 0), (40, 0)] := frG_mo (frG_t (show frG σ τ [(2, 0)] from fun c k i j => a4 c k (fun e => by subst e; simp [irr] at i) (fun e => j (by rw [e.1, e.2]; decide))) (frG_f b5 (ps := [(40, 0)]) (by decide))) (by decide)
    have s : ∀ c k, irr c k = false → (c, k) ∉ [(2, 0), (40, 0)] → υ c k = σ c k := h
    have m : ∀ i : Int32, (i < 8 ∨ 14 < i) → υ 40 0 i = σ 40 0 i := fun i hi => by rw [b2 i hi, t40]
    have u : ∀ k, υ 2 k = τ 2 k := fun k => b5 2 k (by simp)
    obtain ⟨x1, x2, x3, x4, x5, x6, x7, x8⟩ := hR
    obtain ⟨N0, n1, n2, n3, n4, n5, n6⟩ := x3
    refine ⟨a1.trans b1.symm, RF_cg x1 (by rw [s 0 0 rfl (by decide)]) (m 3 (by decide)), RR_cg x2 (s 1 1 rfl (by decide)) (s 1 2 rfl (by decide)) (s 1 3 rfl (by decide)) (s 40 1 rfl (by decide)) (s 40 2 rfl (by decide)) (s 40 3 rfl (by decide)), ⟨0, by omega, ?_, ?_, ?_, fun k hk => absurd hk (by omega), ?_⟩, RL_cg x4 (frG_l h rfl rfl) (m 4 (by decide)) (s 40 4 rfl (by decide)) (m 18 (by decide)) (s 40 13 rfl (by decide)), RA_cg x5 (s 3 0 rfl (by decide)) (frG_m h rfl) (s 40 9 rfl (by decide)) (m 18 (by decide)), RI_cg x6 (frG_l h rfl rfl) (s 40 13 rfl (by decide)) (s 40 14 rfl (by decide)), RI_cg x7 (frG_l h rfl rfl) (s 40 13 rfl (by decide)) (s 40 14 rfl (by decide)), RB_cg x8 (s 4 0 rfl (by decide)) (s 4 1 rfl (by decide)) (m 25 (by decide)) (s 40 15 rfl (by decide))⟩
    · rw [u, a2]; rfl
    · rw [b3]; rfl
    · rw [s 2 1 rfl (by decide), s 40 6 rfl (by decide)]; exact n4
    · rw [u, a3, b4]
  | true =>
    obtain ⟨a1, a2, a3, a4, a5, a6⟩ := g.2 hh
    have t40 : ∀ k, τ 40 k = σ 40 k := fun k => a6 40 k (by decide) (by decide) (by simp) (by simp)
    rw [t40] at g'
    obtain ⟨b1, b2, b3, b4, b5, b6, b7⟩ := g'.2 hh
    have lo := lib_ok hh
    have af := a3 lo.1.z
    have s : ∀ c k, irr c k = false → (c, k) ∉ [(2, 0), (3, 0), (40, 0), (40, 4)] → c ≠ 6 → υ c k = σ c k := fun c k i j h6 => by
      rw [frG_f b7 (ps := [(40, 0), (40, 4)]) (by decide) c k i (fun e => j (by simp at e ⊢; rcases e with e | e <;> simp [e]))]
      exact a6 c k (fun e => by subst e; simp [irr] at i) h6 (fun e => j (by rw [e.1, e.2]; decide)) (fun e => j (by rw [e.1, e.2]; decide))
    have m : ∀ i : Int32, (i < 10 ∨ 14 < i) → ¬ i = 4 → ¬ i = 8 → ¬ i = 18 → υ 40 0 i = σ 40 0 i := fun i p q r' w => by rw [b6 i p q r' w, t40]
    have u : ∀ c k, c ≠ 40 → υ c k = τ c k := fun c k hc => b7 c k (fun e => hc e.1)
    have lib : ∀ c, c ≠ 6 → (11 ≤ c ∧ c < 35) ∨ c = 8 ∨ c = 9 → υ c = σ c := fun c h6 hc => funext (fun k => by
      rw [u c k (by omega)]
      exact a6 c k (by omega) h6 (by omega) (by omega))
    obtain ⟨x1, x2, x3, x4, x5, x6, x7, x8⟩ := hR
    obtain ⟨N0, n1, n2, n3, n4, n5, n6⟩ := x3
    obtain ⟨X, M, y1, y2, y3, y4, y5, y6⟩ := x5
    refine ⟨af.2.trans b1.symm, RF_cg x1 (by rw [s 0 0 rfl (by decide) (by decide)]) (m 3 (by decide) (by decide) (by decide) (by decide)), RR_cg x2 (s 1 1 rfl (by decide) (by decide)) (s 1 2 rfl (by decide) (by decide)) (s 1 3 rfl (by decide) (by decide)) (s 40 1 rfl (by decide) (by decide)) (s 40 2 rfl (by decide) (by decide)) (s 40 3 rfl (by decide) (by decide)), ⟨0, by omega, ?_, ?_, ?_, fun k hk => absurd hk (by omega), ?_⟩, ⟨?_, ?_, ?_⟩, ⟨X, 0, y1, by omega, ?_, ?_, ?_, fun a ha => absurd ha (by omega)⟩, RI_cg x6 (lib 8 (by decide) (by omega)) (s 40 13 rfl (by decide) (by decide)) (s 40 14 rfl (by decide) (by decide)), RI_cg x7 (lib 9 (by decide) (by omega)) (s 40 13 rfl (by decide) (by decide)) (s 40 14 rfl (by decide) (by decide)), RB_cg x8 (s 4 0 rfl (by decide) (by decide)) (s 4 1 rfl (by decide) (by decide)) (m 25 (by decide) (by decide) (by decide) (by decide)) (s 40 15 rfl (by decide) (by decide))⟩
    · rw [u 2 0 (by decide), a1]; rfl
    · rw [b4]; rfl
    · rw [s 2 1 rfl (by decide) (by decide), s 40 6 rfl (by decide) (by decide)]; exact n4
    · rw [u 2 0 (by decide), a2, m 9 (by decide) (by decide) (by decide) (by decide)]; exact n6
    · rw [b3, b2]
      exact Or.inr ⟨rfl, lo.1, by rw [lo.2.1.2.2.2.2.2.1]; exact (powB lo.1.1.1).1⟩
    · rw [show υ 6 = τ 6 from funext (fun k => u 6 k (by decide)), b2]
      exact af.1
    · rw [b3]
      exact fun e => absurd e (by decide)
    · rw [u 3 0 (by decide), a4]; exact y3
    · rw [u 3 0 (by decide), a5]; rfl
    · rw [b5]; rfl
theorem st_light {σ τ υ : Sg} {b : Int32} {o : Int32} {r r' : Int32} (hR : Rel σ) (g : if ¬ (isB (σ 40 4) b ∧ inR 0 o 1) then r = -1000001 ∧ τ = σ else if bitv (σ 40 4 5) b = o ∨ (o = 1 ∧ ¬ ones (σ 40 4 5) < σ 40 4 3) then r = -1000002 ∧ τ = σ else r = σ 40 4 5 ^^^ shl32 1 b ∧ actC (σ 40 9) (σ 40 0 18) (σ 40 4) σ τ (upI (σ 40 4) 5 (σ 40 4 5 ^^^ shl32 1 b))) (g' : if ¬ (isB (τ 40 4) b ∧ inR 0 o 1) then r' = -1000001 ∧ υ = τ else if bitv (τ 40 4 5) b = (if o = 1 then 1 else 0) ∨ (o = 1 ∧ ¬ ones (τ 40 4 5) < τ 40 4 3) then r' = -1000002 ∧ υ = τ else r' = τ 40 4 5 ^^^ shl32 1 b ∧ actE τ υ (upI (τ 40 4) 5 (τ 40 4 5 ^^^ shl32 1 b))) : r = r' ∧ Rel υ := by
  by_cases c0 : ¬ (isB (σ 40 4) b ∧ inR 0 o 1)
  · rw [if_pos c0] at g
    have t4 : τ 40 4 = σ 40 4 := by rw [g.2]
    rw [t4, if_pos c0] at g'
    obtain ⟨a1, rfl⟩ := g
    obtain ⟨a2, rfl⟩ := g'
    exact ⟨a1.trans a2.symm, hR⟩
  have e1 : (bitv (σ 40 4 5) b = (if o = 1 then 1 else 0) ∨ (o = 1 ∧ ¬ ones (σ 40 4 5) < σ 40 4 3)) ↔ (bitv (σ 40 4 5) b = o ∨ (o = 1 ∧ ¬ ones (σ 40 4 5) < σ 40 4 3)) := by rw [bit_o (Classical.not_not.mp c0).2]
  by_cases c1 : bitv (σ 40 4 5) b = o ∨ (o = 1 ∧ ¬ ones (σ 40 4 5) < σ 40 4 3)
  · rw [if_neg c0, if_pos c1] at g
    have t4 : τ 40 4 = σ 40 4 := by rw [g.2]
    rw [t4, if_neg c0, if_pos (e1.mpr c1)] at g'
    obtain ⟨a1, rfl⟩ := g
    obtain ⟨a2, rfl⟩ := g'
    exact ⟨a1.trans a2.symm, hR⟩
  rw [if_neg c0, if_neg c1] at g
  have t4 : τ 40 4 = σ 40 4 := g.2.2.2 40 4 (by decide) (by decide) (by omega)
  rw [t4, if_neg c0, if_neg (fun z => c1 (e1.mp z))] at g'
  exact ⟨g.1.trans g'.1.symm, act_go hR g.2 g'.2 (lit_x (hR.S.o (bpos hR.S (Classical.not_not.mp c0).1)) (Classical.not_not.mp c0).1.1 (hR.S.w.b (Classical.not_not.mp c0).1).2.1) (bpos hR.S (Classical.not_not.mp c0).1)⟩
theorem st_keepIt {σ τ υ : Sg} {b : Int32} {o : Int32} {r r' : Int32} (hR : Rel σ) (g : if ¬ (isB (σ 40 4) b ∧ inR 0 o 1) then r = -1000001 ∧ τ = σ else if bitv (σ 40 4 6) b = o then r = -1000002 ∧ τ = σ else r = σ 40 4 6 ^^^ shl32 1 b ∧ actC (σ 40 9) (σ 40 0 18) (σ 40 4) σ τ (upI (σ 40 4) 6 (σ 40 4 6 ^^^ shl32 1 b))) (g' : if ¬ (isB (τ 40 4) b ∧ inR 0 o 1) then r' = -1000001 ∧ υ = τ else if bitv (τ 40 4 6) b = (if o = 1 then 1 else 0) then r' = -1000002 ∧ υ = τ else r' = τ 40 4 6 ^^^ shl32 1 b ∧ actE τ υ (upI (τ 40 4) 6 (τ 40 4 6 ^^^ shl32 1 b))) : r = r' ∧ Rel υ := by
  by_cases c0 : ¬ (isB (σ 40 4) b ∧ inR 0 o 1)
  · rw [if_pos c0] at g
    have t4 : τ 40 4 = σ 40 4 := by rw [g.2]
    rw [t4, if_pos c0] at g'
    obtain ⟨a1, rfl⟩ := g
    obtain ⟨a2, rfl⟩ := g'
    exact ⟨a1.trans a2.symm, hR⟩
  have e1 : (bitv (σ 40 4 6) b = (if o = 1 then 1 else 0)) ↔ (bitv (σ 40 4 6) b = o) := by rw [bit_o (Classical.not_not.mp c0).2]
  by_cases c1 : bitv (σ 40 4 6) b = o
  · rw [if_neg c0, if_pos c1] at g
    have t4 : τ 40 4 = σ 40 4 := by rw [g.2]
    rw [t4, if_neg c0, if_pos (e1.mpr c1)] at g'
    obtain ⟨a1, rfl⟩ := g
    obtain ⟨a2, rfl⟩ := g'
    exact ⟨a1.trans a2.symm, hR⟩
  rw [if_neg c0, if_neg c1] at g
  have t4 : τ 40 4 = σ 40 4 := g.2.2.2 40 4 (by decide) (by decide) (by omega)
  rw [t4, if_neg c0, if_neg (fun z => c1 (e1.mp z))] at g'
  exact ⟨g.1.trans g'.1.symm, act_go hR g.2 g'.2 (kep_x (hR.S.o (bpos hR.S (Classical.not_not.mp c0).1)) (Classical.not_not.mp c0).1.1 (hR.S.w.b (Classical.not_not.mp c0).1).2.1) (bpos hR.S (Classical.not_not.mp c0).1)⟩
theorem st_change {σ τ υ : Sg} {b : Int32} {o : Int32} {r r' : Int32} (hR : Rel σ) (g : if ¬ (isB (σ 40 4) b ∧ isB (σ 40 4) o ∧ ¬ b = o) then r = -1000001 ∧ τ = σ else r = σ 40 4 (20 + o) ∧ actC (σ 40 9) (σ 40 0 18) (σ 40 4) σ τ (chgS (σ 40 4) b o)) (g' : if ¬ (isB (τ 40 4) b ∧ isB (τ 40 4) o ∧ ¬ b = o) then r' = -1000001 ∧ υ = τ else r' = τ 40 4 (20 + o) ∧ actE τ υ (upI (upI (τ 40 4) (20 + b) (τ 40 4 (20 + o))) (20 + o) (τ 40 4 (20 + b)))) : r = r' ∧ Rel υ := by
  by_cases c0 : ¬ (isB (σ 40 4) b ∧ isB (σ 40 4) o ∧ ¬ b = o)
  · rw [if_pos c0] at g
    have t4 : τ 40 4 = σ 40 4 := by rw [g.2]
    rw [t4, if_pos c0] at g'
    obtain ⟨a1, rfl⟩ := g
    obtain ⟨a2, rfl⟩ := g'
    exact ⟨a1.trans a2.symm, hR⟩
  rw [if_neg c0] at g
  have t4 : τ 40 4 = σ 40 4 := g.2.2.2 40 4 (by decide) (by decide) (by omega)
  rw [t4, if_neg c0] at g'
  exact ⟨g.1.trans g'.1.symm, act_go hR g.2 g'.2 (chg_x (hR.S.o (bpos hR.S (Classical.not_not.mp c0).1)) (Classical.not_not.mp c0).1.1 (hR.S.w.b (Classical.not_not.mp c0).1).2.1 (Classical.not_not.mp c0).2.1.1 (hR.S.w.b (Classical.not_not.mp c0).2.1).2.1 (Classical.not_not.mp c0).2.2) (bpos hR.S (Classical.not_not.mp c0).1)⟩
theorem st_move {σ τ υ : Sg} {f : Int32} {p : Int32} {r r' : Int32} (hR : Rel σ) (g : if ¬ (isF (σ 40 4) f ∧ isB (σ 40 4) p) then r = -1000001 ∧ τ = σ else if ¬ bitv (σ 40 4 7) f = 0 ∨ σ 40 4 (31 + f) = p then r = -1000002 ∧ τ = σ else r = σ 40 4 (31 + f) ∧ actC (σ 40 9) (σ 40 0 18) (σ 40 4) σ τ (upI (σ 40 4) (31 + f) p)) (g' : if ¬ (isF (τ 40 4) f ∧ isB (τ 40 4) p) then r' = -1000001 ∧ υ = τ else if ¬ bitv (τ 40 4 7) f = 0 ∨ τ 40 4 (31 + f) = p then r' = -1000002 ∧ υ = τ else r' = τ 40 4 (31 + f) ∧ actE τ υ (upI (τ 40 4) (31 + f) p)) : r = r' ∧ Rel υ := by
  by_cases c0 : ¬ (isF (σ 40 4) f ∧ isB (σ 40 4) p)
  · rw [if_pos c0] at g
    have t4 : τ 40 4 = σ 40 4 := by rw [g.2]
    rw [t4, if_pos c0] at g'
    obtain ⟨a1, rfl⟩ := g
    obtain ⟨a2, rfl⟩ := g'
    exact ⟨a1.trans a2.symm, hR⟩
  by_cases c1 : ¬ bitv (σ 40 4 7) f = 0 ∨ σ 40 4 (31 + f) = p
  · rw [if_neg c0, if_pos c1] at g
    have t4 : τ 40 4 = σ 40 4 := by rw [g.2]
    rw [t4, if_neg c0, if_pos c1] at g'
    obtain ⟨a1, rfl⟩ := g
    obtain ⟨a2, rfl⟩ := g'
    exact ⟨a1.trans a2.symm, hR⟩
  rw [if_neg c0, if_neg c1] at g
  have t4 : τ 40 4 = σ 40 4 := g.2.2.2 40 4 (by decide) (by decide) (by omega)
  rw [t4, if_neg c0, if_neg c1] at g'
  exact ⟨g.1.trans g'.1.symm, act_go hR g.2 g'.2 (mov_x (hR.S.o (fpos hR.S (Classical.not_not.mp c0).1)) (Classical.not_not.mp c0).1.1 (hR.S.w.f (Classical.not_not.mp c0).1).2.1 (Classical.not_not.mp c0).2.1 (hR.S.w.b (Classical.not_not.mp c0).2).2.1) (fpos hR.S (Classical.not_not.mp c0).1)⟩
theorem st_catchIt {σ τ υ : Sg} {f : Int32} {r r' : Int32} (hR : Rel σ) (g : if ¬ isF (σ 40 4) f then r = -1000001 ∧ τ = σ else if ¬ bitv (σ 40 4 7) f = 0 then r = -1000002 ∧ τ = σ else r = σ 40 4 7 ||| shl32 1 f ∧ actC (σ 40 9) (σ 40 0 18) (σ 40 4) σ τ (upI (σ 40 4) 7 (σ 40 4 7 ||| shl32 1 f))) (g' : if ¬ isF (τ 40 4) f then r' = -1000001 ∧ υ = τ else if ¬ bitv (τ 40 4 7) f = 0 then r' = -1000002 ∧ υ = τ else r' = τ 40 4 7 ||| shl32 1 f ∧ actE τ υ (upI (τ 40 4) 7 (τ 40 4 7 ||| shl32 1 f))) : r = r' ∧ Rel υ := by
  by_cases c0 : ¬ isF (σ 40 4) f
  · rw [if_pos c0] at g
    have t4 : τ 40 4 = σ 40 4 := by rw [g.2]
    rw [t4, if_pos c0] at g'
    obtain ⟨a1, rfl⟩ := g
    obtain ⟨a2, rfl⟩ := g'
    exact ⟨a1.trans a2.symm, hR⟩
  by_cases c1 : ¬ bitv (σ 40 4 7) f = 0
  · rw [if_neg c0, if_pos c1] at g
    have t4 : τ 40 4 = σ 40 4 := by rw [g.2]
    rw [t4, if_neg c0, if_pos c1] at g'
    obtain ⟨a1, rfl⟩ := g
    obtain ⟨a2, rfl⟩ := g'
    exact ⟨a1.trans a2.symm, hR⟩
  rw [if_neg c0, if_neg c1] at g
  have t4 : τ 40 4 = σ 40 4 := g.2.2.2 40 4 (by decide) (by decide) (by omega)
  rw [t4, if_neg c0, if_neg c1] at g'
  exact ⟨g.1.trans g'.1.symm, act_go hR g.2 g'.2 (cau_x (hR.S.o (fpos hR.S (Classical.not_not.mp c0))) (Classical.not_not.mp c0).1 (hR.S.w.f (Classical.not_not.mp c0)).2.1) (fpos hR.S (Classical.not_not.mp c0))⟩
theorem st_nights {σ τ υ : Sg} {n : Int32} {r r' : Int32} (hR : Rel σ) (g : if σ 40 0 4 = 0 then r = -1000002 ∧ τ = σ else if ¬ inR 1 n 24 then r = -1000001 ∧ τ = σ else if 999 < σ 40 4 4 + n then r = -1000003 ∧ τ = σ else r = sumP (nst (σ 40 4, σ 40 9, σ 40 0 18, σ 40 8) n).1 ((nst (σ 40 4, σ 40 9, σ 40 0 18, σ 40 8) n).1 0) ∧ LibF (τ 6) (nst (σ 40 4, σ 40 9, σ 40 0 18, σ 40 8) n).1 ∧ OK (nst (σ 40 4, σ 40 9, σ 40 0 18, σ 40 8) n).1 ∧ AR (τ 3 0 1) (τ 3 0 2) τ (nst (σ 40 4, σ 40 9, σ 40 0 18, σ 40 8) n).2.1 (nst (σ 40 4, σ 40 9, σ 40 0 18, σ 40 8) n).2.2.1 ∧ frA σ τ) (g' : if τ 40 0 4 = 0 then r' = -1000002 ∧ υ = τ else if ¬ inR 1 n 24 then r' = -1000001 ∧ υ = τ else if 999 < τ 40 4 4 + n then r' = -1000003 ∧ υ = τ else r' = sumP (nst (τ 40 4, τ 40 9, τ 40 0 18, τ 40 8) n).1 ((nst (τ 40 4, τ 40 9, τ 40 0 18, τ 40 8) n).1 0) ∧ υ 40 4 = (nst (τ 40 4, τ 40 9, τ 40 0 18, τ 40 8) n).1 ∧ υ 40 9 = (nst (τ 40 4, τ 40 9, τ 40 0 18, τ 40 8) n).2.1 ∧ υ 40 0 = upI (τ 40 0) 18 (nst (τ 40 4, τ 40 9, τ 40 0 18, τ 40 8) n).2.2.1 ∧ υ 40 8 = (nst (τ 40 4, τ 40 9, τ 40 0 18, τ 40 8) n).2.2.2 ∧ frm τ υ 40 [0, 4, 8, 9]) : r = r' ∧ Rel υ := by
  by_cases c0 : σ 40 0 4 = 0
  · rw [if_pos c0] at g
    have t4 : τ 40 0 = σ 40 0 := by rw [g.2]
    rw [t4, if_pos c0] at g'
    obtain ⟨a1, rfl⟩ := g
    obtain ⟨a2, rfl⟩ := g'
    exact ⟨a1.trans a2.symm, hR⟩
  by_cases c1 : ¬ inR 1 n 24
  · rw [if_neg c0, if_pos c1] at g
    have t4 : τ 40 0 = σ 40 0 := by rw [g.2]
    rw [t4, if_neg c0, if_pos c1] at g'
    obtain ⟨a1, rfl⟩ := g
    obtain ⟨a2, rfl⟩ := g'
    exact ⟨a1.trans a2.symm, hR⟩
  by_cases c2 : 999 < σ 40 4 4 + n
  · rw [if_neg c0, if_neg c1, if_pos c2] at g
    have t4 : τ 40 = σ 40 := by rw [g.2]
    rw [t4, if_neg c0, if_neg c1, if_pos c2] at g'
    obtain ⟨a1, rfl⟩ := g
    obtain ⟨a2, rfl⟩ := g'
    exact ⟨a1.trans a2.symm, hR⟩
  rw [if_neg c0, if_neg c1, if_neg c2] at g
  obtain ⟨a1, a2, a3, a4, a5⟩ := g
  have t4 : τ 40 = σ 40 := funext (fun k => a5 40 k (by decide) (by decide) (by omega))
  rw [t4, if_neg c0, if_neg c1, if_neg c2] at g'
  obtain ⟨b1, b2, b3, b4, b5, b6⟩ := g'
  exact ⟨a1.trans b1.symm, act_rel hR a2 a3 a4 a5 b2 b3 b4 (frm_mono b6 (by decide)) c0⟩
theorem st_undo {σ τ υ : Sg}  {r r' : Int32} (hR : Rel σ) (g : if σ 40 0 18 = 0 then r = -1000002 ∧ τ = σ else r = σ 40 0 18 - 1 ∧ LibF (τ 6) (getB (σ 40 9) (41 * (σ 40 0 18 - 1))) ∧ OK (getB (σ 40 9) (41 * (σ 40 0 18 - 1))) ∧ AR (τ 3 0 1) (τ 3 0 2) τ (σ 40 9) (σ 40 0 18 - 1) ∧ (∀ c k, c ≠ 3 → c ≠ 6 → τ c k = σ c k)) (g' : if τ 40 0 18 = 0 then r' = -1000002 ∧ υ = τ else r' = τ 40 0 18 - 1 ∧ υ 40 4 = getB (τ 40 9) (41 * (τ 40 0 18 - 1)) ∧ υ 40 0 = upI (τ 40 0) 18 (τ 40 0 18 - 1) ∧ frm τ υ 40 [0, 4]) : r = r' ∧ Rel υ := by
  by_cases c0 : σ 40 0 18 = 0
  · rw [if_pos c0] at g
    have t4 : τ 40 0 = σ 40 0 := by rw [g.2]
    rw [t4, if_pos c0] at g'
    obtain ⟨a1, rfl⟩ := g
    obtain ⟨a2, rfl⟩ := g'
    exact ⟨a1.trans a2.symm, hR⟩
  rw [if_neg c0] at g
  obtain ⟨a1, a2, a3, a4, a5⟩ := g
  have t4 : τ 40 = σ 40 := funext (fun k => a5 40 k (by decide) (by decide))
  rw [t4, if_neg c0] at g'
  obtain ⟨b1, b2, b3, b4⟩ := g'
  exact ⟨a1.trans b1.symm, act_rel hR a2 a3 a4 (fun c k x y _ => a5 c k x y) b2 (by rw [b4 40 9 (by decide), t4]) b3 (frm_mono b4 (by decide)) (fun e => c0 (hR.2.2.2.1.2.2 e).1)⟩
theorem st_image {σ τ υ : Sg} {k : Int32} {r r' : Int32} (hR : Rel σ) (g : if ¬ inR 0 k 1 then r = -1000001 ∧ τ = σ else if σ 40 0 4 = 0 then r = -1000002 ∧ τ = σ else r = 1 ∧ LibF (τ (if k = 0 then 8 else 9)) (σ 40 4) ∧ (∀ c j, c ≠ (if k = 0 then 8 else 9) → τ c j = σ c j)) (g' : if ¬ inR 0 k 1 then r' = -1000001 ∧ υ = τ else if τ 40 0 4 = 0 then r' = -1000002 ∧ υ = τ else r' = 1 ∧ υ 40 14 = putB (τ 40 14) (τ 40 4) (41 * k) ∧ υ 40 13 = upI (τ 40 13) k 1 ∧ frm τ υ 40 [13, 14]) : r = r' ∧ Rel υ := by
  by_cases c0 : ¬ inR 0 k 1
  · rw [if_pos c0] at g g'
    obtain ⟨a1, rfl⟩ := g
    obtain ⟨a2, rfl⟩ := g'
    exact ⟨a1.trans a2.symm, hR⟩
  by_cases c1 : σ 40 0 4 = 0
  · rw [if_neg c0, if_pos c1] at g
    have t4 : τ 40 0 = σ 40 0 := by rw [g.2]
    rw [if_neg c0, t4, if_pos c1] at g'
    obtain ⟨a1, rfl⟩ := g
    obtain ⟨a2, rfl⟩ := g'
    exact ⟨a1.trans a2.symm, hR⟩
  rw [if_neg c0, if_neg c1] at g
  obtain ⟨a1, a2, a3⟩ := g
  have t4 : τ 40 = σ 40 := funext (fun j => a3 40 j (by split <;> decide))
  rw [if_neg c0, t4, if_neg c1] at g'
  obtain ⟨b1, b2, b3, b4⟩ := g'
  exact ⟨a1.trans b1.symm, img_go hR (Classical.not_not.mp c0) c1 a2 a3 b2 b3 b4⟩
theorem st_restore {σ τ υ : Sg} {k : Int32} {r r' : Int32} (hR : Rel σ) (g : if ¬ inR 0 k 1 then r = -1000001 ∧ τ = σ else if ¬ 0 < σ (if k = 0 then 8 else 9) 0 0 then r = -1000002 ∧ τ = σ else r = 1 ∧ Tk0 σ τ 6 (if k = 0 then 8 else 9) ∧ τ 3 0 = upI (σ 3 0) 2 0 ∧ (∀ c j, c ≠ 6 → ¬ (c = 3 ∧ j = 0) → τ c j = σ c j)) (g' : if ¬ inR 0 k 1 then r' = -1000001 ∧ υ = τ else if τ 40 13 k = 0 then r' = -1000002 ∧ υ = τ else r' = 1 ∧ υ 40 4 = getB (τ 40 14) (41 * k) ∧ υ 40 0 = upI (τ 40 0) 18 0 ∧ frm τ υ 40 [0, 4]) : r = r' ∧ Rel υ := by
  by_cases c0 : ¬ inR 0 k 1
  · rw [if_pos c0] at g g'
    obtain ⟨a1, rfl⟩ := g
    obtain ⟨a2, rfl⟩ := g'
    exact ⟨a1.trans a2.symm, hR⟩
  rw [if_neg c0] at g g'
  have im : (σ 40 13 k = 0 ∧ ¬ 0 < σ (if k = 0 then 8 else 9) 0 0) ∨ (σ 40 13 k = 1 ∧ LibF (σ (if k = 0 then 8 else 9)) (getB (σ 40 14) (41 * k)) ∧ OK (getB (σ 40 14) (41 * k))) := by
    rcases k_01 (Classical.not_not.mp c0) with e | e
    · rw [e]; exact hR.2.2.2.2.2.1
    · rw [e]; exact hR.2.2.2.2.2.2.1
  rcases im with im | im
  · rw [if_pos im.2] at g
    have t4 : τ 40 13 = σ 40 13 := by rw [g.2]
    rw [t4, if_pos im.1] at g'
    obtain ⟨a1, rfl⟩ := g
    obtain ⟨a2, rfl⟩ := g'
    exact ⟨a1.trans a2.symm, hR⟩
  · have p : 0 < σ (if k = 0 then 8 else 9) 0 0 := by rw [im.2.1.1.1]; exact Int32.lt_of_lt_of_le (by decide) im.2.2.1.1.1.1
    rw [if_neg (fun z => z p)] at g
    obtain ⟨a1, a2, a3, a4⟩ := g
    have t4 : τ 40 = σ 40 := funext (fun j => a4 40 j (by decide) (by simp))
    have n0 : ¬ σ 40 13 k = 0 := by rw [im.1]; decide
    rw [t4, if_neg n0] at g'
    obtain ⟨b1, b2, b3, b4⟩ := g'
    exact ⟨a1.trans b1.symm, rst_go hR (Classical.not_not.mp c0) n0 im.2.1 im.2.2 a2 a3 a4 b2 b3 b4⟩
