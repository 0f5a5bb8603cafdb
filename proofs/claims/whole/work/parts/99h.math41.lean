theorem w7 {w : Int32} : inR 0 w 7 ↔ 0 ≤ w ∧ w < 8 := ⟨fun h => ⟨h.1, le7 h.2⟩, fun h => ⟨h.1, by have := h.2; grind⟩⟩
theorem frG_mo {σ τ : Sg} {ps qs : List (Nat × Nat)} (h : frG σ τ ps) (hs : ∀ x ∈ ps, x ∈ qs) : frG σ τ qs := fun c k a b => h c k a (fun e => b (hs _ e))
theorem rel_gen {σ υ : Sg} (hR : Rel σ) (h : frG σ υ [(0, 0), (40, 0), (1, 1), (1, 2), (1, 3), (40, 1), (40, 2), (40, 3)]) (f : υ 0 0 9 = υ 40 0 3) (rr : RR υ) (m : ∀ i, i ≠ 3 → υ 40 0 i = σ 40 0 i) : Rel υ := by
  obtain ⟨a, b, c, d, e, i, j, k⟩ := hR
  exact ⟨f, rr, RT_cg c (h 2 0 rfl (by decide)) (h 2 1 rfl (by decide)) (m 8 (by decide)) (h 40 6 rfl (by decide)) (m 9 (by decide)), RL_cg d (frG_l h rfl rfl) (m 4 (by decide)) (h 40 4 rfl (by decide)) (m 18 (by decide)) (h 40 13 rfl (by decide)),
    RA_cg e (h 3 0 rfl (by decide)) (frG_m h rfl) (h 40 9 rfl (by decide)) (m 18 (by decide)), RI_cg i (frG_l h rfl rfl) (h 40 13 rfl (by decide)) (h 40 14 rfl (by decide)), RI_cg j (frG_l h rfl rfl) (h 40 13 rfl (by decide)) (h 40 14 rfl (by decide)), RB_cg k (h 4 0 rfl (by decide)) (h 4 1 rfl (by decide)) (m 25 (by decide)) (h 40 15 rfl (by decide))⟩
theorem rel_find {σ : Sg} (hR : Rel σ) (k : Int32) : Rel (up (up σ 0 0 (upI (σ 0 0) 9 k)) 40 0 (upI ((up σ 0 0 (upI (σ 0 0) 9 k)) 40 0) 3 k)) := by
  have h : frG σ (up (up σ 0 0 (upI (σ 0 0) 9 k)) 40 0 (upI ((up σ 0 0 (upI (σ 0 0) 9 k)) 40 0) 3 k)) [(0, 0), (40, 0), (1, 1), (1, 2), (1, 3), (40, 1), (40, 2), (40, 3)] := frG_mo (frG_t (frG_u (ps := [(0, 0)]) (by decide)) (frG_u (ps := [(40, 0)]) (by decide))) (by decide)
  refine rel_gen hR h ?_ (RR_cg hR.2.1 ?_ ?_ ?_ ?_ ?_ ?_) (fun i hi => ?_)
  · rw [up_ne _ _ (by decide), up_same, upI_same, up_same, upI_same]
  · rw [up_ne _ _ (by decide), up_ne _ _ (by decide)]
  · rw [up_ne _ _ (by decide), up_ne _ _ (by decide)]
  · rw [up_ne _ _ (by decide), up_ne _ _ (by decide)]
  · rw [up_ne _ _ (by decide), up_ne _ _ (by decide)]
  · rw [up_ne _ _ (by decide), up_ne _ _ (by decide)]
  · rw [up_ne _ _ (by decide), up_ne _ _ (by decide)]
  · rw [up_same, upI_ne _ _ hi, up_ne _ _ (by decide)]
theorem there_iff {z i n : Int32} (z0 : 0 ≤ z) (z1 : z ≤ 40) (n0 : 0 ≤ n) : (¬ i < 0 ∧ ¬ n < 0 ∧ ¬ z < n ∧ ¬ z - n < i) ↔ inR 0 i (z - n) := by
  constructor
  · intro h
    exact ⟨Int32.not_lt.mp h.1, Int32.not_lt.mp h.2.2.2⟩
  · intro h
    refine ⟨Int32.not_lt.mpr h.1, Int32.not_lt.mpr n0, ?_, Int32.not_lt.mpr h.2⟩
    have a0 := t_le.mp z0
    have a1 := t_le.mp z1
    have a2 := t_le.mp n0
    have a3 := t_le.mp h.1
    have a4 := t_le.mp h.2
    rw [show (0 : Int32).toInt = 0 by decide] at a0 a2 a3
    rw [show (40 : Int32).toInt = 40 by decide] at a1
    have a5 := Int32.toInt_lt n
    rw [t_sub (by omega) (by omega)] at a4
    rw [t_lt]
    omega
theorem fd_rel {σ : Sg} {w i n : Int32} (h : RR σ) (hw : 0 ≤ w ∧ w < 8) (n0 : 0 ≤ n) : fdR (σ 1 1) (σ 1 2) w i n = if σ 40 2 w < 0 then 1 else if inR 0 i (σ 40 2 w - n) then 0 else 2 := by
  unfold fdR
  rcases h.1 w hw.1 hw.2 with q | q
  · rw [if_pos (Or.inr q.1), if_pos (by rw [q.2]; decide)]
  · rw [if_neg (fun z => z.elim (fun y => y hw) (fun y => q.1 y)), if_neg (Int32.not_lt.mpr q.2.2.2.1), q.2.2.1]
    have t := there_iff (i := i) q.2.2.2.1 q.2.2.2.2 n0
    by_cases e : inR 0 i (σ 40 2 w - n)
    · rw [if_pos e, if_pos (t.mpr e)]
    · rw [if_neg e, if_neg (fun z => e (t.mp z))]
theorem fd_neg {σ : Sg} {w i n : Int32} (h : RR σ) (hw : 0 ≤ w ∧ w < 8) (hz : ¬ σ 40 2 w < 0) (n0 : n < 0) : fdR (σ 1 1) (σ 1 2) w i n = 2 := by
  unfold fdR
  rcases h.1 w hw.1 hw.2 with q | q
  · exact absurd (by rw [q.2]; decide) hz
  · rw [if_neg (fun z => z.elim (fun y => y hw) (fun y => q.1 y)), if_neg (fun z => z.2.1 n0)]
theorem fc_rel {σ : Sg} {a i b j n : Int32} (h : RR σ) (ha : 0 ≤ a ∧ a < 8) (hb : 0 ≤ b ∧ b < 8) : fdC (σ 1 1) (σ 1 2) a i b j n = if σ 40 2 a < 0 ∨ σ 40 2 b < 0 then 1 else if ¬ σ 40 1 a = σ 40 1 b then 5 else if ¬ (¬ n < 0 ∧ inR 0 i (σ 40 2 a - n) ∧ inR 0 j (σ 40 2 b - n)) then 2 else 0 := by
  have qa := h.1 a ha.1 ha.2
  have qb := h.1 b hb.1 hb.2
  unfold fdC
  by_cases d : σ 40 2 a < 0 ∨ σ 40 2 b < 0
  · rw [if_pos d, if_pos]
    rcases d with d | d
    · rcases qa with q | q
      · exact Or.inl (Or.inr q.1)
      · exact absurd d (Int32.not_lt.mpr q.2.2.2.1)
    · rcases qb with q | q
      · exact Or.inr (Or.inr q.1)
      · exact absurd d (Int32.not_lt.mpr q.2.2.2.1)
  · have da : ¬ σ 40 2 a < 0 := fun z => d (Or.inl z)
    have db : ¬ σ 40 2 b < 0 := fun z => d (Or.inr z)
    rcases qa with q | q
    · exact absurd (by rw [q.2]; decide) da
    rcases qb with p | p
    · exact absurd (by rw [p.2]; decide) db
    rw [if_neg d, if_neg (fun z => z.elim (fun y => y.elim (fun x => x ha) q.1) (fun y => y.elim (fun x => x hb) p.1)), q.2.1, p.2.1]
    by_cases f : σ 40 1 a = σ 40 1 b
    · rw [if_neg (show ¬ ¬ σ 40 1 a = σ 40 1 b from fun z => z f), if_neg (show ¬ ¬ σ 40 1 a = σ 40 1 b from fun z => z f)]
      by_cases n0 : n < 0
      · rw [fd_neg h ha da n0, if_pos (by decide), if_pos (fun z => z.1 n0)]
      · have n1 := Int32.not_lt.mp n0
        rw [fd_rel h ha n1, fd_rel h hb n1, if_neg da, if_neg db]
        by_cases e1 : inR 0 i (σ 40 2 a - n)
        · rw [if_pos e1, if_neg (by decide)]
          by_cases e2 : inR 0 j (σ 40 2 b - n)
          · rw [if_pos e2, if_neg (show ¬ ¬ (¬ n < 0 ∧ inR 0 i (σ 40 2 a - n) ∧ inR 0 j (σ 40 2 b - n)) from fun z => z ⟨n0, e1, e2⟩)]
          · rw [if_neg e2, if_pos (fun z => e2 z.2.2)]
        · rw [if_neg e1, if_pos (by decide), if_pos (fun z => e1 z.2.1)]
    · rw [if_pos f, if_pos f]
theorem fit_go {σ τ υ : Sg} {r r' x y : Int32} (hR : Rel σ) (e : x = y) (p : r = x ∧ τ 0 0 = upI (σ 0 0) 9 0 ∧ frW σ τ) (p' : r' = y ∧ υ 40 0 = upI (τ 40 0) 3 0 ∧ frm τ υ 40 [0, 8, 10]) : r = r' ∧ Rel υ := by
  obtain ⟨a1, a2, a3⟩ := p
  obtain ⟨b1, b2, b3⟩ := p'
  have g1 := frG_W a3
  have g2 : frG τ υ [(40, 0)] := frG_f b3 (by decide)
  have h : frG σ υ [(0, 0), (40, 0), (1, 1), (1, 2), (1, 3), (40, 1), (40, 2), (40, 3)] := frG_mo (frG_t g1 g2) (by decide)
  have s : ∀ c k, irr c k = false → (c, k) ∉ [(0, 0), (40, 0)] → υ c k = σ c k := fun c k i j => frG_t g1 g2 c k i j
  refine ⟨a1.trans (e.trans b1.symm), rel_gen hR h ?_ (RR_cg hR.2.1 (s 1 1 rfl (by decide)) (s 1 2 rfl (by decide)) (s 1 3 rfl (by decide)) (s 40 1 rfl (by decide)) (s 40 2 rfl (by decide)) (s 40 3 rfl (by decide))) (fun i hi => ?_)⟩
  · rw [b3 0 0 (by decide), a2, b2, upI_same, upI_same]
  · rw [b2, upI_ne _ _ hi, g1 40 0 rfl (by decide)]
theorem st_row {σ τ υ : Sg} {w : Int32} {q : Int32} {n : Int32} {r r' : Int32} (hR : Rel σ) (g : if ¬ ((0 ≤ w ∧ w < 8) ∧ (0 ≤ q ∧ q ≤ 2) ∧ ¬ 40 < n) then r = -1000001 ∧ τ = σ else if n < 0 then r = -1000014 ∧ τ = up σ 0 0 (upI (σ 0 0) 9 (4)) else r = n ∧ τ 1 1 = upI (σ 1 1) w q ∧ τ 1 2 = upI (σ 1 2) w n ∧ τ 1 3 = rowZ (σ 1 3) w ∧ τ 0 0 = upI (σ 0 0) 9 0 ∧ frs σ τ [(0, 0), (1, 1), (1, 2), (1, 3)]) (g' : if ¬ (inR 0 w 7 ∧ inR 0 q 2 ∧ ¬ 40 < n) then r' = -1000001 ∧ υ = τ else if n < 0 then r' = -1000014 ∧ υ = up τ 40 0 (upI (τ 40 0) 3 (4)) else r' = n ∧ υ 40 1 = upI (τ 40 1) w q ∧ υ 40 2 = upI (τ 40 2) w n ∧ υ 40 3 = rowZ (τ 40 3) w ∧ υ 40 0 = upI (τ 40 0) 3 0 ∧ frm τ υ 40 [0, 1, 2, 3]) : r = r' ∧ Rel υ := by
  by_cases c : (0 ≤ w ∧ w < 8) ∧ (0 ≤ q ∧ q ≤ 2) ∧ ¬ 40 < n
  · rw [if_neg (fun z => z c)] at g
    rw [if_neg (fun z => z ⟨w7.mpr c.1, c.2⟩)] at g'
    by_cases d : n < 0
    · rw [if_pos d] at g g'
      obtain ⟨a1, rfl⟩ := g
      obtain ⟨a2, rfl⟩ := g'
      exact ⟨a1.trans a2.symm, rel_find hR _⟩
    · rw [if_neg d] at g g'
      obtain ⟨a1, a2, a3, a4, a5, a6⟩ := g
      obtain ⟨b1, b2, b3, b4, b5, b6⟩ := g'
      have k := fun k (hk : k ≠ 0 ∧ k ≠ 1 ∧ k ≠ 2 ∧ k ≠ 3) => b6 40 k (by simp [hk])
      have u : ∀ c k, c ≠ 40 → υ c k = τ c k := fun c k hc => b6 c k (fun e => hc e.1)
      have t40 : ∀ k, τ 40 k = σ 40 k := fun k => a6 40 k (by simp)
      refine ⟨a1.trans b1.symm, rel_gen hR (frG_mo (frG_t (frG_s a6) (frG_f b6 (ps := [(40, 0), (40, 1), (40, 2), (40, 3)]) (by decide))) (by decide)) ?_ ?_ (fun i hi => ?_)⟩
      · rw [u 0 0 (by decide), a5, b5, upI_same, upI_same]
      · refine ⟨fun x x0 x8 => ?_, ?_⟩
        · rw [u 1 1 (by decide), u 1 2 (by decide), a2, a3, b2, b3, t40, t40]
          by_cases e : x = w
          · right
            rw [e, upI_same, upI_same, upI_same, upI_same]
            exact ⟨fun z => absurd c.2.1.1 (by rw [z]; decide), rfl, rfl, Int32.not_lt.mp d, Int32.not_lt.mp c.2.2⟩
          · rw [upI_ne _ _ e, upI_ne _ _ e, upI_ne _ _ e, upI_ne _ _ e]
            exact hR.2.1.1 x x0 x8
        · rw [u 1 3 (by decide), a4, b4, t40, hR.2.1.2]
      · rw [b5, upI_ne _ _ hi, t40]
  · rw [if_pos c] at g
    rw [if_pos (fun z => c ⟨w7.mp z.1, z.2⟩)] at g'
    obtain ⟨a1, rfl⟩ := g
    obtain ⟨a2, rfl⟩ := g'
    exact ⟨a1.trans a2.symm, hR⟩
theorem st_set {σ τ υ : Sg} {w : Int32} {i : Int32} {v : Int32} {r r' : Int32} (hR : Rel σ) (g : if ¬ (0 ≤ w ∧ w < 8) then r = -1000001 ∧ τ = σ else if ¬ (fdR (σ 1 1) (σ 1 2) w i 1) = 0 then r = -1000010 - (fdR (σ 1 1) (σ 1 2) w i 1) ∧ τ = up σ 0 0 (upI (σ 0 0) 9 ((fdR (σ 1 1) (σ 1 2) w i 1))) else r = lanV (σ 1 1 w) v ∧ τ 1 3 = upI (σ 1 3) (w * 40 + i) (lanV (σ 1 1 w) v) ∧ τ 0 0 = upI (σ 0 0) 9 0 ∧ frs σ τ [(0, 0), (1, 3)]) (g' : if ¬ inR 0 w 7 then r' = -1000001 ∧ υ = τ else if τ 40 2 w < 0 then r' = -1000011 ∧ υ = up τ 40 0 (upI (τ 40 0) 3 (1)) else if ¬ inR 0 i (τ 40 2 w - 1) then r' = -1000012 ∧ υ = up τ 40 0 (upI (τ 40 0) 3 (2)) else r' = (if τ 40 1 w = 0 then shr32 (shl32 v 24) 24 else if τ 40 1 w = 1 then shr32 (shl32 v 16) 16 else v) ∧ υ 40 3 = upI (τ 40 3) (40 * w + i) (if τ 40 1 w = 0 then shr32 (shl32 v 24) 24 else if τ 40 1 w = 1 then shr32 (shl32 v 16) 16 else v) ∧ υ 40 0 = upI (τ 40 0) 3 0 ∧ frm τ υ 40 [0, 3]) : r = r' ∧ Rel υ := by
  by_cases c : 0 ≤ w ∧ w < 8
  · rw [if_neg (fun z => z c)] at g
    rw [if_neg (fun z => z (w7.mpr c))] at g'
    have fd := fd_rel (i := i) (n := 1) hR.2.1 c (by decide)
    rw [fd] at g
    by_cases d : σ 40 2 w < 0
    · rw [if_pos d, if_pos (by decide)] at g
      have d' : τ 40 2 w < 0 := by rw [g.2, up_ne _ _ (by decide)]; exact d
      rw [if_pos d'] at g'
      obtain ⟨a1, rfl⟩ := g
      obtain ⟨a2, rfl⟩ := g'
      exact ⟨a1.trans a2.symm, rel_find hR _⟩
    · rw [if_neg d] at g
      by_cases e : inR 0 i (σ 40 2 w - 1)
      · rw [if_pos e, if_neg (by decide)] at g
        obtain ⟨a1, a2, a3, a4⟩ := g
        have t40 : ∀ k, τ 40 k = σ 40 k := fun k => a4 40 k (by simp)
        rw [t40, t40, t40, t40, if_neg d, if_neg (fun z => z e)] at g'
        obtain ⟨b1, b2, b3, b4⟩ := g'
        have u : ∀ c k, c ≠ 40 → υ c k = τ c k := fun c k hc => b4 c k (fun e => hc e.1)
        have el : lanV (σ 1 1 w) v = (if σ 40 1 w = 0 then shr32 (shl32 v 24) 24 else if σ 40 1 w = 1 then shr32 (shl32 v 16) 16 else v) := by
          rcases hR.2.1.1 w c.1 c.2 with z | z
          · rw [z.2] at d; exact absurd (by decide) d
          · rw [z.2.1]; unfold lanV; rw [i8_eq, i16_eq]
        refine ⟨a1.trans (el.trans b1.symm), rel_gen hR (frG_mo (frG_t (frG_s a4) (frG_f b4 (ps := [(40, 0), (40, 3)]) (by decide))) (by decide)) ?_ ?_ (fun i hi => ?_)⟩
        · rw [u 0 0 (by decide), a3, b3, upI_same, upI_same]
        · refine ⟨fun x x0 x8 => ?_, ?_⟩
          · rw [u 1 1 (by decide), u 1 2 (by decide), a4 1 1 (by decide), a4 1 2 (by decide), b4 40 1 (by decide), b4 40 2 (by decide), t40, t40]
            exact hR.2.1.1 x x0 x8
          · rw [u 1 3 (by decide), a2, b2, hR.2.1.2, Int32.mul_comm w 40, el]
        · rw [b3, upI_ne _ _ hi]
      · rw [if_neg e, if_pos (by decide)] at g
        have t2 : τ 40 2 = σ 40 2 := by rw [g.2, up_ne _ _ (by decide)]
        rw [t2, if_neg d, if_pos e] at g'
        obtain ⟨a1, rfl⟩ := g
        obtain ⟨a2, rfl⟩ := g'
        exact ⟨a1.trans a2.symm, rel_find hR _⟩
  · rw [if_pos c] at g
    rw [if_pos (fun z => c (w7.mp z))] at g'
    obtain ⟨a1, rfl⟩ := g
    obtain ⟨a2, rfl⟩ := g'
    exact ⟨a1.trans a2.symm, hR⟩
theorem st_copy {σ τ υ : Sg} {a : Int32} {i : Int32} {b : Int32} {j : Int32} {n : Int32} {r r' : Int32} (hR : Rel σ) (g : if ¬ ((0 ≤ a ∧ a < 8) ∧ (0 ≤ b ∧ b < 8)) then r = -1000001 ∧ τ = σ else if ¬ (fdC (σ 1 1) (σ 1 2) a i b j n) = 0 then r = -1000010 - (fdC (σ 1 1) (σ 1 2) a i b j n) ∧ τ = up σ 0 0 (upI (σ 0 0) 9 ((fdC (σ 1 1) (σ 1 2) a i b j n))) else r = n ∧ τ 1 3 = blkS (σ 1 3) (fun x => σ 1 3 (a * 40 + i + x)) (b * 40 + j) n ∧ τ 0 0 = upI (σ 0 0) 9 0 ∧ frs σ τ [(0, 0), (1, 3)]) (g' : if ¬ (inR 0 a 7 ∧ inR 0 b 7) then r' = -1000001 ∧ υ = τ else if τ 40 2 a < 0 ∨ τ 40 2 b < 0 then r' = -1000011 ∧ υ = up τ 40 0 (upI (τ 40 0) 3 (1)) else if ¬ τ 40 1 a = τ 40 1 b then r' = -1000015 ∧ υ = up τ 40 0 (upI (τ 40 0) 3 (5)) else if ¬ (¬ n < 0 ∧ inR 0 i (τ 40 2 a - n) ∧ inR 0 j (τ 40 2 b - n)) then r' = -1000012 ∧ υ = up τ 40 0 (upI (τ 40 0) 3 (2)) else r' = n ∧ υ 40 3 = blkS (τ 40 3) (fun t => τ 40 3 (40 * a + i + t)) (40 * b + j) n ∧ υ 40 0 = upI (τ 40 0) 3 0 ∧ frm τ υ 40 [0, 3, 5]) : r = r' ∧ Rel υ := by
  by_cases c : (0 ≤ a ∧ a < 8) ∧ (0 ≤ b ∧ b < 8)
  · rw [if_neg (fun z => z c)] at g
    rw [if_neg (fun z => z ⟨w7.mpr c.1, w7.mpr c.2⟩)] at g'
    have fd := fc_rel (i := i) (j := j) (n := n) hR.2.1 c.1 c.2
    rw [fd] at g
    by_cases d : σ 40 2 a < 0 ∨ σ 40 2 b < 0
    · rw [if_pos d, if_pos (by decide)] at g
      have t2 : τ 40 2 = σ 40 2 := by rw [g.2, up_ne _ _ (by decide)]
      rw [t2, if_pos d] at g'
      obtain ⟨a1, rfl⟩ := g
      obtain ⟨a2, rfl⟩ := g'
      exact ⟨a1.trans a2.symm, rel_find hR _⟩
    · rw [if_neg d] at g
      by_cases f : σ 40 1 a = σ 40 1 b
      · rw [if_neg (show ¬ ¬ σ 40 1 a = σ 40 1 b from fun z => z f)] at g
        by_cases e : ¬ n < 0 ∧ inR 0 i (σ 40 2 a - n) ∧ inR 0 j (σ 40 2 b - n)
        · rw [if_neg (show ¬ ¬ (¬ n < 0 ∧ inR 0 i (σ 40 2 a - n) ∧ inR 0 j (σ 40 2 b - n)) from fun z => z e), if_neg (by decide)] at g
          obtain ⟨a1, a2, a3, a4⟩ := g
          have t40 : ∀ k, τ 40 k = σ 40 k := fun k => a4 40 k (by simp)
          rw [t40 2, t40 1, t40 3, t40 0, if_neg d, if_neg (show ¬ ¬ σ 40 1 a = σ 40 1 b from fun z => z f), if_neg (show ¬ ¬ (¬ n < 0 ∧ inR 0 i (σ 40 2 a - n) ∧ inR 0 j (σ 40 2 b - n)) from fun z => z e)] at g'
          obtain ⟨b1, b2, b3, b4⟩ := g'
          have u : ∀ c k, c ≠ 40 → υ c k = τ c k := fun c k hc => b4 c k (fun e => hc e.1)
          refine ⟨a1.trans b1.symm, rel_gen hR (frG_mo (frG_t (frG_s a4) (frG_f b4 (ps := [(40, 0), (40, 3)]) (by decide))) (by decide)) ?_ ?_ (fun i hi => ?_)⟩
          · rw [u 0 0 (by decide), a3, b3, upI_same, upI_same]
          · refine ⟨fun x x0 x8 => ?_, ?_⟩
            · rw [u 1 1 (by decide), u 1 2 (by decide), a4 1 1 (by decide), a4 1 2 (by decide), b4 40 1 (by decide), b4 40 2 (by decide), t40, t40]
              exact hR.2.1.1 x x0 x8
            · rw [u 1 3 (by decide), a2, b2, hR.2.1.2, Int32.mul_comm a 40, Int32.mul_comm b 40]
          · rw [b3, upI_ne _ _ hi]
        · rw [if_pos e, if_pos (by decide)] at g
          have t2 : ∀ k, τ 40 k = σ 40 k := fun k => by rw [g.2, up_ne _ _ (by omega)]
          rw [t2 2, t2 1, if_neg d, if_neg (show ¬ ¬ σ 40 1 a = σ 40 1 b from fun z => z f), if_pos e] at g'
          obtain ⟨a1, rfl⟩ := g
          obtain ⟨a2, rfl⟩ := g'
          exact ⟨a1.trans a2.symm, rel_find hR _⟩
      · rw [if_pos f, if_pos (by decide)] at g
        have t2 : ∀ k, τ 40 k = σ 40 k := fun k => by rw [g.2, up_ne _ _ (by omega)]
        rw [t2 2, t2 1, if_neg d, if_pos f] at g'
        obtain ⟨a1, rfl⟩ := g
        obtain ⟨a2, rfl⟩ := g'
        exact ⟨a1.trans a2.symm, rel_find hR _⟩
  · rw [if_pos c] at g
    rw [if_pos (fun z => c ⟨w7.mp z.1, w7.mp z.2⟩)] at g'
    obtain ⟨a1, rfl⟩ := g
    obtain ⟨a2, rfl⟩ := g'
    exact ⟨a1.trans a2.symm, hR⟩
theorem st_drop {σ τ υ : Sg} {w : Int32} {r r' : Int32} (hR : Rel σ) (g : if ¬ (0 ≤ w ∧ w < 8) then r = -1000001 ∧ τ = σ else if σ 1 1 w = -1 then r = -1000011 ∧ τ = up σ 0 0 (upI (σ 0 0) 9 (1)) else r = σ 1 2 w ∧ τ 1 1 = upI (σ 1 1) w (-1) ∧ τ 0 0 = upI (σ 0 0) 9 0 ∧ frs σ τ [(0, 0), (1, 1)]) (g' : if ¬ inR 0 w 7 then r' = -1000001 ∧ υ = τ else if τ 40 2 w < 0 then r' = -1000011 ∧ υ = up τ 40 0 (upI (τ 40 0) 3 (1)) else r' = τ 40 2 w ∧ υ 40 2 = upI (τ 40 2) w (-1) ∧ υ 40 0 = upI (τ 40 0) 3 0 ∧ frm τ υ 40 [0, 2]) : r = r' ∧ Rel υ := by
  by_cases c : 0 ≤ w ∧ w < 8
  · rw [if_neg (fun z => z c)] at g
    rw [if_neg (fun z => z (w7.mpr c))] at g'
    rcases hR.2.1.1 w c.1 c.2 with z | z
    · rw [if_pos z.1] at g
      have t2 : τ 40 2 = σ 40 2 := by rw [g.2, up_ne _ _ (by decide)]
      rw [t2, if_pos (by rw [z.2]; decide)] at g'
      obtain ⟨a1, rfl⟩ := g
      obtain ⟨a2, rfl⟩ := g'
      exact ⟨a1.trans a2.symm, rel_find hR _⟩
    · rw [if_neg z.1] at g
      obtain ⟨a1, a2, a3, a4⟩ := g
      have t40 : ∀ k, τ 40 k = σ 40 k := fun k => a4 40 k (by simp)
      rw [t40 2, t40 0, if_neg (Int32.not_lt.mpr z.2.2.2.1)] at g'
      obtain ⟨b1, b2, b3, b4⟩ := g'
      have u : ∀ c k, c ≠ 40 → υ c k = τ c k := fun c k hc => b4 c k (fun e => hc e.1)
      refine ⟨a1.trans (z.2.2.1.trans b1.symm), rel_gen hR (frG_mo (frG_t (frG_s a4) (frG_f b4 (ps := [(40, 0), (40, 2)]) (by decide))) (by decide)) ?_ ?_ (fun i hi => ?_)⟩
      · rw [u 0 0 (by decide), a3, b3, upI_same, upI_same]
      · refine ⟨fun x x0 x8 => ?_, ?_⟩
        · rw [u 1 1 (by decide), u 1 2 (by decide), a2, a4 1 2 (by decide), b4 40 1 (by decide), b2, t40]
          by_cases e : x = w
          · left
            rw [e, upI_same, upI_same]
            exact ⟨rfl, rfl⟩
          · rw [upI_ne _ _ e, upI_ne _ _ e]
            exact hR.2.1.1 x x0 x8
        · rw [u 1 3 (by decide), a4 1 3 (by decide), b4 40 3 (by decide), t40, hR.2.1.2]
      · rw [b3, upI_ne _ _ hi]
  · rw [if_pos c] at g
    rw [if_pos (fun z => c (w7.mp z))] at g'
    obtain ⟨a1, rfl⟩ := g
    obtain ⟨a2, rfl⟩ := g'
    exact ⟨a1.trans a2.symm, hR⟩
theorem st_as {σ τ υ : Sg} {f : Int32} {k : Int32} {r r' : Int32} (hR : Rel σ) (g : if ¬ (isF (σ 40 4) f ∧ inR 0 k 5) then r = -1000001 ∧ τ = σ else if kindB (σ 40 4 (26 + f)) k then r = f ∧ τ = up σ 0 0 (upI (σ 0 0) 9 (0)) else r = -1000013 ∧ τ = up σ 0 0 (upI (σ 0 0) 9 (3))) (g' : if ¬ (isF (τ 40 4) f ∧ inR 0 k 5) then r' = -1000001 ∧ υ = τ else if kindB (τ 40 4 (26 + f)) k then r' = f ∧ υ = up τ 40 0 (upI (τ 40 0) 3 (0)) else r' = -1000013 ∧ υ = up τ 40 0 (upI (τ 40 0) 3 (3))) : r = r' ∧ Rel υ := by
  by_cases c : ¬ (isF (σ 40 4) f ∧ inR 0 k 5)
  · rw [if_pos c] at g
    have t4 : τ 40 4 = σ 40 4 := by rw [g.2]
    rw [t4, if_pos c] at g'
    obtain ⟨a1, rfl⟩ := g
    obtain ⟨a2, rfl⟩ := g'
    exact ⟨a1.trans a2.symm, hR⟩
  · rw [if_neg c] at g
    by_cases d : kindB (σ 40 4 (26 + f)) k
    · rw [if_pos d] at g
      have t4 : τ 40 4 = σ 40 4 := by rw [g.2, up_ne _ _ (by decide)]
      rw [t4, if_neg c, if_pos d] at g'
      obtain ⟨a1, rfl⟩ := g
      obtain ⟨a2, rfl⟩ := g'
      exact ⟨a1.trans a2.symm, rel_find hR _⟩
    · rw [if_neg d] at g
      have t4 : τ 40 4 = σ 40 4 := by rw [g.2, up_ne _ _ (by decide)]
      rw [t4, if_neg c, if_neg d] at g'
      obtain ⟨a1, rfl⟩ := g
      obtain ⟨a2, rfl⟩ := g'
      exact ⟨a1.trans a2.symm, rel_find hR _⟩
theorem st_who {σ τ υ : Sg} {f : Int32} {v : Int32} {b : Int32} {w : Int32} {i : Int32} {n : Int32} {r r' : Int32} (hR : Rel σ) (g : if ¬ (isF (σ 40 4) f ∧ inR 0 v 1 ∧ isB (σ 40 4) b ∧ (0 ≤ w ∧ w < 8) ∧ inR 1 n 12) then r = -1000001 ∧ τ = σ else if ¬ bitv (σ 40 4 7) f = 0 then r = -1000002 ∧ τ = σ else if ¬ (fdR (σ 1 1) (σ 1 2) w i n) = 0 then r = -1000010 - (fdR (σ 1 1) (σ 1 2) w i n) ∧ τ = up σ 0 0 (upI (σ 0 0) 9 ((fdR (σ 1 1) (σ 1 2) w i n))) else r = (if v = 0 then fitR (σ 40 4) (σ 1 3) (26 + f) 1 5 b (w * 40 + i) n else fitR (σ 40 4) (σ 1 3) (31 + f) 0 (σ 40 4 0 - 1) b (w * 40 + i) n) ∧ τ 0 0 = upI (σ 0 0) 9 0 ∧ frW σ τ) (g' : if ¬ (isF (τ 40 4) f ∧ inR 0 v 1 ∧ isB (τ 40 4) b ∧ inR 0 w 7 ∧ inR 1 n 12) then r' = -1000001 ∧ υ = τ else if ¬ bitv (τ 40 4 7) f = 0 then r' = -1000002 ∧ υ = τ else if τ 40 2 w < 0 then r' = -1000011 ∧ υ = up τ 40 0 (upI (τ 40 0) 3 (1)) else if ¬ inR 0 i (τ 40 2 w - n) then r' = -1000012 ∧ υ = up τ 40 0 (upI (τ 40 0) 3 (2)) else if v = 0 then r' = fitR (τ 40 4) (τ 40 3) (26 + f) 1 5 b (40 * w + i) n ∧ υ 40 0 = upI (τ 40 0) 3 0 ∧ frm τ υ 40 [0, 8, 10] else r' = fitR (τ 40 4) (τ 40 3) (31 + f) 0 (τ 40 4 0 - 1) b (40 * w + i) n ∧ υ 40 0 = upI (τ 40 0) 3 0 ∧ frm τ υ 40 [0, 8, 10]) : r = r' ∧ Rel υ := by
  have go : ∀ {x y : Int32} {τ υ : Sg}, x = y → (r = x ∧ τ 0 0 = upI (σ 0 0) 9 0 ∧ frW σ τ) → (r' = y ∧ υ 40 0 = upI (τ 40 0) 3 0 ∧ frm τ υ 40 [0, 8, 10]) → r = r' ∧ Rel υ := fun e p p' => fit_go hR e p p'
  by_cases c : isF (σ 40 4) f ∧ inR 0 v 1 ∧ isB (σ 40 4) b ∧ (0 ≤ w ∧ w < 8) ∧ inR 1 n 12
  · rw [if_neg (fun z => z c)] at g
    have n0 : 0 ≤ n := Int32.le_trans (by decide) c.2.2.2.2.1
    have fd := fd_rel (i := i) (n := n) hR.2.1 c.2.2.2.1 n0
    have c' : ∀ {τ : Sg}, τ 40 4 = σ 40 4 → isF (τ 40 4) f ∧ inR 0 v 1 ∧ isB (τ 40 4) b ∧ inR 0 w 7 ∧ inR 1 n 12 := fun e => by rw [e]; exact ⟨c.1, c.2.1, c.2.2.1, w7.mpr c.2.2.2.1, c.2.2.2.2⟩
    by_cases b : ¬ bitv (σ 40 4 7) f = 0
    · rw [if_pos b] at g
      have t4 : τ 40 4 = σ 40 4 := by rw [g.2]
      rw [if_neg (fun z => z (c' t4)), t4, if_pos b] at g'
      obtain ⟨a1, rfl⟩ := g
      obtain ⟨a2, rfl⟩ := g'
      exact ⟨a1.trans a2.symm, hR⟩
    rw [if_neg b] at g
    rw [fd] at g
    by_cases d : σ 40 2 w < 0
    · rw [if_pos d, if_pos (by decide)] at g
      have t4 : τ 40 4 = σ 40 4 := by rw [g.2, up_ne _ _ (by decide)]
      have t2 : τ 40 2 = σ 40 2 := by rw [g.2, up_ne _ _ (by decide)]
      rw [if_neg (fun z => z (c' t4)), t4, if_neg b, t2, if_pos d] at g'
      obtain ⟨a1, rfl⟩ := g
      obtain ⟨a2, rfl⟩ := g'
      exact ⟨a1.trans a2.symm, rel_find hR _⟩
    · rw [if_neg d] at g
      by_cases e : inR 0 i (σ 40 2 w - n)
      · rw [if_pos e, if_neg (by decide)] at g
        have t4 : τ 40 4 = σ 40 4 := frG_W g.2.2 40 4 (by decide) (by decide)
        have t2 : τ 40 2 = σ 40 2 := frG_W g.2.2 40 2 (by decide) (by decide)
        have t3 : τ 40 3 = σ 40 3 := frG_W g.2.2 40 3 (by decide) (by decide)
        rw [if_neg (fun z => z (c' t4)), t4, if_neg b, t2, if_neg d, if_neg (fun z => z e)] at g'
        (try rw [t4] at g')
        rw [t3] at g'
        rw [hR.2.1.2, Int32.mul_comm w 40] at g
        by_cases v0 : v = 0
        · rw [if_pos v0] at g g'
          exact go rfl g g'
        · rw [if_neg v0] at g g'
          exact go rfl g g'
      · rw [if_neg e, if_pos (by decide)] at g
        have t4 : τ 40 4 = σ 40 4 := by rw [g.2, up_ne _ _ (by decide)]
        have t2 : τ 40 2 = σ 40 2 := by rw [g.2, up_ne _ _ (by decide)]
        rw [if_neg (fun z => z (c' t4)), t4, if_neg b, t2, if_neg d, if_pos e] at g'
        obtain ⟨a1, rfl⟩ := g
        obtain ⟨a2, rfl⟩ := g'
        exact ⟨a1.trans a2.symm, rel_find hR _⟩
  · rw [if_pos c] at g
    have t4 : τ 40 4 = σ 40 4 := by rw [g.2]
    rw [if_pos (fun z => c (by rw [t4] at z; exact ⟨z.1, z.2.1, z.2.2.1, w7.mp z.2.2.2.1, z.2.2.2.2⟩))] at g'
    obtain ⟨a1, rfl⟩ := g
    obtain ⟨a2, rfl⟩ := g'
    exact ⟨a1.trans a2.symm, hR⟩
theorem st_paste {σ τ υ : Sg} {b : Int32} {o : Int32} {w : Int32} {i : Int32} {n : Int32} {r r' : Int32} (hR : Rel σ) (g : if ¬ (isB (σ 40 4) b ∧ isB (σ 40 4) o ∧ (0 ≤ w ∧ w < 8) ∧ inR 1 n 12) then r = -1000001 ∧ τ = σ else if ¬ (fdR (σ 1 1) (σ 1 2) w i n) = 0 then r = -1000010 - (fdR (σ 1 1) (σ 1 2) w i n) ∧ τ = up σ 0 0 (upI (σ 0 0) 9 ((fdR (σ 1 1) (σ 1 2) w i n))) else r = fitR (σ 40 4) (σ 1 3) (14 + b) 0 9 o (w * 40 + i) n ∧ τ 0 0 = upI (σ 0 0) 9 0 ∧ frW σ τ) (g' : if ¬ (isB (τ 40 4) b ∧ isB (τ 40 4) o ∧ inR 0 w 7 ∧ inR 1 n 12) then r' = -1000001 ∧ υ = τ else if τ 40 2 w < 0 then r' = -1000011 ∧ υ = up τ 40 0 (upI (τ 40 0) 3 (1)) else if ¬ inR 0 i (τ 40 2 w - n) then r' = -1000012 ∧ υ = up τ 40 0 (upI (τ 40 0) 3 (2)) else r' = fitR (τ 40 4) (τ 40 3) (14 + b) 0 9 o (40 * w + i) n ∧ υ 40 0 = upI (τ 40 0) 3 0 ∧ frm τ υ 40 [0, 8, 10]) : r = r' ∧ Rel υ := by
  have go : ∀ {x y : Int32} {τ υ : Sg}, x = y → (r = x ∧ τ 0 0 = upI (σ 0 0) 9 0 ∧ frW σ τ) → (r' = y ∧ υ 40 0 = upI (τ 40 0) 3 0 ∧ frm τ υ 40 [0, 8, 10]) → r = r' ∧ Rel υ := fun e p p' => fit_go hR e p p'
  by_cases c : isB (σ 40 4) b ∧ isB (σ 40 4) o ∧ (0 ≤ w ∧ w < 8) ∧ inR 1 n 12
  · rw [if_neg (fun z => z c)] at g
    have n0 : 0 ≤ n := Int32.le_trans (by decide) c.2.2.2.1
    have fd := fd_rel (i := i) (n := n) hR.2.1 c.2.2.1 n0
    have c' : ∀ {τ : Sg}, τ 40 4 = σ 40 4 → isB (τ 40 4) b ∧ isB (τ 40 4) o ∧ inR 0 w 7 ∧ inR 1 n 12 := fun e => by rw [e]; exact ⟨c.1, c.2.1, w7.mpr c.2.2.1, c.2.2.2⟩
    
    rw [fd] at g
    by_cases d : σ 40 2 w < 0
    · rw [if_pos d, if_pos (by decide)] at g
      have t4 : τ 40 4 = σ 40 4 := by rw [g.2, up_ne _ _ (by decide)]
      have t2 : τ 40 2 = σ 40 2 := by rw [g.2, up_ne _ _ (by decide)]
      rw [if_neg (fun z => z (c' t4)), t2, if_pos d] at g'
      obtain ⟨a1, rfl⟩ := g
      obtain ⟨a2, rfl⟩ := g'
      exact ⟨a1.trans a2.symm, rel_find hR _⟩
    · rw [if_neg d] at g
      by_cases e : inR 0 i (σ 40 2 w - n)
      · rw [if_pos e, if_neg (by decide)] at g
        have t4 : τ 40 4 = σ 40 4 := frG_W g.2.2 40 4 (by decide) (by decide)
        have t2 : τ 40 2 = σ 40 2 := frG_W g.2.2 40 2 (by decide) (by decide)
        have t3 : τ 40 3 = σ 40 3 := frG_W g.2.2 40 3 (by decide) (by decide)
        rw [if_neg (fun z => z (c' t4)), t2, if_neg d, if_neg (fun z => z e)] at g'
        (try rw [t4] at g')
        rw [t3] at g'
        rw [hR.2.1.2, Int32.mul_comm w 40] at g
        exact go rfl g g'
      · rw [if_neg e, if_pos (by decide)] at g
        have t4 : τ 40 4 = σ 40 4 := by rw [g.2, up_ne _ _ (by decide)]
        have t2 : τ 40 2 = σ 40 2 := by rw [g.2, up_ne _ _ (by decide)]
        rw [if_neg (fun z => z (c' t4)), t2, if_neg d, if_pos e] at g'
        obtain ⟨a1, rfl⟩ := g
        obtain ⟨a2, rfl⟩ := g'
        exact ⟨a1.trans a2.symm, rel_find hR _⟩
  · rw [if_pos c] at g
    have t4 : τ 40 4 = σ 40 4 := by rw [g.2]
    rw [if_pos (fun z => c (by rw [t4] at z; exact ⟨z.1, z.2.1, w7.mp z.2.2.1, z.2.2.2⟩))] at g'
    obtain ⟨a1, rfl⟩ := g
    obtain ⟨a2, rfl⟩ := g'
    exact ⟨a1.trans a2.symm, hR⟩
theorem st_hungers {σ τ υ : Sg} {b : Int32} {w : Int32} {i : Int32} {n : Int32} {r r' : Int32} (hR : Rel σ) (g : if ¬ (isB (σ 40 4) b ∧ (0 ≤ w ∧ w < 8) ∧ inR 1 n 12) then r = -1000001 ∧ τ = σ else if ¬ (fdR (σ 1 1) (σ 1 2) w i n) = 0 then r = -1000010 - (fdR (σ 1 1) (σ 1 2) w i n) ∧ τ = up σ 0 0 (upI (σ 0 0) 9 ((fdR (σ 1 1) (σ 1 2) w i n))) else r = fitR (σ 40 4) (σ 1 3) 2 1 9 b (w * 40 + i) n ∧ τ 0 0 = upI (σ 0 0) 9 0 ∧ frW σ τ) (g' : if ¬ (isB (τ 40 4) b ∧ inR 0 w 7 ∧ inR 1 n 12) then r' = -1000001 ∧ υ = τ else if τ 40 2 w < 0 then r' = -1000011 ∧ υ = up τ 40 0 (upI (τ 40 0) 3 (1)) else if ¬ inR 0 i (τ 40 2 w - n) then r' = -1000012 ∧ υ = up τ 40 0 (upI (τ 40 0) 3 (2)) else r' = fitR (τ 40 4) (τ 40 3) 2 1 9 b (40 * w + i) n ∧ υ 40 0 = upI (τ 40 0) 3 0 ∧ frm τ υ 40 [0, 8, 10]) : r = r' ∧ Rel υ := by
  have go : ∀ {x y : Int32} {τ υ : Sg}, x = y → (r = x ∧ τ 0 0 = upI (σ 0 0) 9 0 ∧ frW σ τ) → (r' = y ∧ υ 40 0 = upI (τ 40 0) 3 0 ∧ frm τ υ 40 [0, 8, 10]) → r = r' ∧ Rel υ := fun e p p' => fit_go hR e p p'
  by_cases c : isB (σ 40 4) b ∧ (0 ≤ w ∧ w < 8) ∧ inR 1 n 12
  · rw [if_neg (fun z => z c)] at g
    have n0 : 0 ≤ n := Int32.le_trans (by decide) c.2.2.1
    have fd := fd_rel (i := i) (n := n) hR.2.1 c.2.1 n0
    have c' : ∀ {τ : Sg}, τ 40 4 = σ 40 4 → isB (τ 40 4) b ∧ inR 0 w 7 ∧ inR 1 n 12 := fun e => by rw [e]; exact ⟨c.1, w7.mpr c.2.1, c.2.2⟩
    
    rw [fd] at g
    by_cases d : σ 40 2 w < 0
    · rw [if_pos d, if_pos (by decide)] at g
      have t4 : τ 40 4 = σ 40 4 := by rw [g.2, up_ne _ _ (by decide)]
      have t2 : τ 40 2 = σ 40 2 := by rw [g.2, up_ne _ _ (by decide)]
      rw [if_neg (fun z => z (c' t4)), t2, if_pos d] at g'
      obtain ⟨a1, rfl⟩ := g
      obtain ⟨a2, rfl⟩ := g'
      exact ⟨a1.trans a2.symm, rel_find hR _⟩
    · rw [if_neg d] at g
      by_cases e : inR 0 i (σ 40 2 w - n)
      · rw [if_pos e, if_neg (by decide)] at g
        have t4 : τ 40 4 = σ 40 4 := frG_W g.2.2 40 4 (by decide) (by decide)
        have t2 : τ 40 2 = σ 40 2 := frG_W g.2.2 40 2 (by decide) (by decide)
        have t3 : τ 40 3 = σ 40 3 := frG_W g.2.2 40 3 (by decide) (by decide)
        rw [if_neg (fun z => z (c' t4)), t2, if_neg d, if_neg (fun z => z e)] at g'
        (try rw [t4] at g')
        rw [t3] at g'
        rw [hR.2.1.2, Int32.mul_comm w 40] at g
        exact go rfl g g'
      · rw [if_neg e, if_pos (by decide)] at g
        have t4 : τ 40 4 = σ 40 4 := by rw [g.2, up_ne _ _ (by decide)]
        have t2 : τ 40 2 = σ 40 2 := by rw [g.2, up_ne _ _ (by decide)]
        rw [if_neg (fun z => z (c' t4)), t2, if_neg d, if_pos e] at g'
        obtain ⟨a1, rfl⟩ := g
        obtain ⟨a2, rfl⟩ := g'
        exact ⟨a1.trans a2.symm, rel_find hR _⟩
  · rw [if_pos c] at g
    have t4 : τ 40 4 = σ 40 4 := by rw [g.2]
    rw [if_pos (fun z => c (by rw [t4] at z; exact ⟨z.1, w7.mp z.2.1, z.2.2⟩))] at g'
    obtain ⟨a1, rfl⟩ := g
    obtain ⟨a2, rfl⟩ := g'
    exact ⟨a1.trans a2.symm, hR⟩
