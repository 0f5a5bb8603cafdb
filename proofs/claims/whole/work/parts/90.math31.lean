theorem num_val {T : St} {N k : Nat} {lo hi slot sep : Int32} {rd : St} (h : (numP T N lo hi slot sep k rd).1 = true) : (numP T N lo hi slot sep k rd).2.2.2 = upI rd slot (nv T k (re T N k)) ∧ (numP T N lo hi slot sep k rd).2.1 = re T N k + 1 ∧ numT T N lo hi k = (true, re T N k, 0) ∧ takT T N sep (re T N k) = (true, re T N k + 1, 0) ∧ lo ≤ nv T k (re T N k) ∧ nv T k (re T N k) ≤ hi := by
  unfold numP at h ⊢
  unfold numT
  by_cases h1 : dg T N k ∧ re T N k ≤ k + 2
  · rw [if_pos h1] at h ⊢
    rw [if_pos h1]
    by_cases h2 : lo ≤ nv T k (re T N k) ∧ nv T k (re T N k) ≤ hi
    · rw [if_pos h2] at h ⊢
      rw [if_pos h2]
      have q := tak_ok h
      rw [q]
      refine ⟨rfl, rfl, rfl, ?_, h2.1, h2.2⟩
      have e := P3_tak T N sep (re T N k) (upI rd slot (nv T k (re T N k)))
      rw [q] at e
      exact e.symm
    · rw [if_neg h2] at h
      exact absurd h (by simp)
  · rw [if_neg h1] at h
    exact absurd h (by simp)
abbrev R0T : PT := (true, 0, 0)
theorem law_P3 (T : St) (N : Nat) : P3 (lawP T N) = bindT (bindT (bindT (bindT (bindT R0T (takT T N 108)) (numT T N 1 9)) (takT T N 44)) (numT T N 0 8)) (takT T N 59) := by
  unfold lawP
  rw [P3_bind, P3_bind, P3_tak]
  simp only [P3_num]
  rw [bindT_a (bindT (bindT (bindT R0T (takT T N 108)) (numT T N 1 9)) (takT T N 44)), bindT_a (bindT R0T (takT T N 108)) (numT T N 1 9)]
  rfl
theorem law_rd {T : St} {N : Nat} {r1 r2 : Int32} (h : (lawP T N).1 = true)
    (v1 : (bindT (bindT R0T (takT T N 108)) (numT T N 1 9)).1 = true → r1 = nv T (bindT R0T (takT T N 108)).2.1 (re T N (bindT R0T (takT T N 108)).2.1))
    (v2 : (bindT (bindT (bindT (bindT R0T (takT T N 108)) (numT T N 1 9)) (takT T N 44)) (numT T N 0 8)).1 = true → r2 = nv T (bindT (bindT (bindT R0T (takT T N 108)) (numT T N 1 9)) (takT T N 44)).2.1 (re T N (bindT (bindT (bindT R0T (takT T N 108)) (numT T N 1 9)) (takT T N 44)).2.1)) : (lawP T N).2.2.2 = upI (upI (fun _ => 0) 2 r1) 3 r2 := by
  have hp : (P3 (lawP T N)).1 = true := h
  rw [law_P3] at hp
  have h4 := (bindT_ok hp).1
  have h3 := (bindT_ok h4).1
  have h2 := (bindT_ok h3).1
  have h1 := (bindT_ok h2).1
  rw [v1 h2, v2 h4]
  unfold lawP at h ⊢
  obtain ⟨ha, hb⟩ := bind_ok h
  rw [hb] at h ⊢
  obtain ⟨hc, hd⟩ := bind_ok ha
  rw [hd] at ha h ⊢
  have t1 := tak_ok hc
  rw [t1] at ha h ⊢
  have n1 := num_val ha
  have n2 := num_val h
  rw [n2.1, n1.1, n1.2.1]
  have e1 : takT T N 108 0 = (true, 1, 0) := by
    have e := P3_tak T N 108 0 (fun _ => 0)
    rw [t1] at e
    exact e.symm
  have b1 : bindT R0T (takT T N 108) = (true, 1, 0) := e1
  have b2 : bindT (bindT R0T (takT T N 108)) (numT T N 1 9) = (true, re T N 1, 0) := by rw [b1]; exact n1.2.2.1
  have b3 : bindT (bindT (bindT R0T (takT T N 108)) (numT T N 1 9)) (takT T N 44) = (true, re T N 1 + 1, 0) := by rw [b2]; exact n1.2.2.2.1
  rw [b3, b1]
/-- what is kept outside of a reading -/
def frT (σ τ : Sg) (d : Nat) : Prop := ∀ c k, c ≠ d → ¬ (c = 2 ∧ k = 0) → τ c k = σ c k
theorem frT_r (σ : Sg) (d : Nat) : frT σ σ d := fun _ _ _ _ => rfl
theorem frT_t {σ τ υ : Sg} {d : Nat} (h1 : frT σ τ d) (h2 : frT τ υ d) : frT σ υ d := fun c k a b => (h2 c k a b).trans (h1 c k a b)
theorem frT_2 {σ τ : Sg} {d : Nat} (h : frm σ τ 2 [0]) : frT σ τ d := fun c k _ b => h c k (fun e => b ⟨e.1, by simpa using e.2⟩)
theorem frT_u {σ τ : Sg} {d k : Nat} {g : St} (h : frT σ τ d) : frT σ (up τ d k g) d := fun c k' a b => by
  rw [up_ne _ _ (fun e => a e.1)]
  exact h c k' a b
theorem fr_d {σ τ : Sg} {d : Nat} (h : frm σ τ 2 [0]) (hd : d ≠ 2) : τ d = σ d := funext (fun k => h d k (fun e => hd e.1))
def bkT (T : St) (N : Nat) (k : Nat) (rd : St) : PT := bindT (bindT (bindT (bindT (bindT (if rd 0 = 6 then badT 3 k else (true, k, 0)) (takT T N 98)) (numT T N 0 99)) (takT T N 44)) (numT T N 0 9)) (takT T N 59)
theorem book_P3 {T : St} {N k : Nat} {rd : St} (h1 : rd 1 = 0) (hk : k < N ∧ T (nI k) = 98) : P3 (bookP T N k rd) = bkT T N k rd := by
  unfold bookP bkT
  rw [if_neg (by rw [h1]; decide)]
  by_cases h6 : rd 0 = 6
  · rw [if_pos h6, if_pos h6]
    rfl
  · rw [if_neg h6, if_neg h6, P3_bind]
    simp only [P3_num]
    have e : bindT (true, k, 0) (takT T N 98) = (true, k + 1, 0) := by
      show takT T N 98 k = _
      unfold takT
      rw [if_pos hk]
    rw [e, bindT_a (bindT (bindT (true, k + 1, 0) (numT T N 0 99)) (takT T N 44))]
    rfl
theorem book_rd {T : St} {N k : Nat} {rd : St} {p q : Int32} (h : (bookP T N k rd).1 = true) (h1 : rd 1 = 0) (hk : k < N ∧ T (nI k) = 98) (v1 : (bindT (bindT (if rd 0 = 6 then badT 3 k else (true, k, 0)) (takT T N 98)) (numT T N 0 99)).1 = true → p = nv T (bindT (if rd 0 = 6 then badT 3 k else (true, k, 0)) (takT T N 98)).2.1 (re T N (bindT (if rd 0 = 6 then badT 3 k else (true, k, 0)) (takT T N 98)).2.1))
    (v2 : (bindT (bindT (bindT (bindT (if rd 0 = 6 then badT 3 k else (true, k, 0)) (takT T N 98)) (numT T N 0 99)) (takT T N 44)) (numT T N 0 9)).1 = true → q = nv T (bindT (bindT (bindT (if rd 0 = 6 then badT 3 k else (true, k, 0)) (takT T N 98)) (numT T N 0 99)) (takT T N 44)).2.1 (re T N (bindT (bindT (bindT (if rd 0 = 6 then badT 3 k else (true, k, 0)) (takT T N 98)) (numT T N 0 99)) (takT T N 44)).2.1)) :
    ¬ rd 0 = 6 ∧ (bookP T N k rd).2.2.2 = upI (upI (upI (upI rd (20 + rd 0) (rd 0)) 0 (rd 0 + 1)) (8 + rd 0) p) (14 + rd 0) q := by
  have hp : (P3 (bookP T N k rd)).1 = true := h
  rw [book_P3 h1 hk] at hp
  unfold bkT at hp
  have h4 := (bindT_ok hp).1
  have h3 := (bindT_ok h4).1
  have h2 := (bindT_ok h3).1
  rw [v1 h2, v2 h4]
  unfold bookP at h ⊢
  rw [if_neg (by rw [h1]; decide)] at h ⊢
  by_cases h6 : rd 0 = 6
  · rw [if_pos h6] at h; exact absurd h (by simp)
  refine ⟨h6, ?_⟩
  rw [if_neg h6] at h ⊢
  rw [if_neg h6]
  obtain ⟨ha, hb⟩ := bind_ok h
  rw [hb] at h ⊢
  have n1 := num_val ha
  have n2 := num_val h
  rw [n2.1, n1.1, n1.2.1]
  have b1 : bindT (true, k, 0) (takT T N 98) = (true, k + 1, 0) := by
    show takT T N 98 k = _
    unfold takT
    rw [if_pos hk]
  rw [b1]
  have b2 : bindT (true, k + 1, 0) (numT T N 0 99) = (true, re T N (k + 1), 0) := n1.2.2.1
  rw [b2]
  have b3 : bindT (true, re T N (k + 1), 0) (takT T N 44) = (true, re T N (k + 1) + 1, 0) := n1.2.2.2.1
  rw [b3]
theorem RI_bk {rd : St} (h : RI rd) {w : Int32} (w0 : 0 ≤ w) (w1 : w < rd 0) : bkAt rd w = w := by
  obtain ⟨x, hx, rfl⟩ := nI_of (Int32.not_lt.mpr w0)
  obtain ⟨n, hn, e⟩ := nI_of (Int32.not_lt.mpr h.1.1.1)
  have n6 := h.1.1.2
  rw [e] at n6
  have n6' := (nI_leI (b := 6) hn (by decide)).mp n6
  have xn : x < n := (nI_ltI hx hn).mp (by rw [← e]; exact w1)
  refine bk_first (by omega) (fun y hy q => ?_) ((h.2.1 _ w0 w1).2.2)
  have := (h.2.1 (nI y) (nI_pos' (by omega)) (by rw [e]; exact (nI_ltI (by omega) hn).mpr (by omega))).2.2
  rw [this] at q
  have := (nI_eq (by omega) (by omega)).mp q
  omega
theorem add_book {F : Nat → St} {rd : St} (h : LibF F rd) (hR : RI rd) (h6 : ¬ rd 0 = 6) {p q : Int32} (hR2 : RI (upI (upI (upI (upI rd (20 + rd 0) (rd 0)) 0 (rd 0 + 1)) (8 + rd 0) p) (14 + rd 0) q)) :
    LibF (setF (setF (setF (setF (setF F 1 (upI (F 1) (F 0 0) p)) 2 (upI (F 2) (F 0 0) q)) 3 (upI (F 3) (F 0 0) (F 0 0))) 4 (upI (F 4) (F 0 0) (F 0 0))) 0 (upI (F 0) 0 (F 0 0 + 1))) (upI (upI (upI (upI rd (20 + rd 0) (rd 0)) 0 (rd 0 + 1)) (8 + rd 0) p) (14 + rd 0) q) := by
  obtain ⟨hf, hb, hg⟩ := h
  have r0 := hR.1.1
  have b6 : rd 0 < 6 := (lt_incF r0.1 r0.2 h6).1
  have bi := inc_lt r0.1 b6
  have f5 := hR.1.2.1
  rw [hf.1]
  generalize hB : rd 0 = B at *
  have lo : ∀ j, j < 8 → j ≠ 0 → upI (upI (upI (upI rd (20 + B) B) 0 (B + 1)) (8 + B) p) (14 + B) q (nI j) = rd (nI j) := fun j j8 j0 => by
    rw [upI_ne _ _ (show nI j ≠ 14 + B from (ix_c 14 6 j r0.1 b6 (by omega) (by omega)).symm), upI_ne _ _ (show nI j ≠ 8 + B from (ix_c 8 6 j r0.1 b6 (by omega) (by omega)).symm), upI_ne _ _ (show nI j ≠ 0 from fun e => by have := (nI_eq (b := 0) (by omega) (by omega)).mp e; omega), upI_ne _ _ (show nI j ≠ 20 + B from (ix_c 20 6 j r0.1 b6 (by omega) (by omega)).symm)]
  have l0 : upI (upI (upI (upI rd (20 + B) B) 0 (B + 1)) (8 + B) p) (14 + B) q 0 = B + 1 := by
    rw [upI_ne _ _ (show (0 : Int32) ≠ 14 + B from (ix_c 14 6 0 r0.1 b6 (by omega) (by omega)).symm), upI_ne _ _ (show (0 : Int32) ≠ 8 + B from (ix_c 8 6 0 r0.1 b6 (by omega) (by omega)).symm), upI_same]
  have l1 : upI (upI (upI (upI rd (20 + B) B) 0 (B + 1)) (8 + B) p) (14 + B) q 1 = rd 1 := lo 1 (by omega) (by omega)
  refine ⟨⟨?_, ?_, ?_, ?_, ?_, ?_, ?_, ?_⟩, fun x x0 x1 => ?_, fun f f0 f1 => ?_⟩
  · rw [setF_same, upI_same, l0]
  · rw [setF_same, upI_ne _ _ (by decide), l1]; exact hf.2.1
  · rw [setF_same, upI_ne _ _ (by decide), show upI (upI (upI (upI rd (20 + B) B) 0 (B + 1)) (8 + B) p) (14 + B) q 2 = rd 2 from lo 2 (by omega) (by omega)]; exact hf.2.2.1
  · rw [setF_same, upI_ne _ _ (by decide), show upI (upI (upI (upI rd (20 + B) B) 0 (B + 1)) (8 + B) p) (14 + B) q 3 = rd 3 from lo 3 (by omega) (by omega)]; exact hf.2.2.2.1
  · rw [setF_same, upI_ne _ _ (by decide), show upI (upI (upI (upI rd (20 + B) B) 0 (B + 1)) (8 + B) p) (14 + B) q 4 = rd 4 from lo 4 (by omega) (by omega)]; exact hf.2.2.2.2.1
  · rw [setF_same, upI_ne _ _ (by decide), show upI (upI (upI (upI rd (20 + B) B) 0 (B + 1)) (8 + B) p) (14 + B) q 5 = rd 5 from lo 5 (by omega) (by omega)]; exact hf.2.2.2.2.2.1
  · rw [setF_same, upI_ne _ _ (by decide), show upI (upI (upI (upI rd (20 + B) B) 0 (B + 1)) (8 + B) p) (14 + B) q 6 = rd 6 from lo 6 (by omega) (by omega)]; exact hf.2.2.2.2.2.2.1
  · rw [setF_same, upI_ne _ _ (by decide), show upI (upI (upI (upI rd (20 + B) B) 0 (B + 1)) (8 + B) p) (14 + B) q 7 = rd 7 from lo 7 (by omega) (by omega)]; exact hf.2.2.2.2.2.2.2
  · rw [RI_bk hR2 x0 x1, (hR2.2.1 x x0 x1).2.2]
    rw [l0] at x1
    have x6 : x < 6 := Int32.lt_of_lt_of_le x1 (by grind)
    rw [setF_ne _ _ (by decide), setF_ne _ _ (by decide), setF_ne _ _ (by decide), setF_ne _ _ (by decide), setF_same, setF_ne _ _ (by decide), setF_ne _ _ (by decide), setF_ne _ _ (by decide), setF_same, setF_ne _ _ (by decide), setF_ne _ _ (by decide), setF_same, setF_ne _ _ (by decide), setF_same]
    by_cases e : x = B
    · subst e
      rw [upI_same, upI_same, upI_same, upI_same, upI_ne _ _ (show (8 : Int32) + x ≠ 14 + x from ix_ne 8 14 6 6 x0 x6 x0 x6), upI_same, upI_same]
      exact ⟨rfl, rfl, rfl, rfl⟩
    · have xb : x < B := lt_of_inc r0.1 b6 x1 e
      have g := hb x x0 xb
      have gb := RI_bk hR x0 (by rw [hB]; exact xb)
      have gp := (hR.2.1 x x0 (by rw [hB]; exact xb)).2.2
      rw [upI_ne _ _ e, upI_ne _ _ e, upI_ne _ _ e, upI_ne _ _ e, g.1, g.2.1, g.2.2.1, g.2.2.2, gb, gp,
        upI_ne _ _ (show (8 : Int32) + x ≠ 14 + B from ix_ne 8 14 6 6 x0 x6 r0.1 b6), upI_ne _ _ (show (8 : Int32) + x ≠ 8 + B from fun h => e (ix_in 8 (by omega) x0 (Int32.lt_trans x6 (by decide)) r0.1 (Int32.lt_trans b6 (by decide)) h)), upI_ne _ _ (show (8 : Int32) + x ≠ 0 from ix_c 8 6 0 x0 x6 (by omega) (by omega)), upI_ne _ _ (show (8 : Int32) + x ≠ 20 + B from ix_ne 8 20 6 6 x0 x6 r0.1 b6),
        upI_ne _ _ (show (14 : Int32) + x ≠ 14 + B from fun h => e (ix_in 14 (by omega) x0 (Int32.lt_trans x6 (by decide)) r0.1 (Int32.lt_trans b6 (by decide)) h)), upI_ne _ _ (show (14 : Int32) + x ≠ 8 + B from ix_ne 14 8 6 6 x0 x6 r0.1 b6), upI_ne _ _ (show (14 : Int32) + x ≠ 0 from ix_c 14 6 0 x0 x6 (by omega) (by omega)), upI_ne _ _ (show (14 : Int32) + x ≠ 20 + B from ix_ne 14 20 6 6 x0 x6 r0.1 b6)]
      exact ⟨rfl, rfl, rfl, rfl⟩
  · rw [l1] at f1
    have g := hg f f0 f1
    have ff : f < 5 := Int32.lt_of_lt_of_le f1 f5.2
    have hi : ∀ A, 26 ≤ A → A + 5 < 1000 → upI (upI (upI (upI rd (20 + B) B) 0 (B + 1)) (8 + B) p) (14 + B) q (nI A + f) = rd (nI A + f) := fun A hA hs => by
      rw [upI_ne _ _ (show nI A + f ≠ 14 + B from ix_ne A 14 5 6 f0 ff r0.1 b6 (by omega) (by omega)), upI_ne _ _ (show nI A + f ≠ 8 + B from ix_ne A 8 5 6 f0 ff r0.1 b6 (by omega) (by omega)), upI_ne _ _ (show nI A + f ≠ 0 from ix_c A 5 0 f0 ff (by omega) (by omega)), upI_ne _ _ (show nI A + f ≠ 20 + B from ix_ne A 20 5 6 f0 ff r0.1 b6 (by omega) (by omega))]
    rw [show upI (upI (upI (upI rd (20 + B) B) 0 (B + 1)) (8 + B) p) (14 + B) q (26 + f) = rd (26 + f) from hi 26 (by omega) (by omega), show upI (upI (upI (upI rd (20 + B) B) 0 (B + 1)) (8 + B) p) (14 + B) q (31 + f) = rd (31 + f) from hi 31 (by omega) (by omega), show upI (upI (upI (upI rd (20 + B) B) 0 (B + 1)) (8 + B) p) (14 + B) q (36 + f) = rd (36 + f) from hi 36 (by omega) (by omega)]
    exact g
