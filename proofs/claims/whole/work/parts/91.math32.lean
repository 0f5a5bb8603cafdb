def kdC (c : Int32) : Int32 := if kindV c = 0 then -1000000 else kindV c
theorem kdC_no {c : Int32} : kdC c = -1000000 ↔ kindV c = 0 := by
  unfold kdC
  have q := kindV_rng c
  by_cases h : kindV c = 0
  · rw [if_pos h]; exact ⟨fun _ => h, fun _ => rfl⟩
  · rw [if_neg h]
    exact ⟨fun e => absurd q.1 (by rw [e]; decide), fun e => absurd e h⟩
def fsT (T : St) (N : Nat) (k : Nat) (rd : St) : PT := bindT (bindT (bindT (if rd 1 = 5 then badT 3 k else (true, k, 0)) (takT T N (T (nI k)))) (numT T N 0 (rd 0 - 1))) (takT T N 59)
theorem fish_P3 {T : St} {N k : Nat} {rd : St} {kd : Int32} (h0 : ¬ rd 0 = 0) (hk : k < N) : P3 (fishP T N kd k rd) = fsT T N k rd := by
  unfold fishP fsT
  rw [if_neg h0]
  by_cases h5 : rd 1 = 5
  · rw [if_pos h5, if_pos h5]
    rfl
  · rw [if_neg h5, if_neg h5, P3_num]
    have e : bindT (true, k, 0) (takT T N (T (nI k))) = (true, k + 1, 0) := by
      show takT T N (T (nI k)) k = _
      unfold takT
      rw [if_pos ⟨hk, rfl⟩]
    rw [e]
    rfl
theorem fish_rd {T : St} {N k : Nat} {rd : St} {kd p : Int32} (h : (fishP T N kd k rd).1 = true) (hk : k < N) (v1 : (bindT (bindT (if rd 1 = 5 then badT 3 k else (true, k, 0)) (takT T N (T (nI k)))) (numT T N 0 (rd 0 - 1))).1 = true → p = nv T (bindT (if rd 1 = 5 then badT 3 k else (true, k, 0)) (takT T N (T (nI k)))).2.1 (re T N (bindT (if rd 1 = 5 then badT 3 k else (true, k, 0)) (takT T N (T (nI k)))).2.1)) :
    ¬ rd 1 = 5 ∧ (fishP T N kd k rd).2.2.2 = upI (upI (upI rd (26 + rd 1) kd) 1 (rd 1 + 1)) (31 + rd 1) p := by
  have hp : (P3 (fishP T N kd k rd)).1 = true := h
  unfold fishP at h
  by_cases h0 : rd 0 = 0
  · rw [if_pos h0] at h; exact absurd h (by simp)
  rw [fish_P3 h0 hk] at hp
  unfold fsT at hp
  have h2 := (bindT_ok hp).1
  rw [v1 h2]
  unfold fishP
  rw [if_neg h0] at h ⊢
  by_cases h5 : rd 1 = 5
  · rw [if_pos h5] at h; exact absurd h (by simp)
  refine ⟨h5, ?_⟩
  rw [if_neg h5] at h ⊢
  rw [if_neg h5]
  have n1 := num_val h
  rw [n1.1]
  have b1 : bindT (true, k, 0) (takT T N (T (nI k))) = (true, k + 1, 0) := by
    show takT T N (T (nI k)) k = _
    unfold takT
    rw [if_pos ⟨hk, rfl⟩]
  rw [b1]
theorem add_fish {F : Nat → St} {rd : St} (h : LibF F rd) (hR : RI rd) (h5 : ¬ rd 1 = 5) {kd p : Int32} :
    LibF (setF (setF (setF (setF F 5 (upI (F 5) (F 0 1) kd)) 6 (upI (F 6) (F 0 1) p)) 7 (upI (F 7) (F 0 1) 0)) 0 (upI (F 0) 1 (F 0 1 + 1))) (upI (upI (upI rd (26 + rd 1) kd) 1 (rd 1 + 1)) (31 + rd 1) p) := by
  obtain ⟨hf, hb, hg⟩ := h
  have r0 := hR.1.2.1
  have f5 : rd 1 < 5 := (lt_incG r0.1 r0.2 h5).1
  have bi := inc_lt r0.1 f5
  have b6 := hR.1.1
  have du := hR.2.2.2.1
  rw [hf.2.1]
  generalize hB : rd 1 = B at *
  have lo : ∀ j, j < 8 → j ≠ 1 → upI (upI (upI rd (26 + B) kd) 1 (B + 1)) (31 + B) p (nI j) = rd (nI j) := fun j j8 j0 => by
    rw [upI_ne _ _ (show nI j ≠ 31 + B from (ix_c 31 5 j r0.1 f5 (by omega) (by omega)).symm), upI_ne _ _ (show nI j ≠ 1 from fun e => by have := (nI_eq (b := 1) (by omega) (by omega)).mp e; omega), upI_ne _ _ (show nI j ≠ 26 + B from (ix_c 26 5 j r0.1 f5 (by omega) (by omega)).symm)]
  have l1 : upI (upI (upI rd (26 + B) kd) 1 (B + 1)) (31 + B) p 1 = B + 1 := by
    rw [upI_ne _ _ (show (1 : Int32) ≠ 31 + B from (ix_c 31 5 1 r0.1 f5 (by omega) (by omega)).symm), upI_same]
  have l0 : upI (upI (upI rd (26 + B) kd) 1 (B + 1)) (31 + B) p 0 = rd 0 := lo 0 (by omega) (by omega)
  have mi : ∀ (A m : Nat) (x : Int32), 0 ≤ x → x < nI m → 8 ≤ A → (A + m ≤ 26 ∨ 36 ≤ A) → A + m < 1000 → upI (upI (upI rd (26 + B) kd) 1 (B + 1)) (31 + B) p (nI A + x) = rd (nI A + x) := fun A m x x0 x1 h8 hA hs => by
    rw [upI_ne _ _ (show nI A + x ≠ 31 + B from ix_ne A 31 m 5 x0 x1 r0.1 f5 (by omega) (by omega)), upI_ne _ _ (show nI A + x ≠ 1 from ix_c A m 1 x0 x1 (by omega) (by omega)), upI_ne _ _ (show nI A + x ≠ 26 + B from ix_ne A 26 m 5 x0 x1 r0.1 f5 (by omega) (by omega))]
  refine ⟨⟨?_, ?_, ?_, ?_, ?_, ?_, ?_, ?_⟩, fun x x0 x1 => ?_, fun x x0 x1 => ?_⟩
  · rw [setF_same, upI_ne _ _ (by decide), l0]; exact hf.1
  · rw [setF_same, upI_same, l1]
  · rw [setF_same, upI_ne _ _ (by decide), show upI (upI (upI rd (26 + B) kd) 1 (B + 1)) (31 + B) p 2 = rd 2 from lo 2 (by omega) (by omega)]; exact hf.2.2.1
  · rw [setF_same, upI_ne _ _ (by decide), show upI (upI (upI rd (26 + B) kd) 1 (B + 1)) (31 + B) p 3 = rd 3 from lo 3 (by omega) (by omega)]; exact hf.2.2.2.1
  · rw [setF_same, upI_ne _ _ (by decide), show upI (upI (upI rd (26 + B) kd) 1 (B + 1)) (31 + B) p 4 = rd 4 from lo 4 (by omega) (by omega)]; exact hf.2.2.2.2.1
  · rw [setF_same, upI_ne _ _ (by decide), show upI (upI (upI rd (26 + B) kd) 1 (B + 1)) (31 + B) p 5 = rd 5 from lo 5 (by omega) (by omega)]; exact hf.2.2.2.2.2.1
  · rw [setF_same, upI_ne _ _ (by decide), show upI (upI (upI rd (26 + B) kd) 1 (B + 1)) (31 + B) p 6 = rd 6 from lo 6 (by omega) (by omega)]; exact hf.2.2.2.2.2.2.1
  · rw [setF_same, upI_ne _ _ (by decide), show upI (upI (upI rd (26 + B) kd) 1 (B + 1)) (31 + B) p 7 = rd 7 from lo 7 (by omega) (by omega)]; exact hf.2.2.2.2.2.2.2
  · rw [l0] at x1
    have x6 : x < 6 := Int32.lt_of_lt_of_le x1 b6.2
    have g := hb x x0 x1
    have gk : bkAt (upI (upI (upI rd (26 + B) kd) 1 (B + 1)) (31 + B) p) x = bkAt rd x := bk_congr (fun y y0 y6 => mi 20 6 y y0 y6 (by omega) (by omega) (by omega)) x
    rw [setF_ne _ _ (by decide), setF_ne _ _ (by decide), setF_ne _ _ (by decide), setF_ne _ _ (by decide), setF_ne _ _ (by decide), setF_ne _ _ (by decide), setF_ne _ _ (by decide), setF_ne _ _ (by decide), setF_ne _ _ (by decide), setF_ne _ _ (by decide), setF_ne _ _ (by decide), setF_ne _ _ (by decide), setF_ne _ _ (by decide), setF_ne _ _ (by decide), setF_ne _ _ (by decide), setF_ne _ _ (by decide),
      gk, show upI (upI (upI rd (26 + B) kd) 1 (B + 1)) (31 + B) p (8 + x) = rd (8 + x) from mi 8 6 x x0 x6 (by omega) (by omega) (by omega), show upI (upI (upI rd (26 + B) kd) 1 (B + 1)) (31 + B) p (14 + x) = rd (14 + x) from mi 14 6 x x0 x6 (by omega) (by omega) (by omega), show upI (upI (upI rd (26 + B) kd) 1 (B + 1)) (31 + B) p (20 + x) = rd (20 + x) from mi 20 6 x x0 x6 (by omega) (by omega) (by omega)]
    exact g
  · rw [l1] at x1
    have x5 : x < 5 := Int32.lt_of_lt_of_le x1 (by grind)
    rw [setF_ne _ _ (by decide), setF_ne _ _ (by decide), setF_ne _ _ (by decide), setF_same, setF_ne _ _ (by decide), setF_ne _ _ (by decide), setF_same, setF_ne _ _ (by decide), setF_same, show upI (upI (upI rd (26 + B) kd) 1 (B + 1)) (31 + B) p (36 + x) = rd (36 + x) from mi 36 5 x x0 x5 (by omega) (by omega) (by omega)]
    by_cases e : x = B
    · subst e
      rw [upI_same, upI_same, upI_same, upI_same, upI_ne _ _ (show (26 : Int32) + x ≠ 31 + x from ix_ne 26 31 5 5 x0 x5 x0 x5), upI_ne _ _ (show (26 : Int32) + x ≠ 1 from ix_c 26 5 1 x0 x5 (by omega) (by omega)), upI_same, du x x0 x5]
      exact ⟨rfl, rfl, rfl⟩
    · have xb : x < B := lt_of_inc r0.1 f5 x1 e
      have g := hg x x0 xb
      rw [upI_ne _ _ e, upI_ne _ _ e, upI_ne _ _ e, g.1, g.2.1, g.2.2,
        upI_ne _ _ (show (26 : Int32) + x ≠ 31 + B from ix_ne 26 31 5 5 x0 x5 r0.1 f5), upI_ne _ _ (show (26 : Int32) + x ≠ 1 from ix_c 26 5 1 x0 x5 (by omega) (by omega)), upI_ne _ _ (show (26 : Int32) + x ≠ 26 + B from fun h => e (ix_in 26 (by omega) x0 (Int32.lt_trans x5 (by decide)) r0.1 (Int32.lt_trans f5 (by decide)) h)),
        upI_ne _ _ (show (31 : Int32) + x ≠ 31 + B from fun h => e (ix_in 31 (by omega) x0 (Int32.lt_trans x5 (by decide)) r0.1 (Int32.lt_trans f5 (by decide)) h)), upI_ne _ _ (show (31 : Int32) + x ≠ 1 from ix_c 31 5 1 x0 x5 (by omega) (by omega)), upI_ne _ _ (show (31 : Int32) + x ≠ 26 + B from ix_ne 31 26 5 5 x0 x5 r0.1 f5)]
      exact ⟨rfl, rfl, rfl⟩
