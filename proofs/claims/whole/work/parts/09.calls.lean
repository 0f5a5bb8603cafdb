section Calls9
variable {l : Launch} {G : Gw} {own : String} {cc : ByteArray} {nL fr lo : Nat} {ret : Option FieldType} {post : Option Value → Sg → Prop} {Φ : Ph} {pc : Nat} {L : List (Option Value)} {st : List Value} {σ : Sg}
variable {index maxL fr1 lo1 b : Nat} {C : String} {y : MethodName} {host : String} {bytes : ByteArray} {rt : Option FieldType} {rest : List Value} {ps : Option Value → Sg → Prop}
theorem j_inv0 (M : Mach l G own cc nL ret fr lo post Φ) (lk : LkV own index C y bytes maxL rt 0) (hM : Mt l G y bytes maxL rt fr1 lo1 [.ref b] σ ps) (hrv : Recv G σ C b) (d : decode cc pc = .ok (.invokevirtual index, 3)) (hst : (rest.map fun v => v.category).sum ≤ 8) (hfr : fr1 + 1 ≤ fr ∧ 8 + (maxL + 11) + lo1 ≤ lo) (kk : ∀ v σ', ps v σ' → Φ (pc + 3) L (v.toList ++ rest) σ') : Φ pc L (.ref b :: rest) σ := j_inv M (As := []) lk hM hrv d rfl hst hfr kk
theorem j_invs0 (M : Mach l G own cc nL ret fr lo post Φ) (lk : LkS own index y bytes maxL rt 0) (hM : Mt l G y bytes maxL rt fr1 lo1 [] σ ps) (d : decode cc pc = .ok (.invokestatic index, 3)) (hst : (rest.map fun v => v.category).sum ≤ 8) (hfr : fr1 + 1 ≤ fr ∧ 8 + (maxL + 11) + lo1 ≤ lo) (kk : ∀ v σ', ps v σ' → Φ (pc + 3) L (v.toList ++ rest) σ') : Φ pc L (rest) σ := j_invs M (As := []) lk hM d rfl hst hfr kk
theorem j_inv1 (M : Mach l G own cc nL ret fr lo post Φ) {a1 : Value} (lk : LkV own index C y bytes maxL rt 1) (hM : Mt l G y bytes maxL rt fr1 lo1 [.ref b, a1] σ ps) (hrv : Recv G σ C b) (d : decode cc pc = .ok (.invokevirtual index, 3)) (hst : (rest.map fun v => v.category).sum ≤ 8) (hfr : fr1 + 1 ≤ fr ∧ 8 + (maxL + 11) + lo1 ≤ lo) (kk : ∀ v σ', ps v σ' → Φ (pc + 3) L (v.toList ++ rest) σ') : Φ pc L (a1 :: .ref b :: rest) σ := j_inv M (As := [a1]) lk hM hrv d rfl hst hfr kk
theorem j_invs1 (M : Mach l G own cc nL ret fr lo post Φ) {a1 : Value} (lk : LkS own index y bytes maxL rt 1) (hM : Mt l G y bytes maxL rt fr1 lo1 [a1] σ ps) (d : decode cc pc = .ok (.invokestatic index, 3)) (hst : (rest.map fun v => v.category).sum ≤ 8) (hfr : fr1 + 1 ≤ fr ∧ 8 + (maxL + 11) + lo1 ≤ lo) (kk : ∀ v σ', ps v σ' → Φ (pc + 3) L (v.toList ++ rest) σ') : Φ pc L (a1 :: rest) σ := j_invs M (As := [a1]) lk hM d rfl hst hfr kk
theorem j_inv2 (M : Mach l G own cc nL ret fr lo post Φ) {a1 a2 : Value} (lk : LkV own index C y bytes maxL rt 2) (hM : Mt l G y bytes maxL rt fr1 lo1 [.ref b, a1, a2] σ ps) (hrv : Recv G σ C b) (d : decode cc pc = .ok (.invokevirtual index, 3)) (hst : (rest.map fun v => v.category).sum ≤ 8) (hfr : fr1 + 1 ≤ fr ∧ 8 + (maxL + 11) + lo1 ≤ lo) (kk : ∀ v σ', ps v σ' → Φ (pc + 3) L (v.toList ++ rest) σ') : Φ pc L (a2 :: a1 :: .ref b :: rest) σ := j_inv M (As := [a1, a2]) lk hM hrv d rfl hst hfr kk
theorem j_invs2 (M : Mach l G own cc nL ret fr lo post Φ) {a1 a2 : Value} (lk : LkS own index y bytes maxL rt 2) (hM : Mt l G y bytes maxL rt fr1 lo1 [a1, a2] σ ps) (d : decode cc pc = .ok (.invokestatic index, 3)) (hst : (rest.map fun v => v.category).sum ≤ 8) (hfr : fr1 + 1 ≤ fr ∧ 8 + (maxL + 11) + lo1 ≤ lo) (kk : ∀ v σ', ps v σ' → Φ (pc + 3) L (v.toList ++ rest) σ') : Φ pc L (a2 :: a1 :: rest) σ := j_invs M (As := [a1, a2]) lk hM d rfl hst hfr kk
theorem j_invn2 (M : Mach l G own cc nL ret fr lo post Φ) {a1 a2 : Value} (lk : LkN G own index y host bytes maxL rt 2) (hM : Mt l G y bytes maxL rt fr1 lo1 [a1, a2] σ ps) (d : decode cc pc = .ok (.invokestatic index, 3)) (hst : (rest.map fun v => v.category).sum ≤ 8) (hfr : fr1 + 1 ≤ fr ∧ 8 + (maxL + 11) + lo1 ≤ lo) (kk : ∀ v σ', ps v σ' → Φ (pc + 3) L (v.toList ++ rest) σ') : Φ pc L (a2 :: a1 :: rest) σ := j_invn M (As := [a1, a2]) lk hM d rfl hst hfr kk
theorem j_inv3 (M : Mach l G own cc nL ret fr lo post Φ) {a1 a2 a3 : Value} (lk : LkV own index C y bytes maxL rt 3) (hM : Mt l G y bytes maxL rt fr1 lo1 [.ref b, a1, a2, a3] σ ps) (hrv : Recv G σ C b) (d : decode cc pc = .ok (.invokevirtual index, 3)) (hst : (rest.map fun v => v.category).sum ≤ 8) (hfr : fr1 + 1 ≤ fr ∧ 8 + (maxL + 11) + lo1 ≤ lo) (kk : ∀ v σ', ps v σ' → Φ (pc + 3) L (v.toList ++ rest) σ') : Φ pc L (a3 :: a2 :: a1 :: .ref b :: rest) σ := j_inv M (As := [a1, a2, a3]) lk hM hrv d rfl hst hfr kk
theorem j_invs3 (M : Mach l G own cc nL ret fr lo post Φ) {a1 a2 a3 : Value} (lk : LkS own index y bytes maxL rt 3) (hM : Mt l G y bytes maxL rt fr1 lo1 [a1, a2, a3] σ ps) (d : decode cc pc = .ok (.invokestatic index, 3)) (hst : (rest.map fun v => v.category).sum ≤ 8) (hfr : fr1 + 1 ≤ fr ∧ 8 + (maxL + 11) + lo1 ≤ lo) (kk : ∀ v σ', ps v σ' → Φ (pc + 3) L (v.toList ++ rest) σ') : Φ pc L (a3 :: a2 :: a1 :: rest) σ := j_invs M (As := [a1, a2, a3]) lk hM d rfl hst hfr kk
theorem j_inv4 (M : Mach l G own cc nL ret fr lo post Φ) {a1 a2 a3 a4 : Value} (lk : LkV own index C y bytes maxL rt 4) (hM : Mt l G y bytes maxL rt fr1 lo1 [.ref b, a1, a2, a3, a4] σ ps) (hrv : Recv G σ C b) (d : decode cc pc = .ok (.invokevirtual index, 3)) (hst : (rest.map fun v => v.category).sum ≤ 8) (hfr : fr1 + 1 ≤ fr ∧ 8 + (maxL + 11) + lo1 ≤ lo) (kk : ∀ v σ', ps v σ' → Φ (pc + 3) L (v.toList ++ rest) σ') : Φ pc L (a4 :: a3 :: a2 :: a1 :: .ref b :: rest) σ := j_inv M (As := [a1, a2, a3, a4]) lk hM hrv d rfl hst hfr kk
theorem j_invs4 (M : Mach l G own cc nL ret fr lo post Φ) {a1 a2 a3 a4 : Value} (lk : LkS own index y bytes maxL rt 4) (hM : Mt l G y bytes maxL rt fr1 lo1 [a1, a2, a3, a4] σ ps) (d : decode cc pc = .ok (.invokestatic index, 3)) (hst : (rest.map fun v => v.category).sum ≤ 8) (hfr : fr1 + 1 ≤ fr ∧ 8 + (maxL + 11) + lo1 ≤ lo) (kk : ∀ v σ', ps v σ' → Φ (pc + 3) L (v.toList ++ rest) σ') : Φ pc L (a4 :: a3 :: a2 :: a1 :: rest) σ := j_invs M (As := [a1, a2, a3, a4]) lk hM d rfl hst hfr kk
theorem j_inv5 (M : Mach l G own cc nL ret fr lo post Φ) {a1 a2 a3 a4 a5 : Value} (lk : LkV own index C y bytes maxL rt 5) (hM : Mt l G y bytes maxL rt fr1 lo1 [.ref b, a1, a2, a3, a4, a5] σ ps) (hrv : Recv G σ C b) (d : decode cc pc = .ok (.invokevirtual index, 3)) (hst : (rest.map fun v => v.category).sum ≤ 8) (hfr : fr1 + 1 ≤ fr ∧ 8 + (maxL + 11) + lo1 ≤ lo) (kk : ∀ v σ', ps v σ' → Φ (pc + 3) L (v.toList ++ rest) σ') : Φ pc L (a5 :: a4 :: a3 :: a2 :: a1 :: .ref b :: rest) σ := j_inv M (As := [a1, a2, a3, a4, a5]) lk hM hrv d rfl hst hfr kk
theorem j_invs5 (M : Mach l G own cc nL ret fr lo post Φ) {a1 a2 a3 a4 a5 : Value} (lk : LkS own index y bytes maxL rt 5) (hM : Mt l G y bytes maxL rt fr1 lo1 [a1, a2, a3, a4, a5] σ ps) (d : decode cc pc = .ok (.invokestatic index, 3)) (hst : (rest.map fun v => v.category).sum ≤ 8) (hfr : fr1 + 1 ≤ fr ∧ 8 + (maxL + 11) + lo1 ≤ lo) (kk : ∀ v σ', ps v σ' → Φ (pc + 3) L (v.toList ++ rest) σ') : Φ pc L (a5 :: a4 :: a3 :: a2 :: a1 :: rest) σ := j_invs M (As := [a1, a2, a3, a4, a5]) lk hM d rfl hst hfr kk
theorem j_inv6 (M : Mach l G own cc nL ret fr lo post Φ) {a1 a2 a3 a4 a5 a6 : Value} (lk : LkV own index C y bytes maxL rt 6) (hM : Mt l G y bytes maxL rt fr1 lo1 [.ref b, a1, a2, a3, a4, a5, a6] σ ps) (hrv : Recv G σ C b) (d : decode cc pc = .ok (.invokevirtual index, 3)) (hst : (rest.map fun v => v.category).sum ≤ 8) (hfr : fr1 + 1 ≤ fr ∧ 8 + (maxL + 11) + lo1 ≤ lo) (kk : ∀ v σ', ps v σ' → Φ (pc + 3) L (v.toList ++ rest) σ') : Φ pc L (a6 :: a5 :: a4 :: a3 :: a2 :: a1 :: .ref b :: rest) σ := j_inv M (As := [a1, a2, a3, a4, a5, a6]) lk hM hrv d rfl hst hfr kk
theorem j_invs6 (M : Mach l G own cc nL ret fr lo post Φ) {a1 a2 a3 a4 a5 a6 : Value} (lk : LkS own index y bytes maxL rt 6) (hM : Mt l G y bytes maxL rt fr1 lo1 [a1, a2, a3, a4, a5, a6] σ ps) (d : decode cc pc = .ok (.invokestatic index, 3)) (hst : (rest.map fun v => v.category).sum ≤ 8) (hfr : fr1 + 1 ≤ fr ∧ 8 + (maxL + 11) + lo1 ≤ lo) (kk : ∀ v σ', ps v σ' → Φ (pc + 3) L (v.toList ++ rest) σ') : Φ pc L (a6 :: a5 :: a4 :: a3 :: a2 :: a1 :: rest) σ := j_invs M (As := [a1, a2, a3, a4, a5, a6]) lk hM d rfl hst hfr kk
theorem i_int {x : Int32} {k : Int32} {n : Int} (hk : k.toInt = n) (h : x.toInt = n) : x = k := Int32.toInt_inj.mp (h.trans hk.symm)
theorem j_tab4 (M : Mach l G own cc nL ret fr lo post Φ) {df : Int} {o0 o1 o2 o3 : Int} {t0 t1 t2 t3 td : Nat} {len : Nat} {x : Int32} (d : decode cc pc = .ok (.tableswitch df 0 3 #[o0, o1, o2, o3], len)) (ed : (pc : Int) + df = (td : Int)) (e0 : (pc : Int) + o0 = (t0 : Int)) (e1 : (pc : Int) + o1 = (t1 : Int)) (e2 : (pc : Int) + o2 = (t2 : Int)) (e3 : (pc : Int) + o3 = (t3 : Int)) (k0 : x = 0 → Φ t0 L st σ) (k1 : x = 1 → Φ t1 L st σ) (k2 : x = 2 → Φ t2 L st σ) (k3 : x = 3 → Φ t3 L st σ) (kd : ¬ (0 ≤ x ∧ x ≤ 3) → Φ td L st σ) : Φ pc L (.int x :: st) σ := by
  by_cases h0 : x = 0
  · subst h0
    exact j_tabIn M d (by decide) (by decide) (off := o0) rfl e0 (k0 rfl)
  by_cases h1 : x = 1
  · subst h1
    exact j_tabIn M d (by decide) (by decide) (off := o1) rfl e1 (k1 rfl)
  by_cases h2 : x = 2
  · subst h2
    exact j_tabIn M d (by decide) (by decide) (off := o2) rfl e2 (k2 rfl)
  by_cases h3 : x = 3
  · subst h3
    exact j_tabIn M d (by decide) (by decide) (off := o3) rfl e3 (k3 rfl)
  have hx : ¬ (0 ≤ x ∧ x ≤ 3) := by
    rintro ⟨g1, g2⟩
    have g1 := Int32.le_iff_toInt_le.mp g1
    have g2 := Int32.le_iff_toInt_le.mp g2
    have e0 : (0 : Int32).toInt = 0 := by decide
    have e1 : (3 : Int32).toInt = 3 := by decide
    rw [e0] at g1
    rw [e1] at g2
    rcases (by omega : x.toInt = 0 ∨ x.toInt = 1 ∨ x.toInt = 2 ∨ x.toInt = 3) with q | q | q | q
    · exact h0 (i_int (by decide) q)
    · exact h1 (i_int (by decide) q)
    · exact h2 (i_int (by decide) q)
    · exact h3 (i_int (by decide) q)
  refine j_tabOut M d ?_ ed (kd hx)
  rcases Int.lt_or_le x.toInt 0 with q | q
  · exact Or.inl q
  · right
    rcases Int.lt_or_le 3 x.toInt with q2 | q2
    · exact q2
    · exact absurd ⟨Int32.le_iff_toInt_le.mpr (by rw [show (0 : Int32).toInt = 0 by decide]; exact q), Int32.le_iff_toInt_le.mpr (by rw [show (3 : Int32).toInt = 3 by decide]; exact q2)⟩ hx
theorem j_tab6 (M : Mach l G own cc nL ret fr lo post Φ) {df : Int} {o0 o1 o2 o3 o4 o5 : Int} {t0 t1 t2 t3 t4 t5 td : Nat} {len : Nat} {x : Int32} (d : decode cc pc = .ok (.tableswitch df 0 5 #[o0, o1, o2, o3, o4, o5], len)) (ed : (pc : Int) + df = (td : Int)) (e0 : (pc : Int) + o0 = (t0 : Int)) (e1 : (pc : Int) + o1 = (t1 : Int)) (e2 : (pc : Int) + o2 = (t2 : Int)) (e3 : (pc : Int) + o3 = (t3 : Int)) (e4 : (pc : Int) + o4 = (t4 : Int)) (e5 : (pc : Int) + o5 = (t5 : Int)) (k0 : x = 0 → Φ t0 L st σ) (k1 : x = 1 → Φ t1 L st σ) (k2 : x = 2 → Φ t2 L st σ) (k3 : x = 3 → Φ t3 L st σ) (k4 : x = 4 → Φ t4 L st σ) (k5 : x = 5 → Φ t5 L st σ) (kd : ¬ (0 ≤ x ∧ x ≤ 5) → Φ td L st σ) : Φ pc L (.int x :: st) σ := by
  by_cases h0 : x = 0
  · subst h0
    exact j_tabIn M d (by decide) (by decide) (off := o0) rfl e0 (k0 rfl)
  by_cases h1 : x = 1
  · subst h1
    exact j_tabIn M d (by decide) (by decide) (off := o1) rfl e1 (k1 rfl)
  by_cases h2 : x = 2
  · subst h2
    exact j_tabIn M d (by decide) (by decide) (off := o2) rfl e2 (k2 rfl)
  by_cases h3 : x = 3
  · subst h3
    exact j_tabIn M d (by decide) (by decide) (off := o3) rfl e3 (k3 rfl)
  by_cases h4 : x = 4
  · subst h4
    exact j_tabIn M d (by decide) (by decide) (off := o4) rfl e4 (k4 rfl)
  by_cases h5 : x = 5
  · subst h5
    exact j_tabIn M d (by decide) (by decide) (off := o5) rfl e5 (k5 rfl)
  have hx : ¬ (0 ≤ x ∧ x ≤ 5) := by
    rintro ⟨g1, g2⟩
    have g1 := Int32.le_iff_toInt_le.mp g1
    have g2 := Int32.le_iff_toInt_le.mp g2
    have e0 : (0 : Int32).toInt = 0 := by decide
    have e1 : (5 : Int32).toInt = 5 := by decide
    rw [e0] at g1
    rw [e1] at g2
    rcases (by omega : x.toInt = 0 ∨ x.toInt = 1 ∨ x.toInt = 2 ∨ x.toInt = 3 ∨ x.toInt = 4 ∨ x.toInt = 5) with q | q | q | q | q | q
    · exact h0 (i_int (by decide) q)
    · exact h1 (i_int (by decide) q)
    · exact h2 (i_int (by decide) q)
    · exact h3 (i_int (by decide) q)
    · exact h4 (i_int (by decide) q)
    · exact h5 (i_int (by decide) q)
  refine j_tabOut M d ?_ ed (kd hx)
  rcases Int.lt_or_le x.toInt 0 with q | q
  · exact Or.inl q
  · right
    rcases Int.lt_or_le 5 x.toInt with q2 | q2
    · exact q2
    · exact absurd ⟨Int32.le_iff_toInt_le.mpr (by rw [show (0 : Int32).toInt = 0 by decide]; exact q), Int32.le_iff_toInt_le.mpr (by rw [show (5 : Int32).toInt = 5 by decide]; exact q2)⟩ hx
theorem j_tab8 (M : Mach l G own cc nL ret fr lo post Φ) {df : Int} {o0 o1 o2 o3 o4 o5 o6 o7 : Int} {t0 t1 t2 t3 t4 t5 t6 t7 td : Nat} {len : Nat} {x : Int32} (d : decode cc pc = .ok (.tableswitch df 0 7 #[o0, o1, o2, o3, o4, o5, o6, o7], len)) (ed : (pc : Int) + df = (td : Int)) (e0 : (pc : Int) + o0 = (t0 : Int)) (e1 : (pc : Int) + o1 = (t1 : Int)) (e2 : (pc : Int) + o2 = (t2 : Int)) (e3 : (pc : Int) + o3 = (t3 : Int)) (e4 : (pc : Int) + o4 = (t4 : Int)) (e5 : (pc : Int) + o5 = (t5 : Int)) (e6 : (pc : Int) + o6 = (t6 : Int)) (e7 : (pc : Int) + o7 = (t7 : Int)) (k0 : x = 0 → Φ t0 L st σ) (k1 : x = 1 → Φ t1 L st σ) (k2 : x = 2 → Φ t2 L st σ) (k3 : x = 3 → Φ t3 L st σ) (k4 : x = 4 → Φ t4 L st σ) (k5 : x = 5 → Φ t5 L st σ) (k6 : x = 6 → Φ t6 L st σ) (k7 : x = 7 → Φ t7 L st σ) (kd : ¬ (0 ≤ x ∧ x ≤ 7) → Φ td L st σ) : Φ pc L (.int x :: st) σ := by
  by_cases h0 : x = 0
  · subst h0
    exact j_tabIn M d (by decide) (by decide) (off := o0) rfl e0 (k0 rfl)
  by_cases h1 : x = 1
  · subst h1
    exact j_tabIn M d (by decide) (by decide) (off := o1) rfl e1 (k1 rfl)
  by_cases h2 : x = 2
  · subst h2
    exact j_tabIn M d (by decide) (by decide) (off := o2) rfl e2 (k2 rfl)
  by_cases h3 : x = 3
  · subst h3
    exact j_tabIn M d (by decide) (by decide) (off := o3) rfl e3 (k3 rfl)
  by_cases h4 : x = 4
  · subst h4
    exact j_tabIn M d (by decide) (by decide) (off := o4) rfl e4 (k4 rfl)
  by_cases h5 : x = 5
  · subst h5
    exact j_tabIn M d (by decide) (by decide) (off := o5) rfl e5 (k5 rfl)
  by_cases h6 : x = 6
  · subst h6
    exact j_tabIn M d (by decide) (by decide) (off := o6) rfl e6 (k6 rfl)
  by_cases h7 : x = 7
  · subst h7
    exact j_tabIn M d (by decide) (by decide) (off := o7) rfl e7 (k7 rfl)
  have hx : ¬ (0 ≤ x ∧ x ≤ 7) := by
    rintro ⟨g1, g2⟩
    have g1 := Int32.le_iff_toInt_le.mp g1
    have g2 := Int32.le_iff_toInt_le.mp g2
    have e0 : (0 : Int32).toInt = 0 := by decide
    have e1 : (7 : Int32).toInt = 7 := by decide
    rw [e0] at g1
    rw [e1] at g2
    rcases (by omega : x.toInt = 0 ∨ x.toInt = 1 ∨ x.toInt = 2 ∨ x.toInt = 3 ∨ x.toInt = 4 ∨ x.toInt = 5 ∨ x.toInt = 6 ∨ x.toInt = 7) with q | q | q | q | q | q | q | q
    · exact h0 (i_int (by decide) q)
    · exact h1 (i_int (by decide) q)
    · exact h2 (i_int (by decide) q)
    · exact h3 (i_int (by decide) q)
    · exact h4 (i_int (by decide) q)
    · exact h5 (i_int (by decide) q)
    · exact h6 (i_int (by decide) q)
    · exact h7 (i_int (by decide) q)
  refine j_tabOut M d ?_ ed (kd hx)
  rcases Int.lt_or_le x.toInt 0 with q | q
  · exact Or.inl q
  · right
    rcases Int.lt_or_le 7 x.toInt with q2 | q2
    · exact q2
    · exact absurd ⟨Int32.le_iff_toInt_le.mpr (by rw [show (0 : Int32).toInt = 0 by decide]; exact q), Int32.le_iff_toInt_le.mpr (by rw [show (7 : Int32).toInt = 7 by decide]; exact q2)⟩ hx
theorem j_tab39 (M : Mach l G own cc nL ret fr lo post Φ) {df : Int} {o0 o1 o2 o3 o4 o5 o6 o7 o8 o9 o10 o11 o12 o13 o14 o15 o16 o17 o18 o19 o20 o21 o22 o23 o24 o25 o26 o27 o28 o29 o30 o31 o32 o33 o34 o35 o36 o37 o38 : Int} {t0 t1 t2 t3 t4 t5 t6 t7 t8 t9 t10 t11 t12 t13 t14 t15 t16 t17 t18 t19 t20 t21 t22 t23 t24 t25 t26 t27 t28 t29 t30 t31 t32 t33 t34 t35 t36 t37 t38 td : Nat} {len : Nat} {x : Int32} (d : decode cc pc = .ok (.tableswitch df 0 38 #[o0, o1, o2, o3, o4, o5, o6, o7, o8, o9, o10, o11, o12, o13, o14, o15, o16, o17, o18, o19, o20, o21, o22, o23, o24, o25, o26, o27, o28, o29, o30, o31, o32, o33, o34, o35, o36, o37, o38], len)) (ed : (pc : Int) + df = (td : Int)) (e0 : (pc : Int) + o0 = (t0 : Int)) (e1 : (pc : Int) + o1 = (t1 : Int)) (e2 : (pc : Int) + o2 = (t2 : Int)) (e3 : (pc : Int) + o3 = (t3 : Int)) (e4 : (pc : Int) + o4 = (t4 : Int)) (e5 : (pc : Int) + o5 = (t5 : Int)) (e6 : (pc : Int) + o6 = (t6 : Int)) (e7 : (pc : Int) + o7 = (t7 : Int)) (e8 : (pc : Int) + o8 = (t8 : Int)) (e9 : (pc : Int) + o9 = (t9 : Int)) (e10 : (pc : Int) + o10 = (t10 : Int)) (e11 : (pc : Int) + o11 = (t11 : Int)) (e12 : (pc : Int) + o12 = (t12 : Int)) (e13 : (pc : Int) + o13 = (t13 : Int)) (e14 : (pc : Int) + o14 = (t14 : Int)) (e15 : (pc : Int) + o15 = (t15 : Int)) (e16 : (pc : Int) + o16 = (t16 : Int)) (e17 : (pc : Int) + o17 = (t17 : Int)) (e18 : (pc : Int) + o18 = (t18 : Int)) (e19 : (pc : Int) + o19 = (t19 : Int)) (e20 : (pc : Int) + o20 = (t20 : Int)) (e21 : (pc : Int) + o21 = (t21 : Int)) (e22 : (pc : Int) + o22 = (t22 : Int)) (e23 : (pc : Int) + o23 = (t23 : Int)) (e24 : (pc : Int) + o24 = (t24 : Int)) (e25 : (pc : Int) + o25 = (t25 : Int)) (e26 : (pc : Int) + o26 = (t26 : Int)) (e27 : (pc : Int) + o27 = (t27 : Int)) (e28 : (pc : Int) + o28 = (t28 : Int)) (e29 : (pc : Int) + o29 = (t29 : Int)) (e30 : (pc : Int) + o30 = (t30 : Int)) (e31 : (pc : Int) + o31 = (t31 : Int)) (e32 : (pc : Int) + o32 = (t32 : Int)) (e33 : (pc : Int) + o33 = (t33 : Int)) (e34 : (pc : Int) + o34 = (t34 : Int)) (e35 : (pc : Int) + o35 = (t35 : Int)) (e36 : (pc : Int) + o36 = (t36 : Int)) (e37 : (pc : Int) + o37 = (t37 : Int)) (e38 : (pc : Int) + o38 = (t38 : Int)) (k0 : x = 0 → Φ t0 L st σ) (k1 : x = 1 → Φ t1 L st σ) (k2 : x = 2 → Φ t2 L st σ) (k3 : x = 3 → Φ t3 L st σ) (k4 : x = 4 → Φ t4 L st σ) (k5 : x = 5 → Φ t5 L st σ) (k6 : x = 6 → Φ t6 L st σ) (k7 : x = 7 → Φ t7 L st σ) (k8 : x = 8 → Φ t8 L st σ) (k9 : x = 9 → Φ t9 L st σ) (k10 : x = 10 → Φ t10 L st σ) (k11 : x = 11 → Φ t11 L st σ) (k12 : x = 12 → Φ t12 L st σ) (k13 : x = 13 → Φ t13 L st σ) (k14 : x = 14 → Φ t14 L st σ) (k15 : x = 15 → Φ t15 L st σ) (k16 : x = 16 → Φ t16 L st σ) (k17 : x = 17 → Φ t17 L st σ) (k18 : x = 18 → Φ t18 L st σ) (k19 : x = 19 → Φ t19 L st σ) (k20 : x = 20 → Φ t20 L st σ) (k21 : x = 21 → Φ t21 L st σ) (k22 : x = 22 → Φ t22 L st σ) (k23 : x = 23 → Φ t23 L st σ) (k24 : x = 24 → Φ t24 L st σ) (k25 : x = 25 → Φ t25 L st σ) (k26 : x = 26 → Φ t26 L st σ) (k27 : x = 27 → Φ t27 L st σ) (k28 : x = 28 → Φ t28 L st σ) (k29 : x = 29 → Φ t29 L st σ) (k30 : x = 30 → Φ t30 L st σ) (k31 : x = 31 → Φ t31 L st σ) (k32 : x = 32 → Φ t32 L st σ) (k33 : x = 33 → Φ t33 L st σ) (k34 : x = 34 → Φ t34 L st σ) (k35 : x = 35 → Φ t35 L st σ) (k36 : x = 36 → Φ t36 L st σ) (k37 : x = 37 → Φ t37 L st σ) (k38 : x = 38 → Φ t38 L st σ) (kd : ¬ (0 ≤ x ∧ x ≤ 38) → Φ td L st σ) : Φ pc L (.int x :: st) σ := by
  by_cases h0 : x = 0
  · subst h0
    exact j_tabIn M d (by decide) (by decide) (off := o0) rfl e0 (k0 rfl)
  by_cases h1 : x = 1
  · subst h1
    exact j_tabIn M d (by decide) (by decide) (off := o1) rfl e1 (k1 rfl)
  by_cases h2 : x = 2
  · subst h2
    exact j_tabIn M d (by decide) (by decide) (off := o2) rfl e2 (k2 rfl)
  by_cases h3 : x = 3
  · subst h3
    exact j_tabIn M d (by decide) (by decide) (off := o3) rfl e3 (k3 rfl)
  by_cases h4 : x = 4
  · subst h4
    exact j_tabIn M d (by decide) (by decide) (off := o4) rfl e4 (k4 rfl)
  by_cases h5 : x = 5
  · subst h5
    exact j_tabIn M d (by decide) (by decide) (off := o5) rfl e5 (k5 rfl)
  by_cases h6 : x = 6
  · subst h6
    exact j_tabIn M d (by decide) (by decide) (off := o6) rfl e6 (k6 rfl)
  by_cases h7 : x = 7
  · subst h7
    exact j_tabIn M d (by decide) (by decide) (off := o7) rfl e7 (k7 rfl)
  by_cases h8 : x = 8
  · subst h8
    exact j_tabIn M d (by decide) (by decide) (off := o8) rfl e8 (k8 rfl)
  by_cases h9 : x = 9
  · subst h9
    exact j_tabIn M d (by decide) (by decide) (off := o9) rfl e9 (k9 rfl)
  by_cases h10 : x = 10
  · subst h10
    exact j_tabIn M d (by decide) (by decide) (off := o10) rfl e10 (k10 rfl)
  by_cases h11 : x = 11
  · subst h11
    exact j_tabIn M d (by decide) (by decide) (off := o11) rfl e11 (k11 rfl)
  by_cases h12 : x = 12
  · subst h12
    exact j_tabIn M d (by decide) (by decide) (off := o12) rfl e12 (k12 rfl)
  by_cases h13 : x = 13
  · subst h13
    exact j_tabIn M d (by decide) (by decide) (off := o13) rfl e13 (k13 rfl)
  by_cases h14 : x = 14
  · subst h14
    exact j_tabIn M d (by decide) (by decide) (off := o14) rfl e14 (k14 rfl)
  by_cases h15 : x = 15
  · subst h15
    exact j_tabIn M d (by decide) (by decide) (off := o15) rfl e15 (k15 rfl)
  by_cases h16 : x = 16
  · subst h16
    exact j_tabIn M d (by decide) (by decide) (off := o16) rfl e16 (k16 rfl)
  by_cases h17 : x = 17
  · subst h17
    exact j_tabIn M d (by decide) (by decide) (off := o17) rfl e17 (k17 rfl)
  by_cases h18 : x = 18
  · subst h18
    exact j_tabIn M d (by decide) (by decide) (off := o18) rfl e18 (k18 rfl)
  by_cases h19 : x = 19
  · subst h19
    exact j_tabIn M d (by decide) (by decide) (off := o19) rfl e19 (k19 rfl)
  by_cases h20 : x = 20
  · subst h20
    exact j_tabIn M d (by decide) (by decide) (off := o20) rfl e20 (k20 rfl)
  by_cases h21 : x = 21
  · subst h21
    exact j_tabIn M d (by decide) (by decide) (off := o21) rfl e21 (k21 rfl)
  by_cases h22 : x = 22
  · subst h22
    exact j_tabIn M d (by decide) (by decide) (off := o22) rfl e22 (k22 rfl)
  by_cases h23 : x = 23
  · subst h23
    exact j_tabIn M d (by decide) (by decide) (off := o23) rfl e23 (k23 rfl)
  by_cases h24 : x = 24
  · subst h24
    exact j_tabIn M d (by decide) (by decide) (off := o24) rfl e24 (k24 rfl)
  by_cases h25 : x = 25
  · subst h25
    exact j_tabIn M d (by decide) (by decide) (off := o25) rfl e25 (k25 rfl)
  by_cases h26 : x = 26
  · subst h26
    exact j_tabIn M d (by decide) (by decide) (off := o26) rfl e26 (k26 rfl)
  by_cases h27 : x = 27
  · subst h27
    exact j_tabIn M d (by decide) (by decide) (off := o27) rfl e27 (k27 rfl)
  by_cases h28 : x = 28
  · subst h28
    exact j_tabIn M d (by decide) (by decide) (off := o28) rfl e28 (k28 rfl)
  by_cases h29 : x = 29
  · subst h29
    exact j_tabIn M d (by decide) (by decide) (off := o29) rfl e29 (k29 rfl)
  by_cases h30 : x = 30
  · subst h30
    exact j_tabIn M d (by decide) (by decide) (off := o30) rfl e30 (k30 rfl)
  by_cases h31 : x = 31
  · subst h31
    exact j_tabIn M d (by decide) (by decide) (off := o31) rfl e31 (k31 rfl)
  by_cases h32 : x = 32
  · subst h32
    exact j_tabIn M d (by decide) (by decide) (off := o32) rfl e32 (k32 rfl)
  by_cases h33 : x = 33
  · subst h33
    exact j_tabIn M d (by decide) (by decide) (off := o33) rfl e33 (k33 rfl)
  by_cases h34 : x = 34
  · subst h34
    exact j_tabIn M d (by decide) (by decide) (off := o34) rfl e34 (k34 rfl)
  by_cases h35 : x = 35
  · subst h35
    exact j_tabIn M d (by decide) (by decide) (off := o35) rfl e35 (k35 rfl)
  by_cases h36 : x = 36
  · subst h36
    exact j_tabIn M d (by decide) (by decide) (off := o36) rfl e36 (k36 rfl)
  by_cases h37 : x = 37
  · subst h37
    exact j_tabIn M d (by decide) (by decide) (off := o37) rfl e37 (k37 rfl)
  by_cases h38 : x = 38
  · subst h38
    exact j_tabIn M d (by decide) (by decide) (off := o38) rfl e38 (k38 rfl)
  have hx : ¬ (0 ≤ x ∧ x ≤ 38) := by
    rintro ⟨g1, g2⟩
    have g1 := Int32.le_iff_toInt_le.mp g1
    have g2 := Int32.le_iff_toInt_le.mp g2
    have e0 : (0 : Int32).toInt = 0 := by decide
    have e1 : (38 : Int32).toInt = 38 := by decide
    rw [e0] at g1
    rw [e1] at g2
    rcases (by omega : x.toInt = 0 ∨ x.toInt = 1 ∨ x.toInt = 2 ∨ x.toInt = 3 ∨ x.toInt = 4 ∨ x.toInt = 5 ∨ x.toInt = 6 ∨ x.toInt = 7 ∨ x.toInt = 8 ∨ x.toInt = 9 ∨ x.toInt = 10 ∨ x.toInt = 11 ∨ x.toInt = 12 ∨ x.toInt = 13 ∨ x.toInt = 14 ∨ x.toInt = 15 ∨ x.toInt = 16 ∨ x.toInt = 17 ∨ x.toInt = 18 ∨ x.toInt = 19 ∨ x.toInt = 20 ∨ x.toInt = 21 ∨ x.toInt = 22 ∨ x.toInt = 23 ∨ x.toInt = 24 ∨ x.toInt = 25 ∨ x.toInt = 26 ∨ x.toInt = 27 ∨ x.toInt = 28 ∨ x.toInt = 29 ∨ x.toInt = 30 ∨ x.toInt = 31 ∨ x.toInt = 32 ∨ x.toInt = 33 ∨ x.toInt = 34 ∨ x.toInt = 35 ∨ x.toInt = 36 ∨ x.toInt = 37 ∨ x.toInt = 38) with q | q | q | q | q | q | q | q | q | q | q | q | q | q | q | q | q | q | q | q | q | q | q | q | q | q | q | q | q | q | q | q | q | q | q | q | q | q | q
    · exact h0 (i_int (by decide) q)
    · exact h1 (i_int (by decide) q)
    · exact h2 (i_int (by decide) q)
    · exact h3 (i_int (by decide) q)
    · exact h4 (i_int (by decide) q)
    · exact h5 (i_int (by decide) q)
    · exact h6 (i_int (by decide) q)
    · exact h7 (i_int (by decide) q)
    · exact h8 (i_int (by decide) q)
    · exact h9 (i_int (by decide) q)
    · exact h10 (i_int (by decide) q)
    · exact h11 (i_int (by decide) q)
    · exact h12 (i_int (by decide) q)
    · exact h13 (i_int (by decide) q)
    · exact h14 (i_int (by decide) q)
    · exact h15 (i_int (by decide) q)
    · exact h16 (i_int (by decide) q)
    · exact h17 (i_int (by decide) q)
    · exact h18 (i_int (by decide) q)
    · exact h19 (i_int (by decide) q)
    · exact h20 (i_int (by decide) q)
    · exact h21 (i_int (by decide) q)
    · exact h22 (i_int (by decide) q)
    · exact h23 (i_int (by decide) q)
    · exact h24 (i_int (by decide) q)
    · exact h25 (i_int (by decide) q)
    · exact h26 (i_int (by decide) q)
    · exact h27 (i_int (by decide) q)
    · exact h28 (i_int (by decide) q)
    · exact h29 (i_int (by decide) q)
    · exact h30 (i_int (by decide) q)
    · exact h31 (i_int (by decide) q)
    · exact h32 (i_int (by decide) q)
    · exact h33 (i_int (by decide) q)
    · exact h34 (i_int (by decide) q)
    · exact h35 (i_int (by decide) q)
    · exact h36 (i_int (by decide) q)
    · exact h37 (i_int (by decide) q)
    · exact h38 (i_int (by decide) q)
  refine j_tabOut M d ?_ ed (kd hx)
  rcases Int.lt_or_le x.toInt 0 with q | q
  · exact Or.inl q
  · right
    rcases Int.lt_or_le 38 x.toInt with q2 | q2
    · exact q2
    · exact absurd ⟨Int32.le_iff_toInt_le.mpr (by rw [show (0 : Int32).toInt = 0 by decide]; exact q), Int32.le_iff_toInt_le.mpr (by rw [show (38 : Int32).toInt = 38 by decide]; exact q2)⟩ hx
theorem kE {Φ : Ph} {pc : Nat} {L : List (Option Value)} {rest : List Value} {σ : Sg} {E : Int32} (h : Φ pc L (.int E :: rest) σ) : ∀ v σ', (pI fun r τ => τ = σ ∧ r = E) v σ' → Φ pc L (v.toList ++ rest) σ' := by
  rintro v σ' ⟨r, rfl, h1, h2⟩
  rw [h1, h2]
  exact h
theorem kP {Φ : Ph} {pc : Nat} {L : List (Option Value)} {rest : List Value} {σ : Sg} {E : Int32} (h : ∀ r : Int32, r = E → Φ pc L (.int r :: rest) σ) : ∀ v σ', (pI fun r τ => τ = σ ∧ r = E) v σ' → Φ pc L (v.toList ++ rest) σ' := by
  rintro v σ' ⟨r, rfl, h1, h2⟩
  rw [h1]
  exact h r h2
theorem kEL {Φ : Ph} {pc : Nat} {L : List (Option Value)} {rest : List Value} {σ : Sg} {E : Int64} (h : Φ pc L (.long E :: rest) σ) : ∀ v σ', (pL fun r τ => τ = σ ∧ r = E) v σ' → Φ pc L (v.toList ++ rest) σ' := by
  rintro v σ' ⟨r, rfl, h1, h2⟩
  rw [h1, h2]
  exact h
theorem kPL {Φ : Ph} {pc : Nat} {L : List (Option Value)} {rest : List Value} {σ : Sg} {E : Int64} (h : ∀ r : Int64, r = E → Φ pc L (.long r :: rest) σ) : ∀ v σ', (pL fun r τ => τ = σ ∧ r = E) v σ' → Φ pc L (v.toList ++ rest) σ' := by
  rintro v σ' ⟨r, rfl, h1, h2⟩
  rw [h1]
  exact h r h2
theorem ifT {P : Prop} [Decidable P] {r : Int32} (k : r = if P then 1 else 0) (h : ¬ r = 0) : P := by
  by_cases hp : P
  · exact hp
  · rw [if_neg hp] at k
    exact absurd k h
theorem ifF {P : Prop} [Decidable P] {r : Int32} (k : r = if P then 1 else 0) (h : r = 0) : ¬ P := by
  intro hp
  rw [if_pos hp, h] at k
  exact absurd k (by decide)
theorem ifx_s {P : Prop} [Decidable P] (x y : Int32) (h : P) : (if P then x else y) = x := if_pos h
end Calls9
theorem loop_up {P : Int32 → Prop} (n : Int32) (h : ∀ i, 0 ≤ i → (i < n → P (i + 1)) → P i) : ∀ i, 0 ≤ i → P i := by
  intro i hi
  by_cases hn : n < 0
  · exact h i hi (fun hlt => absurd hlt (by grind))
  · obtain ⟨N, hN, rfl⟩ := nI_of hn
    obtain ⟨j, hj, rfl⟩ := nI_of (Int32.not_lt.mpr hi)
    have key : ∀ (k j : Nat), j < 2 ^ 31 → N - j ≤ k → P (nI j) := by
      intro k
      induction k with
      | zero => exact fun j hj hk => h _ (nI_pos' hj) (fun hlt => absurd ((nI_ltI hj hN).mp hlt) (by omega))
      | succ k ih =>
        intro j hj hk
        refine h _ (nI_pos' hj) (fun hlt => ?_)
        have := (nI_ltI hj hN).mp hlt
        rw [nI_1]
        exact ih (j + 1) (by omega) (by omega)
    exact key _ j hj (Nat.le_refl _)
def foldN {α : Type} (f : Int32 → α → α) (a : α) : Nat → α
  | 0 => a
  | n + 1 => f (nI n) (foldN f a n)
def foldI {α : Type} (f : Int32 → α → α) (a : α) (i : Int32) : α := foldN f a i.toNatClampNeg
theorem foldI_0 {α : Type} (f : Int32 → α → α) (a : α) : foldI f a 0 = a := rfl
theorem foldI_s {α : Type} (f : Int32 → α → α) (a : α) {i n : Int32} (h0 : 0 ≤ i) (h1 : i < n) : foldI f a (i + 1) = f i (foldI f a i) := by
  have hn : ¬ n < 0 := by grind
  obtain ⟨N, hN, rfl⟩ := nI_of hn
  obtain ⟨j, hj, rfl⟩ := nI_of (Int32.not_lt.mpr h0)
  have := (nI_ltI hj hN).mp h1
  unfold foldI
  rw [nI_1, nI_clamp (by omega), nI_clamp hj]
  rfl
theorem foldI_rel {α β : Type} {f : Int32 → α → α} {g : Int32 → β → β} {a : α} {b : β} {n : Int32} (r : Int32 → α → β → Prop) (h0 : r 0 a b) (hs : ∀ i, 0 ≤ i → i < n → ∀ x y, r i x y → r (i + 1) (f i x) (g i y)) : ∀ i, 0 ≤ i → i ≤ n → r i (foldI f a i) (foldI g b i) := by
  intro i hi hle
  have hn : ¬ n < 0 := by grind
  obtain ⟨N, hN, rfl⟩ := nI_of hn
  obtain ⟨j, hj, rfl⟩ := nI_of (Int32.not_lt.mpr hi)
  have hjn := (nI_leI hj hN).mp hle
  unfold foldI
  rw [nI_clamp hj]
  clear hi hle
  induction j with
  | zero => exact h0
  | succ j ih =>
    have := ih (by omega) (by omega)
    have h2 := hs (nI j) (nI_pos' (by omega)) ((nI_ltI (by omega) hN).mpr (by omega)) _ _ this
    rw [nI_1] at h2
    exact h2
theorem foldI_congr {α : Type} {f g : Int32 → α → α} {a : α} {n : Int32} (h : ∀ i, 0 ≤ i → i < n → ∀ x, f i x = g i x) (i : Int32) (hi : 0 ≤ i) (hle : i ≤ n) : foldI f a i = foldI g a i :=
  foldI_rel (n := n) (fun _ x y => x = y) rfl (fun i h0 h1 x y e => by subst e; exact h i h0 h1 x) i hi hle
theorem foldI_inv {α : Type} {f : Int32 → α → α} {a : α} {n : Int32} (r : Int32 → α → Prop) (h0 : r 0 a) (hs : ∀ i, 0 ≤ i → i < n → ∀ x, r i x → r (i + 1) (f i x)) (i : Int32) (hi : 0 ≤ i) (hle : i ≤ n) : r i (foldI f a i) :=
  foldI_rel (f := f) (g := f) (b := a) (n := n) (fun i x _ => r i x) h0 (fun i h0 h1 x _ e => hs i h0 h1 x e) i hi hle

