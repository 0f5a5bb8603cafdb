theorem arr_prim {s : State} {args : Array Value} {ty : FieldType} (hp : ∀ C, ty ≠ .object C) (h : (Cond.arrayClass ty).before args s = true) : ∃ cA : ClassId, ArrOfT s cA ty ∧ va_RA s cA ty := by
  obtain ⟨c, k, comp, h1, h2, h3⟩ := Cond.arrayClass_spec h
  refine ⟨c, fun n z => ⟨(fun k h => by cases h), k, h2, comp, h3⟩, ?_⟩
  cases ty with
  | object C => exact absurd rfl (hp C)
  | _ => exact h1
theorem arr_obj {s : State} {C : String} (h : va_AO C s) : ∃ cA : ClassId, ArrOfT s cA (.object C) ∧ va_RA s cA (.object C) := by
  obtain ⟨comp, c, k, h1, h2, h3, h4, h5⟩ := Cond.arrayOver_spec h
  exact ⟨c, fun n z => ⟨(fun k h => by cases h), k, h3, comp, h4⟩, k, comp, h3, h4, h1, h5⟩
/-- the classes and arrays, as the tables have them -/
theorem kn_all {s : State} {args : Array Value} (hts : ∀ w ∈ tws, w.before args s = true) (hao : va_AO RX3 s) : ∃ (D : va_G) (cI cZ cL : ClassId), va_K D vwCl [(cI, .int), (cZ, .boolean), (cL, .object RX3)] s := by
  obtain ⟨c0, j0, n0⟩ := u_known hts hin_X0 (hts _ (show Cond.instantiable RX0 3 ∈ tws from (tws_of (List.mem_of_getElem? (i := 221) (by decide +kernel)) (by decide +kernel))))
  obtain ⟨c1, j1, n1⟩ := u_known hts hin_X1 (hts _ (show Cond.instantiable RX1 6 ∈ tws from (tws_of (List.mem_of_getElem? (i := 260) (by decide +kernel)) (by decide +kernel))))
  obtain ⟨c2, j2, n2⟩ := u_known hts hin_X2 (hts _ (show Cond.instantiable RX2 3 ∈ tws from (tws_of (List.mem_of_getElem? (i := 241) (by decide +kernel)) (by decide +kernel))))
  obtain ⟨c3, j3, n3⟩ := u_known hts hin_X3 (hts _ (show Cond.instantiable RX3 16 ∈ tws from (tws_of (List.mem_of_getElem? (i := 137) (by decide +kernel)) (by decide +kernel))))
  obtain ⟨c4, j4, n4⟩ := u_known hts hin_X4 (hts _ (show Cond.instantiable RX4 5 ∈ tws from (tws_of (List.mem_of_getElem? (i := 89) (by decide +kernel)) (by decide +kernel))))
  obtain ⟨c5, j5, n5⟩ := u_known hts hin_X5 (hts _ (show Cond.instantiable RX5 5 ∈ tws from (tws_of (List.mem_of_getElem? (i := 112) (by decide +kernel)) (by decide +kernel))))
  obtain ⟨c6, j6, n6⟩ := u_known hts hin_X6 (hts _ (show Cond.instantiable RX6 10 ∈ tws from (tws_of (List.mem_of_getElem? (i := 81) (by decide +kernel)) (by decide +kernel))))
  obtain ⟨c7, j7, n7⟩ := u_known hts hin_X7 (hts _ (show Cond.instantiable RX7 26 ∈ tws from (tws_of (List.mem_of_getElem? (i := 878) (by decide +kernel)) (by decide +kernel))))
  obtain ⟨cI, i1, i2⟩ := arr_prim (ty := .int) (fun C h => by cases h) (hts _ w_int)
  obtain ⟨cZ, z1, z2⟩ := arr_prim (ty := .boolean) (fun C h => by cases h) (hts _ w_bool)
  obtain ⟨cL, l1, l2⟩ := arr_obj hao
  refine ⟨((fun c => match c with | 0 => c0 | 1 => c1 | 2 => c2 | 3 => c3 | 4 => c4 | 5 => c5 | 6 => c6 | 7 => c7 | _ => 0), (fun c => match c with | 0 => j0 | 1 => j1 | 2 => j2 | 3 => j3 | 4 => j4 | 5 => j5 | 6 => j6 | 7 => j7 | _ => fun _ => 0)), cI, cZ, cL, ⟨fun c q hq => ?_, fun k q hq => ?_⟩⟩
  · match c with
    | 0 => cases hq; exact n0
    | 1 => cases hq; exact n1
    | 2 => cases hq; exact n2
    | 3 => cases hq; exact n3
    | 4 => cases hq; exact n4
    | 5 => cases hq; exact n5
    | 6 => cases hq; exact n6
    | 7 => cases hq; exact n7
    | c + 8 => simp at hq
  · match k with
    | 0 => cases hq; exact ⟨i1, i2⟩
    | 1 => cases hq; exact ⟨z1, z2⟩
    | 2 => cases hq; exact ⟨l1, l2⟩
    | k + 3 => simp at hq
theorem bk_start {s : State} {b : Nat} (hls : (Cond.laysStatic RX6 "BROADER_KIND" "[I").before #[Value.ref b] s = true) (hts : ∀ w ∈ tws, w.before #[Value.ref b] s = true) (hgv : (Jvm.Cond.and given_1 narrow_1).before #[Value.ref b] s = true) : ∃ t : Nat, va_Z RX6 "BROADER_KIND" "[I" (.ref t) (fun q => s.heap.size ≤ q) s s.heap ∧ va_T .int t 6 bkf (fun q => s.heap.size ≤ q) s s.heap := by
  have hs := flat_of_before _ hgv
  have hA : ∀ a : Nat, a < s.heap.size → ¬ s.heap.size ≤ a := fun a h => Nat.not_le.mpr h
  obtain ⟨t, e, hT⟩ := va_Tof (f := bkf) (N := 6) (tm := .static "FishReaders" "BROADER_KIND" "[I") (ty := .int) (args := #[Value.ref b]) (s := s) (A := fun q => s.heap.size ≤ q) (by decide) (hs _ (by decide +kernel)) (va_eqt (hs _ (by decide +kernel))) (fun j hj => by
    match j, hj with
    | 0, _ => exact va_eqt (hs _ (by decide +kernel))
    | 1, _ => exact va_eqt (hs _ (by decide +kernel))
    | 2, _ => exact va_eqt (hs _ (by decide +kernel))
    | 3, _ => exact va_eqt (hs _ (by decide +kernel))
    | 4, _ => exact va_eqt (hs _ (by decide +kernel))
    | 5, _ => exact va_eqt (hs _ (by decide +kernel))
    | j + 6, h => exact absurd h (by omega)) hA
  exact ⟨t, va_Zof hls (hts _ in_X6) e hA, hT⟩
