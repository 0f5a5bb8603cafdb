theorem w_int : Cond.arrayClass .int ∈ tws := (tws_of (by decide +kernel) (by decide +kernel))
theorem w_bool : Cond.arrayClass .boolean ∈ tws := (tws_of (by decide +kernel) (by decide +kernel))
theorem df_X0 : ∀ j, j < 3 → defaultValue (tyX0 j) = vp_V [.null, .int 0, .int 0] j := fun j hj => match j, hj with
  | 0, _ => rfl
  | 1, _ => rfl
  | 2, _ => rfl
  | k + 3, h => absurd h (by omega)
theorem df_X1 : ∀ j, j < 6 → defaultValue (tyX1 j) = vp_V [.null, .int 0, .int 0, .int 0, .int 0, .int 0] j := fun j hj => match j, hj with
  | 0, _ => rfl
  | 1, _ => rfl
  | 2, _ => rfl
  | 3, _ => rfl
  | 4, _ => rfl
  | 5, _ => rfl
  | k + 6, h => absurd h (by omega)
theorem df_X2 : ∀ j, j < 3 → defaultValue (tyX2 j) = vp_V [.null, .null, .null] j := fun j hj => match j, hj with
  | 0, _ => rfl
  | 1, _ => rfl
  | 2, _ => rfl
  | k + 3, h => absurd h (by omega)
theorem df_X3 : ∀ j, j < 16 → defaultValue (tyX3 j) = vp_V [.int 0, .int 0, .int 0, .int 0, .int 0, .int 0, .int 0, .int 0, .null, .null, .null, .null, .null, .null, .null, .null] j := fun j hj => match j, hj with
  | 0, _ => rfl
  | 1, _ => rfl
  | 2, _ => rfl
  | 3, _ => rfl
  | 4, _ => rfl
  | 5, _ => rfl
  | 6, _ => rfl
  | 7, _ => rfl
  | 8, _ => rfl
  | 9, _ => rfl
  | 10, _ => rfl
  | 11, _ => rfl
  | 12, _ => rfl
  | 13, _ => rfl
  | 14, _ => rfl
  | 15, _ => rfl
  | k + 16, h => absurd h (by omega)
theorem df_X4 : ∀ j, j < 5 → defaultValue (tyX4 j) = vp_V [.null, .null, .null, .int 0, .int 0] j := fun j hj => match j, hj with
  | 0, _ => rfl
  | 1, _ => rfl
  | 2, _ => rfl
  | 3, _ => rfl
  | 4, _ => rfl
  | k + 5, h => absurd h (by omega)
theorem df_X5 : ∀ j, j < 5 → defaultValue (tyX5 j) = vp_V [.null, .int 0, .int 0, .int 0, .int 0] j := fun j hj => match j, hj with
  | 0, _ => rfl
  | 1, _ => rfl
  | 2, _ => rfl
  | 3, _ => rfl
  | 4, _ => rfl
  | k + 5, h => absurd h (by omega)
theorem df_X6 : ∀ j, j < 10 → defaultValue (tyX6 j) = vp_V [.null, .null, .null, .null, .null, .null, .null, .null, .null, .int 0] j := fun j hj => match j, hj with
  | 0, _ => rfl
  | 1, _ => rfl
  | 2, _ => rfl
  | 3, _ => rfl
  | 4, _ => rfl
  | 5, _ => rfl
  | 6, _ => rfl
  | 7, _ => rfl
  | 8, _ => rfl
  | 9, _ => rfl
  | k + 10, h => absurd h (by omega)
theorem df_X7 : ∀ j, j < 26 → defaultValue (tyX7 j) = vp_V [.null, .null, .null, .int 0, .int 0, .null, .null, .null, .int 0, .int 0, .int 0, .int 0, .int 0, .int 0, .int 0, .null, .null, .null, .int 0, .null, .null, .null, .null, .null, .null, .int 0] j := fun j hj => match j, hj with
  | 0, _ => rfl
  | 1, _ => rfl
  | 2, _ => rfl
  | 3, _ => rfl
  | 4, _ => rfl
  | 5, _ => rfl
  | 6, _ => rfl
  | 7, _ => rfl
  | 8, _ => rfl
  | 9, _ => rfl
  | 10, _ => rfl
  | 11, _ => rfl
  | 12, _ => rfl
  | 13, _ => rfl
  | 14, _ => rfl
  | 15, _ => rfl
  | 16, _ => rfl
  | 17, _ => rfl
  | 18, _ => rfl
  | 19, _ => rfl
  | 20, _ => rfl
  | 21, _ => rfl
  | 22, _ => rfl
  | 23, _ => rfl
  | 24, _ => rfl
  | 25, _ => rfl
  | k + 26, h => absurd h (by omega)
def grp_X3 (cI : ClassId) (a : Nat → Nat) : va_W := [(a 0, .inr (3, [.int 0, .int 0, .int 0, .int 0, .int 0, .int 0, .int 0, .int 0, .ref (a 1), .ref (a 2), .ref (a 3), .ref (a 4), .ref (a 5), .ref (a 6), .ref (a 7), .ref (a 8)])), (a 1, .inl (cI, 6, .inl (fun _ => 0))), (a 2, .inl (cI, 6, .inl (fun _ => 0))), (a 3, .inl (cI, 6, .inl (fun _ => 0))), (a 4, .inl (cI, 6, .inl (fun _ => 0))), (a 5, .inl (cI, 5, .inl (fun _ => 0))), (a 6, .inl (cI, 5, .inl (fun _ => 0))), (a 7, .inl (cI, 5, .inl (fun _ => 0))), (a 8, .inl (cI, 5, .inl (fun _ => 0)))]
set_option maxRecDepth 100000 in
theorem ct_X3 {l : Launch} {D : va_G} {cI cZ cL : ClassId} : Ct (τ := Nat → Nat) (fun a => a 0) l D [(cI, .int), (cZ, .boolean), (cL, .object RX3)] yX3_init cX3_init 1 1 20 8 44 3 [.int 0, .int 0, .int 0, .int 0, .int 0, .int 0, .int 0, .int 0, .null, .null, .null, .null, .null, .null, .null, .null] (fun a => grp_X3 cI a) := by
  refine ct_intro (by decide) rfl (by decide) (fun h0 A Φ M => ?_)
  have hI : ([(cI, .int), (cZ, .boolean), (cL, .object RX3)] : List (ClassId × FieldType))[0]? = some (cI, .int) := rfl
  have hZ : ([(cI, .int), (cZ, .boolean), (cL, .object RX3)] : List (ClassId × FieldType))[1]? = some (cZ, .boolean) := rfl
  have hL : ([(cI, .int), (cZ, .boolean), (cL, .object RX3)] : List (ClassId × FieldType))[2]? = some (cL, .object RX3) := rfl
  show Φ 0 [some (.ref h0)] [] ((0, 0, [(h0, .inr (3, [.int 0, .int 0, .int 0, .int 0, .int 0, .int 0, .int 0, .int 0, .null, .null, .null, .null, .null, .null, .null, .null]))]) : Cw)
  refine g_aload_n M dX3_init_0 rfl ?_
  refine g_init0 M (tws_of (List.mem_of_getElem? (i := 141) (by decide +kernel)) (by decide +kernel)) (Nat.le_of_ble_eq_true rfl) (Nat.le_of_ble_eq_true rfl) dX3_init_1 ?_
  refine g_aload_n M dX3_init_4 rfl ?_
  refine g_iconst (v := 0) M dX3_init_5 (by decide) ?_
  refine g_put M (q0 := 0) (ci := 3) (ty0 := tyX3) rfl rfl (k := 0) (by decide) hin_X3 tyX3_ok nmX3 fl_X3_9 rfl rfl rfl (by simp) dX3_init_6 ?_
  show Φ 9 [some (.ref h0)] [] ((0, 0, (h0, .inr (3, [.int 0, .int 0, .int 0, .int 0, .int 0, .int 0, .int 0, .int 0, .null, .null, .null, .null, .null, .null, .null, .null])) :: []) : Cw)
  refine g_aload_n M dX3_init_9 rfl ?_
  refine g_iconst (v := 0) M dX3_init_10 (by decide) ?_
  refine g_put M (q0 := 0) (ci := 3) (ty0 := tyX3) rfl rfl (k := 1) (by decide) hin_X3 tyX3_ok nmX3 fl_X3_15 rfl rfl rfl (by simp) dX3_init_11 ?_
  show Φ 14 [some (.ref h0)] [] ((0, 0, (h0, .inr (3, [.int 0, .int 0, .int 0, .int 0, .int 0, .int 0, .int 0, .int 0, .null, .null, .null, .null, .null, .null, .null, .null])) :: []) : Cw)
  refine g_aload_n M dX3_init_14 rfl ?_
  refine g_iconst (v := 0) M dX3_init_15 (by decide) ?_
  refine g_put M (q0 := 0) (ci := 3) (ty0 := tyX3) rfl rfl (k := 2) (by decide) hin_X3 tyX3_ok nmX3 fl_X3_18 rfl rfl rfl (by simp) dX3_init_16 ?_
  show Φ 19 [some (.ref h0)] [] ((0, 0, (h0, .inr (3, [.int 0, .int 0, .int 0, .int 0, .int 0, .int 0, .int 0, .int 0, .null, .null, .null, .null, .null, .null, .null, .null])) :: []) : Cw)
  refine g_aload_n M dX3_init_19 rfl ?_
  refine g_iconst (v := 0) M dX3_init_20 (by decide) ?_
  refine g_put M (q0 := 0) (ci := 3) (ty0 := tyX3) rfl rfl (k := 3) (by decide) hin_X3 tyX3_ok nmX3 fl_X3_21 rfl rfl rfl (by simp) dX3_init_21 ?_
  show Φ 24 [some (.ref h0)] [] ((0, 0, (h0, .inr (3, [.int 0, .int 0, .int 0, .int 0, .int 0, .int 0, .int 0, .int 0, .null, .null, .null, .null, .null, .null, .null, .null])) :: []) : Cw)
  refine g_aload_n M dX3_init_24 rfl ?_
  refine g_iconst (v := 0) M dX3_init_25 (by decide) ?_
  refine g_put M (q0 := 0) (ci := 3) (ty0 := tyX3) rfl rfl (k := 4) (by decide) hin_X3 tyX3_ok nmX3 fl_X3_24 rfl rfl rfl (by simp) dX3_init_26 ?_
  show Φ 29 [some (.ref h0)] [] ((0, 0, (h0, .inr (3, [.int 0, .int 0, .int 0, .int 0, .int 0, .int 0, .int 0, .int 0, .null, .null, .null, .null, .null, .null, .null, .null])) :: []) : Cw)
  refine g_aload_n M dX3_init_29 rfl ?_
  refine g_iconst (v := 0) M dX3_init_30 (by decide) ?_
  refine g_put M (q0 := 0) (ci := 3) (ty0 := tyX3) rfl rfl (k := 5) (by decide) hin_X3 tyX3_ok nmX3 fl_X3_27 rfl rfl rfl (by simp) dX3_init_31 ?_
  show Φ 34 [some (.ref h0)] [] ((0, 0, (h0, .inr (3, [.int 0, .int 0, .int 0, .int 0, .int 0, .int 0, .int 0, .int 0, .null, .null, .null, .null, .null, .null, .null, .null])) :: []) : Cw)
  refine g_aload_n M dX3_init_34 rfl ?_
  refine g_iconst (v := 0) M dX3_init_35 (by decide) ?_
  refine g_put M (q0 := 0) (ci := 3) (ty0 := tyX3) rfl rfl (k := 6) (by decide) hin_X3 tyX3_ok nmX3 fl_X3_30 rfl rfl rfl (by simp) dX3_init_36 ?_
  show Φ 39 [some (.ref h0)] [] ((0, 0, (h0, .inr (3, [.int 0, .int 0, .int 0, .int 0, .int 0, .int 0, .int 0, .int 0, .null, .null, .null, .null, .null, .null, .null, .null])) :: []) : Cw)
  refine g_aload_n M dX3_init_39 rfl ?_
  refine g_iconst (v := 0) M dX3_init_40 (by decide) ?_
  refine g_put M (q0 := 0) (ci := 3) (ty0 := tyX3) rfl rfl (k := 7) (by decide) hin_X3 tyX3_ok nmX3 fl_X3_33 rfl rfl rfl (by simp) dX3_init_41 ?_
  show Φ 44 [some (.ref h0)] [] ((0, 0, (h0, .inr (3, [.int 0, .int 0, .int 0, .int 0, .int 0, .int 0, .int 0, .int 0, .null, .null, .null, .null, .null, .null, .null, .null])) :: []) : Cw)
  refine g_aload_n M dX3_init_44 rfl ?_
  refine g_bipush (v := 6) M dX3_init_45 (by decide) ?_
  refine g_newi M (N' := 6) hI (by decide) (by decide) (by decide) (Nat.le_of_ble_eq_true rfl) (Nat.le_of_ble_eq_true rfl) w_int dX3_init_47 (fun q0 => ?_)
  show Φ 49 [some (.ref h0)] [.ref q0, .ref h0] ((1, 6, (h0, .inr (3, [.int 0, .int 0, .int 0, .int 0, .int 0, .int 0, .int 0, .int 0, .null, .null, .null, .null, .null, .null, .null, .null])) :: [(q0, .inl (cI, 6, .inl (fun _ => 0)))]) : Cw)
  refine g_putF M trivial (q0 := 0) (ci := 3) (ty0 := tyX3) rfl rfl (k := 8) (by decide) hin_X3 tyX3_ok nmX3 fl_X3_36 rfl rfl rfl rfl (by simp) dX3_init_49 ?_
  show Φ 52 [some (.ref h0)] [] ((1, 6, (h0, .inr (3, [.int 0, .int 0, .int 0, .int 0, .int 0, .int 0, .int 0, .int 0, .ref q0, .null, .null, .null, .null, .null, .null, .null])) :: [(q0, .inl (cI, 6, .inl (fun _ => 0)))]) : Cw)
  refine g_aload_n M dX3_init_52 rfl ?_
  refine g_bipush (v := 6) M dX3_init_53 (by decide) ?_
  refine g_newi M (N' := 6) hI (by decide) (by decide) (by decide) (Nat.le_of_ble_eq_true rfl) (Nat.le_of_ble_eq_true rfl) w_int dX3_init_55 (fun q1 => ?_)
  show Φ 57 [some (.ref h0)] [.ref q1, .ref h0] ((2, 12, (h0, .inr (3, [.int 0, .int 0, .int 0, .int 0, .int 0, .int 0, .int 0, .int 0, .ref q0, .null, .null, .null, .null, .null, .null, .null])) :: [(q0, .inl (cI, 6, .inl (fun _ => 0))), (q1, .inl (cI, 6, .inl (fun _ => 0)))]) : Cw)
  refine g_putF M trivial (q0 := 0) (ci := 3) (ty0 := tyX3) rfl rfl (k := 9) (by decide) hin_X3 tyX3_ok nmX3 fl_X3_40 rfl rfl rfl rfl (by simp) dX3_init_57 ?_
  show Φ 60 [some (.ref h0)] [] ((2, 12, (h0, .inr (3, [.int 0, .int 0, .int 0, .int 0, .int 0, .int 0, .int 0, .int 0, .ref q0, .ref q1, .null, .null, .null, .null, .null, .null])) :: [(q0, .inl (cI, 6, .inl (fun _ => 0))), (q1, .inl (cI, 6, .inl (fun _ => 0)))]) : Cw)
  refine g_aload_n M dX3_init_60 rfl ?_
  refine g_bipush (v := 6) M dX3_init_61 (by decide) ?_
  refine g_newi M (N' := 6) hI (by decide) (by decide) (by decide) (Nat.le_of_ble_eq_true rfl) (Nat.le_of_ble_eq_true rfl) w_int dX3_init_63 (fun q2 => ?_)
  show Φ 65 [some (.ref h0)] [.ref q2, .ref h0] ((3, 18, (h0, .inr (3, [.int 0, .int 0, .int 0, .int 0, .int 0, .int 0, .int 0, .int 0, .ref q0, .ref q1, .null, .null, .null, .null, .null, .null])) :: [(q0, .inl (cI, 6, .inl (fun _ => 0))), (q1, .inl (cI, 6, .inl (fun _ => 0))), (q2, .inl (cI, 6, .inl (fun _ => 0)))]) : Cw)
  refine g_putF M trivial (q0 := 0) (ci := 3) (ty0 := tyX3) rfl rfl (k := 10) (by decide) hin_X3 tyX3_ok nmX3 fl_X3_43 rfl rfl rfl rfl (by simp) dX3_init_65 ?_
  show Φ 68 [some (.ref h0)] [] ((3, 18, (h0, .inr (3, [.int 0, .int 0, .int 0, .int 0, .int 0, .int 0, .int 0, .int 0, .ref q0, .ref q1, .ref q2, .null, .null, .null, .null, .null])) :: [(q0, .inl (cI, 6, .inl (fun _ => 0))), (q1, .inl (cI, 6, .inl (fun _ => 0))), (q2, .inl (cI, 6, .inl (fun _ => 0)))]) : Cw)
  refine g_aload_n M dX3_init_68 rfl ?_
  refine g_bipush (v := 6) M dX3_init_69 (by decide) ?_
  refine g_newi M (N' := 6) hI (by decide) (by decide) (by decide) (Nat.le_of_ble_eq_true rfl) (Nat.le_of_ble_eq_true rfl) w_int dX3_init_71 (fun q3 => ?_)
  show Φ 73 [some (.ref h0)] [.ref q3, .ref h0] ((4, 24, (h0, .inr (3, [.int 0, .int 0, .int 0, .int 0, .int 0, .int 0, .int 0, .int 0, .ref q0, .ref q1, .ref q2, .null, .null, .null, .null, .null])) :: [(q0, .inl (cI, 6, .inl (fun _ => 0))), (q1, .inl (cI, 6, .inl (fun _ => 0))), (q2, .inl (cI, 6, .inl (fun _ => 0))), (q3, .inl (cI, 6, .inl (fun _ => 0)))]) : Cw)
  refine g_putF M trivial (q0 := 0) (ci := 3) (ty0 := tyX3) rfl rfl (k := 11) (by decide) hin_X3 tyX3_ok nmX3 fl_X3_46 rfl rfl rfl rfl (by simp) dX3_init_73 ?_
  show Φ 76 [some (.ref h0)] [] ((4, 24, (h0, .inr (3, [.int 0, .int 0, .int 0, .int 0, .int 0, .int 0, .int 0, .int 0, .ref q0, .ref q1, .ref q2, .ref q3, .null, .null, .null, .null])) :: [(q0, .inl (cI, 6, .inl (fun _ => 0))), (q1, .inl (cI, 6, .inl (fun _ => 0))), (q2, .inl (cI, 6, .inl (fun _ => 0))), (q3, .inl (cI, 6, .inl (fun _ => 0)))]) : Cw)
  refine g_aload_n M dX3_init_76 rfl ?_
  refine g_iconst (v := 5) M dX3_init_77 (by decide) ?_
  refine g_newi M (N' := 5) hI (by decide) (by decide) (by decide) (Nat.le_of_ble_eq_true rfl) (Nat.le_of_ble_eq_true rfl) w_int dX3_init_78 (fun q4 => ?_)
  show Φ 80 [some (.ref h0)] [.ref q4, .ref h0] ((5, 29, (h0, .inr (3, [.int 0, .int 0, .int 0, .int 0, .int 0, .int 0, .int 0, .int 0, .ref q0, .ref q1, .ref q2, .ref q3, .null, .null, .null, .null])) :: [(q0, .inl (cI, 6, .inl (fun _ => 0))), (q1, .inl (cI, 6, .inl (fun _ => 0))), (q2, .inl (cI, 6, .inl (fun _ => 0))), (q3, .inl (cI, 6, .inl (fun _ => 0))), (q4, .inl (cI, 5, .inl (fun _ => 0)))]) : Cw)
  refine g_putF M trivial (q0 := 0) (ci := 3) (ty0 := tyX3) rfl rfl (k := 12) (by decide) hin_X3 tyX3_ok nmX3 fl_X3_49 rfl rfl rfl rfl (by simp) dX3_init_80 ?_
  show Φ 83 [some (.ref h0)] [] ((5, 29, (h0, .inr (3, [.int 0, .int 0, .int 0, .int 0, .int 0, .int 0, .int 0, .int 0, .ref q0, .ref q1, .ref q2, .ref q3, .ref q4, .null, .null, .null])) :: [(q0, .inl (cI, 6, .inl (fun _ => 0))), (q1, .inl (cI, 6, .inl (fun _ => 0))), (q2, .inl (cI, 6, .inl (fun _ => 0))), (q3, .inl (cI, 6, .inl (fun _ => 0))), (q4, .inl (cI, 5, .inl (fun _ => 0)))]) : Cw)
  refine g_aload_n M dX3_init_83 rfl ?_
  refine g_iconst (v := 5) M dX3_init_84 (by decide) ?_
  refine g_newi M (N' := 5) hI (by decide) (by decide) (by decide) (Nat.le_of_ble_eq_true rfl) (Nat.le_of_ble_eq_true rfl) w_int dX3_init_85 (fun q5 => ?_)
  show Φ 87 [some (.ref h0)] [.ref q5, .ref h0] ((6, 34, (h0, .inr (3, [.int 0, .int 0, .int 0, .int 0, .int 0, .int 0, .int 0, .int 0, .ref q0, .ref q1, .ref q2, .ref q3, .ref q4, .null, .null, .null])) :: [(q0, .inl (cI, 6, .inl (fun _ => 0))), (q1, .inl (cI, 6, .inl (fun _ => 0))), (q2, .inl (cI, 6, .inl (fun _ => 0))), (q3, .inl (cI, 6, .inl (fun _ => 0))), (q4, .inl (cI, 5, .inl (fun _ => 0))), (q5, .inl (cI, 5, .inl (fun _ => 0)))]) : Cw)
  refine g_putF M trivial (q0 := 0) (ci := 3) (ty0 := tyX3) rfl rfl (k := 13) (by decide) hin_X3 tyX3_ok nmX3 fl_X3_52 rfl rfl rfl rfl (by simp) dX3_init_87 ?_
  show Φ 90 [some (.ref h0)] [] ((6, 34, (h0, .inr (3, [.int 0, .int 0, .int 0, .int 0, .int 0, .int 0, .int 0, .int 0, .ref q0, .ref q1, .ref q2, .ref q3, .ref q4, .ref q5, .null, .null])) :: [(q0, .inl (cI, 6, .inl (fun _ => 0))), (q1, .inl (cI, 6, .inl (fun _ => 0))), (q2, .inl (cI, 6, .inl (fun _ => 0))), (q3, .inl (cI, 6, .inl (fun _ => 0))), (q4, .inl (cI, 5, .inl (fun _ => 0))), (q5, .inl (cI, 5, .inl (fun _ => 0)))]) : Cw)
  refine g_aload_n M dX3_init_90 rfl ?_
  refine g_iconst (v := 5) M dX3_init_91 (by decide) ?_
  refine g_newi M (N' := 5) hI (by decide) (by decide) (by decide) (Nat.le_of_ble_eq_true rfl) (Nat.le_of_ble_eq_true rfl) w_int dX3_init_92 (fun q6 => ?_)
  show Φ 94 [some (.ref h0)] [.ref q6, .ref h0] ((7, 39, (h0, .inr (3, [.int 0, .int 0, .int 0, .int 0, .int 0, .int 0, .int 0, .int 0, .ref q0, .ref q1, .ref q2, .ref q3, .ref q4, .ref q5, .null, .null])) :: [(q0, .inl (cI, 6, .inl (fun _ => 0))), (q1, .inl (cI, 6, .inl (fun _ => 0))), (q2, .inl (cI, 6, .inl (fun _ => 0))), (q3, .inl (cI, 6, .inl (fun _ => 0))), (q4, .inl (cI, 5, .inl (fun _ => 0))), (q5, .inl (cI, 5, .inl (fun _ => 0))), (q6, .inl (cI, 5, .inl (fun _ => 0)))]) : Cw)
  refine g_putF M trivial (q0 := 0) (ci := 3) (ty0 := tyX3) rfl rfl (k := 14) (by decide) hin_X3 tyX3_ok nmX3 fl_X3_55 rfl rfl rfl rfl (by simp) dX3_init_94 ?_
  show Φ 97 [some (.ref h0)] [] ((7, 39, (h0, .inr (3, [.int 0, .int 0, .int 0, .int 0, .int 0, .int 0, .int 0, .int 0, .ref q0, .ref q1, .ref q2, .ref q3, .ref q4, .ref q5, .ref q6, .null])) :: [(q0, .inl (cI, 6, .inl (fun _ => 0))), (q1, .inl (cI, 6, .inl (fun _ => 0))), (q2, .inl (cI, 6, .inl (fun _ => 0))), (q3, .inl (cI, 6, .inl (fun _ => 0))), (q4, .inl (cI, 5, .inl (fun _ => 0))), (q5, .inl (cI, 5, .inl (fun _ => 0))), (q6, .inl (cI, 5, .inl (fun _ => 0)))]) : Cw)
  refine g_aload_n M dX3_init_97 rfl ?_
  refine g_iconst (v := 5) M dX3_init_98 (by decide) ?_
  refine g_newi M (N' := 5) hI (by decide) (by decide) (by decide) (Nat.le_of_ble_eq_true rfl) (Nat.le_of_ble_eq_true rfl) w_int dX3_init_99 (fun q7 => ?_)
  show Φ 101 [some (.ref h0)] [.ref q7, .ref h0] ((8, 44, (h0, .inr (3, [.int 0, .int 0, .int 0, .int 0, .int 0, .int 0, .int 0, .int 0, .ref q0, .ref q1, .ref q2, .ref q3, .ref q4, .ref q5, .ref q6, .null])) :: [(q0, .inl (cI, 6, .inl (fun _ => 0))), (q1, .inl (cI, 6, .inl (fun _ => 0))), (q2, .inl (cI, 6, .inl (fun _ => 0))), (q3, .inl (cI, 6, .inl (fun _ => 0))), (q4, .inl (cI, 5, .inl (fun _ => 0))), (q5, .inl (cI, 5, .inl (fun _ => 0))), (q6, .inl (cI, 5, .inl (fun _ => 0))), (q7, .inl (cI, 5, .inl (fun _ => 0)))]) : Cw)
  refine g_putF M trivial (q0 := 0) (ci := 3) (ty0 := tyX3) rfl rfl (k := 15) (by decide) hin_X3 tyX3_ok nmX3 fl_X3_58 rfl rfl rfl rfl (by simp) dX3_init_101 ?_
  show Φ 104 [some (.ref h0)] [] ((8, 44, (h0, .inr (3, [.int 0, .int 0, .int 0, .int 0, .int 0, .int 0, .int 0, .int 0, .ref q0, .ref q1, .ref q2, .ref q3, .ref q4, .ref q5, .ref q6, .ref q7])) :: [(q0, .inl (cI, 6, .inl (fun _ => 0))), (q1, .inl (cI, 6, .inl (fun _ => 0))), (q2, .inl (cI, 6, .inl (fun _ => 0))), (q3, .inl (cI, 6, .inl (fun _ => 0))), (q4, .inl (cI, 5, .inl (fun _ => 0))), (q5, .inl (cI, 5, .inl (fun _ => 0))), (q6, .inl (cI, 5, .inl (fun _ => 0))), (q7, .inl (cI, 5, .inl (fun _ => 0)))]) : Cw)
  refine g_ret M ?_ dX3_init_104
  exact ⟨fun k => match k with | 0 => h0 | 1 => q0 | 2 => q1 | 3 => q2 | 4 => q3 | 5 => q4 | 6 => q5 | 7 => q6 | _ => q7, rfl, rfl⟩
def grp_X4 (cI : ClassId) (a : Nat → Nat) : va_W := [(a 0, .inr (4, [.ref (a 1), .ref (a 2), .ref (a 3), .int 0, .int 0])), (a 1, .inl (cI, 8, .inl (upd (upd (upd (upd (upd (upd (upd (upd (fun _ => 0) (Int32.toNatClampNeg 0) (-1)) (Int32.toNatClampNeg 1) (-1)) (Int32.toNatClampNeg 2) (-1)) (Int32.toNatClampNeg 3) (-1)) (Int32.toNatClampNeg 4) (-1)) (Int32.toNatClampNeg 5) (-1)) (Int32.toNatClampNeg 6) (-1)) (Int32.toNatClampNeg 7) (-1)))), (a 2, .inl (cI, 8, .inl (fun _ => 0))), (a 3, .inl (cI, 320, .inl (fun _ => 0)))]
set_option maxRecDepth 100000 in
theorem ct_X4 {l : Launch} {D : va_G} {cI cZ cL : ClassId} : Ct (τ := Nat → Nat) (fun a => a 0) l D [(cI, .int), (cZ, .boolean), (cL, .object RX3)] yX4_init cX4_init 2 1 20 3 336 4 [.null, .null, .null, .int 0, .int 0] (fun a => grp_X4 cI a) := by
  refine ct_intro (by decide) rfl (by decide) (fun h0 A Φ M => ?_)
  have hI : ([(cI, .int), (cZ, .boolean), (cL, .object RX3)] : List (ClassId × FieldType))[0]? = some (cI, .int) := rfl
  have hZ : ([(cI, .int), (cZ, .boolean), (cL, .object RX3)] : List (ClassId × FieldType))[1]? = some (cZ, .boolean) := rfl
  have hL : ([(cI, .int), (cZ, .boolean), (cL, .object RX3)] : List (ClassId × FieldType))[2]? = some (cL, .object RX3) := rfl
  show Φ 0 [some (.ref h0), none] [] ((0, 0, [(h0, .inr (4, [.null, .null, .null, .int 0, .int 0]))]) : Cw)
  refine g_aload_n M dX4_init_0 rfl ?_
  refine g_init0 M (tws_of (List.mem_of_getElem? (i := 93) (by decide +kernel)) (by decide +kernel)) (Nat.le_of_ble_eq_true rfl) (Nat.le_of_ble_eq_true rfl) dX4_init_1 ?_
  refine g_aload_n M dX4_init_4 rfl ?_
  refine g_bipush (v := 8) M dX4_init_5 (by decide) ?_
  refine g_newi M (N' := 8) hI (by decide) (by decide) (by decide) (Nat.le_of_ble_eq_true rfl) (Nat.le_of_ble_eq_true rfl) w_int dX4_init_7 (fun q0 => ?_)
  show Φ 9 [some (.ref h0), none] [.ref q0, .ref h0] ((1, 8, (h0, .inr (4, [.null, .null, .null, .int 0, .int 0])) :: [(q0, .inl (cI, 8, .inl (fun _ => 0)))]) : Cw)
  refine g_putF M trivial (q0 := 0) (ci := 4) (ty0 := tyX4) rfl rfl (k := 0) (by decide) hin_X4 tyX4_ok nmX4 fl_X4_11 rfl rfl rfl rfl (by simp) dX4_init_9 ?_
  show Φ 12 [some (.ref h0), none] [] ((1, 8, (h0, .inr (4, [.ref q0, .null, .null, .int 0, .int 0])) :: [(q0, .inl (cI, 8, .inl (fun _ => 0)))]) : Cw)
  refine g_aload_n M dX4_init_12 rfl ?_
  refine g_bipush (v := 8) M dX4_init_13 (by decide) ?_
  refine g_newi M (N' := 8) hI (by decide) (by decide) (by decide) (Nat.le_of_ble_eq_true rfl) (Nat.le_of_ble_eq_true rfl) w_int dX4_init_15 (fun q1 => ?_)
  show Φ 17 [some (.ref h0), none] [.ref q1, .ref h0] ((2, 16, (h0, .inr (4, [.ref q0, .null, .null, .int 0, .int 0])) :: [(q0, .inl (cI, 8, .inl (fun _ => 0))), (q1, .inl (cI, 8, .inl (fun _ => 0)))]) : Cw)
  refine g_putF M trivial (q0 := 0) (ci := 4) (ty0 := tyX4) rfl rfl (k := 1) (by decide) hin_X4 tyX4_ok nmX4 fl_X4_15 rfl rfl rfl rfl (by simp) dX4_init_17 ?_
  show Φ 20 [some (.ref h0), none] [] ((2, 16, (h0, .inr (4, [.ref q0, .ref q1, .null, .int 0, .int 0])) :: [(q0, .inl (cI, 8, .inl (fun _ => 0))), (q1, .inl (cI, 8, .inl (fun _ => 0)))]) : Cw)
  refine g_aload_n M dX4_init_20 rfl ?_
  refine g_sipush (v := 320) M dX4_init_21 (by decide) ?_
  refine g_newi M (N' := 320) hI (by decide) (by decide) (by decide) (Nat.le_of_ble_eq_true rfl) (Nat.le_of_ble_eq_true rfl) w_int dX4_init_24 (fun q2 => ?_)
  show Φ 26 [some (.ref h0), none] [.ref q2, .ref h0] ((3, 336, (h0, .inr (4, [.ref q0, .ref q1, .null, .int 0, .int 0])) :: [(q0, .inl (cI, 8, .inl (fun _ => 0))), (q1, .inl (cI, 8, .inl (fun _ => 0))), (q2, .inl (cI, 320, .inl (fun _ => 0)))]) : Cw)
  refine g_putF M trivial (q0 := 0) (ci := 4) (ty0 := tyX4) rfl rfl (k := 2) (by decide) hin_X4 tyX4_ok nmX4 fl_X4_18 rfl rfl rfl rfl (by simp) dX4_init_26 ?_
  show Φ 29 [some (.ref h0), none] [] ((3, 336, (h0, .inr (4, [.ref q0, .ref q1, .ref q2, .int 0, .int 0])) :: [(q0, .inl (cI, 8, .inl (fun _ => 0))), (q1, .inl (cI, 8, .inl (fun _ => 0))), (q2, .inl (cI, 320, .inl (fun _ => 0)))]) : Cw)
  refine g_aload_n M dX4_init_29 rfl ?_
  refine g_iconst (v := 0) M dX4_init_30 (by decide) ?_
  refine g_put M (q0 := 0) (ci := 4) (ty0 := tyX4) rfl rfl (k := 3) (by decide) hin_X4 tyX4_ok nmX4 fl_X4_21 rfl rfl rfl (by simp) dX4_init_31 ?_
  show Φ 34 [some (.ref h0), none] [] ((3, 336, (h0, .inr (4, [.ref q0, .ref q1, .ref q2, .int 0, .int 0])) :: [(q0, .inl (cI, 8, .inl (fun _ => 0))), (q1, .inl (cI, 8, .inl (fun _ => 0))), (q2, .inl (cI, 320, .inl (fun _ => 0)))]) : Cw)
  refine g_aload_n M dX4_init_34 rfl ?_
  refine g_iconst (v := 0) M dX4_init_35 (by decide) ?_
  refine g_put M (q0 := 0) (ci := 4) (ty0 := tyX4) rfl rfl (k := 4) (by decide) hin_X4 tyX4_ok nmX4 fl_X4_25 rfl rfl rfl (by simp) dX4_init_36 ?_
  show Φ 39 [some (.ref h0), none] [] ((3, 336, (h0, .inr (4, [.ref q0, .ref q1, .ref q2, .int 0, .int 0])) :: [(q0, .inl (cI, 8, .inl (fun _ => 0))), (q1, .inl (cI, 8, .inl (fun _ => 0))), (q2, .inl (cI, 320, .inl (fun _ => 0)))]) : Cw)
  refine g_iconst (v := 0) M dX4_init_39 (by decide) ?_
  refine g_istore_1 M dX4_init_40 (by exact (by first | trivial | rfl)) ?_
  refine g_iload_n M dX4_init_41 rfl ?_
  refine g_bipush (v := 8) M dX4_init_42 (by decide) ?_
  refine g_icmp_ge (tgt := 60) M dX4_init_44 (by decide) (fun h => absurd h (by decide)) (fun _ => ?_)
  refine g_aload_n M dX4_init_47 rfl ?_
  refine g_get M (q0 := 0) (ci := 4) (v := .ref q0) rfl rfl (k := 0) (by decide) hin_X4 fl_X4_11 rfl dX4_init_48 ?_
  refine g_iload_n M dX4_init_51 rfl ?_
  refine g_iconst (v := (-1)) M dX4_init_52 (by decide) ?_
  refine g_iast M hI (q0 := 1) rfl (by unfold vp_in; decide) dX4_init_53 ?_
  show Φ 54 [some (.ref h0), some (.int 0)] [] ((3, 336, (h0, .inr (4, [.ref q0, .ref q1, .ref q2, .int 0, .int 0])) :: [(q0, .inl (cI, 8, .inl (upd (fun _ => 0) (Int32.toNatClampNeg 0) (-1)))), (q1, .inl (cI, 8, .inl (fun _ => 0))), (q2, .inl (cI, 320, .inl (fun _ => 0)))]) : Cw)
  refine g_iinc_1 (v := 1) M dX4_init_54 (by decide) (by exact (by first | trivial | rfl)) ?_
  refine g_goto (tgt := 41) M dX4_init_57 (by decide) ?_
  refine g_iload_n M dX4_init_41 rfl ?_
  refine g_bipush (v := 8) M dX4_init_42 (by decide) ?_
  refine g_icmp_ge (tgt := 60) M dX4_init_44 (by decide) (fun h => absurd h (by decide)) (fun _ => ?_)
  refine g_aload_n M dX4_init_47 rfl ?_
  refine g_get M (q0 := 0) (ci := 4) (v := .ref q0) rfl rfl (k := 0) (by decide) hin_X4 fl_X4_11 rfl dX4_init_48 ?_
  refine g_iload_n M dX4_init_51 rfl ?_
  refine g_iconst (v := (-1)) M dX4_init_52 (by decide) ?_
  refine g_iast M hI (q0 := 1) rfl (by unfold vp_in; decide) dX4_init_53 ?_
  show Φ 54 [some (.ref h0), some (.int 1)] [] ((3, 336, (h0, .inr (4, [.ref q0, .ref q1, .ref q2, .int 0, .int 0])) :: [(q0, .inl (cI, 8, .inl (upd (upd (fun _ => 0) (Int32.toNatClampNeg 0) (-1)) (Int32.toNatClampNeg 1) (-1)))), (q1, .inl (cI, 8, .inl (fun _ => 0))), (q2, .inl (cI, 320, .inl (fun _ => 0)))]) : Cw)
  refine g_iinc_1 (v := 2) M dX4_init_54 (by decide) (by exact (by first | trivial | rfl)) ?_
  refine g_goto (tgt := 41) M dX4_init_57 (by decide) ?_
  refine g_iload_n M dX4_init_41 rfl ?_
  refine g_bipush (v := 8) M dX4_init_42 (by decide) ?_
  refine g_icmp_ge (tgt := 60) M dX4_init_44 (by decide) (fun h => absurd h (by decide)) (fun _ => ?_)
  refine g_aload_n M dX4_init_47 rfl ?_
  refine g_get M (q0 := 0) (ci := 4) (v := .ref q0) rfl rfl (k := 0) (by decide) hin_X4 fl_X4_11 rfl dX4_init_48 ?_
  refine g_iload_n M dX4_init_51 rfl ?_
  refine g_iconst (v := (-1)) M dX4_init_52 (by decide) ?_
  refine g_iast M hI (q0 := 1) rfl (by unfold vp_in; decide) dX4_init_53 ?_
  show Φ 54 [some (.ref h0), some (.int 2)] [] ((3, 336, (h0, .inr (4, [.ref q0, .ref q1, .ref q2, .int 0, .int 0])) :: [(q0, .inl (cI, 8, .inl (upd (upd (upd (fun _ => 0) (Int32.toNatClampNeg 0) (-1)) (Int32.toNatClampNeg 1) (-1)) (Int32.toNatClampNeg 2) (-1)))), (q1, .inl (cI, 8, .inl (fun _ => 0))), (q2, .inl (cI, 320, .inl (fun _ => 0)))]) : Cw)
  refine g_iinc_1 (v := 3) M dX4_init_54 (by decide) (by exact (by first | trivial | rfl)) ?_
  refine g_goto (tgt := 41) M dX4_init_57 (by decide) ?_
  refine g_iload_n M dX4_init_41 rfl ?_
  refine g_bipush (v := 8) M dX4_init_42 (by decide) ?_
  refine g_icmp_ge (tgt := 60) M dX4_init_44 (by decide) (fun h => absurd h (by decide)) (fun _ => ?_)
  refine g_aload_n M dX4_init_47 rfl ?_
  refine g_get M (q0 := 0) (ci := 4) (v := .ref q0) rfl rfl (k := 0) (by decide) hin_X4 fl_X4_11 rfl dX4_init_48 ?_
  refine g_iload_n M dX4_init_51 rfl ?_
  refine g_iconst (v := (-1)) M dX4_init_52 (by decide) ?_
  refine g_iast M hI (q0 := 1) rfl (by unfold vp_in; decide) dX4_init_53 ?_
  show Φ 54 [some (.ref h0), some (.int 3)] [] ((3, 336, (h0, .inr (4, [.ref q0, .ref q1, .ref q2, .int 0, .int 0])) :: [(q0, .inl (cI, 8, .inl (upd (upd (upd (upd (fun _ => 0) (Int32.toNatClampNeg 0) (-1)) (Int32.toNatClampNeg 1) (-1)) (Int32.toNatClampNeg 2) (-1)) (Int32.toNatClampNeg 3) (-1)))), (q1, .inl (cI, 8, .inl (fun _ => 0))), (q2, .inl (cI, 320, .inl (fun _ => 0)))]) : Cw)
  refine g_iinc_1 (v := 4) M dX4_init_54 (by decide) (by exact (by first | trivial | rfl)) ?_
  refine g_goto (tgt := 41) M dX4_init_57 (by decide) ?_
  refine g_iload_n M dX4_init_41 rfl ?_
  refine g_bipush (v := 8) M dX4_init_42 (by decide) ?_
  refine g_icmp_ge (tgt := 60) M dX4_init_44 (by decide) (fun h => absurd h (by decide)) (fun _ => ?_)
  refine g_aload_n M dX4_init_47 rfl ?_
  refine g_get M (q0 := 0) (ci := 4) (v := .ref q0) rfl rfl (k := 0) (by decide) hin_X4 fl_X4_11 rfl dX4_init_48 ?_
  refine g_iload_n M dX4_init_51 rfl ?_
  refine g_iconst (v := (-1)) M dX4_init_52 (by decide) ?_
  refine g_iast M hI (q0 := 1) rfl (by unfold vp_in; decide) dX4_init_53 ?_
  show Φ 54 [some (.ref h0), some (.int 4)] [] ((3, 336, (h0, .inr (4, [.ref q0, .ref q1, .ref q2, .int 0, .int 0])) :: [(q0, .inl (cI, 8, .inl (upd (upd (upd (upd (upd (fun _ => 0) (Int32.toNatClampNeg 0) (-1)) (Int32.toNatClampNeg 1) (-1)) (Int32.toNatClampNeg 2) (-1)) (Int32.toNatClampNeg 3) (-1)) (Int32.toNatClampNeg 4) (-1)))), (q1, .inl (cI, 8, .inl (fun _ => 0))), (q2, .inl (cI, 320, .inl (fun _ => 0)))]) : Cw)
  refine g_iinc_1 (v := 5) M dX4_init_54 (by decide) (by exact (by first | trivial | rfl)) ?_
  refine g_goto (tgt := 41) M dX4_init_57 (by decide) ?_
  refine g_iload_n M dX4_init_41 rfl ?_
  refine g_bipush (v := 8) M dX4_init_42 (by decide) ?_
  refine g_icmp_ge (tgt := 60) M dX4_init_44 (by decide) (fun h => absurd h (by decide)) (fun _ => ?_)
  refine g_aload_n M dX4_init_47 rfl ?_
  refine g_get M (q0 := 0) (ci := 4) (v := .ref q0) rfl rfl (k := 0) (by decide) hin_X4 fl_X4_11 rfl dX4_init_48 ?_
  refine g_iload_n M dX4_init_51 rfl ?_
  refine g_iconst (v := (-1)) M dX4_init_52 (by decide) ?_
  refine g_iast M hI (q0 := 1) rfl (by unfold vp_in; decide) dX4_init_53 ?_
  show Φ 54 [some (.ref h0), some (.int 5)] [] ((3, 336, (h0, .inr (4, [.ref q0, .ref q1, .ref q2, .int 0, .int 0])) :: [(q0, .inl (cI, 8, .inl (upd (upd (upd (upd (upd (upd (fun _ => 0) (Int32.toNatClampNeg 0) (-1)) (Int32.toNatClampNeg 1) (-1)) (Int32.toNatClampNeg 2) (-1)) (Int32.toNatClampNeg 3) (-1)) (Int32.toNatClampNeg 4) (-1)) (Int32.toNatClampNeg 5) (-1)))), (q1, .inl (cI, 8, .inl (fun _ => 0))), (q2, .inl (cI, 320, .inl (fun _ => 0)))]) : Cw)
  refine g_iinc_1 (v := 6) M dX4_init_54 (by decide) (by exact (by first | trivial | rfl)) ?_
  refine g_goto (tgt := 41) M dX4_init_57 (by decide) ?_
  refine g_iload_n M dX4_init_41 rfl ?_
  refine g_bipush (v := 8) M dX4_init_42 (by decide) ?_
  refine g_icmp_ge (tgt := 60) M dX4_init_44 (by decide) (fun h => absurd h (by decide)) (fun _ => ?_)
  refine g_aload_n M dX4_init_47 rfl ?_
  refine g_get M (q0 := 0) (ci := 4) (v := .ref q0) rfl rfl (k := 0) (by decide) hin_X4 fl_X4_11 rfl dX4_init_48 ?_
  refine g_iload_n M dX4_init_51 rfl ?_
  refine g_iconst (v := (-1)) M dX4_init_52 (by decide) ?_
  refine g_iast M hI (q0 := 1) rfl (by unfold vp_in; decide) dX4_init_53 ?_
  show Φ 54 [some (.ref h0), some (.int 6)] [] ((3, 336, (h0, .inr (4, [.ref q0, .ref q1, .ref q2, .int 0, .int 0])) :: [(q0, .inl (cI, 8, .inl (upd (upd (upd (upd (upd (upd (upd (fun _ => 0) (Int32.toNatClampNeg 0) (-1)) (Int32.toNatClampNeg 1) (-1)) (Int32.toNatClampNeg 2) (-1)) (Int32.toNatClampNeg 3) (-1)) (Int32.toNatClampNeg 4) (-1)) (Int32.toNatClampNeg 5) (-1)) (Int32.toNatClampNeg 6) (-1)))), (q1, .inl (cI, 8, .inl (fun _ => 0))), (q2, .inl (cI, 320, .inl (fun _ => 0)))]) : Cw)
  refine g_iinc_1 (v := 7) M dX4_init_54 (by decide) (by exact (by first | trivial | rfl)) ?_
  refine g_goto (tgt := 41) M dX4_init_57 (by decide) ?_
  refine g_iload_n M dX4_init_41 rfl ?_
  refine g_bipush (v := 8) M dX4_init_42 (by decide) ?_
  refine g_icmp_ge (tgt := 60) M dX4_init_44 (by decide) (fun h => absurd h (by decide)) (fun _ => ?_)
  refine g_aload_n M dX4_init_47 rfl ?_
  refine g_get M (q0 := 0) (ci := 4) (v := .ref q0) rfl rfl (k := 0) (by decide) hin_X4 fl_X4_11 rfl dX4_init_48 ?_
  refine g_iload_n M dX4_init_51 rfl ?_
  refine g_iconst (v := (-1)) M dX4_init_52 (by decide) ?_
  refine g_iast M hI (q0 := 1) rfl (by unfold vp_in; decide) dX4_init_53 ?_
  show Φ 54 [some (.ref h0), some (.int 7)] [] ((3, 336, (h0, .inr (4, [.ref q0, .ref q1, .ref q2, .int 0, .int 0])) :: [(q0, .inl (cI, 8, .inl (upd (upd (upd (upd (upd (upd (upd (upd (fun _ => 0) (Int32.toNatClampNeg 0) (-1)) (Int32.toNatClampNeg 1) (-1)) (Int32.toNatClampNeg 2) (-1)) (Int32.toNatClampNeg 3) (-1)) (Int32.toNatClampNeg 4) (-1)) (Int32.toNatClampNeg 5) (-1)) (Int32.toNatClampNeg 6) (-1)) (Int32.toNatClampNeg 7) (-1)))), (q1, .inl (cI, 8, .inl (fun _ => 0))), (q2, .inl (cI, 320, .inl (fun _ => 0)))]) : Cw)
  refine g_iinc_1 (v := 8) M dX4_init_54 (by decide) (by exact (by first | trivial | rfl)) ?_
  refine g_goto (tgt := 41) M dX4_init_57 (by decide) ?_
  refine g_iload_n M dX4_init_41 rfl ?_
  refine g_bipush (v := 8) M dX4_init_42 (by decide) ?_
  refine g_icmp_ge (tgt := 60) M dX4_init_44 (by decide) (fun _ => ?_) (fun h => absurd h (by decide))
  refine g_ret M ?_ dX4_init_60
  exact ⟨fun k => match k with | 0 => h0 | 1 => q0 | 2 => q1 | _ => q2, rfl, rfl⟩
def grp_X5 (cI : ClassId) (a : Nat → Nat) : va_W := [(a 0, .inr (5, [.ref (a 1), .int 0, .int 0, .int 0, .int (-1000000)])), (a 1, .inl (cI, 120, .inl (fun _ => 0)))]
set_option maxRecDepth 100000 in
theorem ct_X5 {l : Launch} {D : va_G} {cI cZ cL : ClassId} : Ct (τ := Nat → Nat) (fun a => a 0) l D [(cI, .int), (cZ, .boolean), (cL, .object RX3)] yX5_init cX5_init 1 1 20 1 120 5 [.null, .int 0, .int 0, .int 0, .int 0] (fun a => grp_X5 cI a) := by
  refine ct_intro (by decide) rfl (by decide) (fun h0 A Φ M => ?_)
  have hI : ([(cI, .int), (cZ, .boolean), (cL, .object RX3)] : List (ClassId × FieldType))[0]? = some (cI, .int) := rfl
  have hZ : ([(cI, .int), (cZ, .boolean), (cL, .object RX3)] : List (ClassId × FieldType))[1]? = some (cZ, .boolean) := rfl
  have hL : ([(cI, .int), (cZ, .boolean), (cL, .object RX3)] : List (ClassId × FieldType))[2]? = some (cL, .object RX3) := rfl
  show Φ 0 [some (.ref h0)] [] ((0, 0, [(h0, .inr (5, [.null, .int 0, .int 0, .int 0, .int 0]))]) : Cw)
  refine g_aload_n M dX5_init_0 rfl ?_
  refine g_init0 M (tws_of (List.mem_of_getElem? (i := 116) (by decide +kernel)) (by decide +kernel)) (Nat.le_of_ble_eq_true rfl) (Nat.le_of_ble_eq_true rfl) dX5_init_1 ?_
  refine g_aload_n M dX5_init_4 rfl ?_
  refine g_bipush (v := 120) M dX5_init_5 (by decide) ?_
  refine g_newi M (N' := 120) hI (by decide) (by decide) (by decide) (Nat.le_of_ble_eq_true rfl) (Nat.le_of_ble_eq_true rfl) w_int dX5_init_7 (fun q0 => ?_)
  show Φ 9 [some (.ref h0)] [.ref q0, .ref h0] ((1, 120, (h0, .inr (5, [.null, .int 0, .int 0, .int 0, .int 0])) :: [(q0, .inl (cI, 120, .inl (fun _ => 0)))]) : Cw)
  refine g_putF M trivial (q0 := 0) (ci := 5) (ty0 := tyX5) rfl rfl (k := 0) (by decide) hin_X5 tyX5_ok nmX5 fl_X5_11 rfl rfl rfl rfl (by simp) dX5_init_9 ?_
  show Φ 12 [some (.ref h0)] [] ((1, 120, (h0, .inr (5, [.ref q0, .int 0, .int 0, .int 0, .int 0])) :: [(q0, .inl (cI, 120, .inl (fun _ => 0)))]) : Cw)
  refine g_aload_n M dX5_init_12 rfl ?_
  refine g_iconst (v := 0) M dX5_init_13 (by decide) ?_
  refine g_put M (q0 := 0) (ci := 5) (ty0 := tyX5) rfl rfl (k := 1) (by decide) hin_X5 tyX5_ok nmX5 fl_X5_15 rfl rfl rfl (by simp) dX5_init_14 ?_
  show Φ 17 [some (.ref h0)] [] ((1, 120, (h0, .inr (5, [.ref q0, .int 0, .int 0, .int 0, .int 0])) :: [(q0, .inl (cI, 120, .inl (fun _ => 0)))]) : Cw)
  refine g_aload_n M dX5_init_17 rfl ?_
  refine g_iconst (v := 0) M dX5_init_18 (by decide) ?_
  refine g_put M (q0 := 0) (ci := 5) (ty0 := tyX5) rfl rfl (k := 2) (by decide) hin_X5 tyX5_ok nmX5 fl_X5_19 rfl rfl rfl (by simp) dX5_init_19 ?_
  show Φ 22 [some (.ref h0)] [] ((1, 120, (h0, .inr (5, [.ref q0, .int 0, .int 0, .int 0, .int 0])) :: [(q0, .inl (cI, 120, .inl (fun _ => 0)))]) : Cw)
  refine g_aload_n M dX5_init_22 rfl ?_
  refine g_iconst (v := 0) M dX5_init_23 (by decide) ?_
  refine g_put M (q0 := 0) (ci := 5) (ty0 := tyX5) rfl rfl (k := 3) (by decide) hin_X5 tyX5_ok nmX5 fl_X5_22 rfl rfl rfl (by simp) dX5_init_24 ?_
  show Φ 27 [some (.ref h0)] [] ((1, 120, (h0, .inr (5, [.ref q0, .int 0, .int 0, .int 0, .int 0])) :: [(q0, .inl (cI, 120, .inl (fun _ => 0)))]) : Cw)
  refine g_aload_n M dX5_init_27 rfl ?_
  refine g_ldc (v := (-1000000)) M (tws_of (List.mem_of_getElem? (i := 117) (by decide +kernel)) (by decide +kernel)) dX5_init_28 ?_
  refine g_put M (q0 := 0) (ci := 5) (ty0 := tyX5) rfl rfl (k := 4) (by decide) hin_X5 tyX5_ok nmX5 fl_X5_26 rfl rfl rfl (by simp) dX5_init_30 ?_
  show Φ 33 [some (.ref h0)] [] ((1, 120, (h0, .inr (5, [.ref q0, .int 0, .int 0, .int 0, .int (-1000000)])) :: [(q0, .inl (cI, 120, .inl (fun _ => 0)))]) : Cw)
  refine g_ret M ?_ dX5_init_33
  exact ⟨fun k => match k with | 0 => h0 | _ => q0, rfl, rfl⟩
def grp_X1 (cI : ClassId) (a : Nat → Nat) : va_W := [(a 0, .inr (1, [.ref (a 1), .int 0, .int 0, .int 0, .int 0, .int 0])), (a 1, .inl (cI, 16, .inl (fun _ => 0)))]
set_option maxRecDepth 100000 in
theorem ct_X1 {l : Launch} {D : va_G} {cI cZ cL : ClassId} : Ct (τ := Nat → Nat) (fun a => a 0) l D [(cI, .int), (cZ, .boolean), (cL, .object RX3)] yX1_init cX1_init 1 1 20 1 16 1 [.null, .int 0, .int 0, .int 0, .int 0, .int 0] (fun a => grp_X1 cI a) := by
  refine ct_intro (by decide) rfl (by decide) (fun h0 A Φ M => ?_)
  have hI : ([(cI, .int), (cZ, .boolean), (cL, .object RX3)] : List (ClassId × FieldType))[0]? = some (cI, .int) := rfl
  have hZ : ([(cI, .int), (cZ, .boolean), (cL, .object RX3)] : List (ClassId × FieldType))[1]? = some (cZ, .boolean) := rfl
  have hL : ([(cI, .int), (cZ, .boolean), (cL, .object RX3)] : List (ClassId × FieldType))[2]? = some (cL, .object RX3) := rfl
  show Φ 0 [some (.ref h0)] [] ((0, 0, [(h0, .inr (1, [.null, .int 0, .int 0, .int 0, .int 0, .int 0]))]) : Cw)
  refine g_aload_n M dX1_init_0 rfl ?_
  refine g_init0 M (tws_of (List.mem_of_getElem? (i := 264) (by decide +kernel)) (by decide +kernel)) (Nat.le_of_ble_eq_true rfl) (Nat.le_of_ble_eq_true rfl) dX1_init_1 ?_
  refine g_aload_n M dX1_init_4 rfl ?_
  refine g_bipush (v := 16) M dX1_init_5 (by decide) ?_
  refine g_newi M (N' := 16) hI (by decide) (by decide) (by decide) (Nat.le_of_ble_eq_true rfl) (Nat.le_of_ble_eq_true rfl) w_int dX1_init_7 (fun q0 => ?_)
  show Φ 9 [some (.ref h0)] [.ref q0, .ref h0] ((1, 16, (h0, .inr (1, [.null, .int 0, .int 0, .int 0, .int 0, .int 0])) :: [(q0, .inl (cI, 16, .inl (fun _ => 0)))]) : Cw)
  refine g_putF M trivial (q0 := 0) (ci := 1) (ty0 := tyX1) rfl rfl (k := 0) (by decide) hin_X1 tyX1_ok nmX1 fl_X1_11 rfl rfl rfl rfl (by simp) dX1_init_9 ?_
  show Φ 12 [some (.ref h0)] [] ((1, 16, (h0, .inr (1, [.ref q0, .int 0, .int 0, .int 0, .int 0, .int 0])) :: [(q0, .inl (cI, 16, .inl (fun _ => 0)))]) : Cw)
  refine g_aload_n M dX1_init_12 rfl ?_
  refine g_iconst (v := 0) M dX1_init_13 (by decide) ?_
  refine g_put M (q0 := 0) (ci := 1) (ty0 := tyX1) rfl rfl (k := 1) (by decide) hin_X1 tyX1_ok nmX1 fl_X1_15 rfl rfl rfl (by simp) dX1_init_14 ?_
  show Φ 17 [some (.ref h0)] [] ((1, 16, (h0, .inr (1, [.ref q0, .int 0, .int 0, .int 0, .int 0, .int 0])) :: [(q0, .inl (cI, 16, .inl (fun _ => 0)))]) : Cw)
  refine g_aload_n M dX1_init_17 rfl ?_
  refine g_iconst (v := 0) M dX1_init_18 (by decide) ?_
  refine g_put M (q0 := 0) (ci := 1) (ty0 := tyX1) rfl rfl (k := 2) (by decide) hin_X1 tyX1_ok nmX1 fl_X1_19 rfl rfl rfl (by simp) dX1_init_19 ?_
  show Φ 22 [some (.ref h0)] [] ((1, 16, (h0, .inr (1, [.ref q0, .int 0, .int 0, .int 0, .int 0, .int 0])) :: [(q0, .inl (cI, 16, .inl (fun _ => 0)))]) : Cw)
  refine g_aload_n M dX1_init_22 rfl ?_
  refine g_iconst (v := 0) M dX1_init_23 (by decide) ?_
  refine g_put M (q0 := 0) (ci := 1) (ty0 := tyX1) rfl rfl (k := 3) (by decide) hin_X1 tyX1_ok nmX1 fl_X1_22 rfl rfl rfl (by simp) dX1_init_24 ?_
  show Φ 27 [some (.ref h0)] [] ((1, 16, (h0, .inr (1, [.ref q0, .int 0, .int 0, .int 0, .int 0, .int 0])) :: [(q0, .inl (cI, 16, .inl (fun _ => 0)))]) : Cw)
  refine g_aload_n M dX1_init_27 rfl ?_
  refine g_iconst (v := 0) M dX1_init_28 (by decide) ?_
  refine g_put M (q0 := 0) (ci := 1) (ty0 := tyX1) rfl rfl (k := 4) (by decide) hin_X1 tyX1_ok nmX1 fl_X1_25 rfl rfl rfl (by simp) dX1_init_29 ?_
  show Φ 32 [some (.ref h0)] [] ((1, 16, (h0, .inr (1, [.ref q0, .int 0, .int 0, .int 0, .int 0, .int 0])) :: [(q0, .inl (cI, 16, .inl (fun _ => 0)))]) : Cw)
  refine g_aload_n M dX1_init_32 rfl ?_
  refine g_iconst (v := 0) M dX1_init_33 (by decide) ?_
  refine g_put M (q0 := 0) (ci := 1) (ty0 := tyX1) rfl rfl (k := 5) (by decide) hin_X1 tyX1_ok nmX1 fl_X1_28 rfl rfl rfl (by simp) dX1_init_34 ?_
  show Φ 37 [some (.ref h0)] [] ((1, 16, (h0, .inr (1, [.ref q0, .int 0, .int 0, .int 0, .int 0, .int 0])) :: [(q0, .inl (cI, 16, .inl (fun _ => 0)))]) : Cw)
  refine g_ret M ?_ dX1_init_37
  exact ⟨fun k => match k with | 0 => h0 | _ => q0, rfl, rfl⟩
def grp_X7 (cI cZ : ClassId) (a : Nat → Nat) : va_W := [(a 0, .inr (7, [.ref (a 1), .ref (a 2), .ref (a 3), .int 0, .int 0, .ref (a 4), .ref (a 5), .ref (a 6), .int 0, .int 0, .int 0, .int 0, .int 0, .int 0, .int 0, .ref (a 7), .ref (a 8), .ref (a 9), .int 0, .ref (a 10), .ref (a 11), .ref (a 12), .ref (a 13), .ref (a 14), .ref (a 15), .int 0])), (a 1, .inl (cI, 8, .inl (fun _ => 0))), (a 2, .inl (cI, 8, .inl (upd (upd (upd (upd (upd (upd (upd (upd (fun _ => 0) (Int32.toNatClampNeg 0) (-1)) (Int32.toNatClampNeg 1) (-1)) (Int32.toNatClampNeg 2) (-1)) (Int32.toNatClampNeg 3) (-1)) (Int32.toNatClampNeg 4) (-1)) (Int32.toNatClampNeg 5) (-1)) (Int32.toNatClampNeg 6) (-1)) (Int32.toNatClampNeg 7) (-1)))), (a 3, .inl (cI, 320, .inl (fun _ => 0))), (a 4, .inl (cI, 41, .inl (fun _ => 0))), (a 5, .inl (cI, 40, .inl (fun _ => 0))), (a 6, .inl (cI, 120, .inl (fun _ => 0))), (a 7, .inl (cI, 41, .inl (fun _ => 0))), (a 8, .inl (cI, 5, .inl (fun _ => 0))), (a 9, .inl (cI, 984, .inl (fun _ => 0))), (a 10, .inl (cI, 41, .inl (fun _ => 0))), (a 11, .inl (cI, 6, .inl (fun _ => 0))), (a 12, .inl (cI, 6, .inl (fun _ => 0))), (a 13, .inl (cZ, 2, .inl (fun _ => 0))), (a 14, .inl (cI, 82, .inl (fun _ => 0))), (a 15, .inl (cI, 16, .inl (fun _ => 0)))]
set_option maxRecDepth 100000 in
theorem ct_X7 {l : Launch} {D : va_G} {cI cZ cL : ClassId} : Ct (τ := Nat → Nat) (fun a => a 0) l D [(cI, .int), (cZ, .boolean), (cL, .object RX3)] yX7_init cX7_init 2 1 20 15 1720 7 [.null, .null, .null, .int 0, .int 0, .null, .null, .null, .int 0, .int 0, .int 0, .int 0, .int 0, .int 0, .int 0, .null, .null, .null, .int 0, .null, .null, .null, .null, .null, .null, .int 0] (fun a => grp_X7 cI cZ a) := by
  refine ct_intro (by decide) rfl (by decide) (fun h0 A Φ M => ?_)
  have hI : ([(cI, .int), (cZ, .boolean), (cL, .object RX3)] : List (ClassId × FieldType))[0]? = some (cI, .int) := rfl
  have hZ : ([(cI, .int), (cZ, .boolean), (cL, .object RX3)] : List (ClassId × FieldType))[1]? = some (cZ, .boolean) := rfl
  have hL : ([(cI, .int), (cZ, .boolean), (cL, .object RX3)] : List (ClassId × FieldType))[2]? = some (cL, .object RX3) := rfl
  show Φ 0 [some (.ref h0), none] [] ((0, 0, [(h0, .inr (7, [.null, .null, .null, .int 0, .int 0, .null, .null, .null, .int 0, .int 0, .int 0, .int 0, .int 0, .int 0, .int 0, .null, .null, .null, .int 0, .null, .null, .null, .null, .null, .null, .int 0]))]) : Cw)
  refine g_aload_n M dX7_init_0 rfl ?_
  refine g_init0 M (tws_of (List.mem_of_getElem? (i := 882) (by decide +kernel)) (by decide +kernel)) (Nat.le_of_ble_eq_true rfl) (Nat.le_of_ble_eq_true rfl) dX7_init_1 ?_
  refine g_aload_n M dX7_init_4 rfl ?_
  refine g_bipush (v := 8) M dX7_init_5 (by decide) ?_
  refine g_newi M (N' := 8) hI (by decide) (by decide) (by decide) (Nat.le_of_ble_eq_true rfl) (Nat.le_of_ble_eq_true rfl) w_int dX7_init_7 (fun q0 => ?_)
  show Φ 9 [some (.ref h0), none] [.ref q0, .ref h0] ((1, 8, (h0, .inr (7, [.null, .null, .null, .int 0, .int 0, .null, .null, .null, .int 0, .int 0, .int 0, .int 0, .int 0, .int 0, .int 0, .null, .null, .null, .int 0, .null, .null, .null, .null, .null, .null, .int 0])) :: [(q0, .inl (cI, 8, .inl (fun _ => 0)))]) : Cw)
  refine g_putF M trivial (q0 := 0) (ci := 7) (ty0 := tyX7) rfl rfl (k := 0) (by decide) hin_X7 tyX7_ok nmX7 fl_X7_7 rfl rfl rfl rfl (by simp) dX7_init_9 ?_
  show Φ 12 [some (.ref h0), none] [] ((1, 8, (h0, .inr (7, [.ref q0, .null, .null, .int 0, .int 0, .null, .null, .null, .int 0, .int 0, .int 0, .int 0, .int 0, .int 0, .int 0, .null, .null, .null, .int 0, .null, .null, .null, .null, .null, .null, .int 0])) :: [(q0, .inl (cI, 8, .inl (fun _ => 0)))]) : Cw)
  refine g_aload_n M dX7_init_12 rfl ?_
  refine g_bipush (v := 8) M dX7_init_13 (by decide) ?_
  refine g_newi M (N' := 8) hI (by decide) (by decide) (by decide) (Nat.le_of_ble_eq_true rfl) (Nat.le_of_ble_eq_true rfl) w_int dX7_init_15 (fun q1 => ?_)
  show Φ 17 [some (.ref h0), none] [.ref q1, .ref h0] ((2, 16, (h0, .inr (7, [.ref q0, .null, .null, .int 0, .int 0, .null, .null, .null, .int 0, .int 0, .int 0, .int 0, .int 0, .int 0, .int 0, .null, .null, .null, .int 0, .null, .null, .null, .null, .null, .null, .int 0])) :: [(q0, .inl (cI, 8, .inl (fun _ => 0))), (q1, .inl (cI, 8, .inl (fun _ => 0)))]) : Cw)
  refine g_putF M trivial (q0 := 0) (ci := 7) (ty0 := tyX7) rfl rfl (k := 1) (by decide) hin_X7 tyX7_ok nmX7 fl_X7_13 rfl rfl rfl rfl (by simp) dX7_init_17 ?_
  show Φ 20 [some (.ref h0), none] [] ((2, 16, (h0, .inr (7, [.ref q0, .ref q1, .null, .int 0, .int 0, .null, .null, .null, .int 0, .int 0, .int 0, .int 0, .int 0, .int 0, .int 0, .null, .null, .null, .int 0, .null, .null, .null, .null, .null, .null, .int 0])) :: [(q0, .inl (cI, 8, .inl (fun _ => 0))), (q1, .inl (cI, 8, .inl (fun _ => 0)))]) : Cw)
  refine g_aload_n M dX7_init_20 rfl ?_
  refine g_sipush (v := 320) M dX7_init_21 (by decide) ?_
  refine g_newi M (N' := 320) hI (by decide) (by decide) (by decide) (Nat.le_of_ble_eq_true rfl) (Nat.le_of_ble_eq_true rfl) w_int dX7_init_24 (fun q2 => ?_)
  show Φ 26 [some (.ref h0), none] [.ref q2, .ref h0] ((3, 336, (h0, .inr (7, [.ref q0, .ref q1, .null, .int 0, .int 0, .null, .null, .null, .int 0, .int 0, .int 0, .int 0, .int 0, .int 0, .int 0, .null, .null, .null, .int 0, .null, .null, .null, .null, .null, .null, .int 0])) :: [(q0, .inl (cI, 8, .inl (fun _ => 0))), (q1, .inl (cI, 8, .inl (fun _ => 0))), (q2, .inl (cI, 320, .inl (fun _ => 0)))]) : Cw)
  refine g_putF M trivial (q0 := 0) (ci := 7) (ty0 := tyX7) rfl rfl (k := 2) (by decide) hin_X7 tyX7_ok nmX7 fl_X7_16 rfl rfl rfl rfl (by simp) dX7_init_26 ?_
  show Φ 29 [some (.ref h0), none] [] ((3, 336, (h0, .inr (7, [.ref q0, .ref q1, .ref q2, .int 0, .int 0, .null, .null, .null, .int 0, .int 0, .int 0, .int 0, .int 0, .int 0, .int 0, .null, .null, .null, .int 0, .null, .null, .null, .null, .null, .null, .int 0])) :: [(q0, .inl (cI, 8, .inl (fun _ => 0))), (q1, .inl (cI, 8, .inl (fun _ => 0))), (q2, .inl (cI, 320, .inl (fun _ => 0)))]) : Cw)
  refine g_aload_n M dX7_init_29 rfl ?_
  refine g_bipush (v := 41) M dX7_init_30 (by decide) ?_
  refine g_newi M (N' := 41) hI (by decide) (by decide) (by decide) (Nat.le_of_ble_eq_true rfl) (Nat.le_of_ble_eq_true rfl) w_int dX7_init_32 (fun q3 => ?_)
  show Φ 34 [some (.ref h0), none] [.ref q3, .ref h0] ((4, 377, (h0, .inr (7, [.ref q0, .ref q1, .ref q2, .int 0, .int 0, .null, .null, .null, .int 0, .int 0, .int 0, .int 0, .int 0, .int 0, .int 0, .null, .null, .null, .int 0, .null, .null, .null, .null, .null, .null, .int 0])) :: [(q0, .inl (cI, 8, .inl (fun _ => 0))), (q1, .inl (cI, 8, .inl (fun _ => 0))), (q2, .inl (cI, 320, .inl (fun _ => 0))), (q3, .inl (cI, 41, .inl (fun _ => 0)))]) : Cw)
  refine g_putF M trivial (q0 := 0) (ci := 7) (ty0 := tyX7) rfl rfl (k := 5) (by decide) hin_X7 tyX7_ok nmX7 fl_X7_19 rfl rfl rfl rfl (by simp) dX7_init_34 ?_
  show Φ 37 [some (.ref h0), none] [] ((4, 377, (h0, .inr (7, [.ref q0, .ref q1, .ref q2, .int 0, .int 0, .ref q3, .null, .null, .int 0, .int 0, .int 0, .int 0, .int 0, .int 0, .int 0, .null, .null, .null, .int 0, .null, .null, .null, .null, .null, .null, .int 0])) :: [(q0, .inl (cI, 8, .inl (fun _ => 0))), (q1, .inl (cI, 8, .inl (fun _ => 0))), (q2, .inl (cI, 320, .inl (fun _ => 0))), (q3, .inl (cI, 41, .inl (fun _ => 0)))]) : Cw)
  refine g_aload_n M dX7_init_37 rfl ?_
  refine g_bipush (v := 40) M dX7_init_38 (by decide) ?_
  refine g_newi M (N' := 40) hI (by decide) (by decide) (by decide) (Nat.le_of_ble_eq_true rfl) (Nat.le_of_ble_eq_true rfl) w_int dX7_init_40 (fun q4 => ?_)
  show Φ 42 [some (.ref h0), none] [.ref q4, .ref h0] ((5, 417, (h0, .inr (7, [.ref q0, .ref q1, .ref q2, .int 0, .int 0, .ref q3, .null, .null, .int 0, .int 0, .int 0, .int 0, .int 0, .int 0, .int 0, .null, .null, .null, .int 0, .null, .null, .null, .null, .null, .null, .int 0])) :: [(q0, .inl (cI, 8, .inl (fun _ => 0))), (q1, .inl (cI, 8, .inl (fun _ => 0))), (q2, .inl (cI, 320, .inl (fun _ => 0))), (q3, .inl (cI, 41, .inl (fun _ => 0))), (q4, .inl (cI, 40, .inl (fun _ => 0)))]) : Cw)
  refine g_putF M trivial (q0 := 0) (ci := 7) (ty0 := tyX7) rfl rfl (k := 6) (by decide) hin_X7 tyX7_ok nmX7 fl_X7_22 rfl rfl rfl rfl (by simp) dX7_init_42 ?_
  show Φ 45 [some (.ref h0), none] [] ((5, 417, (h0, .inr (7, [.ref q0, .ref q1, .ref q2, .int 0, .int 0, .ref q3, .ref q4, .null, .int 0, .int 0, .int 0, .int 0, .int 0, .int 0, .int 0, .null, .null, .null, .int 0, .null, .null, .null, .null, .null, .null, .int 0])) :: [(q0, .inl (cI, 8, .inl (fun _ => 0))), (q1, .inl (cI, 8, .inl (fun _ => 0))), (q2, .inl (cI, 320, .inl (fun _ => 0))), (q3, .inl (cI, 41, .inl (fun _ => 0))), (q4, .inl (cI, 40, .inl (fun _ => 0)))]) : Cw)
  refine g_aload_n M dX7_init_45 rfl ?_
  refine g_bipush (v := 120) M dX7_init_46 (by decide) ?_
  refine g_newi M (N' := 120) hI (by decide) (by decide) (by decide) (Nat.le_of_ble_eq_true rfl) (Nat.le_of_ble_eq_true rfl) w_int dX7_init_48 (fun q5 => ?_)
  show Φ 50 [some (.ref h0), none] [.ref q5, .ref h0] ((6, 537, (h0, .inr (7, [.ref q0, .ref q1, .ref q2, .int 0, .int 0, .ref q3, .ref q4, .null, .int 0, .int 0, .int 0, .int 0, .int 0, .int 0, .int 0, .null, .null, .null, .int 0, .null, .null, .null, .null, .null, .null, .int 0])) :: [(q0, .inl (cI, 8, .inl (fun _ => 0))), (q1, .inl (cI, 8, .inl (fun _ => 0))), (q2, .inl (cI, 320, .inl (fun _ => 0))), (q3, .inl (cI, 41, .inl (fun _ => 0))), (q4, .inl (cI, 40, .inl (fun _ => 0))), (q5, .inl (cI, 120, .inl (fun _ => 0)))]) : Cw)
  refine g_putF M trivial (q0 := 0) (ci := 7) (ty0 := tyX7) rfl rfl (k := 7) (by decide) hin_X7 tyX7_ok nmX7 fl_X7_25 rfl rfl rfl rfl (by simp) dX7_init_50 ?_
  show Φ 53 [some (.ref h0), none] [] ((6, 537, (h0, .inr (7, [.ref q0, .ref q1, .ref q2, .int 0, .int 0, .ref q3, .ref q4, .ref q5, .int 0, .int 0, .int 0, .int 0, .int 0, .int 0, .int 0, .null, .null, .null, .int 0, .null, .null, .null, .null, .null, .null, .int 0])) :: [(q0, .inl (cI, 8, .inl (fun _ => 0))), (q1, .inl (cI, 8, .inl (fun _ => 0))), (q2, .inl (cI, 320, .inl (fun _ => 0))), (q3, .inl (cI, 41, .inl (fun _ => 0))), (q4, .inl (cI, 40, .inl (fun _ => 0))), (q5, .inl (cI, 120, .inl (fun _ => 0)))]) : Cw)
  refine g_aload_n M dX7_init_53 rfl ?_
  refine g_bipush (v := 41) M dX7_init_54 (by decide) ?_
  refine g_newi M (N' := 41) hI (by decide) (by decide) (by decide) (Nat.le_of_ble_eq_true rfl) (Nat.le_of_ble_eq_true rfl) w_int dX7_init_56 (fun q6 => ?_)
  show Φ 58 [some (.ref h0), none] [.ref q6, .ref h0] ((7, 578, (h0, .inr (7, [.ref q0, .ref q1, .ref q2, .int 0, .int 0, .ref q3, .ref q4, .ref q5, .int 0, .int 0, .int 0, .int 0, .int 0, .int 0, .int 0, .null, .null, .null, .int 0, .null, .null, .null, .null, .null, .null, .int 0])) :: [(q0, .inl (cI, 8, .inl (fun _ => 0))), (q1, .inl (cI, 8, .inl (fun _ => 0))), (q2, .inl (cI, 320, .inl (fun _ => 0))), (q3, .inl (cI, 41, .inl (fun _ => 0))), (q4, .inl (cI, 40, .inl (fun _ => 0))), (q5, .inl (cI, 120, .inl (fun _ => 0))), (q6, .inl (cI, 41, .inl (fun _ => 0)))]) : Cw)
  refine g_putF M trivial (q0 := 0) (ci := 7) (ty0 := tyX7) rfl rfl (k := 15) (by decide) hin_X7 tyX7_ok nmX7 fl_X7_28 rfl rfl rfl rfl (by simp) dX7_init_58 ?_
  show Φ 61 [some (.ref h0), none] [] ((7, 578, (h0, .inr (7, [.ref q0, .ref q1, .ref q2, .int 0, .int 0, .ref q3, .ref q4, .ref q5, .int 0, .int 0, .int 0, .int 0, .int 0, .int 0, .int 0, .ref q6, .null, .null, .int 0, .null, .null, .null, .null, .null, .null, .int 0])) :: [(q0, .inl (cI, 8, .inl (fun _ => 0))), (q1, .inl (cI, 8, .inl (fun _ => 0))), (q2, .inl (cI, 320, .inl (fun _ => 0))), (q3, .inl (cI, 41, .inl (fun _ => 0))), (q4, .inl (cI, 40, .inl (fun _ => 0))), (q5, .inl (cI, 120, .inl (fun _ => 0))), (q6, .inl (cI, 41, .inl (fun _ => 0)))]) : Cw)
  refine g_aload_n M dX7_init_61 rfl ?_
  refine g_iconst (v := 5) M dX7_init_62 (by decide) ?_
  refine g_newi M (N' := 5) hI (by decide) (by decide) (by decide) (Nat.le_of_ble_eq_true rfl) (Nat.le_of_ble_eq_true rfl) w_int dX7_init_63 (fun q7 => ?_)
  show Φ 65 [some (.ref h0), none] [.ref q7, .ref h0] ((8, 583, (h0, .inr (7, [.ref q0, .ref q1, .ref q2, .int 0, .int 0, .ref q3, .ref q4, .ref q5, .int 0, .int 0, .int 0, .int 0, .int 0, .int 0, .int 0, .ref q6, .null, .null, .int 0, .null, .null, .null, .null, .null, .null, .int 0])) :: [(q0, .inl (cI, 8, .inl (fun _ => 0))), (q1, .inl (cI, 8, .inl (fun _ => 0))), (q2, .inl (cI, 320, .inl (fun _ => 0))), (q3, .inl (cI, 41, .inl (fun _ => 0))), (q4, .inl (cI, 40, .inl (fun _ => 0))), (q5, .inl (cI, 120, .inl (fun _ => 0))), (q6, .inl (cI, 41, .inl (fun _ => 0))), (q7, .inl (cI, 5, .inl (fun _ => 0)))]) : Cw)
  refine g_putF M trivial (q0 := 0) (ci := 7) (ty0 := tyX7) rfl rfl (k := 16) (by decide) hin_X7 tyX7_ok nmX7 fl_X7_31 rfl rfl rfl rfl (by simp) dX7_init_65 ?_
  show Φ 68 [some (.ref h0), none] [] ((8, 583, (h0, .inr (7, [.ref q0, .ref q1, .ref q2, .int 0, .int 0, .ref q3, .ref q4, .ref q5, .int 0, .int 0, .int 0, .int 0, .int 0, .int 0, .int 0, .ref q6, .ref q7, .null, .int 0, .null, .null, .null, .null, .null, .null, .int 0])) :: [(q0, .inl (cI, 8, .inl (fun _ => 0))), (q1, .inl (cI, 8, .inl (fun _ => 0))), (q2, .inl (cI, 320, .inl (fun _ => 0))), (q3, .inl (cI, 41, .inl (fun _ => 0))), (q4, .inl (cI, 40, .inl (fun _ => 0))), (q5, .inl (cI, 120, .inl (fun _ => 0))), (q6, .inl (cI, 41, .inl (fun _ => 0))), (q7, .inl (cI, 5, .inl (fun _ => 0)))]) : Cw)
  refine g_aload_n M dX7_init_68 rfl ?_
  refine g_sipush (v := 984) M dX7_init_69 (by decide) ?_
  refine g_newi M (N' := 984) hI (by decide) (by decide) (by decide) (Nat.le_of_ble_eq_true rfl) (Nat.le_of_ble_eq_true rfl) w_int dX7_init_72 (fun q8 => ?_)
  show Φ 74 [some (.ref h0), none] [.ref q8, .ref h0] ((9, 1567, (h0, .inr (7, [.ref q0, .ref q1, .ref q2, .int 0, .int 0, .ref q3, .ref q4, .ref q5, .int 0, .int 0, .int 0, .int 0, .int 0, .int 0, .int 0, .ref q6, .ref q7, .null, .int 0, .null, .null, .null, .null, .null, .null, .int 0])) :: [(q0, .inl (cI, 8, .inl (fun _ => 0))), (q1, .inl (cI, 8, .inl (fun _ => 0))), (q2, .inl (cI, 320, .inl (fun _ => 0))), (q3, .inl (cI, 41, .inl (fun _ => 0))), (q4, .inl (cI, 40, .inl (fun _ => 0))), (q5, .inl (cI, 120, .inl (fun _ => 0))), (q6, .inl (cI, 41, .inl (fun _ => 0))), (q7, .inl (cI, 5, .inl (fun _ => 0))), (q8, .inl (cI, 984, .inl (fun _ => 0)))]) : Cw)
  refine g_putF M trivial (q0 := 0) (ci := 7) (ty0 := tyX7) rfl rfl (k := 17) (by decide) hin_X7 tyX7_ok nmX7 fl_X7_34 rfl rfl rfl rfl (by simp) dX7_init_74 ?_
  show Φ 77 [some (.ref h0), none] [] ((9, 1567, (h0, .inr (7, [.ref q0, .ref q1, .ref q2, .int 0, .int 0, .ref q3, .ref q4, .ref q5, .int 0, .int 0, .int 0, .int 0, .int 0, .int 0, .int 0, .ref q6, .ref q7, .ref q8, .int 0, .null, .null, .null, .null, .null, .null, .int 0])) :: [(q0, .inl (cI, 8, .inl (fun _ => 0))), (q1, .inl (cI, 8, .inl (fun _ => 0))), (q2, .inl (cI, 320, .inl (fun _ => 0))), (q3, .inl (cI, 41, .inl (fun _ => 0))), (q4, .inl (cI, 40, .inl (fun _ => 0))), (q5, .inl (cI, 120, .inl (fun _ => 0))), (q6, .inl (cI, 41, .inl (fun _ => 0))), (q7, .inl (cI, 5, .inl (fun _ => 0))), (q8, .inl (cI, 984, .inl (fun _ => 0)))]) : Cw)
  refine g_aload_n M dX7_init_77 rfl ?_
  refine g_bipush (v := 41) M dX7_init_78 (by decide) ?_
  refine g_newi M (N' := 41) hI (by decide) (by decide) (by decide) (Nat.le_of_ble_eq_true rfl) (Nat.le_of_ble_eq_true rfl) w_int dX7_init_80 (fun q9 => ?_)
  show Φ 82 [some (.ref h0), none] [.ref q9, .ref h0] ((10, 1608, (h0, .inr (7, [.ref q0, .ref q1, .ref q2, .int 0, .int 0, .ref q3, .ref q4, .ref q5, .int 0, .int 0, .int 0, .int 0, .int 0, .int 0, .int 0, .ref q6, .ref q7, .ref q8, .int 0, .null, .null, .null, .null, .null, .null, .int 0])) :: [(q0, .inl (cI, 8, .inl (fun _ => 0))), (q1, .inl (cI, 8, .inl (fun _ => 0))), (q2, .inl (cI, 320, .inl (fun _ => 0))), (q3, .inl (cI, 41, .inl (fun _ => 0))), (q4, .inl (cI, 40, .inl (fun _ => 0))), (q5, .inl (cI, 120, .inl (fun _ => 0))), (q6, .inl (cI, 41, .inl (fun _ => 0))), (q7, .inl (cI, 5, .inl (fun _ => 0))), (q8, .inl (cI, 984, .inl (fun _ => 0))), (q9, .inl (cI, 41, .inl (fun _ => 0)))]) : Cw)
  refine g_putF M trivial (q0 := 0) (ci := 7) (ty0 := tyX7) rfl rfl (k := 19) (by decide) hin_X7 tyX7_ok nmX7 fl_X7_37 rfl rfl rfl rfl (by simp) dX7_init_82 ?_
  show Φ 85 [some (.ref h0), none] [] ((10, 1608, (h0, .inr (7, [.ref q0, .ref q1, .ref q2, .int 0, .int 0, .ref q3, .ref q4, .ref q5, .int 0, .int 0, .int 0, .int 0, .int 0, .int 0, .int 0, .ref q6, .ref q7, .ref q8, .int 0, .ref q9, .null, .null, .null, .null, .null, .int 0])) :: [(q0, .inl (cI, 8, .inl (fun _ => 0))), (q1, .inl (cI, 8, .inl (fun _ => 0))), (q2, .inl (cI, 320, .inl (fun _ => 0))), (q3, .inl (cI, 41, .inl (fun _ => 0))), (q4, .inl (cI, 40, .inl (fun _ => 0))), (q5, .inl (cI, 120, .inl (fun _ => 0))), (q6, .inl (cI, 41, .inl (fun _ => 0))), (q7, .inl (cI, 5, .inl (fun _ => 0))), (q8, .inl (cI, 984, .inl (fun _ => 0))), (q9, .inl (cI, 41, .inl (fun _ => 0)))]) : Cw)
  refine g_aload_n M dX7_init_85 rfl ?_
  refine g_bipush (v := 6) M dX7_init_86 (by decide) ?_
  refine g_newi M (N' := 6) hI (by decide) (by decide) (by decide) (Nat.le_of_ble_eq_true rfl) (Nat.le_of_ble_eq_true rfl) w_int dX7_init_88 (fun q10 => ?_)
  show Φ 90 [some (.ref h0), none] [.ref q10, .ref h0] ((11, 1614, (h0, .inr (7, [.ref q0, .ref q1, .ref q2, .int 0, .int 0, .ref q3, .ref q4, .ref q5, .int 0, .int 0, .int 0, .int 0, .int 0, .int 0, .int 0, .ref q6, .ref q7, .ref q8, .int 0, .ref q9, .null, .null, .null, .null, .null, .int 0])) :: [(q0, .inl (cI, 8, .inl (fun _ => 0))), (q1, .inl (cI, 8, .inl (fun _ => 0))), (q2, .inl (cI, 320, .inl (fun _ => 0))), (q3, .inl (cI, 41, .inl (fun _ => 0))), (q4, .inl (cI, 40, .inl (fun _ => 0))), (q5, .inl (cI, 120, .inl (fun _ => 0))), (q6, .inl (cI, 41, .inl (fun _ => 0))), (q7, .inl (cI, 5, .inl (fun _ => 0))), (q8, .inl (cI, 984, .inl (fun _ => 0))), (q9, .inl (cI, 41, .inl (fun _ => 0))), (q10, .inl (cI, 6, .inl (fun _ => 0)))]) : Cw)
  refine g_putF M trivial (q0 := 0) (ci := 7) (ty0 := tyX7) rfl rfl (k := 20) (by decide) hin_X7 tyX7_ok nmX7 fl_X7_40 rfl rfl rfl rfl (by simp) dX7_init_90 ?_
  show Φ 93 [some (.ref h0), none] [] ((11, 1614, (h0, .inr (7, [.ref q0, .ref q1, .ref q2, .int 0, .int 0, .ref q3, .ref q4, .ref q5, .int 0, .int 0, .int 0, .int 0, .int 0, .int 0, .int 0, .ref q6, .ref q7, .ref q8, .int 0, .ref q9, .ref q10, .null, .null, .null, .null, .int 0])) :: [(q0, .inl (cI, 8, .inl (fun _ => 0))), (q1, .inl (cI, 8, .inl (fun _ => 0))), (q2, .inl (cI, 320, .inl (fun _ => 0))), (q3, .inl (cI, 41, .inl (fun _ => 0))), (q4, .inl (cI, 40, .inl (fun _ => 0))), (q5, .inl (cI, 120, .inl (fun _ => 0))), (q6, .inl (cI, 41, .inl (fun _ => 0))), (q7, .inl (cI, 5, .inl (fun _ => 0))), (q8, .inl (cI, 984, .inl (fun _ => 0))), (q9, .inl (cI, 41, .inl (fun _ => 0))), (q10, .inl (cI, 6, .inl (fun _ => 0)))]) : Cw)
  refine g_aload_n M dX7_init_93 rfl ?_
  refine g_bipush (v := 6) M dX7_init_94 (by decide) ?_
  refine g_newi M (N' := 6) hI (by decide) (by decide) (by decide) (Nat.le_of_ble_eq_true rfl) (Nat.le_of_ble_eq_true rfl) w_int dX7_init_96 (fun q11 => ?_)
  show Φ 98 [some (.ref h0), none] [.ref q11, .ref h0] ((12, 1620, (h0, .inr (7, [.ref q0, .ref q1, .ref q2, .int 0, .int 0, .ref q3, .ref q4, .ref q5, .int 0, .int 0, .int 0, .int 0, .int 0, .int 0, .int 0, .ref q6, .ref q7, .ref q8, .int 0, .ref q9, .ref q10, .null, .null, .null, .null, .int 0])) :: [(q0, .inl (cI, 8, .inl (fun _ => 0))), (q1, .inl (cI, 8, .inl (fun _ => 0))), (q2, .inl (cI, 320, .inl (fun _ => 0))), (q3, .inl (cI, 41, .inl (fun _ => 0))), (q4, .inl (cI, 40, .inl (fun _ => 0))), (q5, .inl (cI, 120, .inl (fun _ => 0))), (q6, .inl (cI, 41, .inl (fun _ => 0))), (q7, .inl (cI, 5, .inl (fun _ => 0))), (q8, .inl (cI, 984, .inl (fun _ => 0))), (q9, .inl (cI, 41, .inl (fun _ => 0))), (q10, .inl (cI, 6, .inl (fun _ => 0))), (q11, .inl (cI, 6, .inl (fun _ => 0)))]) : Cw)
  refine g_putF M trivial (q0 := 0) (ci := 7) (ty0 := tyX7) rfl rfl (k := 21) (by decide) hin_X7 tyX7_ok nmX7 fl_X7_43 rfl rfl rfl rfl (by simp) dX7_init_98 ?_
  show Φ 101 [some (.ref h0), none] [] ((12, 1620, (h0, .inr (7, [.ref q0, .ref q1, .ref q2, .int 0, .int 0, .ref q3, .ref q4, .ref q5, .int 0, .int 0, .int 0, .int 0, .int 0, .int 0, .int 0, .ref q6, .ref q7, .ref q8, .int 0, .ref q9, .ref q10, .ref q11, .null, .null, .null, .int 0])) :: [(q0, .inl (cI, 8, .inl (fun _ => 0))), (q1, .inl (cI, 8, .inl (fun _ => 0))), (q2, .inl (cI, 320, .inl (fun _ => 0))), (q3, .inl (cI, 41, .inl (fun _ => 0))), (q4, .inl (cI, 40, .inl (fun _ => 0))), (q5, .inl (cI, 120, .inl (fun _ => 0))), (q6, .inl (cI, 41, .inl (fun _ => 0))), (q7, .inl (cI, 5, .inl (fun _ => 0))), (q8, .inl (cI, 984, .inl (fun _ => 0))), (q9, .inl (cI, 41, .inl (fun _ => 0))), (q10, .inl (cI, 6, .inl (fun _ => 0))), (q11, .inl (cI, 6, .inl (fun _ => 0)))]) : Cw)
  refine g_aload_n M dX7_init_101 rfl ?_
  refine g_iconst (v := 2) M dX7_init_102 (by decide) ?_
  refine g_newz M (N' := 2) hZ (by decide) (by decide) (by decide) (Nat.le_of_ble_eq_true rfl) (Nat.le_of_ble_eq_true rfl) w_bool dX7_init_103 (fun q12 => ?_)
  show Φ 105 [some (.ref h0), none] [.ref q12, .ref h0] ((13, 1622, (h0, .inr (7, [.ref q0, .ref q1, .ref q2, .int 0, .int 0, .ref q3, .ref q4, .ref q5, .int 0, .int 0, .int 0, .int 0, .int 0, .int 0, .int 0, .ref q6, .ref q7, .ref q8, .int 0, .ref q9, .ref q10, .ref q11, .null, .null, .null, .int 0])) :: [(q0, .inl (cI, 8, .inl (fun _ => 0))), (q1, .inl (cI, 8, .inl (fun _ => 0))), (q2, .inl (cI, 320, .inl (fun _ => 0))), (q3, .inl (cI, 41, .inl (fun _ => 0))), (q4, .inl (cI, 40, .inl (fun _ => 0))), (q5, .inl (cI, 120, .inl (fun _ => 0))), (q6, .inl (cI, 41, .inl (fun _ => 0))), (q7, .inl (cI, 5, .inl (fun _ => 0))), (q8, .inl (cI, 984, .inl (fun _ => 0))), (q9, .inl (cI, 41, .inl (fun _ => 0))), (q10, .inl (cI, 6, .inl (fun _ => 0))), (q11, .inl (cI, 6, .inl (fun _ => 0))), (q12, .inl (cZ, 2, .inl (fun _ => 0)))]) : Cw)
  refine g_putF M trivial (q0 := 0) (ci := 7) (ty0 := tyX7) rfl rfl (k := 22) (by decide) hin_X7 tyX7_ok nmX7 fl_X7_46 rfl rfl rfl rfl (by simp) dX7_init_105 ?_
  show Φ 108 [some (.ref h0), none] [] ((13, 1622, (h0, .inr (7, [.ref q0, .ref q1, .ref q2, .int 0, .int 0, .ref q3, .ref q4, .ref q5, .int 0, .int 0, .int 0, .int 0, .int 0, .int 0, .int 0, .ref q6, .ref q7, .ref q8, .int 0, .ref q9, .ref q10, .ref q11, .ref q12, .null, .null, .int 0])) :: [(q0, .inl (cI, 8, .inl (fun _ => 0))), (q1, .inl (cI, 8, .inl (fun _ => 0))), (q2, .inl (cI, 320, .inl (fun _ => 0))), (q3, .inl (cI, 41, .inl (fun _ => 0))), (q4, .inl (cI, 40, .inl (fun _ => 0))), (q5, .inl (cI, 120, .inl (fun _ => 0))), (q6, .inl (cI, 41, .inl (fun _ => 0))), (q7, .inl (cI, 5, .inl (fun _ => 0))), (q8, .inl (cI, 984, .inl (fun _ => 0))), (q9, .inl (cI, 41, .inl (fun _ => 0))), (q10, .inl (cI, 6, .inl (fun _ => 0))), (q11, .inl (cI, 6, .inl (fun _ => 0))), (q12, .inl (cZ, 2, .inl (fun _ => 0)))]) : Cw)
  refine g_aload_n M dX7_init_108 rfl ?_
  refine g_bipush (v := 82) M dX7_init_109 (by decide) ?_
  refine g_newi M (N' := 82) hI (by decide) (by decide) (by decide) (Nat.le_of_ble_eq_true rfl) (Nat.le_of_ble_eq_true rfl) w_int dX7_init_111 (fun q13 => ?_)
  show Φ 113 [some (.ref h0), none] [.ref q13, .ref h0] ((14, 1704, (h0, .inr (7, [.ref q0, .ref q1, .ref q2, .int 0, .int 0, .ref q3, .ref q4, .ref q5, .int 0, .int 0, .int 0, .int 0, .int 0, .int 0, .int 0, .ref q6, .ref q7, .ref q8, .int 0, .ref q9, .ref q10, .ref q11, .ref q12, .null, .null, .int 0])) :: [(q0, .inl (cI, 8, .inl (fun _ => 0))), (q1, .inl (cI, 8, .inl (fun _ => 0))), (q2, .inl (cI, 320, .inl (fun _ => 0))), (q3, .inl (cI, 41, .inl (fun _ => 0))), (q4, .inl (cI, 40, .inl (fun _ => 0))), (q5, .inl (cI, 120, .inl (fun _ => 0))), (q6, .inl (cI, 41, .inl (fun _ => 0))), (q7, .inl (cI, 5, .inl (fun _ => 0))), (q8, .inl (cI, 984, .inl (fun _ => 0))), (q9, .inl (cI, 41, .inl (fun _ => 0))), (q10, .inl (cI, 6, .inl (fun _ => 0))), (q11, .inl (cI, 6, .inl (fun _ => 0))), (q12, .inl (cZ, 2, .inl (fun _ => 0))), (q13, .inl (cI, 82, .inl (fun _ => 0)))]) : Cw)
  refine g_putF M trivial (q0 := 0) (ci := 7) (ty0 := tyX7) rfl rfl (k := 23) (by decide) hin_X7 tyX7_ok nmX7 fl_X7_50 rfl rfl rfl rfl (by simp) dX7_init_113 ?_
  show Φ 116 [some (.ref h0), none] [] ((14, 1704, (h0, .inr (7, [.ref q0, .ref q1, .ref q2, .int 0, .int 0, .ref q3, .ref q4, .ref q5, .int 0, .int 0, .int 0, .int 0, .int 0, .int 0, .int 0, .ref q6, .ref q7, .ref q8, .int 0, .ref q9, .ref q10, .ref q11, .ref q12, .ref q13, .null, .int 0])) :: [(q0, .inl (cI, 8, .inl (fun _ => 0))), (q1, .inl (cI, 8, .inl (fun _ => 0))), (q2, .inl (cI, 320, .inl (fun _ => 0))), (q3, .inl (cI, 41, .inl (fun _ => 0))), (q4, .inl (cI, 40, .inl (fun _ => 0))), (q5, .inl (cI, 120, .inl (fun _ => 0))), (q6, .inl (cI, 41, .inl (fun _ => 0))), (q7, .inl (cI, 5, .inl (fun _ => 0))), (q8, .inl (cI, 984, .inl (fun _ => 0))), (q9, .inl (cI, 41, .inl (fun _ => 0))), (q10, .inl (cI, 6, .inl (fun _ => 0))), (q11, .inl (cI, 6, .inl (fun _ => 0))), (q12, .inl (cZ, 2, .inl (fun _ => 0))), (q13, .inl (cI, 82, .inl (fun _ => 0)))]) : Cw)
  refine g_aload_n M dX7_init_116 rfl ?_
  refine g_bipush (v := 16) M dX7_init_117 (by decide) ?_
  refine g_newi M (N' := 16) hI (by decide) (by decide) (by decide) (Nat.le_of_ble_eq_true rfl) (Nat.le_of_ble_eq_true rfl) w_int dX7_init_119 (fun q14 => ?_)
  show Φ 121 [some (.ref h0), none] [.ref q14, .ref h0] ((15, 1720, (h0, .inr (7, [.ref q0, .ref q1, .ref q2, .int 0, .int 0, .ref q3, .ref q4, .ref q5, .int 0, .int 0, .int 0, .int 0, .int 0, .int 0, .int 0, .ref q6, .ref q7, .ref q8, .int 0, .ref q9, .ref q10, .ref q11, .ref q12, .ref q13, .null, .int 0])) :: [(q0, .inl (cI, 8, .inl (fun _ => 0))), (q1, .inl (cI, 8, .inl (fun _ => 0))), (q2, .inl (cI, 320, .inl (fun _ => 0))), (q3, .inl (cI, 41, .inl (fun _ => 0))), (q4, .inl (cI, 40, .inl (fun _ => 0))), (q5, .inl (cI, 120, .inl (fun _ => 0))), (q6, .inl (cI, 41, .inl (fun _ => 0))), (q7, .inl (cI, 5, .inl (fun _ => 0))), (q8, .inl (cI, 984, .inl (fun _ => 0))), (q9, .inl (cI, 41, .inl (fun _ => 0))), (q10, .inl (cI, 6, .inl (fun _ => 0))), (q11, .inl (cI, 6, .inl (fun _ => 0))), (q12, .inl (cZ, 2, .inl (fun _ => 0))), (q13, .inl (cI, 82, .inl (fun _ => 0))), (q14, .inl (cI, 16, .inl (fun _ => 0)))]) : Cw)
  refine g_putF M trivial (q0 := 0) (ci := 7) (ty0 := tyX7) rfl rfl (k := 24) (by decide) hin_X7 tyX7_ok nmX7 fl_X7_53 rfl rfl rfl rfl (by simp) dX7_init_121 ?_
  show Φ 124 [some (.ref h0), none] [] ((15, 1720, (h0, .inr (7, [.ref q0, .ref q1, .ref q2, .int 0, .int 0, .ref q3, .ref q4, .ref q5, .int 0, .int 0, .int 0, .int 0, .int 0, .int 0, .int 0, .ref q6, .ref q7, .ref q8, .int 0, .ref q9, .ref q10, .ref q11, .ref q12, .ref q13, .ref q14, .int 0])) :: [(q0, .inl (cI, 8, .inl (fun _ => 0))), (q1, .inl (cI, 8, .inl (fun _ => 0))), (q2, .inl (cI, 320, .inl (fun _ => 0))), (q3, .inl (cI, 41, .inl (fun _ => 0))), (q4, .inl (cI, 40, .inl (fun _ => 0))), (q5, .inl (cI, 120, .inl (fun _ => 0))), (q6, .inl (cI, 41, .inl (fun _ => 0))), (q7, .inl (cI, 5, .inl (fun _ => 0))), (q8, .inl (cI, 984, .inl (fun _ => 0))), (q9, .inl (cI, 41, .inl (fun _ => 0))), (q10, .inl (cI, 6, .inl (fun _ => 0))), (q11, .inl (cI, 6, .inl (fun _ => 0))), (q12, .inl (cZ, 2, .inl (fun _ => 0))), (q13, .inl (cI, 82, .inl (fun _ => 0))), (q14, .inl (cI, 16, .inl (fun _ => 0)))]) : Cw)
  refine g_iconst (v := 0) M dX7_init_124 (by decide) ?_
  refine g_istore_1 M dX7_init_125 (by exact (by first | trivial | rfl)) ?_
  refine g_iload_n M dX7_init_126 rfl ?_
  refine g_bipush (v := 8) M dX7_init_127 (by decide) ?_
  refine g_icmp_ge (tgt := 145) M dX7_init_129 (by decide) (fun h => absurd h (by decide)) (fun _ => ?_)
  refine g_aload_n M dX7_init_132 rfl ?_
  refine g_get M (q0 := 0) (ci := 7) (v := .ref q1) rfl rfl (k := 1) (by decide) hin_X7 fl_X7_13 rfl dX7_init_133 ?_
  refine g_iload_n M dX7_init_136 rfl ?_
  refine g_iconst (v := (-1)) M dX7_init_137 (by decide) ?_
  refine g_iast M hI (q0 := 2) rfl (by unfold vp_in; decide) dX7_init_138 ?_
  show Φ 139 [some (.ref h0), some (.int 0)] [] ((15, 1720, (h0, .inr (7, [.ref q0, .ref q1, .ref q2, .int 0, .int 0, .ref q3, .ref q4, .ref q5, .int 0, .int 0, .int 0, .int 0, .int 0, .int 0, .int 0, .ref q6, .ref q7, .ref q8, .int 0, .ref q9, .ref q10, .ref q11, .ref q12, .ref q13, .ref q14, .int 0])) :: [(q0, .inl (cI, 8, .inl (fun _ => 0))), (q1, .inl (cI, 8, .inl (upd (fun _ => 0) (Int32.toNatClampNeg 0) (-1)))), (q2, .inl (cI, 320, .inl (fun _ => 0))), (q3, .inl (cI, 41, .inl (fun _ => 0))), (q4, .inl (cI, 40, .inl (fun _ => 0))), (q5, .inl (cI, 120, .inl (fun _ => 0))), (q6, .inl (cI, 41, .inl (fun _ => 0))), (q7, .inl (cI, 5, .inl (fun _ => 0))), (q8, .inl (cI, 984, .inl (fun _ => 0))), (q9, .inl (cI, 41, .inl (fun _ => 0))), (q10, .inl (cI, 6, .inl (fun _ => 0))), (q11, .inl (cI, 6, .inl (fun _ => 0))), (q12, .inl (cZ, 2, .inl (fun _ => 0))), (q13, .inl (cI, 82, .inl (fun _ => 0))), (q14, .inl (cI, 16, .inl (fun _ => 0)))]) : Cw)
  refine g_iinc_1 (v := 1) M dX7_init_139 (by decide) (by exact (by first | trivial | rfl)) ?_
  refine g_goto (tgt := 126) M dX7_init_142 (by decide) ?_
  refine g_iload_n M dX7_init_126 rfl ?_
  refine g_bipush (v := 8) M dX7_init_127 (by decide) ?_
  refine g_icmp_ge (tgt := 145) M dX7_init_129 (by decide) (fun h => absurd h (by decide)) (fun _ => ?_)
  refine g_aload_n M dX7_init_132 rfl ?_
  refine g_get M (q0 := 0) (ci := 7) (v := .ref q1) rfl rfl (k := 1) (by decide) hin_X7 fl_X7_13 rfl dX7_init_133 ?_
  refine g_iload_n M dX7_init_136 rfl ?_
  refine g_iconst (v := (-1)) M dX7_init_137 (by decide) ?_
  refine g_iast M hI (q0 := 2) rfl (by unfold vp_in; decide) dX7_init_138 ?_
  show Φ 139 [some (.ref h0), some (.int 1)] [] ((15, 1720, (h0, .inr (7, [.ref q0, .ref q1, .ref q2, .int 0, .int 0, .ref q3, .ref q4, .ref q5, .int 0, .int 0, .int 0, .int 0, .int 0, .int 0, .int 0, .ref q6, .ref q7, .ref q8, .int 0, .ref q9, .ref q10, .ref q11, .ref q12, .ref q13, .ref q14, .int 0])) :: [(q0, .inl (cI, 8, .inl (fun _ => 0))), (q1, .inl (cI, 8, .inl (upd (upd (fun _ => 0) (Int32.toNatClampNeg 0) (-1)) (Int32.toNatClampNeg 1) (-1)))), (q2, .inl (cI, 320, .inl (fun _ => 0))), (q3, .inl (cI, 41, .inl (fun _ => 0))), (q4, .inl (cI, 40, .inl (fun _ => 0))), (q5, .inl (cI, 120, .inl (fun _ => 0))), (q6, .inl (cI, 41, .inl (fun _ => 0))), (q7, .inl (cI, 5, .inl (fun _ => 0))), (q8, .inl (cI, 984, .inl (fun _ => 0))), (q9, .inl (cI, 41, .inl (fun _ => 0))), (q10, .inl (cI, 6, .inl (fun _ => 0))), (q11, .inl (cI, 6, .inl (fun _ => 0))), (q12, .inl (cZ, 2, .inl (fun _ => 0))), (q13, .inl (cI, 82, .inl (fun _ => 0))), (q14, .inl (cI, 16, .inl (fun _ => 0)))]) : Cw)
  refine g_iinc_1 (v := 2) M dX7_init_139 (by decide) (by exact (by first | trivial | rfl)) ?_
  refine g_goto (tgt := 126) M dX7_init_142 (by decide) ?_
  refine g_iload_n M dX7_init_126 rfl ?_
  refine g_bipush (v := 8) M dX7_init_127 (by decide) ?_
  refine g_icmp_ge (tgt := 145) M dX7_init_129 (by decide) (fun h => absurd h (by decide)) (fun _ => ?_)
  refine g_aload_n M dX7_init_132 rfl ?_
  refine g_get M (q0 := 0) (ci := 7) (v := .ref q1) rfl rfl (k := 1) (by decide) hin_X7 fl_X7_13 rfl dX7_init_133 ?_
  refine g_iload_n M dX7_init_136 rfl ?_
  refine g_iconst (v := (-1)) M dX7_init_137 (by decide) ?_
  refine g_iast M hI (q0 := 2) rfl (by unfold vp_in; decide) dX7_init_138 ?_
  show Φ 139 [some (.ref h0), some (.int 2)] [] ((15, 1720, (h0, .inr (7, [.ref q0, .ref q1, .ref q2, .int 0, .int 0, .ref q3, .ref q4, .ref q5, .int 0, .int 0, .int 0, .int 0, .int 0, .int 0, .int 0, .ref q6, .ref q7, .ref q8, .int 0, .ref q9, .ref q10, .ref q11, .ref q12, .ref q13, .ref q14, .int 0])) :: [(q0, .inl (cI, 8, .inl (fun _ => 0))), (q1, .inl (cI, 8, .inl (upd (upd (upd (fun _ => 0) (Int32.toNatClampNeg 0) (-1)) (Int32.toNatClampNeg 1) (-1)) (Int32.toNatClampNeg 2) (-1)))), (q2, .inl (cI, 320, .inl (fun _ => 0))), (q3, .inl (cI, 41, .inl (fun _ => 0))), (q4, .inl (cI, 40, .inl (fun _ => 0))), (q5, .inl (cI, 120, .inl (fun _ => 0))), (q6, .inl (cI, 41, .inl (fun _ => 0))), (q7, .inl (cI, 5, .inl (fun _ => 0))), (q8, .inl (cI, 984, .inl (fun _ => 0))), (q9, .inl (cI, 41, .inl (fun _ => 0))), (q10, .inl (cI, 6, .inl (fun _ => 0))), (q11, .inl (cI, 6, .inl (fun _ => 0))), (q12, .inl (cZ, 2, .inl (fun _ => 0))), (q13, .inl (cI, 82, .inl (fun _ => 0))), (q14, .inl (cI, 16, .inl (fun _ => 0)))]) : Cw)
  refine g_iinc_1 (v := 3) M dX7_init_139 (by decide) (by exact (by first | trivial | rfl)) ?_
  refine g_goto (tgt := 126) M dX7_init_142 (by decide) ?_
  refine g_iload_n M dX7_init_126 rfl ?_
  refine g_bipush (v := 8) M dX7_init_127 (by decide) ?_
  refine g_icmp_ge (tgt := 145) M dX7_init_129 (by decide) (fun h => absurd h (by decide)) (fun _ => ?_)
  refine g_aload_n M dX7_init_132 rfl ?_
  refine g_get M (q0 := 0) (ci := 7) (v := .ref q1) rfl rfl (k := 1) (by decide) hin_X7 fl_X7_13 rfl dX7_init_133 ?_
  refine g_iload_n M dX7_init_136 rfl ?_
  refine g_iconst (v := (-1)) M dX7_init_137 (by decide) ?_
  refine g_iast M hI (q0 := 2) rfl (by unfold vp_in; decide) dX7_init_138 ?_
  show Φ 139 [some (.ref h0), some (.int 3)] [] ((15, 1720, (h0, .inr (7, [.ref q0, .ref q1, .ref q2, .int 0, .int 0, .ref q3, .ref q4, .ref q5, .int 0, .int 0, .int 0, .int 0, .int 0, .int 0, .int 0, .ref q6, .ref q7, .ref q8, .int 0, .ref q9, .ref q10, .ref q11, .ref q12, .ref q13, .ref q14, .int 0])) :: [(q0, .inl (cI, 8, .inl (fun _ => 0))), (q1, .inl (cI, 8, .inl (upd (upd (upd (upd (fun _ => 0) (Int32.toNatClampNeg 0) (-1)) (Int32.toNatClampNeg 1) (-1)) (Int32.toNatClampNeg 2) (-1)) (Int32.toNatClampNeg 3) (-1)))), (q2, .inl (cI, 320, .inl (fun _ => 0))), (q3, .inl (cI, 41, .inl (fun _ => 0))), (q4, .inl (cI, 40, .inl (fun _ => 0))), (q5, .inl (cI, 120, .inl (fun _ => 0))), (q6, .inl (cI, 41, .inl (fun _ => 0))), (q7, .inl (cI, 5, .inl (fun _ => 0))), (q8, .inl (cI, 984, .inl (fun _ => 0))), (q9, .inl (cI, 41, .inl (fun _ => 0))), (q10, .inl (cI, 6, .inl (fun _ => 0))), (q11, .inl (cI, 6, .inl (fun _ => 0))), (q12, .inl (cZ, 2, .inl (fun _ => 0))), (q13, .inl (cI, 82, .inl (fun _ => 0))), (q14, .inl (cI, 16, .inl (fun _ => 0)))]) : Cw)
  refine g_iinc_1 (v := 4) M dX7_init_139 (by decide) (by exact (by first | trivial | rfl)) ?_
  refine g_goto (tgt := 126) M dX7_init_142 (by decide) ?_
  refine g_iload_n M dX7_init_126 rfl ?_
  refine g_bipush (v := 8) M dX7_init_127 (by decide) ?_
  refine g_icmp_ge (tgt := 145) M dX7_init_129 (by decide) (fun h => absurd h (by decide)) (fun _ => ?_)
  refine g_aload_n M dX7_init_132 rfl ?_
  refine g_get M (q0 := 0) (ci := 7) (v := .ref q1) rfl rfl (k := 1) (by decide) hin_X7 fl_X7_13 rfl dX7_init_133 ?_
  refine g_iload_n M dX7_init_136 rfl ?_
  refine g_iconst (v := (-1)) M dX7_init_137 (by decide) ?_
  refine g_iast M hI (q0 := 2) rfl (by unfold vp_in; decide) dX7_init_138 ?_
  show Φ 139 [some (.ref h0), some (.int 4)] [] ((15, 1720, (h0, .inr (7, [.ref q0, .ref q1, .ref q2, .int 0, .int 0, .ref q3, .ref q4, .ref q5, .int 0, .int 0, .int 0, .int 0, .int 0, .int 0, .int 0, .ref q6, .ref q7, .ref q8, .int 0, .ref q9, .ref q10, .ref q11, .ref q12, .ref q13, .ref q14, .int 0])) :: [(q0, .inl (cI, 8, .inl (fun _ => 0))), (q1, .inl (cI, 8, .inl (upd (upd (upd (upd (upd (fun _ => 0) (Int32.toNatClampNeg 0) (-1)) (Int32.toNatClampNeg 1) (-1)) (Int32.toNatClampNeg 2) (-1)) (Int32.toNatClampNeg 3) (-1)) (Int32.toNatClampNeg 4) (-1)))), (q2, .inl (cI, 320, .inl (fun _ => 0))), (q3, .inl (cI, 41, .inl (fun _ => 0))), (q4, .inl (cI, 40, .inl (fun _ => 0))), (q5, .inl (cI, 120, .inl (fun _ => 0))), (q6, .inl (cI, 41, .inl (fun _ => 0))), (q7, .inl (cI, 5, .inl (fun _ => 0))), (q8, .inl (cI, 984, .inl (fun _ => 0))), (q9, .inl (cI, 41, .inl (fun _ => 0))), (q10, .inl (cI, 6, .inl (fun _ => 0))), (q11, .inl (cI, 6, .inl (fun _ => 0))), (q12, .inl (cZ, 2, .inl (fun _ => 0))), (q13, .inl (cI, 82, .inl (fun _ => 0))), (q14, .inl (cI, 16, .inl (fun _ => 0)))]) : Cw)
  refine g_iinc_1 (v := 5) M dX7_init_139 (by decide) (by exact (by first | trivial | rfl)) ?_
  refine g_goto (tgt := 126) M dX7_init_142 (by decide) ?_
  refine g_iload_n M dX7_init_126 rfl ?_
  refine g_bipush (v := 8) M dX7_init_127 (by decide) ?_
  refine g_icmp_ge (tgt := 145) M dX7_init_129 (by decide) (fun h => absurd h (by decide)) (fun _ => ?_)
  refine g_aload_n M dX7_init_132 rfl ?_
  refine g_get M (q0 := 0) (ci := 7) (v := .ref q1) rfl rfl (k := 1) (by decide) hin_X7 fl_X7_13 rfl dX7_init_133 ?_
  refine g_iload_n M dX7_init_136 rfl ?_
  refine g_iconst (v := (-1)) M dX7_init_137 (by decide) ?_
  refine g_iast M hI (q0 := 2) rfl (by unfold vp_in; decide) dX7_init_138 ?_
  show Φ 139 [some (.ref h0), some (.int 5)] [] ((15, 1720, (h0, .inr (7, [.ref q0, .ref q1, .ref q2, .int 0, .int 0, .ref q3, .ref q4, .ref q5, .int 0, .int 0, .int 0, .int 0, .int 0, .int 0, .int 0, .ref q6, .ref q7, .ref q8, .int 0, .ref q9, .ref q10, .ref q11, .ref q12, .ref q13, .ref q14, .int 0])) :: [(q0, .inl (cI, 8, .inl (fun _ => 0))), (q1, .inl (cI, 8, .inl (upd (upd (upd (upd (upd (upd (fun _ => 0) (Int32.toNatClampNeg 0) (-1)) (Int32.toNatClampNeg 1) (-1)) (Int32.toNatClampNeg 2) (-1)) (Int32.toNatClampNeg 3) (-1)) (Int32.toNatClampNeg 4) (-1)) (Int32.toNatClampNeg 5) (-1)))), (q2, .inl (cI, 320, .inl (fun _ => 0))), (q3, .inl (cI, 41, .inl (fun _ => 0))), (q4, .inl (cI, 40, .inl (fun _ => 0))), (q5, .inl (cI, 120, .inl (fun _ => 0))), (q6, .inl (cI, 41, .inl (fun _ => 0))), (q7, .inl (cI, 5, .inl (fun _ => 0))), (q8, .inl (cI, 984, .inl (fun _ => 0))), (q9, .inl (cI, 41, .inl (fun _ => 0))), (q10, .inl (cI, 6, .inl (fun _ => 0))), (q11, .inl (cI, 6, .inl (fun _ => 0))), (q12, .inl (cZ, 2, .inl (fun _ => 0))), (q13, .inl (cI, 82, .inl (fun _ => 0))), (q14, .inl (cI, 16, .inl (fun _ => 0)))]) : Cw)
  refine g_iinc_1 (v := 6) M dX7_init_139 (by decide) (by exact (by first | trivial | rfl)) ?_
  refine g_goto (tgt := 126) M dX7_init_142 (by decide) ?_
  refine g_iload_n M dX7_init_126 rfl ?_
  refine g_bipush (v := 8) M dX7_init_127 (by decide) ?_
  refine g_icmp_ge (tgt := 145) M dX7_init_129 (by decide) (fun h => absurd h (by decide)) (fun _ => ?_)
  refine g_aload_n M dX7_init_132 rfl ?_
  refine g_get M (q0 := 0) (ci := 7) (v := .ref q1) rfl rfl (k := 1) (by decide) hin_X7 fl_X7_13 rfl dX7_init_133 ?_
  refine g_iload_n M dX7_init_136 rfl ?_
  refine g_iconst (v := (-1)) M dX7_init_137 (by decide) ?_
  refine g_iast M hI (q0 := 2) rfl (by unfold vp_in; decide) dX7_init_138 ?_
  show Φ 139 [some (.ref h0), some (.int 6)] [] ((15, 1720, (h0, .inr (7, [.ref q0, .ref q1, .ref q2, .int 0, .int 0, .ref q3, .ref q4, .ref q5, .int 0, .int 0, .int 0, .int 0, .int 0, .int 0, .int 0, .ref q6, .ref q7, .ref q8, .int 0, .ref q9, .ref q10, .ref q11, .ref q12, .ref q13, .ref q14, .int 0])) :: [(q0, .inl (cI, 8, .inl (fun _ => 0))), (q1, .inl (cI, 8, .inl (upd (upd (upd (upd (upd (upd (upd (fun _ => 0) (Int32.toNatClampNeg 0) (-1)) (Int32.toNatClampNeg 1) (-1)) (Int32.toNatClampNeg 2) (-1)) (Int32.toNatClampNeg 3) (-1)) (Int32.toNatClampNeg 4) (-1)) (Int32.toNatClampNeg 5) (-1)) (Int32.toNatClampNeg 6) (-1)))), (q2, .inl (cI, 320, .inl (fun _ => 0))), (q3, .inl (cI, 41, .inl (fun _ => 0))), (q4, .inl (cI, 40, .inl (fun _ => 0))), (q5, .inl (cI, 120, .inl (fun _ => 0))), (q6, .inl (cI, 41, .inl (fun _ => 0))), (q7, .inl (cI, 5, .inl (fun _ => 0))), (q8, .inl (cI, 984, .inl (fun _ => 0))), (q9, .inl (cI, 41, .inl (fun _ => 0))), (q10, .inl (cI, 6, .inl (fun _ => 0))), (q11, .inl (cI, 6, .inl (fun _ => 0))), (q12, .inl (cZ, 2, .inl (fun _ => 0))), (q13, .inl (cI, 82, .inl (fun _ => 0))), (q14, .inl (cI, 16, .inl (fun _ => 0)))]) : Cw)
  refine g_iinc_1 (v := 7) M dX7_init_139 (by decide) (by exact (by first | trivial | rfl)) ?_
  refine g_goto (tgt := 126) M dX7_init_142 (by decide) ?_
  refine g_iload_n M dX7_init_126 rfl ?_
  refine g_bipush (v := 8) M dX7_init_127 (by decide) ?_
  refine g_icmp_ge (tgt := 145) M dX7_init_129 (by decide) (fun h => absurd h (by decide)) (fun _ => ?_)
  refine g_aload_n M dX7_init_132 rfl ?_
  refine g_get M (q0 := 0) (ci := 7) (v := .ref q1) rfl rfl (k := 1) (by decide) hin_X7 fl_X7_13 rfl dX7_init_133 ?_
  refine g_iload_n M dX7_init_136 rfl ?_
  refine g_iconst (v := (-1)) M dX7_init_137 (by decide) ?_
  refine g_iast M hI (q0 := 2) rfl (by unfold vp_in; decide) dX7_init_138 ?_
  show Φ 139 [some (.ref h0), some (.int 7)] [] ((15, 1720, (h0, .inr (7, [.ref q0, .ref q1, .ref q2, .int 0, .int 0, .ref q3, .ref q4, .ref q5, .int 0, .int 0, .int 0, .int 0, .int 0, .int 0, .int 0, .ref q6, .ref q7, .ref q8, .int 0, .ref q9, .ref q10, .ref q11, .ref q12, .ref q13, .ref q14, .int 0])) :: [(q0, .inl (cI, 8, .inl (fun _ => 0))), (q1, .inl (cI, 8, .inl (upd (upd (upd (upd (upd (upd (upd (upd (fun _ => 0) (Int32.toNatClampNeg 0) (-1)) (Int32.toNatClampNeg 1) (-1)) (Int32.toNatClampNeg 2) (-1)) (Int32.toNatClampNeg 3) (-1)) (Int32.toNatClampNeg 4) (-1)) (Int32.toNatClampNeg 5) (-1)) (Int32.toNatClampNeg 6) (-1)) (Int32.toNatClampNeg 7) (-1)))), (q2, .inl (cI, 320, .inl (fun _ => 0))), (q3, .inl (cI, 41, .inl (fun _ => 0))), (q4, .inl (cI, 40, .inl (fun _ => 0))), (q5, .inl (cI, 120, .inl (fun _ => 0))), (q6, .inl (cI, 41, .inl (fun _ => 0))), (q7, .inl (cI, 5, .inl (fun _ => 0))), (q8, .inl (cI, 984, .inl (fun _ => 0))), (q9, .inl (cI, 41, .inl (fun _ => 0))), (q10, .inl (cI, 6, .inl (fun _ => 0))), (q11, .inl (cI, 6, .inl (fun _ => 0))), (q12, .inl (cZ, 2, .inl (fun _ => 0))), (q13, .inl (cI, 82, .inl (fun _ => 0))), (q14, .inl (cI, 16, .inl (fun _ => 0)))]) : Cw)
  refine g_iinc_1 (v := 8) M dX7_init_139 (by decide) (by exact (by first | trivial | rfl)) ?_
  refine g_goto (tgt := 126) M dX7_init_142 (by decide) ?_
  refine g_iload_n M dX7_init_126 rfl ?_
  refine g_bipush (v := 8) M dX7_init_127 (by decide) ?_
  refine g_icmp_ge (tgt := 145) M dX7_init_129 (by decide) (fun _ => ?_) (fun h => absurd h (by decide))
  refine g_ret M ?_ dX7_init_145
  exact ⟨fun k => match k with | 0 => h0 | 1 => q0 | 2 => q1 | 3 => q2 | 4 => q3 | 5 => q4 | 6 => q5 | 7 => q6 | 8 => q7 | 9 => q8 | 10 => q9 | 11 => q10 | 12 => q11 | 13 => q12 | 14 => q13 | _ => q14, rfl, rfl⟩
def grp_X2 (cI : ClassId) (b : Nat → Nat → Nat) : va_W := (b 0 0, .inr (2, [.ref (b 1 0), .ref (b 0 1), .ref (b 0 2)])) :: ((([] ++ grp_X3 cI (b 1)) ++ [(b 0 1, .inl (cI, 6, .inl (fun _ => 0)))]) ++ [(b 0 2, .inl (cI, 6, .inl (fun _ => 0)))])
set_option maxRecDepth 100000 in
theorem ct_X2 {l : Launch} {D : va_G} {cI cZ cL : ClassId} : Ct (τ := Nat → Nat → Nat) (fun b => b 0 0) l D [(cI, .int), (cZ, .boolean), (cL, .object RX3)] yX2_init cX2_init 1 2 44 11 72 2 [.null, .null, .null] (fun a => grp_X2 cI a) := by
  refine ct_intro (by decide) rfl (by decide) (fun h0 A Φ M => ?_)
  have hI : ([(cI, .int), (cZ, .boolean), (cL, .object RX3)] : List (ClassId × FieldType))[0]? = some (cI, .int) := rfl
  have hZ : ([(cI, .int), (cZ, .boolean), (cL, .object RX3)] : List (ClassId × FieldType))[1]? = some (cZ, .boolean) := rfl
  have hL : ([(cI, .int), (cZ, .boolean), (cL, .object RX3)] : List (ClassId × FieldType))[2]? = some (cL, .object RX3) := rfl
  show Φ 0 [some (.ref h0)] [] ((0, 0, [(h0, .inr (2, [.null, .null, .null]))]) : Cw)
  refine g_aload_n M dX2_init_0 rfl ?_
  refine g_init0 M (tws_of (List.mem_of_getElem? (i := 245) (by decide +kernel)) (by decide +kernel)) (Nat.le_of_ble_eq_true rfl) (Nat.le_of_ble_eq_true rfl) dX2_init_1 ?_
  refine g_aload_n M dX2_init_4 rfl ?_
  refine g_new M (ci := 3) (ty0 := tyX3) (fs := [.int 0, .int 0, .int 0, .int 0, .int 0, .int 0, .int 0, .int 0, .null, .null, .null, .null, .null, .null, .null, .null]) rfl hin_X3 tyX3_ok (tws_of (by decide +kernel) (by decide +kernel)) (tws_of (by decide +kernel) (by decide +kernel)) in_X3 df_X3 (Nat.le_of_ble_eq_true rfl) (Nat.le_of_ble_eq_true rfl) dX2_init_5 (fun q0 => ?_)
  show Φ 8 [some (.ref h0)] [.ref q0, .ref h0] ((1, 16, (h0, .inr (2, [.null, .null, .null])) :: [(q0, .inr (3, [.int 0, .int 0, .int 0, .int 0, .int 0, .int 0, .int 0, .int 0, .null, .null, .null, .null, .null, .null, .null, .null]))]) : Cw)
  refine g_dup M dX2_init_8 rfl ?_
  refine g_ctor M ct_X3 (X := ((h0, .inr (2, [.null, .null, .null])) :: [])) rfl (tws_of (List.mem_of_getElem? (i := 247) (by decide +kernel)) (by decide +kernel)) (tws_of (by decide +kernel) (by decide +kernel)) in_X3 (tws_of (by decide +kernel) (by decide +kernel)) rfl (by decide +kernel) ⟨(Nat.le_of_ble_eq_true rfl), (Nat.le_of_ble_eq_true rfl)⟩ (Nat.le_of_ble_eq_true rfl) (Nat.le_of_ble_eq_true rfl) (Nat.le_of_ble_eq_true rfl) dX2_init_9 (fun a0 ea0 => ?_)
  show Φ 12 [some (.ref h0)] [.ref q0, .ref h0] ((9, 60, (h0, .inr (2, [.null, .null, .null])) :: ([] ++ grp_X3 cI a0)) : Cw)
  refine g_putF M trivial (q0 := 0) (ci := 2) (ty0 := tyX2) rfl rfl (k := 0) (by decide) hin_X2 tyX2_ok nmX2 fl_X2_12 rfl rfl rfl rfl (by simp) dX2_init_12 ?_
  show Φ 15 [some (.ref h0)] [] ((9, 60, (h0, .inr (2, [.ref q0, .null, .null])) :: ([] ++ grp_X3 cI a0)) : Cw)
  refine g_aload_n M dX2_init_15 rfl ?_
  refine g_bipush (v := 6) M dX2_init_16 (by decide) ?_
  refine g_newi M (N' := 6) hI (by decide) (by decide) (by decide) (Nat.le_of_ble_eq_true rfl) (Nat.le_of_ble_eq_true rfl) w_int dX2_init_18 (fun q1 => ?_)
  show Φ 20 [some (.ref h0)] [.ref q1, .ref h0] ((10, 66, (h0, .inr (2, [.ref q0, .null, .null])) :: (([] ++ grp_X3 cI a0) ++ [(q1, .inl (cI, 6, .inl (fun _ => 0)))])) : Cw)
  refine g_putF M trivial (q0 := 0) (ci := 2) (ty0 := tyX2) rfl rfl (k := 1) (by decide) hin_X2 tyX2_ok nmX2 fl_X2_18 rfl rfl rfl rfl (by simp) dX2_init_20 ?_
  show Φ 23 [some (.ref h0)] [] ((10, 66, (h0, .inr (2, [.ref q0, .ref q1, .null])) :: (([] ++ grp_X3 cI a0) ++ [(q1, .inl (cI, 6, .inl (fun _ => 0)))])) : Cw)
  refine g_aload_n M dX2_init_23 rfl ?_
  refine g_bipush (v := 6) M dX2_init_24 (by decide) ?_
  refine g_newi M (N' := 6) hI (by decide) (by decide) (by decide) (Nat.le_of_ble_eq_true rfl) (Nat.le_of_ble_eq_true rfl) w_int dX2_init_26 (fun q2 => ?_)
  show Φ 28 [some (.ref h0)] [.ref q2, .ref h0] ((11, 72, (h0, .inr (2, [.ref q0, .ref q1, .null])) :: ((([] ++ grp_X3 cI a0) ++ [(q1, .inl (cI, 6, .inl (fun _ => 0)))]) ++ [(q2, .inl (cI, 6, .inl (fun _ => 0)))])) : Cw)
  refine g_putF M trivial (q0 := 0) (ci := 2) (ty0 := tyX2) rfl rfl (k := 2) (by decide) hin_X2 tyX2_ok nmX2 fl_X2_22 rfl rfl rfl rfl (by simp) dX2_init_28 ?_
  show Φ 31 [some (.ref h0)] [] ((11, 72, (h0, .inr (2, [.ref q0, .ref q1, .ref q2])) :: ((([] ++ grp_X3 cI a0) ++ [(q1, .inl (cI, 6, .inl (fun _ => 0)))]) ++ [(q2, .inl (cI, 6, .inl (fun _ => 0)))])) : Cw)
  refine g_ret M ?_ dX2_init_31
  have ea0' : a0 0 = q0 := ea0
  subst ea0'
  exact ⟨fun c k => match c with | 0 => (match k with | 0 => h0 | 1 => q1 | _ => q2) | _ => a0 k, rfl, rfl⟩
def bx (b : Nat → Nat → Nat) (i : Nat) (a : Nat → Nat) : Nat → Nat → Nat := fun j => if j = i then a else b j
def ffq (b : Nat → Nat → Nat) (i : Nat) : Nat → Option Nat := fun j => if j < i then some (b j 0) else none
def libq (cI : ClassId) (b : Nat → Nat → Nat) (i : Nat) : va_W := (List.range i).flatMap (fun j => grp_X3 cI (b j))
theorem libq_cg {cI : ClassId} {b b' : Nat → Nat → Nat} {i : Nat} (h : ∀ j, j < i → b j = b' j) : libq cI b i = libq cI b' i := by
  induction i with
  | zero => rfl
  | succ i ih =>
    have e := ih (fun j hj => h j (by omega))
    simp only [libq, List.range_succ, List.flatMap_append, List.flatMap_singleton] at e ⊢
    rw [e, h i (by omega)]
theorem libq_succ (cI : ClassId) (b : Nat → Nat → Nat) (i : Nat) : libq cI b (i + 1) = libq cI b i ++ grp_X3 cI (b i) := by
  simp only [libq, List.range_succ, List.flatMap_append, List.flatMap_singleton]
theorem libq_len (cI : ClassId) (b : Nat → Nat → Nat) : ∀ i, (libq cI b i).length = 9 * i
  | 0 => rfl
  | i + 1 => by
    rw [libq_succ, List.length_append, libq_len cI b i]
    show _ + 9 = _
    omega
theorem ffq_succ (b : Nat → Nat → Nat) (i : Nat) (a : Nat → Nat) : va_up (ffq b i) i (some (a 0)) = ffq (bx b i a) (i + 1) := by
  funext j
  simp only [va_up, ffq, bx]
  by_cases h : j = i
  · subst h; simp
  · by_cases h2 : j < i
    · have : j < i + 1 := by omega
      simp [h, h2, this]
    · have : ¬ j < i + 1 := by omega
      simp [h, h2, this]
def grp_X0 (cI cL : ClassId) (b : Nat → Nat → Nat) : va_W := (b 24 0, .inr (0, [.ref (b 24 1), .int 0, .int 0])) :: (b 24 1, .inl (cL, 24, .inr (.inr (.inr (.inr (ffq b 24)))))) :: libq cI b 24
def lpX0 (cI cL : ClassId) (h0 q0 : Nat) (b : Nat → Nat → Nat) (i : Nat) : Cw := (1 + 9 * i, 24 + 60 * i, (h0, .inr (0, [.ref q0, .int 0, .int 0])) :: (q0, .inl (cL, 24, .inr (.inr (.inr (.inr (ffq b i)))))) :: libq cI b i)
theorem lp_X0 {l : Launch} {D : va_G} {cI cZ cL : ClassId} {A : Nat → Prop} {Φ : Ph2} {h0 q0 fr lo : Nat} (hfr : 2 ≤ fr ∧ 40 ≤ lo) (M : MachC l D [(cI, .int), (cZ, .boolean), (cL, .object RX3)] RX0 cX0_init 2 fr lo 217 1464 A True (fun σ => ∃ a : Nat → Nat → Nat, a 24 0 = h0 ∧ σ.2.2 = grp_X0 cI cL a) Φ) : ∀ k i : Nat, i + k = 24 → ∀ b : Nat → Nat → Nat, Φ 25 [some (.ref h0), some (.int (nI i))] [] (lpX0 cI cL h0 q0 b i) := by
  have hL : ([(cI, .int), (cZ, .boolean), (cL, .object RX3)] : List (ClassId × FieldType))[2]? = some (cL, .object RX3) := rfl
  intro k
  induction k with
  | zero =>
    intro i hi b
    have hi' : i = 24 := by omega
    subst hi'
    refine g_iload_n M dX0_init_25 rfl ?_
    refine g_bipush (v := 24) M dX0_init_26 (by decide) ?_
    refine g_icmp_ge (tgt := 50) M dX0_init_28 (by decide) (fun _ => ?_) (fun h => absurd h (by decide))
    refine g_ret M ⟨bx b 24 (fun k => if k = 0 then h0 else q0), by simp [bx], ?_⟩ dX0_init_50
    have e1 : ffq (bx b 24 (fun k => if k = 0 then h0 else q0)) 24 = ffq b 24 := by
      funext j
      simp only [ffq, bx]
      by_cases h : j < 24
      · have : j ≠ 24 := by omega
        simp [h, this]
      · simp [h]
    have e2 : libq cI (bx b 24 (fun k => if k = 0 then h0 else q0)) 24 = libq cI b 24 := libq_cg (fun j hj => by
      have : j ≠ 24 := by omega
      simp [bx, this])
    simp only [grp_X0, lpX0, e1, e2]
    simp [bx]
  | succ k ih =>
    intro i hi b
    have h24 : i < 24 := by omega
    have hin : vp_in (nI i) 24 := by
      rw [show i = i from rfl]
      rcases (by omega : i = 0 ∨ i = 1 ∨ i = 2 ∨ i = 3 ∨ i = 4 ∨ i = 5 ∨ i = 6 ∨ i = 7 ∨ i = 8 ∨ i = 9 ∨ i = 10 ∨ i = 11 ∨ i = 12 ∨ i = 13 ∨ i = 14 ∨ i = 15 ∨ i = 16 ∨ i = 17 ∨ i = 18 ∨ i = 19 ∨ i = 20 ∨ i = 21 ∨ i = 22 ∨ i = 23) with e | e | e | e | e | e | e | e | e | e | e | e | e | e | e | e | e | e | e | e | e | e | e | e <;> subst e <;> unfold vp_in <;> decide
    have hcl : (nI i).toNatClampNeg = i ∧ nI i < 24 ∧ nI i + 1 = nI (i + 1) := by
      rcases (by omega : i = 0 ∨ i = 1 ∨ i = 2 ∨ i = 3 ∨ i = 4 ∨ i = 5 ∨ i = 6 ∨ i = 7 ∨ i = 8 ∨ i = 9 ∨ i = 10 ∨ i = 11 ∨ i = 12 ∨ i = 13 ∨ i = 14 ∨ i = 15 ∨ i = 16 ∨ i = 17 ∨ i = 18 ∨ i = 19 ∨ i = 20 ∨ i = 21 ∨ i = 22 ∨ i = 23) with e | e | e | e | e | e | e | e | e | e | e | e | e | e | e | e | e | e | e | e | e | e | e | e <;> subst e <;> decide
    refine g_iload_n M dX0_init_25 rfl ?_
    refine g_bipush (v := 24) M dX0_init_26 (by decide) ?_
    refine g_icmp_ge (tgt := 50) M dX0_init_28 (by decide) (fun h => absurd hcl.2.1 h) (fun _ => ?_)
    refine g_aload_n M dX0_init_31 rfl ?_
    refine g_get M (q0 := 0) (ci := 0) (v := .ref q0) rfl rfl (k := 0) (by decide) hin_X0 fl_X0_11 rfl dX0_init_32 ?_
    refine g_iload_n M dX0_init_35 rfl ?_
    refine g_new M (ci := 3) (ty0 := tyX3) (fs := [.int 0, .int 0, .int 0, .int 0, .int 0, .int 0, .int 0, .int 0, .null, .null, .null, .null, .null, .null, .null, .null]) rfl hin_X3 tyX3_ok (tws_of (by decide +kernel) (by decide +kernel)) (tws_of (by decide +kernel) (by decide +kernel)) in_X3 df_X3 (by show 1 + 9 * i + 1 ≤ 217; omega) (by show 24 + 60 * i + 16 ≤ 1464; omega) dX0_init_36 (fun q => ?_)
    refine g_dup M dX0_init_39 rfl ?_
    refine g_ctor M ct_X3 (X := (lpX0 cI cL h0 q0 b i).2.2) rfl (tws_of (List.mem_of_getElem? (i := 228) (by decide +kernel)) (by decide +kernel)) (tws_of (by decide +kernel) (by decide +kernel)) in_X3 (tws_of (by decide +kernel) (by decide +kernel)) rfl (by decide +kernel) ⟨Nat.le_trans (Nat.le_of_ble_eq_true rfl) hfr.1, Nat.le_trans (Nat.le_of_ble_eq_true rfl) hfr.2⟩ (Nat.le_of_ble_eq_true rfl) (by show 1 + 9 * i + 1 + 8 ≤ 217; omega) (by show 24 + 60 * i + 16 + 44 ≤ 1464; omega) dX0_init_40 (fun a ea => ?_)
    have ea' : a 0 = q := ea
    subst ea'
    refine g_aast M hL (q0 := 1) (qk := 2 + 9 * i) (f := ffq b i) (n := 24) (vs := [.int 0, .int 0, .int 0, .int 0, .int 0, .int 0, .int 0, .int 0, .ref (a 1), .ref (a 2), .ref (a 3), .ref (a 4), .ref (a 5), .ref (a 6), .ref (a 7), .ref (a 8)]) rfl ?_ hin dX0_init_43 ?_
    · show ((lpX0 cI cL h0 q0 b i).2.2 ++ grp_X3 cI a)[2 + 9 * i]? = _
      have hl : (lpX0 cI cL h0 q0 b i).2.2.length = 2 + 9 * i := by
        show (libq cI b i).length + 1 + 1 = _
        rw [libq_len]
        omega
      rw [List.getElem?_append_right (by omega), hl, Nat.sub_self]
      rfl
    refine g_iinc_1 (v := nI (i + 1)) M dX0_init_44 hcl.2.2 (by exact (by first | trivial | rfl)) ?_
    refine g_goto (tgt := 25) M dX0_init_47 (by decide) ?_
    have q := ih (i + 1) (by omega) (bx b i a)
    have ec : lpX0 cI cL h0 q0 (bx b i a) (i + 1) = (1 + 9 * i + 1 + 8, 24 + 60 * i + 16 + 44, (h0, .inr (0, [.ref q0, .int 0, .int 0])) :: (q0, .inl (cL, 24, .inr (.inr (.inr (.inr (va_up (ffq b i) (nI i).toNatClampNeg (some (a 0)))))))) :: (libq cI b i ++ grp_X3 cI a)) := by
      rw [hcl.1, ffq_succ]
      have e3 : libq cI (bx b i a) (i + 1) = libq cI b i ++ grp_X3 cI a := by
        rw [libq_succ, libq_cg (b' := b) (fun j hj => by
          have : j ≠ i := by omega
          simp [bx, this])]
        simp [bx]
      simp only [lpX0, e3]
      have e4 : 1 + 9 * (i + 1) = 1 + 9 * i + 1 + 8 := by omega
      have e5 : 24 + 60 * (i + 1) = 24 + 60 * i + 16 + 44 := by omega
      rw [e4, e5]
    rw [ec] at q
    exact q
set_option maxRecDepth 100000 in
theorem ct_X0 {l : Launch} {D : va_G} {cI cZ cL : ClassId} : Ct (τ := Nat → Nat → Nat) (fun b => b 24 0) l D [(cI, .int), (cZ, .boolean), (cL, .object RX3)] yX0_init cX0_init 2 2 44 217 1464 0 [.null, .int 0, .int 0] (fun a => grp_X0 cI cL a) := by
  refine ct_intro (by decide) rfl (by decide) (fun h0 A Φ M => ?_)
  have hI : ([(cI, .int), (cZ, .boolean), (cL, .object RX3)] : List (ClassId × FieldType))[0]? = some (cI, .int) := rfl
  have hZ : ([(cI, .int), (cZ, .boolean), (cL, .object RX3)] : List (ClassId × FieldType))[1]? = some (cZ, .boolean) := rfl
  have hL : ([(cI, .int), (cZ, .boolean), (cL, .object RX3)] : List (ClassId × FieldType))[2]? = some (cL, .object RX3) := rfl
  show Φ 0 [some (.ref h0), none] [] ((0, 0, [(h0, .inr (0, [.null, .int 0, .int 0]))]) : Cw)
  refine g_aload_n M dX0_init_0 rfl ?_
  refine g_init0 M (tws_of (List.mem_of_getElem? (i := 225) (by decide +kernel)) (by decide +kernel)) (Nat.le_of_ble_eq_true rfl) (Nat.le_of_ble_eq_true rfl) dX0_init_1 ?_
  refine g_aload_n M dX0_init_4 rfl ?_
  refine g_bipush (v := 24) M dX0_init_5 (by decide) ?_
  refine g_newq M (N' := 24) hL (by decide) (by decide) (by decide) (Nat.le_of_ble_eq_true rfl) (Nat.le_of_ble_eq_true rfl) (tws_of (by decide +kernel) (by decide +kernel)) dX0_init_7 (fun q0 => ?_)
  show Φ 10 [some (.ref h0), none] [.ref q0, .ref h0] ((1, 24, (h0, .inr (0, [.null, .int 0, .int 0])) :: [(q0, .inl (cL, 24, .inr (.inr (.inr (.inr (fun _ => none))))))]) : Cw)
  refine g_putF M trivial (q0 := 0) (ci := 0) (ty0 := tyX0) rfl rfl (k := 0) (by decide) hin_X0 tyX0_ok nmX0 fl_X0_11 rfl rfl rfl rfl (by simp) dX0_init_10 ?_
  show Φ 13 [some (.ref h0), none] [] ((1, 24, (h0, .inr (0, [.ref q0, .int 0, .int 0])) :: [(q0, .inl (cL, 24, .inr (.inr (.inr (.inr (fun _ => none))))))]) : Cw)
  refine g_aload_n M dX0_init_13 rfl ?_
  refine g_iconst (v := 0) M dX0_init_14 (by decide) ?_
  refine g_put M (q0 := 0) (ci := 0) (ty0 := tyX0) rfl rfl (k := 1) (by decide) hin_X0 tyX0_ok nmX0 fl_X0_17 rfl rfl rfl (by simp) dX0_init_15 ?_
  show Φ 18 [some (.ref h0), none] [] ((1, 24, (h0, .inr (0, [.ref q0, .int 0, .int 0])) :: [(q0, .inl (cL, 24, .inr (.inr (.inr (.inr (fun _ => none))))))]) : Cw)
  refine g_aload_n M dX0_init_18 rfl ?_
  refine g_iconst (v := 0) M dX0_init_19 (by decide) ?_
  refine g_put M (q0 := 0) (ci := 0) (ty0 := tyX0) rfl rfl (k := 2) (by decide) hin_X0 tyX0_ok nmX0 fl_X0_21 rfl rfl rfl (by simp) dX0_init_20 ?_
  show Φ 23 [some (.ref h0), none] [] ((1, 24, (h0, .inr (0, [.ref q0, .int 0, .int 0])) :: [(q0, .inl (cL, 24, .inr (.inr (.inr (.inr (fun _ => none))))))]) : Cw)
  refine g_iconst (v := 0) M dX0_init_23 (by decide) ?_
  refine g_istore_1 M dX0_init_24 (by exact (by first | trivial | rfl)) ?_
  have e0 : ((fun _ => none) : Nat → Option Nat) = ffq (fun _ _ => 0) 0 := by funext j; simp [ffq]
  rw [e0]
  exact lp_X0 (by decide) M 24 0 rfl (fun _ _ => 0)
def b0f (b : Nat → Nat → Nat) : Nat → Nat → Nat := fun j => if j = 24 then b 3 else b (11 + j)
def b2f (b : Nat → Nat → Nat) : Nat → Nat → Nat := fun j => match j with | 1 => b 10 | _ => b 5
def grp_X6 (cI cL : ClassId) (b : Nat → Nat → Nat) : va_W := (b 0 0, .inr (6, [.ref (b 1 0), .ref (b 2 0), .ref (b 6 0), .ref (b 7 0), .ref (b 8 0), .ref (b 9 0), .ref (b 3 0), .ref (b 5 0), .ref (b 4 0), .int 0])) :: ((((((((([] ++ grp_X4 cI (b 1)) ++ grp_X5 cI (b 2)) ++ grp_X3 cI (b 6)) ++ grp_X3 cI (b 7)) ++ grp_X3 cI (b 8)) ++ grp_X3 cI (b 9)) ++ grp_X0 cI cL (b0f b)) ++ grp_X2 cI (b2f b)) ++ grp_X1 cI (b 4))
set_option maxRecDepth 100000 in
theorem ct_X6 {l : Launch} {D : va_G} {cI cZ cL : ClassId} : Ct (τ := Nat → Nat → Nat) (fun b => b 0 0) l D [(cI, .int), (cZ, .boolean), (cL, .object RX3)] yX6_init cX6_init 1 3 69 274 2270 6 [.null, .null, .null, .null, .null, .null, .null, .null, .null, .int 0] (fun a => grp_X6 cI cL a) := by
  refine ct_intro (by decide) rfl (by decide) (fun h0 A Φ M => ?_)
  have hI : ([(cI, .int), (cZ, .boolean), (cL, .object RX3)] : List (ClassId × FieldType))[0]? = some (cI, .int) := rfl
  have hZ : ([(cI, .int), (cZ, .boolean), (cL, .object RX3)] : List (ClassId × FieldType))[1]? = some (cZ, .boolean) := rfl
  have hL : ([(cI, .int), (cZ, .boolean), (cL, .object RX3)] : List (ClassId × FieldType))[2]? = some (cL, .object RX3) := rfl
  show Φ 0 [some (.ref h0)] [] ((0, 0, [(h0, .inr (6, [.null, .null, .null, .null, .null, .null, .null, .null, .null, .int 0]))]) : Cw)
  refine g_aload_n M dX6_init_0 rfl ?_
  refine g_init0 M (tws_of (List.mem_of_getElem? (i := 85) (by decide +kernel)) (by decide +kernel)) (Nat.le_of_ble_eq_true rfl) (Nat.le_of_ble_eq_true rfl) dX6_init_1 ?_
  refine g_aload_n M dX6_init_4 rfl ?_
  refine g_new M (ci := 4) (ty0 := tyX4) (fs := [.null, .null, .null, .int 0, .int 0]) rfl hin_X4 tyX4_ok (tws_of (by decide +kernel) (by decide +kernel)) (tws_of (by decide +kernel) (by decide +kernel)) (tws_of (by decide +kernel) (by decide +kernel)) df_X4 (Nat.le_of_ble_eq_true rfl) (Nat.le_of_ble_eq_true rfl) dX6_init_5 (fun q0 => ?_)
  show Φ 8 [some (.ref h0)] [.ref q0, .ref h0] ((1, 5, (h0, .inr (6, [.null, .null, .null, .null, .null, .null, .null, .null, .null, .int 0])) :: [(q0, .inr (4, [.null, .null, .null, .int 0, .int 0]))]) : Cw)
  refine g_dup M dX6_init_8 rfl ?_
  refine g_ctor M ct_X4 (X := ((h0, .inr (6, [.null, .null, .null, .null, .null, .null, .null, .null, .null, .int 0])) :: [])) rfl (tws_of (List.mem_of_getElem? (i := 90) (by decide +kernel)) (by decide +kernel)) (tws_of (by decide +kernel) (by decide +kernel)) (tws_of (by decide +kernel) (by decide +kernel)) (tws_of (by decide +kernel) (by decide +kernel)) rfl (by decide +kernel) ⟨(Nat.le_of_ble_eq_true rfl), (Nat.le_of_ble_eq_true rfl)⟩ (Nat.le_of_ble_eq_true rfl) (Nat.le_of_ble_eq_true rfl) (Nat.le_of_ble_eq_true rfl) dX6_init_9 (fun a0 ea0 => ?_)
  show Φ 12 [some (.ref h0)] [.ref q0, .ref h0] ((4, 341, (h0, .inr (6, [.null, .null, .null, .null, .null, .null, .null, .null, .null, .int 0])) :: ([] ++ grp_X4 cI a0)) : Cw)
  refine g_putF M trivial (q0 := 0) (ci := 6) (ty0 := tyX6) rfl rfl (k := 0) (by decide) hin_X6 tyX6_ok nmX6 fl_X6_10 rfl rfl rfl rfl (by simp) dX6_init_12 ?_
  show Φ 15 [some (.ref h0)] [] ((4, 341, (h0, .inr (6, [.ref q0, .null, .null, .null, .null, .null, .null, .null, .null, .int 0])) :: ([] ++ grp_X4 cI a0)) : Cw)
  refine g_aload_n M dX6_init_15 rfl ?_
  refine g_new M (ci := 5) (ty0 := tyX5) (fs := [.null, .int 0, .int 0, .int 0, .int 0]) rfl hin_X5 tyX5_ok (tws_of (by decide +kernel) (by decide +kernel)) (tws_of (by decide +kernel) (by decide +kernel)) (tws_of (by decide +kernel) (by decide +kernel)) df_X5 (Nat.le_of_ble_eq_true rfl) (Nat.le_of_ble_eq_true rfl) dX6_init_16 (fun q1 => ?_)
  show Φ 19 [some (.ref h0)] [.ref q1, .ref h0] ((5, 346, (h0, .inr (6, [.ref q0, .null, .null, .null, .null, .null, .null, .null, .null, .int 0])) :: (([] ++ grp_X4 cI a0) ++ [(q1, .inr (5, [.null, .int 0, .int 0, .int 0, .int 0]))])) : Cw)
  refine g_dup M dX6_init_19 rfl ?_
  refine g_ctor M ct_X5 (X := ((h0, .inr (6, [.ref q0, .null, .null, .null, .null, .null, .null, .null, .null, .int 0])) :: ([] ++ grp_X4 cI a0))) rfl (tws_of (List.mem_of_getElem? (i := 113) (by decide +kernel)) (by decide +kernel)) (tws_of (by decide +kernel) (by decide +kernel)) (tws_of (by decide +kernel) (by decide +kernel)) (tws_of (by decide +kernel) (by decide +kernel)) rfl (by decide +kernel) ⟨(Nat.le_of_ble_eq_true rfl), (Nat.le_of_ble_eq_true rfl)⟩ (Nat.le_of_ble_eq_true rfl) (Nat.le_of_ble_eq_true rfl) (Nat.le_of_ble_eq_true rfl) dX6_init_20 (fun a1 ea1 => ?_)
  show Φ 23 [some (.ref h0)] [.ref q1, .ref h0] ((6, 466, (h0, .inr (6, [.ref q0, .null, .null, .null, .null, .null, .null, .null, .null, .int 0])) :: (([] ++ grp_X4 cI a0) ++ grp_X5 cI a1)) : Cw)
  refine g_putF M trivial (q0 := 0) (ci := 6) (ty0 := tyX6) rfl rfl (k := 1) (by decide) hin_X6 tyX6_ok nmX6 fl_X6_19 rfl rfl rfl rfl (by simp) dX6_init_23 ?_
  show Φ 26 [some (.ref h0)] [] ((6, 466, (h0, .inr (6, [.ref q0, .ref q1, .null, .null, .null, .null, .null, .null, .null, .int 0])) :: (([] ++ grp_X4 cI a0) ++ grp_X5 cI a1)) : Cw)
  refine g_aload_n M dX6_init_26 rfl ?_
  refine g_new M (ci := 3) (ty0 := tyX3) (fs := [.int 0, .int 0, .int 0, .int 0, .int 0, .int 0, .int 0, .int 0, .null, .null, .null, .null, .null, .null, .null, .null]) rfl hin_X3 tyX3_ok (tws_of (by decide +kernel) (by decide +kernel)) (tws_of (by decide +kernel) (by decide +kernel)) in_X3 df_X3 (Nat.le_of_ble_eq_true rfl) (Nat.le_of_ble_eq_true rfl) dX6_init_27 (fun q2 => ?_)
  show Φ 30 [some (.ref h0)] [.ref q2, .ref h0] ((7, 482, (h0, .inr (6, [.ref q0, .ref q1, .null, .null, .null, .null, .null, .null, .null, .int 0])) :: ((([] ++ grp_X4 cI a0) ++ grp_X5 cI a1) ++ [(q2, .inr (3, [.int 0, .int 0, .int 0, .int 0, .int 0, .int 0, .int 0, .int 0, .null, .null, .null, .null, .null, .null, .null, .null]))])) : Cw)
  refine g_dup M dX6_init_30 rfl ?_
  refine g_ctor M ct_X3 (X := ((h0, .inr (6, [.ref q0, .ref q1, .null, .null, .null, .null, .null, .null, .null, .int 0])) :: (([] ++ grp_X4 cI a0) ++ grp_X5 cI a1))) rfl (tws_of (List.mem_of_getElem? (i := 138) (by decide +kernel)) (by decide +kernel)) (tws_of (by decide +kernel) (by decide +kernel)) in_X3 (tws_of (by decide +kernel) (by decide +kernel)) rfl (by decide +kernel) ⟨(Nat.le_of_ble_eq_true rfl), (Nat.le_of_ble_eq_true rfl)⟩ (Nat.le_of_ble_eq_true rfl) (Nat.le_of_ble_eq_true rfl) (Nat.le_of_ble_eq_true rfl) dX6_init_31 (fun a2 ea2 => ?_)
  show Φ 34 [some (.ref h0)] [.ref q2, .ref h0] ((15, 526, (h0, .inr (6, [.ref q0, .ref q1, .null, .null, .null, .null, .null, .null, .null, .int 0])) :: ((([] ++ grp_X4 cI a0) ++ grp_X5 cI a1) ++ grp_X3 cI a2)) : Cw)
  refine g_putF M trivial (q0 := 0) (ci := 6) (ty0 := tyX6) rfl rfl (k := 2) (by decide) hin_X6 tyX6_ok nmX6 fl_X6_26 rfl rfl rfl rfl (by simp) dX6_init_34 ?_
  show Φ 37 [some (.ref h0)] [] ((15, 526, (h0, .inr (6, [.ref q0, .ref q1, .ref q2, .null, .null, .null, .null, .null, .null, .int 0])) :: ((([] ++ grp_X4 cI a0) ++ grp_X5 cI a1) ++ grp_X3 cI a2)) : Cw)
  refine g_aload_n M dX6_init_37 rfl ?_
  refine g_new M (ci := 3) (ty0 := tyX3) (fs := [.int 0, .int 0, .int 0, .int 0, .int 0, .int 0, .int 0, .int 0, .null, .null, .null, .null, .null, .null, .null, .null]) rfl hin_X3 tyX3_ok (tws_of (by decide +kernel) (by decide +kernel)) (tws_of (by decide +kernel) (by decide +kernel)) in_X3 df_X3 (Nat.le_of_ble_eq_true rfl) (Nat.le_of_ble_eq_true rfl) dX6_init_38 (fun q3 => ?_)
  show Φ 41 [some (.ref h0)] [.ref q3, .ref h0] ((16, 542, (h0, .inr (6, [.ref q0, .ref q1, .ref q2, .null, .null, .null, .null, .null, .null, .int 0])) :: (((([] ++ grp_X4 cI a0) ++ grp_X5 cI a1) ++ grp_X3 cI a2) ++ [(q3, .inr (3, [.int 0, .int 0, .int 0, .int 0, .int 0, .int 0, .int 0, .int 0, .null, .null, .null, .null, .null, .null, .null, .null]))])) : Cw)
  refine g_dup M dX6_init_41 rfl ?_
  refine g_ctor M ct_X3 (X := ((h0, .inr (6, [.ref q0, .ref q1, .ref q2, .null, .null, .null, .null, .null, .null, .int 0])) :: ((([] ++ grp_X4 cI a0) ++ grp_X5 cI a1) ++ grp_X3 cI a2))) rfl (tws_of (List.mem_of_getElem? (i := 138) (by decide +kernel)) (by decide +kernel)) (tws_of (by decide +kernel) (by decide +kernel)) in_X3 (tws_of (by decide +kernel) (by decide +kernel)) rfl (by decide +kernel) ⟨(Nat.le_of_ble_eq_true rfl), (Nat.le_of_ble_eq_true rfl)⟩ (Nat.le_of_ble_eq_true rfl) (Nat.le_of_ble_eq_true rfl) (Nat.le_of_ble_eq_true rfl) dX6_init_42 (fun a3 ea3 => ?_)
  show Φ 45 [some (.ref h0)] [.ref q3, .ref h0] ((24, 586, (h0, .inr (6, [.ref q0, .ref q1, .ref q2, .null, .null, .null, .null, .null, .null, .int 0])) :: (((([] ++ grp_X4 cI a0) ++ grp_X5 cI a1) ++ grp_X3 cI a2) ++ grp_X3 cI a3)) : Cw)
  refine g_putF M trivial (q0 := 0) (ci := 6) (ty0 := tyX6) rfl rfl (k := 3) (by decide) hin_X6 tyX6_ok nmX6 fl_X6_30 rfl rfl rfl rfl (by simp) dX6_init_45 ?_
  show Φ 48 [some (.ref h0)] [] ((24, 586, (h0, .inr (6, [.ref q0, .ref q1, .ref q2, .ref q3, .null, .null, .null, .null, .null, .int 0])) :: (((([] ++ grp_X4 cI a0) ++ grp_X5 cI a1) ++ grp_X3 cI a2) ++ grp_X3 cI a3)) : Cw)
  refine g_aload_n M dX6_init_48 rfl ?_
  refine g_new M (ci := 3) (ty0 := tyX3) (fs := [.int 0, .int 0, .int 0, .int 0, .int 0, .int 0, .int 0, .int 0, .null, .null, .null, .null, .null, .null, .null, .null]) rfl hin_X3 tyX3_ok (tws_of (by decide +kernel) (by decide +kernel)) (tws_of (by decide +kernel) (by decide +kernel)) in_X3 df_X3 (Nat.le_of_ble_eq_true rfl) (Nat.le_of_ble_eq_true rfl) dX6_init_49 (fun q4 => ?_)
  show Φ 52 [some (.ref h0)] [.ref q4, .ref h0] ((25, 602, (h0, .inr (6, [.ref q0, .ref q1, .ref q2, .ref q3, .null, .null, .null, .null, .null, .int 0])) :: ((((([] ++ grp_X4 cI a0) ++ grp_X5 cI a1) ++ grp_X3 cI a2) ++ grp_X3 cI a3) ++ [(q4, .inr (3, [.int 0, .int 0, .int 0, .int 0, .int 0, .int 0, .int 0, .int 0, .null, .null, .null, .null, .null, .null, .null, .null]))])) : Cw)
  refine g_dup M dX6_init_52 rfl ?_
  refine g_ctor M ct_X3 (X := ((h0, .inr (6, [.ref q0, .ref q1, .ref q2, .ref q3, .null, .null, .null, .null, .null, .int 0])) :: (((([] ++ grp_X4 cI a0) ++ grp_X5 cI a1) ++ grp_X3 cI a2) ++ grp_X3 cI a3))) rfl (tws_of (List.mem_of_getElem? (i := 138) (by decide +kernel)) (by decide +kernel)) (tws_of (by decide +kernel) (by decide +kernel)) in_X3 (tws_of (by decide +kernel) (by decide +kernel)) rfl (by decide +kernel) ⟨(Nat.le_of_ble_eq_true rfl), (Nat.le_of_ble_eq_true rfl)⟩ (Nat.le_of_ble_eq_true rfl) (Nat.le_of_ble_eq_true rfl) (Nat.le_of_ble_eq_true rfl) dX6_init_53 (fun a4 ea4 => ?_)
  show Φ 56 [some (.ref h0)] [.ref q4, .ref h0] ((33, 646, (h0, .inr (6, [.ref q0, .ref q1, .ref q2, .ref q3, .null, .null, .null, .null, .null, .int 0])) :: ((((([] ++ grp_X4 cI a0) ++ grp_X5 cI a1) ++ grp_X3 cI a2) ++ grp_X3 cI a3) ++ grp_X3 cI a4)) : Cw)
  refine g_putF M trivial (q0 := 0) (ci := 6) (ty0 := tyX6) rfl rfl (k := 4) (by decide) hin_X6 tyX6_ok nmX6 fl_X6_33 rfl rfl rfl rfl (by simp) dX6_init_56 ?_
  show Φ 59 [some (.ref h0)] [] ((33, 646, (h0, .inr (6, [.ref q0, .ref q1, .ref q2, .ref q3, .ref q4, .null, .null, .null, .null, .int 0])) :: ((((([] ++ grp_X4 cI a0) ++ grp_X5 cI a1) ++ grp_X3 cI a2) ++ grp_X3 cI a3) ++ grp_X3 cI a4)) : Cw)
  refine g_aload_n M dX6_init_59 rfl ?_
  refine g_new M (ci := 3) (ty0 := tyX3) (fs := [.int 0, .int 0, .int 0, .int 0, .int 0, .int 0, .int 0, .int 0, .null, .null, .null, .null, .null, .null, .null, .null]) rfl hin_X3 tyX3_ok (tws_of (by decide +kernel) (by decide +kernel)) (tws_of (by decide +kernel) (by decide +kernel)) in_X3 df_X3 (Nat.le_of_ble_eq_true rfl) (Nat.le_of_ble_eq_true rfl) dX6_init_60 (fun q5 => ?_)
  show Φ 63 [some (.ref h0)] [.ref q5, .ref h0] ((34, 662, (h0, .inr (6, [.ref q0, .ref q1, .ref q2, .ref q3, .ref q4, .null, .null, .null, .null, .int 0])) :: (((((([] ++ grp_X4 cI a0) ++ grp_X5 cI a1) ++ grp_X3 cI a2) ++ grp_X3 cI a3) ++ grp_X3 cI a4) ++ [(q5, .inr (3, [.int 0, .int 0, .int 0, .int 0, .int 0, .int 0, .int 0, .int 0, .null, .null, .null, .null, .null, .null, .null, .null]))])) : Cw)
  refine g_dup M dX6_init_63 rfl ?_
  refine g_ctor M ct_X3 (X := ((h0, .inr (6, [.ref q0, .ref q1, .ref q2, .ref q3, .ref q4, .null, .null, .null, .null, .int 0])) :: ((((([] ++ grp_X4 cI a0) ++ grp_X5 cI a1) ++ grp_X3 cI a2) ++ grp_X3 cI a3) ++ grp_X3 cI a4))) rfl (tws_of (List.mem_of_getElem? (i := 138) (by decide +kernel)) (by decide +kernel)) (tws_of (by decide +kernel) (by decide +kernel)) in_X3 (tws_of (by decide +kernel) (by decide +kernel)) rfl (by decide +kernel) ⟨(Nat.le_of_ble_eq_true rfl), (Nat.le_of_ble_eq_true rfl)⟩ (Nat.le_of_ble_eq_true rfl) (Nat.le_of_ble_eq_true rfl) (Nat.le_of_ble_eq_true rfl) dX6_init_64 (fun a5 ea5 => ?_)
  show Φ 67 [some (.ref h0)] [.ref q5, .ref h0] ((42, 706, (h0, .inr (6, [.ref q0, .ref q1, .ref q2, .ref q3, .ref q4, .null, .null, .null, .null, .int 0])) :: (((((([] ++ grp_X4 cI a0) ++ grp_X5 cI a1) ++ grp_X3 cI a2) ++ grp_X3 cI a3) ++ grp_X3 cI a4) ++ grp_X3 cI a5)) : Cw)
  refine g_putF M trivial (q0 := 0) (ci := 6) (ty0 := tyX6) rfl rfl (k := 5) (by decide) hin_X6 tyX6_ok nmX6 fl_X6_36 rfl rfl rfl rfl (by simp) dX6_init_67 ?_
  show Φ 70 [some (.ref h0)] [] ((42, 706, (h0, .inr (6, [.ref q0, .ref q1, .ref q2, .ref q3, .ref q4, .ref q5, .null, .null, .null, .int 0])) :: (((((([] ++ grp_X4 cI a0) ++ grp_X5 cI a1) ++ grp_X3 cI a2) ++ grp_X3 cI a3) ++ grp_X3 cI a4) ++ grp_X3 cI a5)) : Cw)
  refine g_aload_n M dX6_init_70 rfl ?_
  refine g_new M (ci := 0) (ty0 := tyX0) (fs := [.null, .int 0, .int 0]) rfl hin_X0 tyX0_ok (tws_of (by decide +kernel) (by decide +kernel)) (tws_of (by decide +kernel) (by decide +kernel)) (tws_of (by decide +kernel) (by decide +kernel)) df_X0 (Nat.le_of_ble_eq_true rfl) (Nat.le_of_ble_eq_true rfl) dX6_init_71 (fun q6 => ?_)
  show Φ 74 [some (.ref h0)] [.ref q6, .ref h0] ((43, 709, (h0, .inr (6, [.ref q0, .ref q1, .ref q2, .ref q3, .ref q4, .ref q5, .null, .null, .null, .int 0])) :: ((((((([] ++ grp_X4 cI a0) ++ grp_X5 cI a1) ++ grp_X3 cI a2) ++ grp_X3 cI a3) ++ grp_X3 cI a4) ++ grp_X3 cI a5) ++ [(q6, .inr (0, [.null, .int 0, .int 0]))])) : Cw)
  refine g_dup M dX6_init_74 rfl ?_
  refine g_ctor M ct_X0 (X := ((h0, .inr (6, [.ref q0, .ref q1, .ref q2, .ref q3, .ref q4, .ref q5, .null, .null, .null, .int 0])) :: (((((([] ++ grp_X4 cI a0) ++ grp_X5 cI a1) ++ grp_X3 cI a2) ++ grp_X3 cI a3) ++ grp_X3 cI a4) ++ grp_X3 cI a5))) rfl (tws_of (List.mem_of_getElem? (i := 222) (by decide +kernel)) (by decide +kernel)) (tws_of (by decide +kernel) (by decide +kernel)) (tws_of (by decide +kernel) (by decide +kernel)) (tws_of (by decide +kernel) (by decide +kernel)) rfl (by decide +kernel) ⟨(Nat.le_of_ble_eq_true rfl), (Nat.le_of_ble_eq_true rfl)⟩ (Nat.le_of_ble_eq_true rfl) (Nat.le_of_ble_eq_true rfl) (Nat.le_of_ble_eq_true rfl) dX6_init_75 (fun a6 ea6 => ?_)
  show Φ 78 [some (.ref h0)] [.ref q6, .ref h0] ((260, 2173, (h0, .inr (6, [.ref q0, .ref q1, .ref q2, .ref q3, .ref q4, .ref q5, .null, .null, .null, .int 0])) :: ((((((([] ++ grp_X4 cI a0) ++ grp_X5 cI a1) ++ grp_X3 cI a2) ++ grp_X3 cI a3) ++ grp_X3 cI a4) ++ grp_X3 cI a5) ++ grp_X0 cI cL a6)) : Cw)
  refine g_putF M trivial (q0 := 0) (ci := 6) (ty0 := tyX6) rfl rfl (k := 6) (by decide) hin_X6 tyX6_ok nmX6 fl_X6_42 rfl rfl rfl rfl (by simp) dX6_init_78 ?_
  show Φ 81 [some (.ref h0)] [] ((260, 2173, (h0, .inr (6, [.ref q0, .ref q1, .ref q2, .ref q3, .ref q4, .ref q5, .ref q6, .null, .null, .int 0])) :: ((((((([] ++ grp_X4 cI a0) ++ grp_X5 cI a1) ++ grp_X3 cI a2) ++ grp_X3 cI a3) ++ grp_X3 cI a4) ++ grp_X3 cI a5) ++ grp_X0 cI cL a6)) : Cw)
  refine g_aload_n M dX6_init_81 rfl ?_
  refine g_new M (ci := 2) (ty0 := tyX2) (fs := [.null, .null, .null]) rfl hin_X2 tyX2_ok (tws_of (by decide +kernel) (by decide +kernel)) (tws_of (by decide +kernel) (by decide +kernel)) (tws_of (by decide +kernel) (by decide +kernel)) df_X2 (Nat.le_of_ble_eq_true rfl) (Nat.le_of_ble_eq_true rfl) dX6_init_82 (fun q7 => ?_)
  show Φ 85 [some (.ref h0)] [.ref q7, .ref h0] ((261, 2176, (h0, .inr (6, [.ref q0, .ref q1, .ref q2, .ref q3, .ref q4, .ref q5, .ref q6, .null, .null, .int 0])) :: (((((((([] ++ grp_X4 cI a0) ++ grp_X5 cI a1) ++ grp_X3 cI a2) ++ grp_X3 cI a3) ++ grp_X3 cI a4) ++ grp_X3 cI a5) ++ grp_X0 cI cL a6) ++ [(q7, .inr (2, [.null, .null, .null]))])) : Cw)
  refine g_dup M dX6_init_85 rfl ?_
  refine g_ctor M ct_X2 (X := ((h0, .inr (6, [.ref q0, .ref q1, .ref q2, .ref q3, .ref q4, .ref q5, .ref q6, .null, .null, .int 0])) :: ((((((([] ++ grp_X4 cI a0) ++ grp_X5 cI a1) ++ grp_X3 cI a2) ++ grp_X3 cI a3) ++ grp_X3 cI a4) ++ grp_X3 cI a5) ++ grp_X0 cI cL a6))) rfl (tws_of (List.mem_of_getElem? (i := 242) (by decide +kernel)) (by decide +kernel)) (tws_of (by decide +kernel) (by decide +kernel)) (tws_of (by decide +kernel) (by decide +kernel)) (tws_of (by decide +kernel) (by decide +kernel)) rfl (by decide +kernel) ⟨(Nat.le_of_ble_eq_true rfl), (Nat.le_of_ble_eq_true rfl)⟩ (Nat.le_of_ble_eq_true rfl) (Nat.le_of_ble_eq_true rfl) (Nat.le_of_ble_eq_true rfl) dX6_init_86 (fun a7 ea7 => ?_)
  show Φ 89 [some (.ref h0)] [.ref q7, .ref h0] ((272, 2248, (h0, .inr (6, [.ref q0, .ref q1, .ref q2, .ref q3, .ref q4, .ref q5, .ref q6, .null, .null, .int 0])) :: (((((((([] ++ grp_X4 cI a0) ++ grp_X5 cI a1) ++ grp_X3 cI a2) ++ grp_X3 cI a3) ++ grp_X3 cI a4) ++ grp_X3 cI a5) ++ grp_X0 cI cL a6) ++ grp_X2 cI a7)) : Cw)
  refine g_putF M trivial (q0 := 0) (ci := 6) (ty0 := tyX6) rfl rfl (k := 7) (by decide) hin_X6 tyX6_ok nmX6 fl_X6_49 rfl rfl rfl rfl (by simp) dX6_init_89 ?_
  show Φ 92 [some (.ref h0)] [] ((272, 2248, (h0, .inr (6, [.ref q0, .ref q1, .ref q2, .ref q3, .ref q4, .ref q5, .ref q6, .ref q7, .null, .int 0])) :: (((((((([] ++ grp_X4 cI a0) ++ grp_X5 cI a1) ++ grp_X3 cI a2) ++ grp_X3 cI a3) ++ grp_X3 cI a4) ++ grp_X3 cI a5) ++ grp_X0 cI cL a6) ++ grp_X2 cI a7)) : Cw)
  refine g_aload_n M dX6_init_92 rfl ?_
  refine g_new M (ci := 1) (ty0 := tyX1) (fs := [.null, .int 0, .int 0, .int 0, .int 0, .int 0]) rfl hin_X1 tyX1_ok (tws_of (by decide +kernel) (by decide +kernel)) (tws_of (by decide +kernel) (by decide +kernel)) (tws_of (by decide +kernel) (by decide +kernel)) df_X1 (Nat.le_of_ble_eq_true rfl) (Nat.le_of_ble_eq_true rfl) dX6_init_93 (fun q8 => ?_)
  show Φ 96 [some (.ref h0)] [.ref q8, .ref h0] ((273, 2254, (h0, .inr (6, [.ref q0, .ref q1, .ref q2, .ref q3, .ref q4, .ref q5, .ref q6, .ref q7, .null, .int 0])) :: ((((((((([] ++ grp_X4 cI a0) ++ grp_X5 cI a1) ++ grp_X3 cI a2) ++ grp_X3 cI a3) ++ grp_X3 cI a4) ++ grp_X3 cI a5) ++ grp_X0 cI cL a6) ++ grp_X2 cI a7) ++ [(q8, .inr (1, [.null, .int 0, .int 0, .int 0, .int 0, .int 0]))])) : Cw)
  refine g_dup M dX6_init_96 rfl ?_
  refine g_ctor M ct_X1 (X := ((h0, .inr (6, [.ref q0, .ref q1, .ref q2, .ref q3, .ref q4, .ref q5, .ref q6, .ref q7, .null, .int 0])) :: (((((((([] ++ grp_X4 cI a0) ++ grp_X5 cI a1) ++ grp_X3 cI a2) ++ grp_X3 cI a3) ++ grp_X3 cI a4) ++ grp_X3 cI a5) ++ grp_X0 cI cL a6) ++ grp_X2 cI a7))) rfl (tws_of (List.mem_of_getElem? (i := 261) (by decide +kernel)) (by decide +kernel)) (tws_of (by decide +kernel) (by decide +kernel)) (tws_of (by decide +kernel) (by decide +kernel)) (tws_of (by decide +kernel) (by decide +kernel)) rfl (by decide +kernel) ⟨(Nat.le_of_ble_eq_true rfl), (Nat.le_of_ble_eq_true rfl)⟩ (Nat.le_of_ble_eq_true rfl) (Nat.le_of_ble_eq_true rfl) (Nat.le_of_ble_eq_true rfl) dX6_init_97 (fun a8 ea8 => ?_)
  show Φ 100 [some (.ref h0)] [.ref q8, .ref h0] ((274, 2270, (h0, .inr (6, [.ref q0, .ref q1, .ref q2, .ref q3, .ref q4, .ref q5, .ref q6, .ref q7, .null, .int 0])) :: ((((((((([] ++ grp_X4 cI a0) ++ grp_X5 cI a1) ++ grp_X3 cI a2) ++ grp_X3 cI a3) ++ grp_X3 cI a4) ++ grp_X3 cI a5) ++ grp_X0 cI cL a6) ++ grp_X2 cI a7) ++ grp_X1 cI a8)) : Cw)
  refine g_putF M trivial (q0 := 0) (ci := 6) (ty0 := tyX6) rfl rfl (k := 8) (by decide) hin_X6 tyX6_ok nmX6 fl_X6_56 rfl rfl rfl rfl (by simp) dX6_init_100 ?_
  show Φ 103 [some (.ref h0)] [] ((274, 2270, (h0, .inr (6, [.ref q0, .ref q1, .ref q2, .ref q3, .ref q4, .ref q5, .ref q6, .ref q7, .ref q8, .int 0])) :: ((((((((([] ++ grp_X4 cI a0) ++ grp_X5 cI a1) ++ grp_X3 cI a2) ++ grp_X3 cI a3) ++ grp_X3 cI a4) ++ grp_X3 cI a5) ++ grp_X0 cI cL a6) ++ grp_X2 cI a7) ++ grp_X1 cI a8)) : Cw)
  refine g_aload_n M dX6_init_103 rfl ?_
  refine g_iconst (v := 0) M dX6_init_104 (by decide) ?_
  refine g_put M (q0 := 0) (ci := 6) (ty0 := tyX6) rfl rfl (k := 9) (by decide) hin_X6 tyX6_ok nmX6 fl_X6_60 rfl rfl rfl (by simp) dX6_init_105 ?_
  show Φ 108 [some (.ref h0)] [] ((274, 2270, (h0, .inr (6, [.ref q0, .ref q1, .ref q2, .ref q3, .ref q4, .ref q5, .ref q6, .ref q7, .ref q8, .int 0])) :: ((((((((([] ++ grp_X4 cI a0) ++ grp_X5 cI a1) ++ grp_X3 cI a2) ++ grp_X3 cI a3) ++ grp_X3 cI a4) ++ grp_X3 cI a5) ++ grp_X0 cI cL a6) ++ grp_X2 cI a7) ++ grp_X1 cI a8)) : Cw)
  refine g_ret M ?_ dX6_init_108
  have ea0' : a0 0 = q0 := ea0
  subst ea0'
  have ea1' : a1 0 = q1 := ea1
  subst ea1'
  have ea2' : a2 0 = q2 := ea2
  subst ea2'
  have ea3' : a3 0 = q3 := ea3
  subst ea3'
  have ea4' : a4 0 = q4 := ea4
  subst ea4'
  have ea5' : a5 0 = q5 := ea5
  subst ea5'
  have ea6' : a6 24 0 = q6 := ea6
  subst ea6'
  have ea7' : a7 0 0 = q7 := ea7
  subst ea7'
  have ea8' : a8 0 = q8 := ea8
  subst ea8'
  refine ⟨fun c => match c with | 0 => (fun _ => h0) | 1 => a0 | 2 => a1 | 3 => a6 24 | 4 => a8 | 5 => a7 0 | 6 => a2 | 7 => a3 | 8 => a4 | 9 => a5 | 10 => a7 1 | c + 11 => a6 c, rfl, ?_⟩
  have e9 : a6 = b0f (fun c => match c with | 0 => (fun _ => h0) | 1 => a0 | 2 => a1 | 3 => a6 24 | 4 => a8 | 5 => a7 0 | 6 => a2 | 7 => a3 | 8 => a4 | 9 => a5 | 10 => a7 1 | c + 11 => a6 c) := by
    funext j
    by_cases h : j = 24
    · subst h; rfl
    · simp only [b0f, h, if_false, Nat.add_comm 11 j]
  exact (congrArg (fun z => (h0, .inr (6, [.ref (a0 0), .ref (a1 0), .ref (a2 0), .ref (a3 0), .ref (a4 0), .ref (a5 0), .ref (a6 24 0), .ref (a7 0 0), .ref (a8 0), .int 0])) :: ((((((((([] ++ grp_X4 cI a0) ++ grp_X5 cI a1) ++ grp_X3 cI a2) ++ grp_X3 cI a3) ++ grp_X3 cI a4) ++ grp_X3 cI a5) ++ grp_X0 cI cL z) ++ grp_X2 cI a7) ++ grp_X1 cI a8)) e9).trans rfl
