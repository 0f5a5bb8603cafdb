theorem gen_i {P : Int32 → Prop} {E : Int32} (h : ∀ v, v = E → P v) : P E := h E rfl
def us (x y : Int32) : Int32 := (x.toUInt32 >>> (y.toUInt32 &&& Int32.toUInt32 31)).toInt32
def bc1 (v : Int32) : Int32 := v - (us v 1 &&& 1431655765)
def bc2 (v : Int32) : Int32 := (v &&& 858993459) + (us v 2 &&& 858993459)
def bc3 (v : Int32) : Int32 := (v + us v 4) &&& 252645135
def bc4 (v : Int32) : Int32 := v + us v 8
def bc5 (v : Int32) : Int32 := v + us v 16
theorem bcF : ∀ j : Fin 64, bc5 (bc4 (bc3 (bc2 (bc1 (nI j.val))))) &&& 63 = ones (nI j.val) := by decide +kernel
theorem bc_all {v v1 v2 v3 v4 v5 : Int32} (h0 : 0 ≤ v) (h1 : v < 64) (e1 : v1 = bc1 v) (e2 : v2 = bc2 v1) (e3 : v3 = bc3 v2) (e4 : v4 = bc4 v3) (e5 : v5 = bc5 v4) : v5 &&& 63 = ones v := by
  obtain ⟨j, rfl⟩ := as64 h0 h1
  rw [e5, e4, e3, e2, e1]
  exact bcF j
set_option maxRecDepth 100000 in
theorem c_J6_bitCount_0f7a4 {l : Launch} {G : Gw} {σ : Sg} {v : Int32}  (h0 : 0 ≤ v) (h1 : v < 64) : Mt l G yJ6_bitCount_0f7a4 cJ6_bitCount_0f7a4 1 (some .int) 0 0 [.int v] σ (pI fun r τ => τ = σ ∧ r = ones v) := by
  refine mt_intro (by decide +kernel) (Nat.le_of_ble_eq_true rfl) (fun Φ M => ?_)
  show Φ 0 [some (.int v)] [] σ
  refine j_iload_n M dJ6_bitCount_0f7a4_0 rfl ?_
  refine j_iload_n M dJ6_bitCount_0f7a4_1 rfl ?_
  refine j_iconst (v := 1) M dJ6_bitCount_0f7a4_2 rfl ?_
  refine j_iushr M dJ6_bitCount_0f7a4_3 rfl ?_
  refine j_ldcw M k_J6_265 dJ6_bitCount_0f7a4_4 ?_
  refine j_iand M dJ6_bitCount_0f7a4_7 ?_
  refine j_isub M dJ6_bitCount_0f7a4_8 ?_
  refine j_istore_0 M dJ6_bitCount_0f7a4_9 ?_
  refine gen_i (P := fun x => Φ _ [some (.int x)] [] σ) (fun v1 e1 => ?_)
  refine j_iload_n M dJ6_bitCount_0f7a4_10 rfl ?_
  refine j_ldcw M k_J6_266 dJ6_bitCount_0f7a4_11 ?_
  refine j_iand M dJ6_bitCount_0f7a4_14 ?_
  refine j_iload_n M dJ6_bitCount_0f7a4_15 rfl ?_
  refine j_iconst (v := 2) M dJ6_bitCount_0f7a4_16 rfl ?_
  refine j_iushr M dJ6_bitCount_0f7a4_17 rfl ?_
  refine j_ldcw M k_J6_266 dJ6_bitCount_0f7a4_18 ?_
  refine j_iand M dJ6_bitCount_0f7a4_21 ?_
  refine j_iadd M dJ6_bitCount_0f7a4_22 ?_
  refine j_istore_0 M dJ6_bitCount_0f7a4_23 ?_
  refine gen_i (P := fun x => Φ _ [some (.int x)] [] σ) (fun v2 e2 => ?_)
  refine j_iload_n M dJ6_bitCount_0f7a4_24 rfl ?_
  refine j_iload_n M dJ6_bitCount_0f7a4_25 rfl ?_
  refine j_iconst (v := 4) M dJ6_bitCount_0f7a4_26 rfl ?_
  refine j_iushr M dJ6_bitCount_0f7a4_27 rfl ?_
  refine j_iadd M dJ6_bitCount_0f7a4_28 ?_
  refine j_ldcw M k_J6_267 dJ6_bitCount_0f7a4_29 ?_
  refine j_iand M dJ6_bitCount_0f7a4_32 ?_
  refine j_istore_0 M dJ6_bitCount_0f7a4_33 ?_
  refine gen_i (P := fun x => Φ _ [some (.int x)] [] σ) (fun v3 e3 => ?_)
  refine j_iload_n M dJ6_bitCount_0f7a4_34 rfl ?_
  refine j_iload_n M dJ6_bitCount_0f7a4_35 rfl ?_
  refine j_bipush (v := 8) M dJ6_bitCount_0f7a4_36 rfl ?_
  refine j_iushr M dJ6_bitCount_0f7a4_38 rfl ?_
  refine j_iadd M dJ6_bitCount_0f7a4_39 ?_
  refine j_istore_0 M dJ6_bitCount_0f7a4_40 ?_
  refine gen_i (P := fun x => Φ _ [some (.int x)] [] σ) (fun v4 e4 => ?_)
  refine j_iload_n M dJ6_bitCount_0f7a4_41 rfl ?_
  refine j_iload_n M dJ6_bitCount_0f7a4_42 rfl ?_
  refine j_bipush (v := 16) M dJ6_bitCount_0f7a4_43 rfl ?_
  refine j_iushr M dJ6_bitCount_0f7a4_45 rfl ?_
  refine j_iadd M dJ6_bitCount_0f7a4_46 ?_
  refine j_istore_0 M dJ6_bitCount_0f7a4_47 ?_
  refine gen_i (P := fun x => Φ _ [some (.int x)] [] σ) (fun v5 e5 => ?_)
  refine j_iload_n M dJ6_bitCount_0f7a4_48 rfl ?_
  refine j_bipush (v := 63) M dJ6_bitCount_0f7a4_49 rfl ?_
  refine j_iand M dJ6_bitCount_0f7a4_51 ?_
  exact j_iret M dJ6_bitCount_0f7a4_52 ⟨_, rfl, by (try dsimp only); exact ⟨rfl, bc_all h0 h1 e1 e2 e3 e4 e5⟩⟩
set_option maxRecDepth 100000 in
theorem c_X2_behind {l : Launch} {G : Gw} {σ : Sg} {d : Nat} (hd : isLib d) {n : Int32} {s : St} (hL : LibF (σ d) s) (hW : WF s) (hd10 : d ≠ 10) (hn : 0 ≤ n) : Mt l G yX2_behind cX2_behind 3 (some (.object RX3)) 5 116 [.ref (ad G 5 0), .ref (ad G d 0), .int n] σ (pR fun v τ => v = ad G 10 0 ∧ LibF (τ 10) (gon (s, fun _ => 0) n).1 ∧ HolF (τ 10 8) (gon (s, fun _ => 0) n).2 ∧ frm σ τ 10 [0, 1, 2, 3, 4, 5, 6, 7, 8]) := by
  refine mt_intro (by decide +kernel) (Nat.le_of_ble_eq_true rfl) (fun Φ M => ?_)
  show Φ 0 [some (.ref (ad G 5 0)), some (.ref (ad G d 0)), some (.int n)] [] σ
  refine j_aload_n M dX2_behind_0 rfl ?_
  refine gf_X2_12 M dX2_behind_1 ?_
  refine j_aload_n M dX2_behind_4 rfl ?_
  refine j_inv1 M lk_X2_25 (c_X3_take lib_then hd ((Ne.symm hd10))) (rv_X3 lib_then) dX2_behind_5 (Nat.le_of_ble_eq_true rfl) ⟨(Nat.le_of_ble_eq_true rfl), (Nat.le_of_ble_eq_true rfl)⟩ (kV fun σ_5 q_5 => ?_)
  obtain ⟨t1, t2, t3⟩ := q_5
  have t4 := t1 s hW.z hL
  refine j_aload_n M dX2_behind_8 rfl ?_
  refine gf_X2_12 M dX2_behind_9 ?_
  refine j_iload_n M dX2_behind_12 rfl ?_
  refine j_inv1 M lk_X2_29 (c_X3_passNights lib_then (t4) (hW) (t2) (hn)) (rv_X3 lib_then) dX2_behind_13 (Nat.le_of_ble_eq_true rfl) ⟨(Nat.le_of_ble_eq_true rfl), (Nat.le_of_ble_eq_true rfl)⟩ (kV fun σ_13 q_13 => ?_)
  obtain ⟨g1, g2, g3⟩ := q_13
  refine j_aload_n M dX2_behind_16 rfl ?_
  refine gf_X2_12 M dX2_behind_17 ?_
  exact j_aret M dX2_behind_20 ⟨_, rfl, by (try dsimp only); exact ⟨rfl, g1, g2, frm_trans t3 (frm_mono g3 (by decide))⟩⟩
set_option maxRecDepth 100000 in
theorem c_X2_pagesIfLit {l : Launch} {G : Gw} {σ : Sg} {d : Nat} (hd : isLib d) {m : Int32} {b : Int32} {n : Int32} {s : St} (hL : LibF (σ d) s) (hW : WF s) (hd10 : d ≠ 10) (hn : 0 ≤ n) (m0 : 0 ≤ m) (m6 : m < 64) (b0 : 0 ≤ b) (b1 : b < s 0) : Mt l G yX2_pagesIfLit cX2_pagesIfLit 5 (some .int) 5 116 [.ref (ad G 5 0), .ref (ad G d 0), .int m, .int b, .int n] σ (pI fun r τ => r = gS (upI s 5 m) n (8 + b) ∧ frm σ τ 10 [0, 1, 2, 3, 4, 5, 6, 7, 8]) := by
  refine mt_intro (by decide +kernel) (Nat.le_of_ble_eq_true rfl) (fun Φ M => ?_)
  show Φ 0 [some (.ref (ad G 5 0)), some (.ref (ad G d 0)), some (.int m), some (.int b), some (.int n)] [] σ
  refine j_aload_n M dX2_pagesIfLit_0 rfl ?_
  refine gf_X2_12 M dX2_pagesIfLit_1 ?_
  refine j_aload_n M dX2_pagesIfLit_4 rfl ?_
  refine j_inv1 M lk_X2_25 (c_X3_take lib_then hd ((Ne.symm hd10))) (rv_X3 lib_then) dX2_pagesIfLit_5 (Nat.le_of_ble_eq_true rfl) ⟨(Nat.le_of_ble_eq_true rfl), (Nat.le_of_ble_eq_true rfl)⟩ (kV fun σ_5 q_5 => ?_)
  obtain ⟨t1, t2, t3⟩ := q_5
  have t4 := t1 s hW.z hL
  have w2 := hW.li m0 m6
  refine j_aload_n M dX2_pagesIfLit_8 rfl ?_
  refine gf_X2_12 M dX2_pagesIfLit_9 ?_
  refine j_iload_n M dX2_pagesIfLit_12 rfl ?_
  refine pf_X2_72 M lib_then dX2_pagesIfLit_13 ?_
  refine j_aload_n M dX2_pagesIfLit_16 rfl ?_
  refine gf_X2_12 M dX2_pagesIfLit_17 ?_
  refine j_iload M dX2_pagesIfLit_20 rfl ?_
  refine j_inv1 M lk_X2_29 (c_X3_passNights lib_then ((by rw [up_at]; exact LibF_w (k := 5) t4 (by omega) hW.z)) (w2) ((by rw [up_ne _ _ (by decide)]; exact t2)) (hn)) (rv_X3 lib_then) dX2_pagesIfLit_22 (Nat.le_of_ble_eq_true rfl) ⟨(Nat.le_of_ble_eq_true rfl), (Nat.le_of_ble_eq_true rfl)⟩ (kV fun σ_22 q_22 => ?_)
  obtain ⟨g1, g2, g3⟩ := q_22
  have gw := gon_WF (p := (upI s 5 m, fun _ => 0)) w2 n
  refine j_aload_n M dX2_pagesIfLit_25 rfl ?_
  refine gf_X2_12 M dX2_pagesIfLit_26 ?_
  refine gf_X2_75 M lib_then dX2_pagesIfLit_29 ?_
  refine j_iload_n M dX2_pagesIfLit_32 rfl ?_
  refine al_L_1 M lib_then dX2_pagesIfLit_33 (by first | assumption | decide | exact hW.b6 b1) (by first | assumption | decide | exact hW.b6 b1) ?_
  exact j_iret M dX2_pagesIfLit_34 ⟨_, rfl, by (try dsimp only); exact ⟨(g1.2.1 b b0 (by rw [gw.2.1]; exact b1)).1, frm_trans (frm_up t3 (by decide)) (frm_mono g3 (by decide))⟩⟩
