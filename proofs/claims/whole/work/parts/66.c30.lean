set_option maxRecDepth 100000 in
theorem c_X2_nightsTillEmpty {l : Launch} {G : Gw} {σ : Sg} {d : Nat} (hd : isLib d) {m : Int32} {s : St} (hL : LibF (σ d) s) (hW : WF s) (hd10 : d ≠ 10) : Mt l G yX2_nightsTillEmpty cX2_nightsTillEmpty 4 (some .int) 4 94 [.ref (ad G 5 0), .ref (ad G d 0), .int m] σ (pI fun r τ => isFirst (fun n => m &&& (fullM (gS s n) (s 0) ^^^ (-1)) ≠ 0) r ∧ (¬ r = -1000000 → LibF (τ 10) (gS s r)) ∧ frm σ τ 10 [0, 1, 2, 3, 4, 5, 6, 7, 8]) := by
  refine mt_intro (by decide +kernel) (Nat.le_of_ble_eq_true rfl) (fun Φ M => ?_)
  show Φ 0 [some (.ref (ad G 5 0)), some (.ref (ad G d 0)), some (.int m), none] [] σ
  have lp : ∀ i : Int32, 0 ≤ i → ∀ τ : Sg, i ≤ 61 → LibF (τ 10) (gon (s, fun _ => 0) i).1 → HolF (τ 10 8) (gon (s, fun _ => 0) i).2 → frm σ τ 10 [0, 1, 2, 3, 4, 5, 6, 7, 8] → (∀ k, 0 ≤ k → k < i → ¬ (m &&& (fullM (gS s k) (s 0) ^^^ (-1)) ≠ 0)) → Φ 10 [some (.ref (ad G 5 0)), some (.ref (ad G d 0)), some (.int m), some (.int i)] [] τ := by
    refine loop_up 61 (fun i hi ih τ hle hQ hH2 hfr hno => ?_)
    have wq := gon_WF (p := (s, fun _ => 0)) hW i
    refine j_iload_n M dX2_nightsTillEmpty_10 rfl ?_
    refine j_bipush (v := 60) M dX2_nightsTillEmpty_11 rfl ?_
    refine j_icmp_gt (tgt := 45) M dX2_nightsTillEmpty_13 (by decide) (fun h_13 => ?_) (fun h_13 => ?_)
    · refine j_ldc M k_X2_40 dX2_nightsTillEmpty_45 ?_
      exact j_iret M dX2_nightsTillEmpty_47 ⟨_, rfl, by (try dsimp only); exact ⟨Or.inr ⟨rfl, fun k k0 k1 => hno k k0 (Int32.lt_of_le_of_lt k1 h_13)⟩, fun q => absurd rfl q, hfr⟩⟩
    · have i61 : i < 61 := Int32.lt_of_le_of_lt (Int32.not_lt.mp h_13) (by decide)
      refine j_iload_n M dX2_nightsTillEmpty_16 rfl ?_
      refine j_aload_n M dX2_nightsTillEmpty_17 rfl ?_
      refine gf_X2_12 M dX2_nightsTillEmpty_18 ?_
      refine j_inv0 M lk_X2_33 (c_X3_booksWithPages lib_then (hQ) (wq.1.z)) (rv_X3 lib_then) dX2_nightsTillEmpty_21 (Nat.le_of_ble_eq_true rfl) ⟨(Nat.le_of_ble_eq_true rfl), (Nat.le_of_ble_eq_true rfl)⟩ (kE ?_)
      rw [wq.2.1]
      refine j_iconst (v := (-1)) M dX2_nightsTillEmpty_24 rfl ?_
      refine j_ixor M dX2_nightsTillEmpty_25 ?_
      refine j_iand M dX2_nightsTillEmpty_26 ?_
      refine j_if_eq (tgt := 32) M dX2_nightsTillEmpty_27 (by decide) (fun h_27 => ?_) (fun h_27 => ?_)
      · refine j_aload_n M dX2_nightsTillEmpty_32 rfl ?_
        refine gf_X2_12 M dX2_nightsTillEmpty_33 ?_
        refine j_inv0 M lk_X2_37 (c_X3_passNight lib_then (hQ) (wq.1) (hH2)) (rv_X3 lib_then) dX2_nightsTillEmpty_36 (Nat.le_of_ble_eq_true rfl) ⟨(Nat.le_of_ble_eq_true rfl), (Nat.le_of_ble_eq_true rfl)⟩ (kV fun σ_36 q_36 => ?_)
        obtain ⟨q1, q2, q3⟩ := q_36
        refine j_iinc_3 M dX2_nightsTillEmpty_39 (show _ + Int32.ofInt 1 = _ + 1 from rfl) (by exact (by first | trivial | rfl)) ?_
        refine j_goto (tgt := 10) M dX2_nightsTillEmpty_42 (by decide) ?_
        refine ih i61 _ (inc_lt hi i61).2.1 (by rw [gon_s hi i61]; exact q1) (by rw [gon_s hi i61]; exact q2) (frm_trans hfr (frm_mono q3 (by decide))) (fun k k0 k1 => ?_)
        by_cases e : k = i
        · rw [e]; exact fun q => q h_27
        · exact hno k k0 (lt_of_inc hi i61 k1 e)
      · refine j_iload_n M dX2_nightsTillEmpty_30 rfl ?_
        exact j_iret M dX2_nightsTillEmpty_31 ⟨_, rfl, by (try dsimp only); exact ⟨Or.inl ⟨hi, Int32.not_lt.mp h_13, h_27, hno⟩, fun _ => hQ, hfr⟩⟩
  refine j_aload_n M dX2_nightsTillEmpty_0 rfl ?_
  refine gf_X2_12 M dX2_nightsTillEmpty_1 ?_
  refine j_aload_n M dX2_nightsTillEmpty_4 rfl ?_
  refine j_inv1 M lk_X2_25 (c_X3_take lib_then hd ((Ne.symm hd10))) (rv_X3 lib_then) dX2_nightsTillEmpty_5 (Nat.le_of_ble_eq_true rfl) ⟨(Nat.le_of_ble_eq_true rfl), (Nat.le_of_ble_eq_true rfl)⟩ (kV fun σ_5 q_5 => ?_)
  obtain ⟨t1, t2, t3⟩ := q_5
  have t4 := t1 s hW.z hL
  refine j_iconst (v := 0) M dX2_nightsTillEmpty_8 rfl ?_
  refine j_istore_3 M dX2_nightsTillEmpty_9 (by exact (by first | trivial | rfl)) ?_
  exact lp 0 (by decide) _ (by decide) t4 t2 t3 (fun k k0 k1 => absurd (Int32.lt_of_le_of_lt k0 k1) (by decide))
