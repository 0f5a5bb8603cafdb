set_option maxRecDepth 100000 in
theorem c_X2_emptyOneOf {l : Launch} {G : Gw} {σ : Sg} {m : Int32} {s : St} (hL : LibF (σ 10) s) (hW : WF0 s) : Mt l G yX2_emptyOneOf cX2_emptyOneOf 4 (some .int) 1 22 [.ref (ad G 5 0), .int m] σ (pI fun r τ => τ = σ ∧ r = if leastR (m &&& (fullM s (s 0) ^^^ (-1))) < 6 then leastR (m &&& (fullM s (s 0) ^^^ (-1))) else -1000000) := by
  refine mt_intro (by decide +kernel) (Nat.le_of_ble_eq_true rfl) (fun Φ M => ?_)
  show Φ 0 [some (.ref (ad G 5 0)), some (.int m), none, none] [] σ
  have lp : ∀ i : Int32, 0 ≤ i → ∀ (e : Int32), e = m &&& (fullM s (s 0) ^^^ (-1)) → i ≤ 6 → i ≤ leastR e → Φ 14 [some (.ref (ad G 5 0)), some (.int m), some (.int e), some (.int i)] [] σ := by
    refine loop_up 6 (fun i hi ih e he hle hl => ?_)
    refine j_iload_n M dX2_emptyOneOf_14 rfl ?_
    refine j_bipush (v := 6) M dX2_emptyOneOf_15 rfl ?_
    refine j_icmp_ge (tgt := 36) M dX2_emptyOneOf_17 (by decide) (fun h_17 => ?_) (fun h_17 => ?_)
    · refine j_ldc M k_X2_40 dX2_emptyOneOf_36 ?_
      exact j_iret M dX2_emptyOneOf_38 ⟨_, rfl, by (try dsimp only); exact ⟨rfl, by rw [← he, if_neg (fun q => h_17 (Int32.lt_of_le_of_lt hl q))]⟩⟩
    · refine j_iload_n M dX2_emptyOneOf_20 rfl ?_
      refine j_iload_n M dX2_emptyOneOf_21 rfl ?_
      refine j_ishr M dX2_emptyOneOf_22 ?_
      refine j_iconst (v := 1) M dX2_emptyOneOf_23 rfl ?_
      refine j_iand M dX2_emptyOneOf_24 ?_
      refine j_if_eq (tgt := 30) M dX2_emptyOneOf_25 (by decide) (fun h_25 => ?_) (fun h_25 => ?_)
      · refine j_iinc_3 M dX2_emptyOneOf_30 (show _ + Int32.ofInt 1 = _ + 1 from rfl) (by exact (by first | trivial | rfl)) ?_
        refine j_goto (tgt := 14) M dX2_emptyOneOf_33 (by decide) ?_
        exact ih h_17 _ he (inc_lt hi h_17).2.1 (least_step hi h_17 hl h_25)
      · refine j_iload_n M dX2_emptyOneOf_28 rfl ?_
        exact j_iret M dX2_emptyOneOf_29 ⟨_, rfl, by (try dsimp only); exact ⟨rfl, by rw [← he]; have q := least_here hi h_17 hl ((bt1 _ _).mpr h_25); rw [← q, if_pos h_17]⟩⟩
  refine j_iload_n M dX2_emptyOneOf_0 rfl ?_
  refine j_aload_n M dX2_emptyOneOf_1 rfl ?_
  refine gf_X2_12 M dX2_emptyOneOf_2 ?_
  refine j_inv0 M lk_X2_33 (c_X3_booksWithPages lib_then (hL) (hW)) (rv_X3 lib_then) dX2_emptyOneOf_5 (Nat.le_of_ble_eq_true rfl) ⟨(Nat.le_of_ble_eq_true rfl), (Nat.le_of_ble_eq_true rfl)⟩ (kE ?_)
  refine j_iconst (v := (-1)) M dX2_emptyOneOf_8 rfl ?_
  refine j_ixor M dX2_emptyOneOf_9 ?_
  refine j_iand M dX2_emptyOneOf_10 ?_
  refine j_istore_2 M dX2_emptyOneOf_11 (by exact (by first | trivial | rfl)) ?_
  refine j_iconst (v := 0) M dX2_emptyOneOf_12 rfl ?_
  refine j_istore_3 M dX2_emptyOneOf_13 (by exact (by first | trivial | rfl)) ?_
  exact lp 0 (by decide) _ rfl (by decide) (least_rng _).1
