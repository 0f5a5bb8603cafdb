theorem lw_more {L k : Nat} (hL : L ≤ 448) (h : ¬ nI L - 7 < nI (7 * k)) (hk : k ≤ L / 7) : k < L / 7 := by
  by_cases e : 7 ≤ L
  · have e2 : nI L - 7 = nI (L - 7) := by
      have := cancel_l (nI 7) (nI (L - 7))
      rw [nI_add, show 7 + (L - 7) = L by omega] at this
      exact this
    rw [e2] at h
    have := (nI_leI (by omega) (by omega)).mp (Int32.not_lt.mp h)
    omega
  · have k0 : k = 0 := by omega
    subst k0
    exfalso
    apply h
    obtain ⟨d, hd⟩ : ∃ d, L + d = 6 := ⟨6 - L, by omega⟩
    rcases (by omega : L = 0 ∨ L = 1 ∨ L = 2 ∨ L = 3 ∨ L = 4 ∨ L = 5 ∨ L = 6) with rfl | rfl | rfl | rfl | rfl | rfl | rfl <;> decide
set_option maxRecDepth 100000 in
theorem lw_loop {l : Launch} {G : Gw} {Φ : Ph} {b L : Nat} {xs : Nat → Int32} (MX : MachX l G 8 198 (fun v _ => v = some (.int 1)) Φ b L xs) (hL : L ≤ 448) : ∀ k, k ≤ L / 7 → ∀ σ : Sg, Rel σ → Φ 18 [some (.ref b), some (.ref (ad G 0 0)), some (.ref (ad G 40 0)), some (.int (nI (7 * k)))] [] σ := by
  have M := MX.m
  refine loop_upN (L / 7) (fun k hk jh σ hR => ?_)
  have back : k < L / 7 → ∀ τ : Sg, Rel τ → Φ 1514 [some (.ref b), some (.ref (ad G 0 0)), some (.ref (ad G 40 0)), some (.int (nI (7 * k)))] [] τ := by
    intro hk2 τ hR2
    refine j_iinc_3 M dL_law_1514 (show _ + Int32.ofInt 7 = _ + 7 from rfl) (by exact (by first | trivial | rfl)) ?_
    refine j_goto (tgt := 18) M dL_law_1517 (by decide) ?_
    have q := jh hk2 τ hR2
    rw [show 7 * (k + 1) = 7 * k + 7 by omega, ← nI_add] at q
    exact q
  refine j_iload_n M dL_law_18 rfl ?_
  refine j_aload_n M dL_law_19 rfl ?_
  refine j_slen MX dL_law_20 ?_
  refine j_bipush (v := 7) M dL_law_21 rfl ?_
  refine j_isub M dL_law_23 ?_
  refine j_icmp_gt (tgt := 1520) M dL_law_24 (by decide) (fun h_24 => ?_) (fun h_24 => ?_)
  · refine j_iconst (v := 1) M dL_law_1520 rfl ?_
    exact j_zret M dL_law_1521 (Or.inr rfl) rfl
  · have klt := lw_more hL h_24 hk
    have hb : ∀ j : Nat, j < 7 → 0 ≤ nI (7 * k) + nI j ∧ nI (7 * k) + nI j < nI L := fun j hj => by
      rw [nI_add]
      exact ⟨nI_pos' (by omega), (nI_ltI (by omega) (by omega)).mpr (by omega)⟩
    have b63 : 0 ≤ nI (7 * k) := nI_pos' (by omega)
    have d63 : nI (7 * k) < nI L := (nI_ltI (by omega) (by omega)).mpr (by omega)
    have hL2 : L < 2147483648 := by omega
    refine j_aload_n M dL_law_27 rfl ?_
    refine j_iload_n M dL_law_28 rfl ?_
    refine j_sld MX hL2 dL_law_29 b63 d63 ?_
    refine j_bipush (v := 63) M dL_law_30 rfl ?_
    refine j_iand M dL_law_32 ?_
    refine j_tab39 (t0 := 204) (t1 := 247) (t2 := 290) (t3 := 353) (t4 := 376) (t5 := 399) (t6 := 412) (t7 := 425) (t8 := 438) (t9 := 461) (t10 := 494) (t11 := 527) (t12 := 560) (t13 := 593) (t14 := 616) (t15 := 649) (t16 := 682) (t17 := 705) (t18 := 748) (t19 := 791) (t20 := 814) (t21 := 837) (t22 := 870) (t23 := 913) (t24 := 956) (t25 := 999) (t26 := 1032) (t27 := 1107) (t28 := 1170) (t29 := 1223) (t30 := 1277) (t31 := 1320) (t32 := 1343) (t33 := 1366) (t34 := 1389) (t35 := 1422) (t36 := 1455) (t37 := 1478) (t38 := 1501) (td := 1514) M dL_law_33 (by decide) (by decide) (by decide) (by decide) (by decide) (by decide) (by decide) (by decide) (by decide) (by decide) (by decide) (by decide) (by decide) (by decide) (by decide) (by decide) (by decide) (by decide) (by decide) (by decide) (by decide) (by decide) (by decide) (by decide) (by decide) (by decide) (by decide) (by decide) (by decide) (by decide) (by decide) (by decide) (by decide) (by decide) (by decide) (by decide) (by decide) (by decide) (by decide) (by decide) (fun h_33 => ?_) (fun h_33 => ?_) (fun h_33 => ?_) (fun h_33 => ?_) (fun h_33 => ?_) (fun h_33 => ?_) (fun h_33 => ?_) (fun h_33 => ?_) (fun h_33 => ?_) (fun h_33 => ?_) (fun h_33 => ?_) (fun h_33 => ?_) (fun h_33 => ?_) (fun h_33 => ?_) (fun h_33 => ?_) (fun h_33 => ?_) (fun h_33 => ?_) (fun h_33 => ?_) (fun h_33 => ?_) (fun h_33 => ?_) (fun h_33 => ?_) (fun h_33 => ?_) (fun h_33 => ?_) (fun h_33 => ?_) (fun h_33 => ?_) (fun h_33 => ?_) (fun h_33 => ?_) (fun h_33 => ?_) (fun h_33 => ?_) (fun h_33 => ?_) (fun h_33 => ?_) (fun h_33 => ?_) (fun h_33 => ?_) (fun h_33 => ?_) (fun h_33 => ?_) (fun h_33 => ?_) (fun h_33 => ?_) (fun h_33 => ?_) (fun h_33 => ?_) (fun h_33 => ?_)
    · exact lw_row MX (by omega) hR hb (back klt)
    · exact lw_set MX (by omega) hR hb (back klt)
    · exact lw_copy MX (by omega) hR hb (back klt)
    · exact lw_drop MX (by omega) hR hb (back klt)
    · exact lw_feed MX (by omega) hR hb (back klt)
    · exact lw_library MX (by omega) hR hb (back klt)
    · exact lw_fault MX (by omega) hR hb (back klt)
    · exact lw_undo MX (by omega) hR hb (back klt)
    · exact lw_nights MX (by omega) hR hb (back klt)
    · exact lw_light MX (by omega) hR hb (back klt)
    · exact lw_keepIt MX (by omega) hR hb (back klt)
    · exact lw_change MX (by omega) hR hb (back klt)
    · exact lw_move MX (by omega) hR hb (back klt)
    · exact lw_catchIt MX (by omega) hR hb (back klt)
    · exact lw_book MX (by omega) hR hb (back klt)
    · exact lw_fish MX (by omega) hR hb (back klt)
    · exact lw_stand MX (by omega) hR hb (back klt)
    · exact lw_ahead MX (by omega) hR hb (back klt)
    · exact lw_later MX (by omega) hR hb (back klt)
    · exact lw_when MX (by omega) hR hb (back klt)
    · exact lw_first MX (by omega) hR hb (back klt)
    · exact lw_hole MX (by omega) hR hb (back klt)
    · exact lw_order MX (by omega) hR hb (back klt)
    · exact lw_lamp MX (by omega) hR hb (back klt)
    · exact lw_caught MX (by omega) hR hb (back klt)
    · exact lw_grams MX (by omega) hR hb (back klt)
    · exact lw_who MX (by omega) hR hb (back klt)
    · exact lw_paste MX (by omega) hR hb (back klt)
    · exact lw_hungers MX (by omega) hR hb (back klt)
    · exact lw_dark MX (by omega) hR hb (back klt)
    · exact lw_drawn MX (by omega) hR hb (back klt)
    · exact lw_image MX (by omega) hR hb (back klt)
    · exact lw_restore MX (by omega) hR hb (back klt)
    · exact lw_kind MX (by omega) hR hb (back klt)
    · exact lw_as MX (by omega) hR hb (back klt)
    · exact lw_ask MX (by omega) hR hb (back klt)
    · exact lw_trace MX (by omega) hR hb (back klt)
    · exact lw_count MX (by omega) hR hb (back klt)
    · exact lw_status MX (by omega) hR hb (back klt)
    · exact back klt σ hR
