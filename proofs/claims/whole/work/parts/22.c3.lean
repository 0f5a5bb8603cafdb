set_option maxRecDepth 100000 in
theorem c_X7_ones {l : Launch} {G : Gw} {σ : Sg} {s : Int32}  (h0 : 0 ≤ s) (h1 : s < 64) : Mt l G yX7_ones cX7_ones 3 (some .int) 0 0 [.int s] σ (pI fun r τ => τ = σ ∧ r = ones s) := by
  refine mt_intro (by decide +kernel) (Nat.le_of_ble_eq_true rfl) (fun Φ M => ?_)
  show Φ 0 [some (.int s), none, none] [] σ
  have lp : ∀ q : Int32, 0 ≤ q → ∀ n : Int32, q < 64 → n + ones q = ones s → Φ 4 [some (.int s), some (.int n), some (.int q)] [] σ := by
    refine loop_dn (fun q hq ih n q6 he => ?_)
    refine j_iload_n M dX7_ones_4 rfl ?_
    refine j_if_eq (tgt := 20) M dX7_ones_5 (by decide) (fun h_5 => ?_) (fun h_5 => ?_)
    · refine j_iload_n M dX7_ones_20 rfl ?_
      exact j_iret M dX7_ones_21 ⟨_, rfl, by subst h_5; rw [ones_0] at he; grind⟩
    · have k4 := ones_rng' hq q6 h_5
      refine j_iinc_1 M dX7_ones_8 (show _ + Int32.ofInt 1 = _ + 1 from rfl) (by exact (by first | trivial | rfl)) ?_
      refine j_iload_n M dX7_ones_11 rfl ?_
      refine j_iload_n M dX7_ones_12 rfl ?_
      refine j_iconst (v := 1) M dX7_ones_13 rfl ?_
      refine j_isub M dX7_ones_14 ?_
      refine j_iand M dX7_ones_15 ?_
      refine j_istore_2 M dX7_ones_16 (by exact (by first | trivial | rfl)) ?_
      refine j_goto (tgt := 4) M dX7_ones_17 (by decide) ?_
      exact ih _ k4.2.1 k4.2.2 _ (Int32.lt_trans k4.2.2 q6) (by grind)
  refine j_iconst (v := 0) M dX7_ones_0 rfl ?_
  refine j_istore_1 M dX7_ones_1 (by exact (by first | trivial | rfl)) ?_
  refine j_iload_n M dX7_ones_2 rfl ?_
  refine j_istore_2 M dX7_ones_3 (by exact (by first | trivial | rfl)) ?_
  exact lp s h0 0 h1 (by grind)
set_option maxRecDepth 100000 in
theorem c_X7_likes {l : Launch} {G : Gw} {σ : Sg} {f : Int32} {b : Int32}  (f0 : 0 ≤ f) (f5 : f < 5) (b0 : 0 ≤ b) (b6 : b < 6) : Mt l G yX7_likes cX7_likes 5 (some .int) 0 0 [.ref (ad G 40 0), .int f, .int b] σ (pI fun r τ => τ = σ ∧ r = likes (σ 40 4) f b) := by
  refine mt_intro (by decide +kernel) (Nat.le_of_ble_eq_true rfl) (fun Φ M => ?_)
  show Φ 0 [some (.ref (ad G 40 0)), some (.int f), some (.int b), none, none] [] σ
  obtain ⟨⟨⟨_, _⟩, ⟨_, _⟩⟩, ⟨_, _⟩⟩ := ixS b0 b6
  obtain ⟨⟨⟨_, _⟩, ⟨_, _⟩⟩, ⟨_, _⟩⟩ := ixT f0 f5
  refine j_aload_n M dX7_likes_0 rfl ?_
  refine gf_X7_19 M dX7_likes_1 ?_
  refine j_bipush (v := 20) M dX7_likes_4 rfl ?_
  refine j_iload_n M dX7_likes_6 rfl ?_
  refine j_iadd M dX7_likes_7 ?_
  refine al_40_4 M dX7_likes_8 (by first | assumption | decide) (by first | assumption | decide) ?_
  refine j_aload_n M dX7_likes_9 rfl ?_
  refine gf_X7_19 M dX7_likes_10 ?_
  refine j_bipush (v := 31) M dX7_likes_13 rfl ?_
  refine j_iload_n M dX7_likes_15 rfl ?_
  refine j_iadd M dX7_likes_16 ?_
  refine al_40_4 M dX7_likes_17 (by first | assumption | decide) (by first | assumption | decide) ?_
  refine j_isub M dX7_likes_18 ?_
  refine j_istore_3 M dX7_likes_19 (by exact (by first | trivial | rfl)) ?_
  refine j_aload_n M dX7_likes_20 rfl ?_
  refine gf_X7_19 M dX7_likes_21 ?_
  refine j_bipush (v := 26) M dX7_likes_24 rfl ?_
  refine j_iload_n M dX7_likes_26 rfl ?_
  refine j_iadd M dX7_likes_27 ?_
  refine al_40_4 M dX7_likes_28 (by first | assumption | decide) (by first | assumption | decide) ?_
  refine j_iconst (v := 2) M dX7_likes_29 rfl ?_
  refine j_icmp_ne (tgt := 47) M dX7_likes_30 (by decide) (fun h_30 => ?_) (fun h_30 => ?_)
  · refine j_aload_n M dX7_likes_47 rfl ?_
    refine gf_X7_19 M dX7_likes_48 ?_
    refine j_bipush (v := 14) M dX7_likes_51 rfl ?_
    refine j_iload_n M dX7_likes_53 rfl ?_
    refine j_iadd M dX7_likes_54 ?_
    refine al_40_4 M dX7_likes_55 (by first | assumption | decide) (by first | assumption | decide) ?_
    refine j_istore_4 M dX7_likes_56 (by exact (by first | trivial | rfl)) ?_
    refine j_iload M dX7_likes_58 rfl ?_
    refine j_aload_n M dX7_likes_60 rfl ?_
    refine gf_X7_19 M dX7_likes_61 ?_
    refine j_bipush (v := 8) M dX7_likes_64 rfl ?_
    refine j_iload_n M dX7_likes_66 rfl ?_
    refine j_iadd M dX7_likes_67 ?_
    refine al_40_4 M dX7_likes_68 (by first | assumption | decide) (by first | assumption | decide) ?_
    refine j_bipush (v := 10) M dX7_likes_69 rfl ?_
    refine j_idiv M dX7_likes_71 (by first | decide | assumption | grind) ?_
    refine j_iadd M dX7_likes_72 ?_
    refine j_iload_n M dX7_likes_73 rfl ?_
    refine j_if_ge (tgt := 82) M dX7_likes_74 (by decide) (fun h_74 => ?_) (fun h_74 => ?_)
    · refine j_iload_n M dX7_likes_82 rfl ?_
      refine j_isub M dX7_likes_83 ?_
      exact j_iret M dX7_likes_84 ⟨_, rfl, by refine ⟨rfl, ?_⟩; simp [likes, h_30, h_74]⟩
    · refine j_iload_n M dX7_likes_77 rfl ?_
      refine j_ineg M dX7_likes_78 ?_
      refine j_goto (tgt := 83) M dX7_likes_79 (by decide) ?_
      refine j_isub M dX7_likes_83 ?_
      exact j_iret M dX7_likes_84 ⟨_, rfl, by refine ⟨rfl, ?_⟩; simp [likes, h_30, h_74]⟩
  · refine j_iconst (v := 2) M dX7_likes_33 rfl ?_
    refine j_aload_n M dX7_likes_34 rfl ?_
    refine gf_X7_19 M dX7_likes_35 ?_
    refine j_bipush (v := 14) M dX7_likes_38 rfl ?_
    refine j_iload_n M dX7_likes_40 rfl ?_
    refine j_iadd M dX7_likes_41 ?_
    refine al_40_4 M dX7_likes_42 (by first | assumption | decide) (by first | assumption | decide) ?_
    refine j_imul M dX7_likes_43 ?_
    refine j_goto (tgt := 56) M dX7_likes_44 (by decide) ?_
    refine j_istore_4 M dX7_likes_56 (by exact (by first | trivial | rfl)) ?_
    refine j_iload M dX7_likes_58 rfl ?_
    refine j_aload_n M dX7_likes_60 rfl ?_
    refine gf_X7_19 M dX7_likes_61 ?_
    refine j_bipush (v := 8) M dX7_likes_64 rfl ?_
    refine j_iload_n M dX7_likes_66 rfl ?_
    refine j_iadd M dX7_likes_67 ?_
    refine al_40_4 M dX7_likes_68 (by first | assumption | decide) (by first | assumption | decide) ?_
    refine j_bipush (v := 10) M dX7_likes_69 rfl ?_
    refine j_idiv M dX7_likes_71 (by first | decide | assumption | grind) ?_
    refine j_iadd M dX7_likes_72 ?_
    refine j_iload_n M dX7_likes_73 rfl ?_
    refine j_if_ge (tgt := 82) M dX7_likes_74 (by decide) (fun h_74 => ?_) (fun h_74 => ?_)
    · refine j_iload_n M dX7_likes_82 rfl ?_
      refine j_isub M dX7_likes_83 ?_
      exact j_iret M dX7_likes_84 ⟨_, rfl, by refine ⟨rfl, ?_⟩; simp [likes, h_30, h_74]⟩
    · refine j_iload_n M dX7_likes_77 rfl ?_
      refine j_ineg M dX7_likes_78 ?_
      refine j_goto (tgt := 83) M dX7_likes_79 (by decide) ?_
      refine j_isub M dX7_likes_83 ?_
      exact j_iret M dX7_likes_84 ⟨_, rfl, by refine ⟨rfl, ?_⟩; simp [likes, h_30, h_74]⟩
set_option maxRecDepth 100000 in
theorem c_X7_likedBy {l : Launch} {G : Gw} {σ : Sg} {f : Int32}  (hW : WF (σ 40 4)) (f0 : 0 ≤ f) (f1 : f < σ 40 4 1) : Mt l G yX7_likedBy cX7_likedBy 7 (some .int) 2 42 [.ref (ad G 40 0), .int f] σ (pI fun r τ => τ = σ ∧ r = likedBy (σ 40 4) f) := by
  refine mt_intro (by decide +kernel) (Nat.le_of_ble_eq_true rfl) (fun Φ M => ?_)
  show Φ 0 [some (.ref (ad G 40 0)), some (.int f), none, none, none, none, none] [] σ
  have lp : ∀ i : Int32, 0 ≤ i → ∀ (p q : Int32), i ≤ σ 40 4 0 → (σ 40 4 (26 + f) < 4 → (p, q) = foldI (likeF (σ 40 4) f) ((-1000000 : Int32), (0 : Int32)) i) → (¬ σ 40 4 (26 + f) < 4 → p = -1000000) → Φ 8 [some (.ref (ad G 40 0)), some (.int f), some (.int p), some (.int q), some (.int i), none, none] [] σ := by
    refine loop_up (σ 40 4 0) (fun i hi ih p q hle he hz => ?_)
    refine j_iload M dX7_likedBy_8 rfl ?_
    refine j_aload_n M dX7_likedBy_10 rfl ?_
    refine gf_X7_19 M dX7_likedBy_11 ?_
    refine j_iconst (v := 0) M dX7_likedBy_14 rfl ?_
    refine al_40_4 M dX7_likedBy_15 (by first | assumption | decide) (by first | assumption | decide) ?_
    refine j_icmp_ge (tgt := 93) M dX7_likedBy_16 (by decide) (fun h_16 => ?_) (fun h_16 => ?_)
    · refine j_iload_n M dX7_likedBy_93 rfl ?_
      exact j_iret M dX7_likedBy_94 ⟨_, rfl, by refine ⟨rfl, ?_⟩; have ei : i = σ 40 4 0 := Int32.le_antisymm hle (Int32.not_lt.mp h_16); unfold likedBy; exact likedX ei he hz⟩
    · have hP := hW.2.2.1 i hi h_16
      have b6 := hW.b6 hP.2.1
      obtain ⟨⟨⟨_, _⟩, ⟨_, _⟩⟩, ⟨_, _⟩⟩ := ixS hP.1 b6
      obtain ⟨⟨⟨_, _⟩, ⟨_, _⟩⟩, ⟨_, _⟩⟩ := ixT f0 (hW.f5 f1)
      refine j_aload_n M dX7_likedBy_19 rfl ?_
      refine gf_X7_19 M dX7_likedBy_20 ?_
      refine j_bipush (v := 26) M dX7_likedBy_23 rfl ?_
      refine j_iload_n M dX7_likedBy_25 rfl ?_
      refine j_iadd M dX7_likedBy_26 ?_
      refine al_40_4 M dX7_likedBy_27 (by first | assumption | decide) (by first | assumption | decide) ?_
      refine j_iconst (v := 4) M dX7_likedBy_28 rfl ?_
      refine j_icmp_ge (tgt := 93) M dX7_likedBy_29 (by decide) (fun h_29 => ?_) (fun h_29 => ?_)
      · refine j_iload_n M dX7_likedBy_93 rfl ?_
        exact j_iret M dX7_likedBy_94 ⟨_, rfl, by refine ⟨rfl, ?_⟩; have hk := h_29; unfold likedBy; rw [if_neg hk]; exact hz hk⟩
      · refine j_aload_n M dX7_likedBy_32 rfl ?_
        refine j_iload M dX7_likedBy_33 rfl ?_
        refine j_inv1 M lk_X7_159 (c_X7_bookAt (b6)) rv_X7 dX7_likedBy_35 (Nat.le_of_ble_eq_true rfl) ⟨(Nat.le_of_ble_eq_true rfl), (Nat.le_of_ble_eq_true rfl)⟩ (kE ?_)
        refine j_istore_5 M dX7_likedBy_38 (by exact (by first | trivial | rfl)) ?_
        refine j_aload_n M dX7_likedBy_40 rfl ?_
        refine j_iload_n M dX7_likedBy_41 rfl ?_
        refine j_iload M dX7_likedBy_42 rfl ?_
        refine j_inv2 M lk_X7_162 (c_X7_likes (f0) (hW.f5 f1) (hP.1) (b6)) rv_X7 dX7_likedBy_44 (Nat.le_of_ble_eq_true rfl) ⟨(Nat.le_of_ble_eq_true rfl), (Nat.le_of_ble_eq_true rfl)⟩ (kE ?_)
        refine j_istore_6 M dX7_likedBy_47 (by exact (by first | trivial | rfl)) ?_
        refine j_aload_n M dX7_likedBy_49 rfl ?_
        refine j_iload M dX7_likedBy_50 rfl ?_
        refine j_inv1 M lk_X7_165 (c_X7_isShut) rv_X7 dX7_likedBy_52 (Nat.le_of_ble_eq_true rfl) ⟨(Nat.le_of_ble_eq_true rfl), (Nat.le_of_ble_eq_true rfl)⟩ (kE ?_)
        refine j_if_ne (tgt := 87) M dX7_likedBy_55 (by decide) (fun h_55 => ?_) (fun h_55 => ?_)
        · refine j_iinc_4 M dX7_likedBy_87 (show _ + Int32.ofInt 1 = _ + 1 from rfl) (by exact (by first | trivial | rfl)) ?_
          refine j_goto (tgt := 8) M dX7_likedBy_90 (by decide) ?_
          refine j_forget M (L' := [some (.ref (ad G 40 0)), some (.int f), some (.int _), some (.int _), some (.int _), none, none]) (by exact ⟨rfl, rfl, rfl, rfl, rfl, trivial⟩) ?_
          exact ih h_16 _ _ (inc_lt hi h_16).2.1 (fun _ => by rw [foldI_s _ _ hi h_16, ← he h_29]; simp [likeF, h_16, h_29, h_55]) (fun hn => absurd h_29 hn)
        · refine j_aload_n M dX7_likedBy_58 rfl ?_
          refine gf_X7_19 M dX7_likedBy_59 ?_
          refine j_bipush (v := 8) M dX7_likedBy_62 rfl ?_
          refine j_iload M dX7_likedBy_64 rfl ?_
          refine j_iadd M dX7_likedBy_66 ?_
          refine al_40_4 M dX7_likedBy_67 (by first | assumption | decide) (by first | assumption | decide) ?_
          refine j_if_le (tgt := 87) M dX7_likedBy_68 (by decide) (fun h_68 => ?_) (fun h_68 => ?_)
          · refine j_iinc_4 M dX7_likedBy_87 (show _ + Int32.ofInt 1 = _ + 1 from rfl) (by exact (by first | trivial | rfl)) ?_
            refine j_goto (tgt := 8) M dX7_likedBy_90 (by decide) ?_
            refine j_forget M (L' := [some (.ref (ad G 40 0)), some (.int f), some (.int _), some (.int _), some (.int _), none, none]) (by exact ⟨rfl, rfl, rfl, rfl, rfl, trivial⟩) ?_
            exact ih h_16 _ _ (inc_lt hi h_16).2.1 (fun _ => by rw [foldI_s _ _ hi h_16, ← he h_29]; simp [likeF, h_16, h_29, h_55, h_68]) (fun hn => absurd h_29 hn)
          · refine j_iload_n M dX7_likedBy_71 rfl ?_
            refine j_if_lt (tgt := 81) M dX7_likedBy_72 (by decide) (fun h_72 => ?_) (fun h_72 => ?_)
            · refine j_iload M dX7_likedBy_81 rfl ?_
              refine j_istore_2 M dX7_likedBy_83 (by exact (by first | trivial | rfl)) ?_
              refine j_iload M dX7_likedBy_84 rfl ?_
              refine j_istore_3 M dX7_likedBy_86 (by exact (by first | trivial | rfl)) ?_
              refine j_iinc_4 M dX7_likedBy_87 (show _ + Int32.ofInt 1 = _ + 1 from rfl) (by exact (by first | trivial | rfl)) ?_
              refine j_goto (tgt := 8) M dX7_likedBy_90 (by decide) ?_
              refine j_forget M (L' := [some (.ref (ad G 40 0)), some (.int f), some (.int _), some (.int _), some (.int _), none, none]) (by exact ⟨rfl, rfl, rfl, rfl, rfl, trivial⟩) ?_
              exact ih h_16 _ _ (inc_lt hi h_16).2.1 (fun _ => by rw [foldI_s _ _ hi h_16, ← he h_29]; simp [likeF, h_16, h_29, h_55, h_68, h_72]) (fun hn => absurd h_29 hn)
            · refine j_iload M dX7_likedBy_75 rfl ?_
              refine j_iload_n M dX7_likedBy_77 rfl ?_
              refine j_icmp_le (tgt := 87) M dX7_likedBy_78 (by decide) (fun h_78 => ?_) (fun h_78 => ?_)
              · refine j_iinc_4 M dX7_likedBy_87 (show _ + Int32.ofInt 1 = _ + 1 from rfl) (by exact (by first | trivial | rfl)) ?_
                refine j_goto (tgt := 8) M dX7_likedBy_90 (by decide) ?_
                refine j_forget M (L' := [some (.ref (ad G 40 0)), some (.int f), some (.int _), some (.int _), some (.int _), none, none]) (by exact ⟨rfl, rfl, rfl, rfl, rfl, trivial⟩) ?_
                exact ih h_16 _ _ (inc_lt hi h_16).2.1 (fun _ => by rw [foldI_s _ _ hi h_16, ← he h_29]; simp [likeF, h_16, h_29, h_55, h_68, h_72, h_78]) (fun hn => absurd h_29 hn)
              · refine j_iload M dX7_likedBy_81 rfl ?_
                refine j_istore_2 M dX7_likedBy_83 (by exact (by first | trivial | rfl)) ?_
                refine j_iload M dX7_likedBy_84 rfl ?_
                refine j_istore_3 M dX7_likedBy_86 (by exact (by first | trivial | rfl)) ?_
                refine j_iinc_4 M dX7_likedBy_87 (show _ + Int32.ofInt 1 = _ + 1 from rfl) (by exact (by first | trivial | rfl)) ?_
                refine j_goto (tgt := 8) M dX7_likedBy_90 (by decide) ?_
                refine j_forget M (L' := [some (.ref (ad G 40 0)), some (.int f), some (.int _), some (.int _), some (.int _), none, none]) (by exact ⟨rfl, rfl, rfl, rfl, rfl, trivial⟩) ?_
                exact ih h_16 _ _ (inc_lt hi h_16).2.1 (fun _ => by rw [foldI_s _ _ hi h_16, ← he h_29]; simp [likeF, h_16, h_29, h_55, h_68, h_72, h_78]) (fun hn => absurd h_29 hn)
  refine j_ldc M k_X7_158 dX7_likedBy_0 ?_
  refine j_istore_2 M dX7_likedBy_2 (by exact (by first | trivial | rfl)) ?_
  refine j_iconst (v := 0) M dX7_likedBy_3 rfl ?_
  refine j_istore_3 M dX7_likedBy_4 (by exact (by first | trivial | rfl)) ?_
  refine j_iconst (v := 0) M dX7_likedBy_5 rfl ?_
  refine j_istore_4 M dX7_likedBy_6 (by exact (by first | trivial | rfl)) ?_
  exact lp 0 (by decide) _ _ (le0_of hW.1.1.1) (fun _ => rfl) (fun _ => rfl)
set_option maxRecDepth 100000 in
theorem c_X7_goesTo {l : Launch} {G : Gw} {σ : Sg} {f : Int32}  (hW : WF (σ 40 4)) (f0 : 0 ≤ f) (f1 : f < σ 40 4 1) : Mt l G yX7_goesTo cX7_goesTo 6 (some .int) 3 68 [.ref (ad G 40 0), .int f] σ (pI fun r τ => τ = σ ∧ r = goesTo (σ 40 4) f) := by
  refine mt_intro (by decide +kernel) (Nat.le_of_ble_eq_true rfl) (fun Φ M => ?_)
  show Φ 0 [some (.ref (ad G 40 0)), some (.int f), none, none, none, none] [] σ
  have hB := hW.bk f0 f1
  have b6 := hW.b6 hB.2.1
  have n0 : ¬ σ 40 4 0 = 0 := fun e => absurd (e ▸ hW.1.1.1) (by decide)
  obtain ⟨⟨⟨_, _⟩, ⟨_, _⟩⟩, ⟨_, _⟩⟩ := ixS hB.1 b6
  obtain ⟨⟨⟨_, _⟩, ⟨_, _⟩⟩, ⟨_, _⟩⟩ := ixT f0 (hW.f5 f1)
  refine j_aload_n M dX7_goesTo_0 rfl ?_
  refine gf_X7_19 M dX7_goesTo_1 ?_
  refine j_bipush (v := 31) M dX7_goesTo_4 rfl ?_
  refine j_iload_n M dX7_goesTo_6 rfl ?_
  refine j_iadd M dX7_goesTo_7 ?_
  refine al_40_4 M dX7_goesTo_8 (by first | assumption | decide) (by first | assumption | decide) ?_
  refine j_istore_2 M dX7_goesTo_9 (by exact (by first | trivial | rfl)) ?_
  refine j_aload_n M dX7_goesTo_10 rfl ?_
  refine j_iload_n M dX7_goesTo_11 rfl ?_
  refine j_inv1 M lk_X7_159 (c_X7_bookAt (b6)) rv_X7 dX7_goesTo_12 (Nat.le_of_ble_eq_true rfl) ⟨(Nat.le_of_ble_eq_true rfl), (Nat.le_of_ble_eq_true rfl)⟩ (kE ?_)
  refine j_istore_3 M dX7_goesTo_15 (by exact (by first | trivial | rfl)) ?_
  refine j_aload_n M dX7_goesTo_16 rfl ?_
  refine gf_X7_19 M dX7_goesTo_17 ?_
  refine j_bipush (v := 26) M dX7_goesTo_20 rfl ?_
  refine j_iload_n M dX7_goesTo_22 rfl ?_
  refine j_iadd M dX7_goesTo_23 ?_
  refine al_40_4 M dX7_goesTo_24 (by first | assumption | decide) (by first | assumption | decide) ?_
  refine j_istore_4 M dX7_goesTo_25 (by exact (by first | trivial | rfl)) ?_
  refine j_iload M dX7_goesTo_27 rfl ?_
  refine j_iconst (v := 3) M dX7_goesTo_29 rfl ?_
  refine j_icmp_ne (tgt := 57) M dX7_goesTo_30 (by decide) (fun h_30 => ?_) (fun h_30 => ?_)
  · refine j_iload M dX7_goesTo_57 rfl ?_
    refine j_iconst (v := 4) M dX7_goesTo_59 rfl ?_
    refine j_icmp_ge (tgt := 101) M dX7_goesTo_60 (by decide) (fun h_60 => ?_) (fun h_60 => ?_)
    · refine j_iload M dX7_goesTo_101 rfl ?_
      refine j_iconst (v := 4) M dX7_goesTo_103 rfl ?_
      refine j_icmp_eq (tgt := 127) M dX7_goesTo_104 (by decide) (fun h_104 => ?_) (fun h_104 => ?_)
      · refine j_iload_n M dX7_goesTo_127 rfl ?_
        refine j_iconst (v := 1) M dX7_goesTo_128 rfl ?_
        refine j_iadd M dX7_goesTo_129 ?_
        refine j_aload_n M dX7_goesTo_130 rfl ?_
        refine gf_X7_19 M dX7_goesTo_131 ?_
        refine j_iconst (v := 0) M dX7_goesTo_134 rfl ?_
        refine al_40_4 M dX7_goesTo_135 (by first | assumption | decide) (by first | assumption | decide) ?_
        refine j_irem M dX7_goesTo_136 (by first | decide | assumption | grind) ?_
        refine j_goto (tgt := 141) M dX7_goesTo_137 (by decide) ?_
        exact j_iret M dX7_goesTo_141 ⟨_, rfl, by refine ⟨rfl, ?_⟩; first | (simp [goesTo, bt1, h_30, h_60, h_104]; done) | (rw [h_30] at h_60; exact absurd (by decide) h_60)⟩
      · refine j_aload_n M dX7_goesTo_107 rfl ?_
        refine j_iload_n M dX7_goesTo_108 rfl ?_
        refine j_inv1 M lk_X7_165 (c_X7_isShut) rv_X7 dX7_goesTo_109 (Nat.le_of_ble_eq_true rfl) ⟨(Nat.le_of_ble_eq_true rfl), (Nat.le_of_ble_eq_true rfl)⟩ (kE ?_)
        refine j_if_ne (tgt := 127) M dX7_goesTo_112 (by decide) (fun h_112 => ?_) (fun h_112 => ?_)
        · refine j_iload_n M dX7_goesTo_127 rfl ?_
          refine j_iconst (v := 1) M dX7_goesTo_128 rfl ?_
          refine j_iadd M dX7_goesTo_129 ?_
          refine j_aload_n M dX7_goesTo_130 rfl ?_
          refine gf_X7_19 M dX7_goesTo_131 ?_
          refine j_iconst (v := 0) M dX7_goesTo_134 rfl ?_
          refine al_40_4 M dX7_goesTo_135 (by first | assumption | decide) (by first | assumption | decide) ?_
          refine j_irem M dX7_goesTo_136 (by first | decide | assumption | grind) ?_
          refine j_goto (tgt := 141) M dX7_goesTo_137 (by decide) ?_
          exact j_iret M dX7_goesTo_141 ⟨_, rfl, by refine ⟨rfl, ?_⟩; first | (simp [goesTo, bt1, h_30, h_60, h_104, h_112]; done) | (rw [h_30] at h_60; exact absurd (by decide) h_60)⟩
        · refine j_aload_n M dX7_goesTo_115 rfl ?_
          refine gf_X7_19 M dX7_goesTo_116 ?_
          refine j_bipush (v := 8) M dX7_goesTo_119 rfl ?_
          refine j_iload_n M dX7_goesTo_121 rfl ?_
          refine j_iadd M dX7_goesTo_122 ?_
          refine al_40_4 M dX7_goesTo_123 (by first | assumption | decide) (by first | assumption | decide) ?_
          refine j_if_ne (tgt := 140) M dX7_goesTo_124 (by decide) (fun h_124 => ?_) (fun h_124 => ?_)
          · refine j_iload_n M dX7_goesTo_140 rfl ?_
            exact j_iret M dX7_goesTo_141 ⟨_, rfl, by refine ⟨rfl, ?_⟩; first | (simp [goesTo, bt1, h_30, h_60, h_104, h_112, h_124]; done) | (rw [h_30] at h_60; exact absurd (by decide) h_60)⟩
          · refine j_iload_n M dX7_goesTo_127 rfl ?_
            refine j_iconst (v := 1) M dX7_goesTo_128 rfl ?_
            refine j_iadd M dX7_goesTo_129 ?_
            refine j_aload_n M dX7_goesTo_130 rfl ?_
            refine gf_X7_19 M dX7_goesTo_131 ?_
            refine j_iconst (v := 0) M dX7_goesTo_134 rfl ?_
            refine al_40_4 M dX7_goesTo_135 (by first | assumption | decide) (by first | assumption | decide) ?_
            refine j_irem M dX7_goesTo_136 (by first | decide | assumption | grind) ?_
            refine j_goto (tgt := 141) M dX7_goesTo_137 (by decide) ?_
            exact j_iret M dX7_goesTo_141 ⟨_, rfl, by refine ⟨rfl, ?_⟩; first | (simp [goesTo, bt1, h_30, h_60, h_104, h_112, h_124]; done) | (rw [h_30] at h_60; exact absurd (by decide) h_60)⟩
    · refine j_aload_n M dX7_goesTo_63 rfl ?_
      refine j_iload_n M dX7_goesTo_64 rfl ?_
      refine j_inv1 M lk_X7_168 (c_X7_likedBy (hW) (f0) (f1)) rv_X7 dX7_goesTo_65 (Nat.le_of_ble_eq_true rfl) ⟨(Nat.le_of_ble_eq_true rfl), (Nat.le_of_ble_eq_true rfl)⟩ (kE ?_)
      refine j_istore_5 M dX7_goesTo_68 (by exact (by first | trivial | rfl)) ?_
      refine j_iload M dX7_goesTo_70 rfl ?_
      refine j_if_lt (tgt := 81) M dX7_goesTo_72 (by decide) (fun h_72 => ?_) (fun h_72 => ?_)
      · refine j_iload_n M dX7_goesTo_81 rfl ?_
        refine j_goto (tgt := 100) M dX7_goesTo_82 (by decide) ?_
        exact j_iret M dX7_goesTo_100 ⟨_, rfl, by refine ⟨rfl, ?_⟩; first | (simp [goesTo, bt1, h_30, h_60, h_72]; done) | (rw [h_30] at h_60; exact absurd (by decide) h_60)⟩
      · refine j_iload M dX7_goesTo_75 rfl ?_
        refine j_iload_n M dX7_goesTo_77 rfl ?_
        refine j_icmp_ne (tgt := 85) M dX7_goesTo_78 (by decide) (fun h_78 => ?_) (fun h_78 => ?_)
        · refine j_iload M dX7_goesTo_85 rfl ?_
          refine j_iload_n M dX7_goesTo_87 rfl ?_
          refine j_icmp_le (tgt := 97) M dX7_goesTo_88 (by decide) (fun h_88 => ?_) (fun h_88 => ?_)
          · refine j_iload_n M dX7_goesTo_97 rfl ?_
            refine j_iconst (v := 1) M dX7_goesTo_98 rfl ?_
            refine j_isub M dX7_goesTo_99 ?_
            exact j_iret M dX7_goesTo_100 ⟨_, rfl, by refine ⟨rfl, ?_⟩; first | (simp [goesTo, bt1, h_30, h_60, h_72, h_78, h_88]; done) | (rw [h_30] at h_60; exact absurd (by decide) h_60)⟩
          · refine j_iload_n M dX7_goesTo_91 rfl ?_
            refine j_iconst (v := 1) M dX7_goesTo_92 rfl ?_
            refine j_iadd M dX7_goesTo_93 ?_
            refine j_goto (tgt := 100) M dX7_goesTo_94 (by decide) ?_
            exact j_iret M dX7_goesTo_100 ⟨_, rfl, by refine ⟨rfl, ?_⟩; first | (simp [goesTo, bt1, h_30, h_60, h_72, h_78, h_88]; done) | (rw [h_30] at h_60; exact absurd (by decide) h_60)⟩
        · refine j_iload_n M dX7_goesTo_81 rfl ?_
          refine j_goto (tgt := 100) M dX7_goesTo_82 (by decide) ?_
          exact j_iret M dX7_goesTo_100 ⟨_, rfl, by refine ⟨rfl, ?_⟩; first | (simp [goesTo, bt1, h_30, h_60, h_72, h_78]; done) | (rw [h_30] at h_60; exact absurd (by decide) h_60)⟩
  · refine j_aload_n M dX7_goesTo_33 rfl ?_
    refine gf_X7_19 M dX7_goesTo_34 ?_
    refine j_iconst (v := 5) M dX7_goesTo_37 rfl ?_
    refine al_40_4 M dX7_goesTo_38 (by first | assumption | decide) (by first | assumption | decide) ?_
    refine j_iload_n M dX7_goesTo_39 rfl ?_
    refine j_invs2 M lk_X7_154 (c_X7_has) dX7_goesTo_40 (Nat.le_of_ble_eq_true rfl) ⟨(Nat.le_of_ble_eq_true rfl), (Nat.le_of_ble_eq_true rfl)⟩ (kE ?_)
    refine j_if_eq (tgt := 57) M dX7_goesTo_43 (by decide) (fun h_43 => ?_) (fun h_43 => ?_)
    · refine j_iload M dX7_goesTo_57 rfl ?_
      refine j_iconst (v := 4) M dX7_goesTo_59 rfl ?_
      refine j_icmp_ge (tgt := 101) M dX7_goesTo_60 (by decide) (fun h_60 => ?_) (fun h_60 => ?_)
      · refine j_iload M dX7_goesTo_101 rfl ?_
        refine j_iconst (v := 4) M dX7_goesTo_103 rfl ?_
        refine j_icmp_eq (tgt := 127) M dX7_goesTo_104 (by decide) (fun h_104 => ?_) (fun h_104 => ?_)
        · refine j_iload_n M dX7_goesTo_127 rfl ?_
          refine j_iconst (v := 1) M dX7_goesTo_128 rfl ?_
          refine j_iadd M dX7_goesTo_129 ?_
          refine j_aload_n M dX7_goesTo_130 rfl ?_
          refine gf_X7_19 M dX7_goesTo_131 ?_
          refine j_iconst (v := 0) M dX7_goesTo_134 rfl ?_
          refine al_40_4 M dX7_goesTo_135 (by first | assumption | decide) (by first | assumption | decide) ?_
          refine j_irem M dX7_goesTo_136 (by first | decide | assumption | grind) ?_
          refine j_goto (tgt := 141) M dX7_goesTo_137 (by decide) ?_
          exact j_iret M dX7_goesTo_141 ⟨_, rfl, by refine ⟨rfl, ?_⟩; first | (simp [goesTo, bt1, h_30, h_43, h_60, h_104]; done) | (rw [h_30] at h_60; exact absurd (by decide) h_60)⟩
        · refine j_aload_n M dX7_goesTo_107 rfl ?_
          refine j_iload_n M dX7_goesTo_108 rfl ?_
          refine j_inv1 M lk_X7_165 (c_X7_isShut) rv_X7 dX7_goesTo_109 (Nat.le_of_ble_eq_true rfl) ⟨(Nat.le_of_ble_eq_true rfl), (Nat.le_of_ble_eq_true rfl)⟩ (kE ?_)
          refine j_if_ne (tgt := 127) M dX7_goesTo_112 (by decide) (fun h_112 => ?_) (fun h_112 => ?_)
          · refine j_iload_n M dX7_goesTo_127 rfl ?_
            refine j_iconst (v := 1) M dX7_goesTo_128 rfl ?_
            refine j_iadd M dX7_goesTo_129 ?_
            refine j_aload_n M dX7_goesTo_130 rfl ?_
            refine gf_X7_19 M dX7_goesTo_131 ?_
            refine j_iconst (v := 0) M dX7_goesTo_134 rfl ?_
            refine al_40_4 M dX7_goesTo_135 (by first | assumption | decide) (by first | assumption | decide) ?_
            refine j_irem M dX7_goesTo_136 (by first | decide | assumption | grind) ?_
            refine j_goto (tgt := 141) M dX7_goesTo_137 (by decide) ?_
            exact j_iret M dX7_goesTo_141 ⟨_, rfl, by refine ⟨rfl, ?_⟩; first | (simp [goesTo, bt1, h_30, h_43, h_60, h_104, h_112]; done) | (rw [h_30] at h_60; exact absurd (by decide) h_60)⟩
          · refine j_aload_n M dX7_goesTo_115 rfl ?_
            refine gf_X7_19 M dX7_goesTo_116 ?_
            refine j_bipush (v := 8) M dX7_goesTo_119 rfl ?_
            refine j_iload_n M dX7_goesTo_121 rfl ?_
            refine j_iadd M dX7_goesTo_122 ?_
            refine al_40_4 M dX7_goesTo_123 (by first | assumption | decide) (by first | assumption | decide) ?_
            refine j_if_ne (tgt := 140) M dX7_goesTo_124 (by decide) (fun h_124 => ?_) (fun h_124 => ?_)
            · refine j_iload_n M dX7_goesTo_140 rfl ?_
              exact j_iret M dX7_goesTo_141 ⟨_, rfl, by refine ⟨rfl, ?_⟩; first | (simp [goesTo, bt1, h_30, h_43, h_60, h_104, h_112, h_124]; done) | (rw [h_30] at h_60; exact absurd (by decide) h_60)⟩
            · refine j_iload_n M dX7_goesTo_127 rfl ?_
              refine j_iconst (v := 1) M dX7_goesTo_128 rfl ?_
              refine j_iadd M dX7_goesTo_129 ?_
              refine j_aload_n M dX7_goesTo_130 rfl ?_
              refine gf_X7_19 M dX7_goesTo_131 ?_
              refine j_iconst (v := 0) M dX7_goesTo_134 rfl ?_
              refine al_40_4 M dX7_goesTo_135 (by first | assumption | decide) (by first | assumption | decide) ?_
              refine j_irem M dX7_goesTo_136 (by first | decide | assumption | grind) ?_
              refine j_goto (tgt := 141) M dX7_goesTo_137 (by decide) ?_
              exact j_iret M dX7_goesTo_141 ⟨_, rfl, by refine ⟨rfl, ?_⟩; first | (simp [goesTo, bt1, h_30, h_43, h_60, h_104, h_112, h_124]; done) | (rw [h_30] at h_60; exact absurd (by decide) h_60)⟩
      · refine j_aload_n M dX7_goesTo_63 rfl ?_
        refine j_iload_n M dX7_goesTo_64 rfl ?_
        refine j_inv1 M lk_X7_168 (c_X7_likedBy (hW) (f0) (f1)) rv_X7 dX7_goesTo_65 (Nat.le_of_ble_eq_true rfl) ⟨(Nat.le_of_ble_eq_true rfl), (Nat.le_of_ble_eq_true rfl)⟩ (kE ?_)
        refine j_istore_5 M dX7_goesTo_68 (by exact (by first | trivial | rfl)) ?_
        refine j_iload M dX7_goesTo_70 rfl ?_
        refine j_if_lt (tgt := 81) M dX7_goesTo_72 (by decide) (fun h_72 => ?_) (fun h_72 => ?_)
        · refine j_iload_n M dX7_goesTo_81 rfl ?_
          refine j_goto (tgt := 100) M dX7_goesTo_82 (by decide) ?_
          exact j_iret M dX7_goesTo_100 ⟨_, rfl, by refine ⟨rfl, ?_⟩; first | (simp [goesTo, bt1, h_30, h_43, h_60, h_72]; done) | (rw [h_30] at h_60; exact absurd (by decide) h_60)⟩
        · refine j_iload M dX7_goesTo_75 rfl ?_
          refine j_iload_n M dX7_goesTo_77 rfl ?_
          refine j_icmp_ne (tgt := 85) M dX7_goesTo_78 (by decide) (fun h_78 => ?_) (fun h_78 => ?_)
          · refine j_iload M dX7_goesTo_85 rfl ?_
            refine j_iload_n M dX7_goesTo_87 rfl ?_
            refine j_icmp_le (tgt := 97) M dX7_goesTo_88 (by decide) (fun h_88 => ?_) (fun h_88 => ?_)
            · refine j_iload_n M dX7_goesTo_97 rfl ?_
              refine j_iconst (v := 1) M dX7_goesTo_98 rfl ?_
              refine j_isub M dX7_goesTo_99 ?_
              exact j_iret M dX7_goesTo_100 ⟨_, rfl, by refine ⟨rfl, ?_⟩; first | (simp [goesTo, bt1, h_30, h_43, h_60, h_72, h_78, h_88]; done) | (rw [h_30] at h_60; exact absurd (by decide) h_60)⟩
            · refine j_iload_n M dX7_goesTo_91 rfl ?_
              refine j_iconst (v := 1) M dX7_goesTo_92 rfl ?_
              refine j_iadd M dX7_goesTo_93 ?_
              refine j_goto (tgt := 100) M dX7_goesTo_94 (by decide) ?_
              exact j_iret M dX7_goesTo_100 ⟨_, rfl, by refine ⟨rfl, ?_⟩; first | (simp [goesTo, bt1, h_30, h_43, h_60, h_72, h_78, h_88]; done) | (rw [h_30] at h_60; exact absurd (by decide) h_60)⟩
          · refine j_iload_n M dX7_goesTo_81 rfl ?_
            refine j_goto (tgt := 100) M dX7_goesTo_82 (by decide) ?_
            exact j_iret M dX7_goesTo_100 ⟨_, rfl, by refine ⟨rfl, ?_⟩; first | (simp [goesTo, bt1, h_30, h_43, h_60, h_72, h_78]; done) | (rw [h_30] at h_60; exact absurd (by decide) h_60)⟩
    · refine j_iload_n M dX7_goesTo_46 rfl ?_
      refine j_iconst (v := 2) M dX7_goesTo_47 rfl ?_
      refine j_iadd M dX7_goesTo_48 ?_
      refine j_aload_n M dX7_goesTo_49 rfl ?_
      refine gf_X7_19 M dX7_goesTo_50 ?_
      refine j_iconst (v := 0) M dX7_goesTo_53 rfl ?_
      refine al_40_4 M dX7_goesTo_54 (by first | assumption | decide) (by first | assumption | decide) ?_
      refine j_irem M dX7_goesTo_55 (by first | decide | assumption | grind) ?_
      exact j_iret M dX7_goesTo_56 ⟨_, rfl, by refine ⟨rfl, ?_⟩; first | (simp [goesTo, bt1, h_30, h_43]; done) | (rw [h_30] at h_60; exact absurd (by decide) h_60)⟩
