set_option maxRecDepth 100000 in
theorem c_X7_book {l : Launch} {G : Gw} {σ : Sg} {b : Int32} {w : Int32}  (hS : SW (σ 40 4)) : Mt l G yX7_book cX7_book 3 (some .int) 3 65 [.ref (ad G 40 0), .int b, .int w] σ (pI fun r τ => τ = σ ∧ r = bookR (σ 40 4) b w) := by
  refine mt_intro (by decide +kernel) (Nat.le_of_ble_eq_true rfl) (fun Φ M => ?_)
  show Φ 0 [some (.ref (ad G 40 0)), some (.int b), some (.int w)] [] σ
  refine j_aload_n M dX7_book_0 rfl ?_
  refine j_iload_n M dX7_book_1 rfl ?_
  refine j_inv1 M lk_X7_194 (c_X7_isBook) rv_X7 dX7_book_2 (Nat.le_of_ble_eq_true rfl) ⟨(Nat.le_of_ble_eq_true rfl), (Nat.le_of_ble_eq_true rfl)⟩ (kP fun r_2 k_2 => ?_)
  refine j_if_ne (tgt := 11) M dX7_book_5 (by decide) (fun h_5 => ?_) (fun h_5 => ?_)
  · have b_2 := ifT k_2 h_5
    have hB := hS.b b_2
    obtain ⟨⟨⟨_, _⟩, ⟨_, _⟩⟩, ⟨_, _⟩⟩ := ixS b_2.1 hB.2.2
    refine j_iload_n M dX7_book_11 rfl ?_
    refine j_tab6 (t0 := 52) (t1 := 62) (t2 := 72) (t3 := 82) (t4 := 101) (t5 := 121) (td := 135) M dX7_book_12 (by decide) (by decide) (by decide) (by decide) (by decide) (by decide) (by decide) (fun h_12 => ?_) (fun h_12 => ?_) (fun h_12 => ?_) (fun h_12 => ?_) (fun h_12 => ?_) (fun h_12 => ?_) (fun h_12 => ?_)
    · refine j_aload_n M dX7_book_52 rfl ?_
      refine gf_X7_19 M dX7_book_53 ?_
      refine j_bipush (v := 8) M dX7_book_56 rfl ?_
      refine j_iload_n M dX7_book_58 rfl ?_
      refine j_iadd M dX7_book_59 ?_
      refine al_40_4 M dX7_book_60 (by first | assumption | decide) (by first | assumption | decide) ?_
      exact j_iret M dX7_book_61 ⟨_, rfl, by refine ⟨rfl, ?_⟩; first | (simp [bookR, b_2, h_12]; done) | (have n := nt6 h_12; simp [bookR, b_2, n]; done) | (have n := bt1' h_92; simp [bookR, n, b_2, h_12]; done) | (have n := bt1' h_112; simp [bookR, n, b_2, h_12]; done)⟩
    · refine j_aload_n M dX7_book_62 rfl ?_
      refine gf_X7_19 M dX7_book_63 ?_
      refine j_bipush (v := 14) M dX7_book_66 rfl ?_
      refine j_iload_n M dX7_book_68 rfl ?_
      refine j_iadd M dX7_book_69 ?_
      refine al_40_4 M dX7_book_70 (by first | assumption | decide) (by first | assumption | decide) ?_
      exact j_iret M dX7_book_71 ⟨_, rfl, by refine ⟨rfl, ?_⟩; first | (simp [bookR, b_2, h_12]; done) | (have n := nt6 h_12; simp [bookR, b_2, n]; done) | (have n := bt1' h_92; simp [bookR, n, b_2, h_12]; done) | (have n := bt1' h_112; simp [bookR, n, b_2, h_12]; done)⟩
    · refine j_aload_n M dX7_book_72 rfl ?_
      refine gf_X7_19 M dX7_book_73 ?_
      refine j_bipush (v := 20) M dX7_book_76 rfl ?_
      refine j_iload_n M dX7_book_78 rfl ?_
      refine j_iadd M dX7_book_79 ?_
      refine al_40_4 M dX7_book_80 (by first | assumption | decide) (by first | assumption | decide) ?_
      exact j_iret M dX7_book_81 ⟨_, rfl, by refine ⟨rfl, ?_⟩; first | (simp [bookR, b_2, h_12]; done) | (have n := nt6 h_12; simp [bookR, b_2, n]; done) | (have n := bt1' h_92; simp [bookR, n, b_2, h_12]; done) | (have n := bt1' h_112; simp [bookR, n, b_2, h_12]; done)⟩
    · refine j_aload_n M dX7_book_82 rfl ?_
      refine gf_X7_19 M dX7_book_83 ?_
      refine j_iconst (v := 5) M dX7_book_86 rfl ?_
      refine al_40_4 M dX7_book_87 (by first | assumption | decide) (by first | assumption | decide) ?_
      refine j_iload_n M dX7_book_88 rfl ?_
      refine j_invs2 M lk_X7_154 (c_X7_has) dX7_book_89 (Nat.le_of_ble_eq_true rfl) ⟨(Nat.le_of_ble_eq_true rfl), (Nat.le_of_ble_eq_true rfl)⟩ (kE ?_)
      refine j_if_eq (tgt := 99) M dX7_book_92 (by decide) (fun h_92 => ?_) (fun h_92 => ?_)
      · refine j_iconst (v := 0) M dX7_book_99 rfl ?_
        exact j_iret M dX7_book_100 ⟨_, rfl, by refine ⟨rfl, ?_⟩; first | (simp [bookR, b_2, h_12, h_92]; done) | (have n := nt6 h_12; simp [bookR, b_2, n]; done) | (have n := bt1' h_92; simp [bookR, n, b_2, h_12, h_92]; done) | (have n := bt1' h_112; simp [bookR, n, b_2, h_12, h_92]; done)⟩
      · refine j_iconst (v := 1) M dX7_book_95 rfl ?_
        refine j_goto (tgt := 100) M dX7_book_96 (by decide) ?_
        exact j_iret M dX7_book_100 ⟨_, rfl, by refine ⟨rfl, ?_⟩; first | (simp [bookR, b_2, h_12, h_92]; done) | (have n := nt6 h_12; simp [bookR, b_2, n]; done) | (have n := bt1' h_92; simp [bookR, n, b_2, h_12, h_92]; done) | (have n := bt1' h_112; simp [bookR, n, b_2, h_12, h_92]; done)⟩
    · refine j_aload_n M dX7_book_101 rfl ?_
      refine gf_X7_19 M dX7_book_102 ?_
      refine j_bipush (v := 6) M dX7_book_105 rfl ?_
      refine al_40_4 M dX7_book_107 (by first | assumption | decide) (by first | assumption | decide) ?_
      refine j_iload_n M dX7_book_108 rfl ?_
      refine j_invs2 M lk_X7_154 (c_X7_has) dX7_book_109 (Nat.le_of_ble_eq_true rfl) ⟨(Nat.le_of_ble_eq_true rfl), (Nat.le_of_ble_eq_true rfl)⟩ (kE ?_)
      refine j_if_eq (tgt := 119) M dX7_book_112 (by decide) (fun h_112 => ?_) (fun h_112 => ?_)
      · refine j_iconst (v := 0) M dX7_book_119 rfl ?_
        exact j_iret M dX7_book_120 ⟨_, rfl, by refine ⟨rfl, ?_⟩; first | (simp [bookR, b_2, h_12, h_112]; done) | (have n := nt6 h_12; simp [bookR, b_2, n]; done) | (have n := bt1' h_92; simp [bookR, n, b_2, h_12, h_112]; done) | (have n := bt1' h_112; simp [bookR, n, b_2, h_12, h_112]; done)⟩
      · refine j_iconst (v := 1) M dX7_book_115 rfl ?_
        refine j_goto (tgt := 120) M dX7_book_116 (by decide) ?_
        exact j_iret M dX7_book_120 ⟨_, rfl, by refine ⟨rfl, ?_⟩; first | (simp [bookR, b_2, h_12, h_112]; done) | (have n := nt6 h_12; simp [bookR, b_2, n]; done) | (have n := bt1' h_92; simp [bookR, n, b_2, h_12, h_112]; done) | (have n := bt1' h_112; simp [bookR, n, b_2, h_12, h_112]; done)⟩
    · refine j_aload_n M dX7_book_121 rfl ?_
      refine j_aload_n M dX7_book_122 rfl ?_
      refine gf_X7_19 M dX7_book_123 ?_
      refine j_bipush (v := 20) M dX7_book_126 rfl ?_
      refine j_iload_n M dX7_book_128 rfl ?_
      refine j_iadd M dX7_book_129 ?_
      refine al_40_4 M dX7_book_130 (by first | assumption | decide) (by first | assumption | decide) ?_
      refine j_inv1 M lk_X7_203 (c_X7_fishAt (hS.z)) rv_X7 dX7_book_131 (Nat.le_of_ble_eq_true rfl) ⟨(Nat.le_of_ble_eq_true rfl), (Nat.le_of_ble_eq_true rfl)⟩ (kE ?_)
      exact j_iret M dX7_book_134 ⟨_, rfl, by refine ⟨rfl, ?_⟩; first | (simp [bookR, b_2, h_12]; done) | (have n := nt6 h_12; simp [bookR, b_2, n]; done) | (have n := bt1' h_92; simp [bookR, n, b_2, h_12]; done) | (have n := bt1' h_112; simp [bookR, n, b_2, h_12]; done)⟩
    · refine j_ldc M k_X7_73 dX7_book_135 ?_
      exact j_iret M dX7_book_137 ⟨_, rfl, by refine ⟨rfl, ?_⟩; first | (simp [bookR, b_2, h_12]; done) | (have n := nt6 h_12; simp [bookR, b_2, n]; done) | (have n := bt1' h_92; simp [bookR, n, b_2, h_12]; done) | (have n := bt1' h_112; simp [bookR, n, b_2, h_12]; done)⟩
  · have b_2 := ifF k_2 h_5
    refine j_ldc M k_X7_73 dX7_book_8 ?_
    exact j_iret M dX7_book_10 ⟨_, rfl, by refine ⟨rfl, ?_⟩; first | (simp [bookR, b_2]; done) | (have n := nt6 h_12; simp [bookR, b_2, n]; done) | (have n := bt1' h_92; simp [bookR, n, b_2]; done) | (have n := bt1' h_112; simp [bookR, n, b_2]; done)⟩
set_option maxRecDepth 100000 in
theorem c_X7_fish {l : Launch} {G : Gw} {σ : Sg} {f : Int32} {w : Int32}  (hS : SW (σ 40 4)) : Mt l G yX7_fish cX7_fish 3 (some .int) 3 68 [.ref (ad G 40 0), .int f, .int w] σ (pI fun r τ => τ = σ ∧ r = fishR (σ 40 4) f w) := by
  refine mt_intro (by decide +kernel) (Nat.le_of_ble_eq_true rfl) (fun Φ M => ?_)
  show Φ 0 [some (.ref (ad G 40 0)), some (.int f), some (.int w)] [] σ
  refine j_aload_n M dX7_fish_0 rfl ?_
  refine j_iload_n M dX7_fish_1 rfl ?_
  refine j_inv1 M lk_X7_200 (c_X7_isFish) rv_X7 dX7_fish_2 (Nat.le_of_ble_eq_true rfl) ⟨(Nat.le_of_ble_eq_true rfl), (Nat.le_of_ble_eq_true rfl)⟩ (kP fun r_2 k_2 => ?_)
  refine j_if_eq (tgt := 20) M dX7_fish_5 (by decide) (fun h_5 => ?_) (fun h_5 => ?_)
  · have b_2 := ifF k_2 h_5
    refine j_ldc M k_X7_73 dX7_fish_20 ?_
    exact j_iret M dX7_fish_22 ⟨_, rfl, by refine ⟨rfl, ?_⟩; simp [fishR, bt1, b_2]⟩
  · have b_2 := ifT k_2 h_5
    refine j_iload_n M dX7_fish_8 rfl ?_
    refine j_i2l M dX7_fish_9 ?_
    refine j_lconst (v := 0) M dX7_fish_10 rfl ?_
    refine j_ldc2 M kl_X7_206 dX7_fish_11 ?_
    refine j_invs3 M lk_X7_63 (c_X7_inI (a := 0) (b := 3) rfl (by decide) (by decide)) dX7_fish_14 (Nat.le_of_ble_eq_true rfl) ⟨(Nat.le_of_ble_eq_true rfl), (Nat.le_of_ble_eq_true rfl)⟩ (kP fun r_14 k_14 => ?_)
    refine j_if_ne (tgt := 23) M dX7_fish_17 (by decide) (fun h_17 => ?_) (fun h_17 => ?_)
    · have b_14 := ifT k_14 h_17
      have hB := hS.f b_2
      obtain ⟨⟨⟨_, _⟩, ⟨_, _⟩⟩, ⟨_, _⟩⟩ := ixT b_2.1 hB.2.2
      refine j_iload_n M dX7_fish_23 rfl ?_
      refine j_iconst (v := 1) M dX7_fish_24 rfl ?_
      refine j_icmp_ne (tgt := 38) M dX7_fish_25 (by decide) (fun h_25 => ?_) (fun h_25 => ?_)
      · refine j_aload_n M dX7_fish_38 rfl ?_
        refine j_iload_n M dX7_fish_39 rfl ?_
        refine j_inv1 M lk_X7_171 (c_X7_isCaught) rv_X7 dX7_fish_40 (Nat.le_of_ble_eq_true rfl) ⟨(Nat.le_of_ble_eq_true rfl), (Nat.le_of_ble_eq_true rfl)⟩ (kE ?_)
        refine j_if_eq (tgt := 49) M dX7_fish_43 (by decide) (fun h_43 => ?_) (fun h_43 => ?_)
        · refine j_iload_n M dX7_fish_49 rfl ?_
          refine j_if_ne (tgt := 65) M dX7_fish_50 (by decide) (fun h_50 => ?_) (fun h_50 => ?_)
          · refine j_iload_n M dX7_fish_65 rfl ?_
            refine j_iconst (v := 2) M dX7_fish_66 rfl ?_
            refine j_icmp_ne (tgt := 78) M dX7_fish_67 (by decide) (fun h_67 => ?_) (fun h_67 => ?_)
            · refine j_aload_n M dX7_fish_78 rfl ?_
              refine j_aload_n M dX7_fish_79 rfl ?_
              refine gf_X7_19 M dX7_fish_80 ?_
              refine j_bipush (v := 31) M dX7_fish_83 rfl ?_
              refine j_iload_n M dX7_fish_85 rfl ?_
              refine j_iadd M dX7_fish_86 ?_
              refine al_40_4 M dX7_fish_87 (by first | assumption | decide) (by first | assumption | decide) ?_
              have hK := hB.1.bk b_2.1 hB.2.1
              have b6 := hB.1.b6 hK.2.1
              refine j_inv1 M lk_X7_159 (c_X7_bookAt (b6)) rv_X7 dX7_fish_88 (Nat.le_of_ble_eq_true rfl) ⟨(Nat.le_of_ble_eq_true rfl), (Nat.le_of_ble_eq_true rfl)⟩ (kE ?_)
              exact j_iret M dX7_fish_91 ⟨_, rfl, by refine ⟨rfl, ?_⟩; simp [fishR, bt1, b_2, b_14, h_25, h_43, h_50, h_67]⟩
            · refine j_aload_n M dX7_fish_70 rfl ?_
              refine j_iload_n M dX7_fish_71 rfl ?_
              refine j_inv1 M lk_X7_168 (c_X7_likedBy (hB.1) (b_2.1) (hB.2.1)) rv_X7 dX7_fish_72 (Nat.le_of_ble_eq_true rfl) ⟨(Nat.le_of_ble_eq_true rfl), (Nat.le_of_ble_eq_true rfl)⟩ (kE ?_)
              refine j_goto (tgt := 91) M dX7_fish_75 (by decide) ?_
              exact j_iret M dX7_fish_91 ⟨_, rfl, by refine ⟨rfl, ?_⟩; simp [fishR, bt1, b_2, b_14, h_25, h_43, h_50, h_67]⟩
          · refine j_aload_n M dX7_fish_53 rfl ?_
            refine gf_X7_19 M dX7_fish_54 ?_
            refine j_bipush (v := 31) M dX7_fish_57 rfl ?_
            refine j_iload_n M dX7_fish_59 rfl ?_
            refine j_iadd M dX7_fish_60 ?_
            refine al_40_4 M dX7_fish_61 (by first | assumption | decide) (by first | assumption | decide) ?_
            refine j_goto (tgt := 91) M dX7_fish_62 (by decide) ?_
            exact j_iret M dX7_fish_91 ⟨_, rfl, by refine ⟨rfl, ?_⟩; simp [fishR, bt1, b_2, b_14, h_25, h_43, h_50]⟩
        · refine j_ldc M k_X7_158 dX7_fish_46 ?_
          exact j_iret M dX7_fish_48 ⟨_, rfl, by refine ⟨rfl, ?_⟩; simp [fishR, bt1, b_2, b_14, h_25, h_43]⟩
      · refine j_aload_n M dX7_fish_28 rfl ?_
        refine gf_X7_19 M dX7_fish_29 ?_
        refine j_bipush (v := 36) M dX7_fish_32 rfl ?_
        refine j_iload_n M dX7_fish_34 rfl ?_
        refine j_iadd M dX7_fish_35 ?_
        refine al_40_4 M dX7_fish_36 (by first | assumption | decide) (by first | assumption | decide) ?_
        exact j_iret M dX7_fish_37 ⟨_, rfl, by refine ⟨rfl, ?_⟩; simp [fishR, bt1, b_2, b_14, h_25]⟩
    · have b_14 := ifF k_14 h_17
      refine j_ldc M k_X7_73 dX7_fish_20 ?_
      exact j_iret M dX7_fish_22 ⟨_, rfl, by refine ⟨rfl, ?_⟩; simp [fishR, bt1, b_2, b_14]⟩
set_option maxRecDepth 100000 in
theorem c_X7_stand {l : Launch} {G : Gw} {σ : Sg} {w : Int32}  (hS : SW (σ 40 4)) : Mt l G yX7_stand cX7_stand 2 (some .int) 1 22 [.ref (ad G 40 0), .int w] σ (pI fun r τ => τ = σ ∧ r = standR (σ 40 4) (σ 40 0 4) w) := by
  refine mt_intro (by decide +kernel) (Nat.le_of_ble_eq_true rfl) (fun Φ M => ?_)
  show Φ 0 [some (.ref (ad G 40 0)), some (.int w)] [] σ
  refine j_aload_n M dX7_stand_0 rfl ?_
  refine gf_X7_147 M dX7_stand_1 ?_
  refine j_if_ne (tgt := 10) M dX7_stand_4 (by decide) (fun h_4 => ?_) (fun h_4 => ?_)
  · refine j_iload_n M dX7_stand_10 rfl ?_
    refine j_tab6 (t0 := 48) (t1 := 55) (t2 := 63) (t3 := 71) (t4 := 76) (t5 := 83) (td := 90) M dX7_stand_11 (by decide) (by decide) (by decide) (by decide) (by decide) (by decide) (by decide) (fun h_11 => ?_) (fun h_11 => ?_) (fun h_11 => ?_) (fun h_11 => ?_) (fun h_11 => ?_) (fun h_11 => ?_) (fun h_11 => ?_)
    · refine j_aload_n M dX7_stand_48 rfl ?_
      refine gf_X7_19 M dX7_stand_49 ?_
      refine j_iconst (v := 5) M dX7_stand_52 rfl ?_
      refine al_40_4 M dX7_stand_53 (by first | assumption | decide) (by first | assumption | decide) ?_
      exact j_iret M dX7_stand_54 ⟨_, rfl, by refine ⟨rfl, ?_⟩; first | (simp [standR, h_4, h_11]; done) | (have n := nt6 h_11; simp [standR, h_4, n]; done)⟩
    · refine j_aload_n M dX7_stand_55 rfl ?_
      refine gf_X7_19 M dX7_stand_56 ?_
      refine j_bipush (v := 6) M dX7_stand_59 rfl ?_
      refine al_40_4 M dX7_stand_61 (by first | assumption | decide) (by first | assumption | decide) ?_
      exact j_iret M dX7_stand_62 ⟨_, rfl, by refine ⟨rfl, ?_⟩; first | (simp [standR, h_4, h_11]; done) | (have n := nt6 h_11; simp [standR, h_4, n]; done)⟩
    · refine j_aload_n M dX7_stand_63 rfl ?_
      refine gf_X7_19 M dX7_stand_64 ?_
      refine j_bipush (v := 7) M dX7_stand_67 rfl ?_
      refine al_40_4 M dX7_stand_69 (by first | assumption | decide) (by first | assumption | decide) ?_
      exact j_iret M dX7_stand_70 ⟨_, rfl, by refine ⟨rfl, ?_⟩; first | (simp [standR, h_4, h_11]; done) | (have n := nt6 h_11; simp [standR, h_4, n]; done)⟩
    · refine j_aload_n M dX7_stand_71 rfl ?_
      refine j_inv0 M lk_X7_190 (c_X7_allPages (hS.z)) rv_X7 dX7_stand_72 (Nat.le_of_ble_eq_true rfl) ⟨(Nat.le_of_ble_eq_true rfl), (Nat.le_of_ble_eq_true rfl)⟩ (kE ?_)
      exact j_iret M dX7_stand_75 ⟨_, rfl, by refine ⟨rfl, ?_⟩; first | (simp [standR, h_4, h_11]; done) | (have n := nt6 h_11; simp [standR, h_4, n]; done)⟩
    · refine j_aload_n M dX7_stand_76 rfl ?_
      refine gf_X7_19 M dX7_stand_77 ?_
      refine j_iconst (v := 2) M dX7_stand_80 rfl ?_
      refine al_40_4 M dX7_stand_81 (by first | assumption | decide) (by first | assumption | decide) ?_
      exact j_iret M dX7_stand_82 ⟨_, rfl, by refine ⟨rfl, ?_⟩; first | (simp [standR, h_4, h_11]; done) | (have n := nt6 h_11; simp [standR, h_4, n]; done)⟩
    · refine j_aload_n M dX7_stand_83 rfl ?_
      refine gf_X7_19 M dX7_stand_84 ?_
      refine j_iconst (v := 3) M dX7_stand_87 rfl ?_
      refine al_40_4 M dX7_stand_88 (by first | assumption | decide) (by first | assumption | decide) ?_
      exact j_iret M dX7_stand_89 ⟨_, rfl, by refine ⟨rfl, ?_⟩; first | (simp [standR, h_4, h_11]; done) | (have n := nt6 h_11; simp [standR, h_4, n]; done)⟩
    · refine j_ldc M k_X7_73 dX7_stand_90 ?_
      exact j_iret M dX7_stand_92 ⟨_, rfl, by refine ⟨rfl, ?_⟩; first | (simp [standR, h_4, h_11]; done) | (have n := nt6 h_11; simp [standR, h_4, n]; done)⟩
  · refine j_ldc M k_X7_181 dX7_stand_7 ?_
    exact j_iret M dX7_stand_9 ⟨_, rfl, by refine ⟨rfl, ?_⟩; first | (simp [standR, h_4]; done) | (have n := nt6 h_11; simp [standR, h_4, n]; done)⟩
set_option maxRecDepth 100000 in
theorem c_X7_ahead {l : Launch} {G : Gw} {σ : Sg} {b : Int32} {n : Int32} {w : Int32}  (hS : SW (σ 40 4)) : Mt l G yX7_ahead cX7_ahead 5 (some .int) 6 136 [.ref (ad G 40 0), .int b, .int n, .int w] σ (pI fun r τ => r = aheadR (σ 40 4) b n w ∧ frm σ τ 40 [8, 10]) := by
  refine mt_intro (by decide +kernel) (Nat.le_of_ble_eq_true rfl) (fun Φ M => ?_)
  show Φ 0 [some (.ref (ad G 40 0)), some (.int b), some (.int n), some (.int w), none] [] σ
  refine j_aload_n M dX7_ahead_0 rfl ?_
  refine j_iload_n M dX7_ahead_1 rfl ?_
  refine j_inv1 M lk_X7_194 (c_X7_isBook) rv_X7 dX7_ahead_2 (Nat.le_of_ble_eq_true rfl) ⟨(Nat.le_of_ble_eq_true rfl), (Nat.le_of_ble_eq_true rfl)⟩ (kP fun r_2 k_2 => ?_)
  refine j_if_eq (tgt := 27) M dX7_ahead_5 (by decide) (fun h_5 => ?_) (fun h_5 => ?_)
  · have b_2 := ifF k_2 h_5
    refine j_ldc M k_X7_73 dX7_ahead_27 ?_
    exact j_iret M dX7_ahead_29 ⟨_, rfl, by first | exact ⟨by simp [aheadR, b_2, g1], frm_back g3⟩ | exact ⟨by simp [aheadR, b_2], frm_refl _ _ _⟩⟩
  · have b_2 := ifT k_2 h_5
    refine j_iload_n M dX7_ahead_8 rfl ?_
    refine j_i2l M dX7_ahead_9 ?_
    refine j_lconst (v := 0) M dX7_ahead_10 rfl ?_
    refine j_ldc2 M kl_X7_214 dX7_ahead_11 ?_
    refine j_invs3 M lk_X7_63 (c_X7_inI (a := 0) (b := 60) rfl (by decide) (by decide)) dX7_ahead_14 (Nat.le_of_ble_eq_true rfl) ⟨(Nat.le_of_ble_eq_true rfl), (Nat.le_of_ble_eq_true rfl)⟩ (kP fun r_14 k_14 => ?_)
    refine j_if_eq (tgt := 27) M dX7_ahead_17 (by decide) (fun h_17 => ?_) (fun h_17 => ?_)
    · have b_14 := ifF k_14 h_17
      refine j_ldc M k_X7_73 dX7_ahead_27 ?_
      exact j_iret M dX7_ahead_29 ⟨_, rfl, by first | exact ⟨by simp [aheadR, b_2, b_14, g1], frm_back g3⟩ | exact ⟨by simp [aheadR, b_2, b_14], frm_refl _ _ _⟩⟩
    · have b_14 := ifT k_14 h_17
      refine j_iload_n M dX7_ahead_20 rfl ?_
      refine j_invs1 M lk_X7_216 (c_X7_isWhat) dX7_ahead_21 (Nat.le_of_ble_eq_true rfl) ⟨(Nat.le_of_ble_eq_true rfl), (Nat.le_of_ble_eq_true rfl)⟩ (kP fun r_21 k_21 => ?_)
      refine j_if_ne (tgt := 30) M dX7_ahead_24 (by decide) (fun h_24 => ?_) (fun h_24 => ?_)
      · have b_21 := ifT k_21 h_24
        have hB := hS.b b_2
        obtain ⟨⟨⟨_, _⟩, ⟨_, _⟩⟩, ⟨_, _⟩⟩ := ixS b_2.1 hB.2.2
        refine j_aload_n M dX7_ahead_30 rfl ?_
        refine j_inv0 M lk_X7_219 (c_X7_putAside) rv_X7 dX7_ahead_31 (Nat.le_of_ble_eq_true rfl) ⟨(Nat.le_of_ble_eq_true rfl), (Nat.le_of_ble_eq_true rfl)⟩ (kV fun σ_31 q_31 => ?_)
        subst q_31
        refine j_aload_n M dX7_ahead_34 rfl ?_
        refine j_iload_n M dX7_ahead_35 rfl ?_
        refine j_inv1 M lk_X7_208 (c_X7_goOn ((by rw [up_ne _ _ (by decide)]; exact hB.1)) (b_14.1)) rv_X7 dX7_ahead_36 (Nat.le_of_ble_eq_true rfl) ⟨(Nat.le_of_ble_eq_true rfl), (Nat.le_of_ble_eq_true rfl)⟩ (kV fun σ_36 q_36 => ?_)
        obtain ⟨g1, g2, g3⟩ := q_36
        rw [up_ne _ _ (by decide), up_ne _ _ (by decide)] at g1 g2
        rw [gon_fst] at g1
        refine j_iload_n M dX7_ahead_39 rfl ?_
        refine j_if_ne (tgt := 55) M dX7_ahead_40 (by decide) (fun h_40 => ?_) (fun h_40 => ?_)
        · refine j_aload_n M dX7_ahead_55 rfl ?_
          refine gf_X7_19 M dX7_ahead_56 ?_
          refine j_bipush (v := 14) M dX7_ahead_59 rfl ?_
          refine j_iload_n M dX7_ahead_61 rfl ?_
          refine j_iadd M dX7_ahead_62 ?_
          refine al_40_4 M dX7_ahead_63 (by first | assumption | decide) (by first | assumption | decide) ?_
          refine j_istore_4 M dX7_ahead_64 (by exact (by first | trivial | rfl)) ?_
          refine j_aload_n M dX7_ahead_66 rfl ?_
          refine j_inv0 M lk_X7_211 (c_X7_takeBack) rv_X7 dX7_ahead_67 (Nat.le_of_ble_eq_true rfl) ⟨(Nat.le_of_ble_eq_true rfl), (Nat.le_of_ble_eq_true rfl)⟩ (kV fun σ_67 q_67 => ?_)
          subst q_67
          refine j_iload M dX7_ahead_70 rfl ?_
          exact j_iret M dX7_ahead_72 ⟨_, rfl, by first | exact ⟨by simp [aheadR, b_2, b_14, b_21, h_40, g1], frm_back g3⟩ | exact ⟨by simp [aheadR, b_2, b_14, b_21, h_40], frm_refl _ _ _⟩⟩
        · refine j_aload_n M dX7_ahead_43 rfl ?_
          refine gf_X7_19 M dX7_ahead_44 ?_
          refine j_bipush (v := 8) M dX7_ahead_47 rfl ?_
          refine j_iload_n M dX7_ahead_49 rfl ?_
          refine j_iadd M dX7_ahead_50 ?_
          refine al_40_4 M dX7_ahead_51 (by first | assumption | decide) (by first | assumption | decide) ?_
          refine j_goto (tgt := 64) M dX7_ahead_52 (by decide) ?_
          refine j_istore_4 M dX7_ahead_64 (by exact (by first | trivial | rfl)) ?_
          refine j_aload_n M dX7_ahead_66 rfl ?_
          refine j_inv0 M lk_X7_211 (c_X7_takeBack) rv_X7 dX7_ahead_67 (Nat.le_of_ble_eq_true rfl) ⟨(Nat.le_of_ble_eq_true rfl), (Nat.le_of_ble_eq_true rfl)⟩ (kV fun σ_67 q_67 => ?_)
          subst q_67
          refine j_iload M dX7_ahead_70 rfl ?_
          exact j_iret M dX7_ahead_72 ⟨_, rfl, by first | exact ⟨by simp [aheadR, b_2, b_14, b_21, h_40, g1], frm_back g3⟩ | exact ⟨by simp [aheadR, b_2, b_14, b_21, h_40], frm_refl _ _ _⟩⟩
      · have b_21 := ifF k_21 h_24
        refine j_ldc M k_X7_73 dX7_ahead_27 ?_
        exact j_iret M dX7_ahead_29 ⟨_, rfl, by first | exact ⟨by simp [aheadR, b_2, b_14, b_21, g1], frm_back g3⟩ | exact ⟨by simp [aheadR, b_2, b_14, b_21], frm_refl _ _ _⟩⟩
set_option maxRecDepth 100000 in
theorem c_X7_later {l : Launch} {G : Gw} {σ : Sg} {f : Int32} {n : Int32} {w : Int32}  (hS : SW (σ 40 4)) : Mt l G yX7_later cX7_later 5 (some .int) 6 136 [.ref (ad G 40 0), .int f, .int n, .int w] σ (pI fun r τ => r = laterR (σ 40 4) f n w ∧ frm σ τ 40 [8, 10]) := by
  refine mt_intro (by decide +kernel) (Nat.le_of_ble_eq_true rfl) (fun Φ M => ?_)
  show Φ 0 [some (.ref (ad G 40 0)), some (.int f), some (.int n), some (.int w), none] [] σ
  refine j_aload_n M dX7_later_0 rfl ?_
  refine j_iload_n M dX7_later_1 rfl ?_
  refine j_inv1 M lk_X7_200 (c_X7_isFish) rv_X7 dX7_later_2 (Nat.le_of_ble_eq_true rfl) ⟨(Nat.le_of_ble_eq_true rfl), (Nat.le_of_ble_eq_true rfl)⟩ (kP fun r_2 k_2 => ?_)
  refine j_if_eq (tgt := 27) M dX7_later_5 (by decide) (fun h_5 => ?_) (fun h_5 => ?_)
  · have b_2 := ifF k_2 h_5
    refine j_ldc M k_X7_73 dX7_later_27 ?_
    exact j_iret M dX7_later_29 ⟨_, rfl, by first | exact ⟨by simp [laterR, bt1, b_2, ← g1], frm_back g3⟩ | exact ⟨by simp [laterR, b_2], frm_refl _ _ _⟩⟩
  · have b_2 := ifT k_2 h_5
    refine j_iload_n M dX7_later_8 rfl ?_
    refine j_i2l M dX7_later_9 ?_
    refine j_lconst (v := 0) M dX7_later_10 rfl ?_
    refine j_ldc2 M kl_X7_214 dX7_later_11 ?_
    refine j_invs3 M lk_X7_63 (c_X7_inI (a := 0) (b := 60) rfl (by decide) (by decide)) dX7_later_14 (Nat.le_of_ble_eq_true rfl) ⟨(Nat.le_of_ble_eq_true rfl), (Nat.le_of_ble_eq_true rfl)⟩ (kP fun r_14 k_14 => ?_)
    refine j_if_eq (tgt := 27) M dX7_later_17 (by decide) (fun h_17 => ?_) (fun h_17 => ?_)
    · have b_14 := ifF k_14 h_17
      refine j_ldc M k_X7_73 dX7_later_27 ?_
      exact j_iret M dX7_later_29 ⟨_, rfl, by first | exact ⟨by simp [laterR, bt1, b_2, b_14, ← g1], frm_back g3⟩ | exact ⟨by simp [laterR, b_2, b_14], frm_refl _ _ _⟩⟩
    · have b_14 := ifT k_14 h_17
      refine j_iload_n M dX7_later_20 rfl ?_
      refine j_invs1 M lk_X7_216 (c_X7_isWhat) dX7_later_21 (Nat.le_of_ble_eq_true rfl) ⟨(Nat.le_of_ble_eq_true rfl), (Nat.le_of_ble_eq_true rfl)⟩ (kP fun r_21 k_21 => ?_)
      refine j_if_ne (tgt := 30) M dX7_later_24 (by decide) (fun h_24 => ?_) (fun h_24 => ?_)
      · have b_21 := ifT k_21 h_24
        have hB := hS.f b_2
        obtain ⟨⟨⟨_, _⟩, ⟨_, _⟩⟩, ⟨_, _⟩⟩ := ixT b_2.1 hB.2.2
        refine j_aload_n M dX7_later_30 rfl ?_
        refine j_inv0 M lk_X7_219 (c_X7_putAside) rv_X7 dX7_later_31 (Nat.le_of_ble_eq_true rfl) ⟨(Nat.le_of_ble_eq_true rfl), (Nat.le_of_ble_eq_true rfl)⟩ (kV fun σ_31 q_31 => ?_)
        subst q_31
        refine j_aload_n M dX7_later_34 rfl ?_
        refine j_iload_n M dX7_later_35 rfl ?_
        refine j_inv1 M lk_X7_208 (c_X7_goOn ((by rw [up_ne _ _ (by decide)]; exact hB.1)) (b_14.1)) rv_X7 dX7_later_36 (Nat.le_of_ble_eq_true rfl) ⟨(Nat.le_of_ble_eq_true rfl), (Nat.le_of_ble_eq_true rfl)⟩ (kV fun σ_36 q_36 => ?_)
        obtain ⟨g1, g2, g3⟩ := q_36
        rw [up_ne _ _ (by decide), up_ne _ _ (by decide)] at g1 g2
        rw [gon_fst] at g1
        refine j_iload_n M dX7_later_39 rfl ?_
        refine j_iconst (v := 1) M dX7_later_40 rfl ?_
        refine j_icmp_ne (tgt := 56) M dX7_later_41 (by decide) (fun h_41 => ?_) (fun h_41 => ?_)
        · refine j_aload_n M dX7_later_56 rfl ?_
          refine j_iload_n M dX7_later_57 rfl ?_
          refine j_inv1 M lk_X7_171 (c_X7_isCaught) rv_X7 dX7_later_58 (Nat.le_of_ble_eq_true rfl) ⟨(Nat.le_of_ble_eq_true rfl), (Nat.le_of_ble_eq_true rfl)⟩ (kE ?_)
          refine j_if_eq (tgt := 69) M dX7_later_61 (by decide) (fun h_61 => ?_) (fun h_61 => ?_)
          · refine j_aload_n M dX7_later_69 rfl ?_
            refine gf_X7_19 M dX7_later_70 ?_
            refine j_bipush (v := 31) M dX7_later_73 rfl ?_
            refine j_iload_n M dX7_later_75 rfl ?_
            refine j_iadd M dX7_later_76 ?_
            refine al_40_4 M dX7_later_77 (by first | assumption | decide) (by first | assumption | decide) ?_
            refine j_istore_4 M dX7_later_78 (by exact (by first | trivial | rfl)) ?_
            refine j_aload_n M dX7_later_80 rfl ?_
            refine j_inv0 M lk_X7_211 (c_X7_takeBack) rv_X7 dX7_later_81 (Nat.le_of_ble_eq_true rfl) ⟨(Nat.le_of_ble_eq_true rfl), (Nat.le_of_ble_eq_true rfl)⟩ (kV fun σ_81 q_81 => ?_)
            subst q_81
            refine j_iload M dX7_later_84 rfl ?_
            exact j_iret M dX7_later_86 ⟨_, rfl, by first | exact ⟨by simp [laterR, bt1, b_2, b_14, b_21, h_41, h_61, ← g1], frm_back g3⟩ | exact ⟨by simp [laterR, b_2, b_14, b_21, h_41, h_61], frm_refl _ _ _⟩⟩
          · refine j_ldc M k_X7_158 dX7_later_64 ?_
            refine j_goto (tgt := 78) M dX7_later_66 (by decide) ?_
            refine j_istore_4 M dX7_later_78 (by exact (by first | trivial | rfl)) ?_
            refine j_aload_n M dX7_later_80 rfl ?_
            refine j_inv0 M lk_X7_211 (c_X7_takeBack) rv_X7 dX7_later_81 (Nat.le_of_ble_eq_true rfl) ⟨(Nat.le_of_ble_eq_true rfl), (Nat.le_of_ble_eq_true rfl)⟩ (kV fun σ_81 q_81 => ?_)
            subst q_81
            refine j_iload M dX7_later_84 rfl ?_
            exact j_iret M dX7_later_86 ⟨_, rfl, by first | exact ⟨by simp [laterR, bt1, b_2, b_14, b_21, h_41, h_61, ← g1], frm_back g3⟩ | exact ⟨by simp [laterR, b_2, b_14, b_21, h_41, h_61], frm_refl _ _ _⟩⟩
        · refine j_aload_n M dX7_later_44 rfl ?_
          refine gf_X7_19 M dX7_later_45 ?_
          refine j_bipush (v := 36) M dX7_later_48 rfl ?_
          refine j_iload_n M dX7_later_50 rfl ?_
          refine j_iadd M dX7_later_51 ?_
          refine al_40_4 M dX7_later_52 (by first | assumption | decide) (by first | assumption | decide) ?_
          refine j_goto (tgt := 78) M dX7_later_53 (by decide) ?_
          refine j_istore_4 M dX7_later_78 (by exact (by first | trivial | rfl)) ?_
          refine j_aload_n M dX7_later_80 rfl ?_
          refine j_inv0 M lk_X7_211 (c_X7_takeBack) rv_X7 dX7_later_81 (Nat.le_of_ble_eq_true rfl) ⟨(Nat.le_of_ble_eq_true rfl), (Nat.le_of_ble_eq_true rfl)⟩ (kV fun σ_81 q_81 => ?_)
          subst q_81
          refine j_iload M dX7_later_84 rfl ?_
          exact j_iret M dX7_later_86 ⟨_, rfl, by first | exact ⟨by simp [laterR, bt1, b_2, b_14, b_21, h_41, ← g1], frm_back g3⟩ | exact ⟨by simp [laterR, b_2, b_14, b_21, h_41], frm_refl _ _ _⟩⟩
      · have b_21 := ifF k_21 h_24
        refine j_ldc M k_X7_73 dX7_later_27 ?_
        exact j_iret M dX7_later_29 ⟨_, rfl, by first | exact ⟨by simp [laterR, bt1, b_2, b_14, b_21, ← g1], frm_back g3⟩ | exact ⟨by simp [laterR, b_2, b_14, b_21], frm_refl _ _ _⟩⟩
set_option maxRecDepth 100000 in
theorem c_X7_hole {l : Launch} {G : Gw} {σ : Sg} {f : Int32} {n : Int32}  (hS : SW (σ 40 4)) : Mt l G yX7_hole cX7_hole 3 (some .int) 6 136 [.ref (ad G 40 0), .int f, .int n] σ (pI fun r τ => r = holeR (σ 40 4) f n (σ 40 8) ∧ frm σ τ 40 [8, 10]) := by
  refine mt_intro (by decide +kernel) (Nat.le_of_ble_eq_true rfl) (fun Φ M => ?_)
  show Φ 0 [some (.ref (ad G 40 0)), some (.int f), some (.int n)] [] σ
  refine j_aload_n M dX7_hole_0 rfl ?_
  refine j_iload_n M dX7_hole_1 rfl ?_
  refine j_inv1 M lk_X7_200 (c_X7_isFish) rv_X7 dX7_hole_2 (Nat.le_of_ble_eq_true rfl) ⟨(Nat.le_of_ble_eq_true rfl), (Nat.le_of_ble_eq_true rfl)⟩ (kP fun r_2 k_2 => ?_)
  refine j_if_eq (tgt := 20) M dX7_hole_5 (by decide) (fun h_5 => ?_) (fun h_5 => ?_)
  · have b_2 := ifF k_2 h_5
    refine j_ldc M k_X7_73 dX7_hole_20 ?_
    exact j_iret M dX7_hole_22 ⟨_, rfl, by first | exact ⟨by simp [holeR, b_2, up, g2, gH], frm_back2 (σ0 := up (up σ 40 10 (σ 40 4)) 40 8 _) (frm_up (frm_up (frm_refl _ _ _) (by decide)) (by decide)) (by simp [up]) g3⟩ | exact ⟨by simp [holeR, b_2], frm_refl _ _ _⟩⟩
  · have b_2 := ifT k_2 h_5
    refine j_iload_n M dX7_hole_8 rfl ?_
    refine j_i2l M dX7_hole_9 ?_
    refine j_lconst (v := 0) M dX7_hole_10 rfl ?_
    refine j_ldc2 M kl_X7_214 dX7_hole_11 ?_
    refine j_invs3 M lk_X7_63 (c_X7_inI (a := 0) (b := 60) rfl (by decide) (by decide)) dX7_hole_14 (Nat.le_of_ble_eq_true rfl) ⟨(Nat.le_of_ble_eq_true rfl), (Nat.le_of_ble_eq_true rfl)⟩ (kP fun r_14 k_14 => ?_)
    refine j_if_ne (tgt := 23) M dX7_hole_17 (by decide) (fun h_17 => ?_) (fun h_17 => ?_)
    · have b_14 := ifT k_14 h_17
      have hB := hS.f b_2
      obtain ⟨⟨⟨_, _⟩, ⟨_, _⟩⟩, ⟨_, _⟩⟩ := ixT b_2.1 hB.2.2
      refine j_aload_n M dX7_hole_23 rfl ?_
      refine j_inv0 M lk_X7_219 (c_X7_putAside) rv_X7 dX7_hole_24 (Nat.le_of_ble_eq_true rfl) ⟨(Nat.le_of_ble_eq_true rfl), (Nat.le_of_ble_eq_true rfl)⟩ (kV fun σ_24 q_24 => ?_)
      subst q_24
      refine j_aload_n M dX7_hole_27 rfl ?_
      refine gf_X7_31 M dX7_hole_28 ?_
      refine j_iload_n M dX7_hole_31 rfl ?_
      refine j_iconst (v := 0) M dX7_hole_32 rfl ?_
      refine as_40_8 M dX7_hole_33 (by first | assumption | decide | exact b_2.1 | exact hB.2.2) (by first | assumption | decide | exact b_2.1 | exact hB.2.2) ?_
      refine j_aload_n M dX7_hole_34 rfl ?_
      refine j_iload_n M dX7_hole_35 rfl ?_
      refine j_inv1 M lk_X7_208 (c_X7_goOn ((by simpa [up] using hB.1)) (b_14.1)) rv_X7 dX7_hole_36 (Nat.le_of_ble_eq_true rfl) ⟨(Nat.le_of_ble_eq_true rfl), (Nat.le_of_ble_eq_true rfl)⟩ (kV fun σ_36 q_36 => ?_)
      obtain ⟨g1, g2, g3⟩ := q_36
      simp [up] at g2
      refine j_aload_n M dX7_hole_39 rfl ?_
      refine j_inv0 M lk_X7_211 (c_X7_takeBack) rv_X7 dX7_hole_40 (Nat.le_of_ble_eq_true rfl) ⟨(Nat.le_of_ble_eq_true rfl), (Nat.le_of_ble_eq_true rfl)⟩ (kV fun σ_40 q_40 => ?_)
      subst q_40
      refine j_aload_n M dX7_hole_43 rfl ?_
      refine gf_X7_31 M dX7_hole_44 ?_
      refine j_iload_n M dX7_hole_47 rfl ?_
      refine al_40_8 M dX7_hole_48 (by first | assumption | decide | exact b_2.1 | exact hB.2.2) (by first | assumption | decide | exact b_2.1 | exact hB.2.2) ?_
      exact j_iret M dX7_hole_49 ⟨_, rfl, by first | exact ⟨by simp [holeR, b_2, b_14, up, g2, gH], frm_back2 (σ0 := up (up σ 40 10 (σ 40 4)) 40 8 _) (frm_up (frm_up (frm_refl _ _ _) (by decide)) (by decide)) (by simp [up]) g3⟩ | exact ⟨by simp [holeR, b_2, b_14], frm_refl _ _ _⟩⟩
    · have b_14 := ifF k_14 h_17
      refine j_ldc M k_X7_73 dX7_hole_20 ?_
      exact j_iret M dX7_hole_22 ⟨_, rfl, by first | exact ⟨by simp [holeR, b_2, b_14, up, g2, gH], frm_back2 (σ0 := up (up σ 40 10 (σ 40 4)) 40 8 _) (frm_up (frm_up (frm_refl _ _ _) (by decide)) (by decide)) (by simp [up]) g3⟩ | exact ⟨by simp [holeR, b_2, b_14], frm_refl _ _ _⟩⟩
set_option maxRecDepth 100000 in
theorem c_X7_least {l : Launch} {G : Gw} {σ : Sg} {m : Int32}  (hw : leastR m < 6) : Mt l G yX7_least cX7_least 2 (some .int) 1 21 [.int m] σ (pI fun r τ => τ = σ ∧ r = leastR m) := by
  refine mt_intro (by decide +kernel) (Nat.le_of_ble_eq_true rfl) (fun Φ M => ?_)
  show Φ 0 [some (.int m), none] [] σ
  have lp : ∀ b : Int32, 0 ≤ b → b ≤ leastR m → Φ 2 [some (.int m), some (.int b)] [] σ := by
    refine loop_up 6 (fun b hb ih hle => ?_)
    have b6 : b < 6 := Int32.lt_of_le_of_lt hle hw
    refine j_iload_n M dX7_least_2 rfl ?_
    refine j_iload_n M dX7_least_3 rfl ?_
    refine j_invs2 M lk_X7_154 (c_X7_has) dX7_least_4 (Nat.le_of_ble_eq_true rfl) ⟨(Nat.le_of_ble_eq_true rfl), (Nat.le_of_ble_eq_true rfl)⟩ (kE ?_)
    refine j_if_ne (tgt := 16) M dX7_least_7 (by decide) (fun h_7 => ?_) (fun h_7 => ?_)
    · refine j_iload_n M dX7_least_16 rfl ?_
      exact j_iret M dX7_least_17 ⟨_, rfl, by exact ⟨rfl, least_here hb b6 hle (bt1' h_7)⟩⟩
    · refine j_iinc_1 M dX7_least_10 (show _ + Int32.ofInt 1 = _ + 1 from rfl) (by exact (by first | trivial | rfl)) ?_
      refine j_goto (tgt := 2) M dX7_least_13 (by decide) ?_
      exact ih b6 (least_step hb b6 hle h_7)
  refine j_iconst (v := 0) M dX7_least_0 rfl ?_
  refine j_istore_1 M dX7_least_1 (by exact (by first | trivial | rfl)) ?_
  exact lp 0 (by decide) (least_rng _).1
set_option maxRecDepth 100000 in
theorem c_X7_when {l : Launch} {G : Gw} {σ : Sg} {b : Int32}  (hS : SW (σ 40 4)) : Mt l G yX7_when cX7_when 4 (some .int) 5 114 [.ref (ad G 40 0), .int b] σ (pI fun r τ => (if isB (σ 40 4) b then isFirst (fun n => gS (σ 40 4) n (8 + b) = 0) r else r = -1000001) ∧ frm σ τ 40 [8, 10]) := by
  refine mt_intro (by decide +kernel) (Nat.le_of_ble_eq_true rfl) (fun Φ M => ?_)
  show Φ 0 [some (.ref (ad G 40 0)), some (.int b), none, none] [] σ
  have fin : ∀ (n : Int32) (τ : Sg), 0 ≤ n → n ≤ 60 → isB (σ 40 4) b → τ 40 4 = gS (σ 40 4) n → frm (up σ 40 10 (σ 40 4)) τ 40 [4, 8] → (∀ m, 0 ≤ m → m < n → ¬ gS (σ 40 4) m (8 + b) = 0) → (¬ 0 < gS (σ 40 4) n (8 + b) ∨ n = 60) → Φ 45 [some (.ref (ad G 40 0)), some (.int b), some (.int n), none] [] τ := by
    intro n τ n0 n60 b_2 et hfr hm hor
    have hB := hS.b b_2
    obtain ⟨⟨⟨_, _⟩, ⟨_, _⟩⟩, ⟨_, _⟩⟩ := ixS b_2.1 hB.2.2
    have pg := (gS_WF hB.1 n).1.2.1 b b_2.1 (by rw [(gS_WF hB.1 n).2.1]; exact hB.2.1)
    refine j_aload_n M dX7_when_45 rfl ?_
    refine gf_X7_19 M dX7_when_46 ?_
    refine j_bipush (v := 8) M dX7_when_49 rfl ?_
    refine j_iload_n M dX7_when_51 rfl ?_
    refine j_iadd M dX7_when_52 ?_
    refine al_40_4 M dX7_when_53 (by first | assumption | decide) (by first | assumption | decide) ?_
    refine j_if_ne (tgt := 61) M dX7_when_54 (by decide) (fun h_54 => ?_) (fun h_54 => ?_)
    · refine j_iconst (v := 0) M dX7_when_61 rfl ?_
      refine j_istore_3 M dX7_when_62 (by exact (by first | trivial | rfl)) ?_
      refine j_aload_n M dX7_when_63 rfl ?_
      refine j_inv0 M lk_X7_211 (c_X7_takeBack) rv_X7 dX7_when_64 (Nat.le_of_ble_eq_true rfl) ⟨(Nat.le_of_ble_eq_true rfl), (Nat.le_of_ble_eq_true rfl)⟩ (kV fun σ_64 q_64 => ?_)
      subst q_64
      refine j_iload_n M dX7_when_67 rfl ?_
      refine j_if_eq (tgt := 75) M dX7_when_68 (by decide) (fun h_68 => ?_) (fun h_68 => ?_)
      · refine j_ldc M k_X7_158 dX7_when_75 ?_
        exact j_iret M dX7_when_77 ⟨_, rfl, by refine ⟨?_, frm_back hfr⟩; rw [et] at h_54; rw [if_pos b_2]; first | exact absurd h_68 (by decide) | exact Or.inl ⟨n0, n60, h_54, hm⟩ | exact Or.inr ⟨rfl, first60 hm hor h_54 pg.1.1⟩⟩
      · refine j_iload_n M dX7_when_71 rfl ?_
        refine j_goto (tgt := 77) M dX7_when_72 (by decide) ?_
        exact j_iret M dX7_when_77 ⟨_, rfl, by refine ⟨?_, frm_back hfr⟩; rw [et] at h_54; rw [if_pos b_2]; first | exact absurd h_68 (by decide) | exact Or.inl ⟨n0, n60, h_54, hm⟩ | exact Or.inr ⟨rfl, first60 hm hor h_54 pg.1.1⟩⟩
    · refine j_iconst (v := 1) M dX7_when_57 rfl ?_
      refine j_goto (tgt := 62) M dX7_when_58 (by decide) ?_
      refine j_istore_3 M dX7_when_62 (by exact (by first | trivial | rfl)) ?_
      refine j_aload_n M dX7_when_63 rfl ?_
      refine j_inv0 M lk_X7_211 (c_X7_takeBack) rv_X7 dX7_when_64 (Nat.le_of_ble_eq_true rfl) ⟨(Nat.le_of_ble_eq_true rfl), (Nat.le_of_ble_eq_true rfl)⟩ (kV fun σ_64 q_64 => ?_)
      subst q_64
      refine j_iload_n M dX7_when_67 rfl ?_
      refine j_if_eq (tgt := 75) M dX7_when_68 (by decide) (fun h_68 => ?_) (fun h_68 => ?_)
      · refine j_ldc M k_X7_158 dX7_when_75 ?_
        exact j_iret M dX7_when_77 ⟨_, rfl, by refine ⟨?_, frm_back hfr⟩; rw [et] at h_54; rw [if_pos b_2]; first | exact absurd h_68 (by decide) | exact Or.inl ⟨n0, n60, h_54, hm⟩ | exact Or.inr ⟨rfl, first60 hm hor h_54 pg.1.1⟩⟩
      · refine j_iload_n M dX7_when_71 rfl ?_
        refine j_goto (tgt := 77) M dX7_when_72 (by decide) ?_
        exact j_iret M dX7_when_77 ⟨_, rfl, by refine ⟨?_, frm_back hfr⟩; rw [et] at h_54; rw [if_pos b_2]; first | exact absurd h_68 (by decide) | exact Or.inl ⟨n0, n60, h_54, hm⟩ | exact Or.inr ⟨rfl, first60 hm hor h_54 pg.1.1⟩⟩
  have lp : ∀ n : Int32, 0 ≤ n → ∀ τ : Sg, n ≤ 60 → isB (σ 40 4) b → τ 40 4 = gS (σ 40 4) n → frm (up σ 40 10 (σ 40 4)) τ 40 [4, 8] → (∀ m, 0 ≤ m → m < n → ¬ gS (σ 40 4) m (8 + b) = 0) → Φ 17 [some (.ref (ad G 40 0)), some (.int b), some (.int n), none] [] τ := by
    refine loop_up 60 (fun n hn ih τ n60 b_2 et hfr hm => ?_)
    have hB := hS.b b_2
    obtain ⟨⟨⟨_, _⟩, ⟨_, _⟩⟩, ⟨_, _⟩⟩ := ixS b_2.1 hB.2.2
    refine j_aload_n M dX7_when_17 rfl ?_
    refine gf_X7_19 M dX7_when_18 ?_
    refine j_bipush (v := 8) M dX7_when_21 rfl ?_
    refine j_iload_n M dX7_when_23 rfl ?_
    refine j_iadd M dX7_when_24 ?_
    refine al_40_4 M dX7_when_25 (by first | assumption | decide) (by first | assumption | decide) ?_
    refine j_if_le (tgt := 45) M dX7_when_26 (by decide) (fun h_26 => ?_) (fun h_26 => ?_)
    · exact fin _ _ hn n60 b_2 et hfr hm (Or.inl (by rw [← et]; exact h_26))
    · refine j_iload_n M dX7_when_29 rfl ?_
      refine j_bipush (v := 60) M dX7_when_30 rfl ?_
      refine j_icmp_ge (tgt := 45) M dX7_when_32 (by decide) (fun h_32 => ?_) (fun h_32 => ?_)
      · exact fin _ _ hn n60 b_2 et hfr hm (Or.inr (Int32.le_antisymm n60 (Int32.not_lt.mp h_32)))
      · refine j_aload_n M dX7_when_35 rfl ?_
        refine j_inv0 M lk_X7_187 (c_X7_oneNight ((by rw [et]; exact (gS_WF hB.1 n).1))) rv_X7 dX7_when_36 (Nat.le_of_ble_eq_true rfl) ⟨(Nat.le_of_ble_eq_true rfl), (Nat.le_of_ble_eq_true rfl)⟩ (kV fun σ_36 q_36 => ?_)
        refine j_iinc_2 M dX7_when_39 (show _ + Int32.ofInt 1 = _ + 1 from rfl) (by exact (by first | trivial | rfl)) ?_
        refine j_goto (tgt := 17) M dX7_when_42 (by decide) ?_
        obtain ⟨g1, g2, g3⟩ := q_36
        rw [et] at h_26
        refine ih h_32 _ (inc_lt hn h_32).2.1 b_2 (by rw [g1, gS_s hn h_32, et]; exact night_fst _ _ _) (frm_trans hfr g3) (fun m m0 m1 => ?_)
        by_cases e : m = n
        · rw [e]; exact fun z => absurd h_26 (by rw [z]; decide)
        · exact hm m m0 (lt_of_inc hn h_32 m1 e)
  refine j_aload_n M dX7_when_0 rfl ?_
  refine j_iload_n M dX7_when_1 rfl ?_
  refine j_inv1 M lk_X7_194 (c_X7_isBook) rv_X7 dX7_when_2 (Nat.le_of_ble_eq_true rfl) ⟨(Nat.le_of_ble_eq_true rfl), (Nat.le_of_ble_eq_true rfl)⟩ (kP fun r_2 k_2 => ?_)
  refine j_if_ne (tgt := 11) M dX7_when_5 (by decide) (fun h_5 => ?_) (fun h_5 => ?_)
  · have b_2 := ifT k_2 h_5
    refine j_aload_n M dX7_when_11 rfl ?_
    refine j_inv0 M lk_X7_219 (c_X7_putAside) rv_X7 dX7_when_12 (Nat.le_of_ble_eq_true rfl) ⟨(Nat.le_of_ble_eq_true rfl), (Nat.le_of_ble_eq_true rfl)⟩ (kV fun σ_12 q_12 => ?_)
    subst q_12
    refine j_iconst (v := 0) M dX7_when_15 rfl ?_
    refine j_istore_2 M dX7_when_16 (by exact (by first | trivial | rfl)) ?_
    exact lp 0 (by decide) _ (by decide) b_2 (by rw [up_ne _ _ (by decide)]; rfl) (frm_refl _ _ _) (fun m m0 m1 => absurd (Int32.lt_of_le_of_lt m0 m1) (by decide))
  · have b_2 := ifF k_2 h_5
    refine j_ldc M k_X7_73 dX7_when_8 ?_
    exact j_iret M dX7_when_10 ⟨_, rfl, by exact ⟨by rw [if_neg b_2], frm_refl _ _ _⟩⟩
