set_option maxRecDepth 100000 in
theorem c_X3_likedPlace {l : Launch} {G : Gw} {σ : Sg} {c : Nat} (hc : isLib c) {f : Int32} {s : St} (hL : LibF (σ c) s) (hW : WF s) (f0 : 0 ≤ f) (f1 : f < s 1) : Mt l G yX3_likedPlace cX3_likedPlace 9 (some .int) 1 21 [.ref (ad G c 0), .int f] σ (pI fun r τ => τ = σ ∧ r = likedBy s f) := by
  refine mt_intro (by decide +kernel) (Nat.le_of_ble_eq_true rfl) (fun Φ M => ?_)
  show Φ 0 [some (.ref (ad G c 0)), some (.int f), none, none, none, none, none, none, none] [] σ
  have f5 := hW.f5 f1
  have fe := hL.2.2 f f0 f1
  have kr := (hW.2.2.2 f f0 f1).1
  have lp : ∀ p : Int32, 0 ≤ p → ∀ (a m : Int32) (k : Int32), k = s (26 + f) → k < 4 → p ≤ s 0 → linv s f p a m → Φ 30 [some (.ref (ad G c 0)), some (.int f), some (.int k), some (.int a), some (.int m), some (.int p), none, none, none] [] σ := by
    refine loop_up (s 0) (fun p hp ih a m k hk k4 hle hi => ?_)
    refine j_iload M dX3_likedPlace_30 rfl ?_
    refine j_aload_n M dX3_likedPlace_32 rfl ?_
    refine gf_X3_9 M hc dX3_likedPlace_33 ?_
    refine j_icmp_ge (tgt := 154) M dX3_likedPlace_36 (by decide) (fun h_36 => ?_) (fun h_36 => ?_)
    · refine j_iload_n M dX3_likedPlace_154 rfl ?_
      exact j_iret M dX3_likedPlace_155 ⟨_, rfl, by (try dsimp only); have e : p = s 0 := Int32.le_antisymm hle (by rw [hL.1.1] at h_36; exact Int32.not_lt.mp h_36); subst_vars; exact ⟨rfl, by unfold likedBy; rw [if_pos k4]; exact hi.1⟩⟩
    · rw [hL.1.1] at h_36
      have pe := (hL.2.1 p hp h_36).2.2.2
      have pb := hW.2.2.1 p hp h_36
      have be := hL.2.1 _ pb.1 pb.2.1
      have ex : (0 ≤ σ c 4 p ∧ σ c 4 p < σ c 0 0 ∧ σ c 4 p < 6) := by rw [pe, hL.1.1]; exact ⟨pb.1, pb.2.1, hW.b6 pb.2.1⟩
      have cl : σ c 0 5 ||| σ c 0 6 = s 5 ||| s 6 := by rw [hL.1.2.2.2.2.2.1, hL.1.2.2.2.2.2.2.1]
      have p0 := (hW.2.1 _ pb.1 pb.2.1).1.1
      have lr := (likes_rng hW f0 f1 pb.1 pb.2.1).1
      have st : ∀ {x y : Int32}, linv s f (p + 1) x y → Φ 30 [some (.ref (ad G c 0)), some (.int f), some (.int k), some (.int x), some (.int y), some (.int (p + 1)), none, none, none] [] σ := fun h => ih h_36 _ _ k hk k4 (inc_lt hp h_36).2.1 h
      refine j_iload M dX3_likedPlace_39 rfl ?_
      refine j_bipush (v := 6) M dX3_likedPlace_41 rfl ?_
      refine j_icmp_ge (tgt := 154) M dX3_likedPlace_43 (by decide) (fun h_43 => ?_) (fun h_43 => ?_)
      · exact absurd (hW.b6 h_36) h_43
      · refine j_aload_n M dX3_likedPlace_46 rfl ?_
        refine gf_X3_46 M hc dX3_likedPlace_47 ?_
        refine j_iload M dX3_likedPlace_50 rfl ?_
        refine al_L_4 M hc dX3_likedPlace_52 (by first | assumption | decide | exact b_58.1 | exact b_58.2.2) (by first | assumption | decide | exact b_58.1 | exact b_58.2.2) ?_
        refine j_istore_6 M dX3_likedPlace_53 (by exact (by first | trivial | rfl)) ?_
        refine j_aload_n M dX3_likedPlace_55 rfl ?_
        refine j_iload M dX3_likedPlace_56 rfl ?_
        refine j_inv1 M lk_X3_61 (c_X3_isBook hc) (rv_X3 hc) dX3_likedPlace_58 (Nat.le_of_ble_eq_true rfl) ⟨(Nat.le_of_ble_eq_true rfl), (Nat.le_of_ble_eq_true rfl)⟩ (kP fun r_58 k_58 => ?_)
        refine j_if_eq (tgt := 148) M dX3_likedPlace_61 (by decide) (fun h_61 => ?_) (fun h_61 => ?_)
        · exact absurd ex (ifF k_58 h_61)
        · have b_58 := ifT k_58 h_61
          refine j_aload_n M dX3_likedPlace_64 rfl ?_
          refine gf_X3_36 M hc dX3_likedPlace_65 ?_
          refine j_iload M dX3_likedPlace_68 rfl ?_
          refine al_L_1 M hc dX3_likedPlace_70 (by first | assumption | decide | exact b_58.1 | exact b_58.2.2) (by first | assumption | decide | exact b_58.1 | exact b_58.2.2) ?_
          refine j_if_eq (tgt := 148) M dX3_likedPlace_71 (by decide) (fun h_71 => ?_) (fun h_71 => ?_)
          · refine j_iinc_5 M dX3_likedPlace_148 (show _ + Int32.ofInt 1 = _ + 1 from rfl) (by exact (by first | trivial | rfl)) ?_
            refine j_goto (tgt := 30) M dX3_likedPlace_151 (by decide) ?_
            refine j_forget M (L' := [some (.ref (ad G c 0)), some (.int _), some (.int _), some (.int _), some (.int _), some (.int _), none, none, none]) (by repeat' (first | exact True.intro | refine ⟨rfl, ?_⟩)) ?_
            exact st (linv_no hp h_36 hi (fun q => absurd q.2.1 (by rw [pe, be.1] at h_71; rw [h_71]; decide)) lr)
          · refine j_aload_n M dX3_likedPlace_74 rfl ?_
            refine j_iload M dX3_likedPlace_75 rfl ?_
            refine j_inv1 M lk_X3_102 (c_X3_isClosed hc) (rv_X3 hc) dX3_likedPlace_77 (Nat.le_of_ble_eq_true rfl) ⟨(Nat.le_of_ble_eq_true rfl), (Nat.le_of_ble_eq_true rfl)⟩ (kE ?_)
            refine j_if_eq (tgt := 86) M dX3_likedPlace_80 (by decide) (fun h_80 => ?_) (fun h_80 => ?_)
            · refine j_iload M dX3_likedPlace_86 rfl ?_
              refine j_aload_n M dX3_likedPlace_88 rfl ?_
              refine gf_X3_52 M hc dX3_likedPlace_89 ?_
              refine j_iload_n M dX3_likedPlace_92 rfl ?_
              refine al_L_6 M hc dX3_likedPlace_93 (by first | assumption | decide | exact b_58.1 | exact b_58.2.2) (by first | assumption | decide | exact b_58.1 | exact b_58.2.2) ?_
              refine j_isub M dX3_likedPlace_94 ?_
              refine j_abs M mm_X3_120 sm_mabs in_J9 cd_mabs (Nat.le_of_ble_eq_true rfl) (Nat.le_of_ble_eq_true rfl) dX3_likedPlace_95 ?_
              refine j_istore_7 M dX3_likedPlace_98 (by exact (by first | trivial | rfl)) ?_
              refine j_aload_n M dX3_likedPlace_100 rfl ?_
              refine gf_X3_40 M hc dX3_likedPlace_101 ?_
              refine j_iload M dX3_likedPlace_104 rfl ?_
              refine al_L_2 M hc dX3_likedPlace_106 (by first | assumption | decide | exact b_58.1 | exact b_58.2.2) (by first | assumption | decide | exact b_58.1 | exact b_58.2.2) ?_
              refine j_iload_n M dX3_likedPlace_107 rfl ?_
              refine j_iconst (v := 2) M dX3_likedPlace_108 rfl ?_
              refine j_icmp_ne (tgt := 116) M dX3_likedPlace_109 (by decide) (fun h_109 => ?_) (fun h_109 => ?_)
              · refine j_iconst (v := 1) M dX3_likedPlace_116 rfl ?_
                refine j_imul M dX3_likedPlace_117 ?_
                refine j_aload_n M dX3_likedPlace_118 rfl ?_
                refine gf_X3_36 M hc dX3_likedPlace_119 ?_
                refine j_iload M dX3_likedPlace_122 rfl ?_
                refine al_L_1 M hc dX3_likedPlace_124 (by first | assumption | decide | exact b_58.1 | exact b_58.2.2) (by first | assumption | decide | exact b_58.1 | exact b_58.2.2) ?_
                refine j_bipush (v := 10) M dX3_likedPlace_125 rfl ?_
                refine j_idiv M dX3_likedPlace_127 (by first | decide | assumption | grind) ?_
                refine j_iadd M dX3_likedPlace_128 ?_
                refine j_iload M dX3_likedPlace_129 rfl ?_
                refine j_isub M dX3_likedPlace_131 ?_
                refine j_istore_8 M dX3_likedPlace_132 (by exact (by first | trivial | rfl)) ?_
                refine j_iload M dX3_likedPlace_134 rfl ?_
                refine j_iload M dX3_likedPlace_136 rfl ?_
                refine j_icmp_le (tgt := 148) M dX3_likedPlace_138 (by decide) (fun h_138 => ?_) (fun h_138 => ?_)
                · refine j_iinc_5 M dX3_likedPlace_148 (show _ + Int32.ofInt 1 = _ + 1 from rfl) (by exact (by first | trivial | rfl)) ?_
                  refine j_goto (tgt := 30) M dX3_likedPlace_151 (by decide) ?_
                  refine j_forget M (L' := [some (.ref (ad G c 0)), some (.int _), some (.int _), some (.int _), some (.int _), some (.int _), none, none, none]) (by repeat' (first | exact True.intro | refine ⟨rfl, ?_⟩)) ?_
                  exact st (linv_no hp h_36 hi (fun q => h_138 (by have le := likes_at hW (f := f) hp h_36; have q2 := q.2.2; rw [le] at q2; simpa [pe, be.1, be.2.1, fe.2.1, ← hk, h_109] using q2)) lr)
                · refine j_iload M dX3_likedPlace_141 rfl ?_
                  refine j_istore_4 M dX3_likedPlace_143 (by exact (by first | trivial | rfl)) ?_
                  refine j_iload M dX3_likedPlace_145 rfl ?_
                  refine j_istore_3 M dX3_likedPlace_147 (by exact (by first | trivial | rfl)) ?_
                  refine j_iinc_5 M dX3_likedPlace_148 (show _ + Int32.ofInt 1 = _ + 1 from rfl) (by exact (by first | trivial | rfl)) ?_
                  refine j_goto (tgt := 30) M dX3_likedPlace_151 (by decide) ?_
                  refine j_forget M (L' := [some (.ref (ad G c 0)), some (.int _), some (.int _), some (.int _), some (.int _), some (.int _), none, none, none]) (by repeat' (first | exact True.intro | refine ⟨rfl, ?_⟩)) ?_
                  have le := likes_at hW (f := f) hp h_36
                  have ev : σ c 2 (σ c 4 p) * 1 + σ c 1 (σ c 4 p) / 10 - (if 0 ≤ p - σ c 6 f then p - σ c 6 f else 0 - (p - σ c 6 f)) = likes s f (bkAt s p) := by rw [le, pe, be.1, be.2.1, fe.2.1, ← hk]; simp [h_109]
                  rw [ev] at h_138 ⊢
                  exact st (linv_yes hp h_36 hi (by rw [← cl, ← pe]; exact h_80) ((pos_ne p0).mpr (by rw [← be.1, ← pe]; exact h_71)) h_138)
              · refine j_iconst (v := 2) M dX3_likedPlace_112 rfl ?_
                refine j_goto (tgt := 117) M dX3_likedPlace_113 (by decide) ?_
                refine j_imul M dX3_likedPlace_117 ?_
                refine j_aload_n M dX3_likedPlace_118 rfl ?_
                refine gf_X3_36 M hc dX3_likedPlace_119 ?_
                refine j_iload M dX3_likedPlace_122 rfl ?_
                refine al_L_1 M hc dX3_likedPlace_124 (by first | assumption | decide | exact b_58.1 | exact b_58.2.2) (by first | assumption | decide | exact b_58.1 | exact b_58.2.2) ?_
                refine j_bipush (v := 10) M dX3_likedPlace_125 rfl ?_
                refine j_idiv M dX3_likedPlace_127 (by first | decide | assumption | grind) ?_
                refine j_iadd M dX3_likedPlace_128 ?_
                refine j_iload M dX3_likedPlace_129 rfl ?_
                refine j_isub M dX3_likedPlace_131 ?_
                refine j_istore_8 M dX3_likedPlace_132 (by exact (by first | trivial | rfl)) ?_
                refine j_iload M dX3_likedPlace_134 rfl ?_
                refine j_iload M dX3_likedPlace_136 rfl ?_
                refine j_icmp_le (tgt := 148) M dX3_likedPlace_138 (by decide) (fun h_138 => ?_) (fun h_138 => ?_)
                · refine j_iinc_5 M dX3_likedPlace_148 (show _ + Int32.ofInt 1 = _ + 1 from rfl) (by exact (by first | trivial | rfl)) ?_
                  refine j_goto (tgt := 30) M dX3_likedPlace_151 (by decide) ?_
                  refine j_forget M (L' := [some (.ref (ad G c 0)), some (.int _), some (.int _), some (.int _), some (.int _), some (.int _), none, none, none]) (by repeat' (first | exact True.intro | refine ⟨rfl, ?_⟩)) ?_
                  exact st (linv_no hp h_36 hi (fun q => h_138 (by have le := likes_at hW (f := f) hp h_36; have q2 := q.2.2; rw [le] at q2; simpa [pe, be.1, be.2.1, fe.2.1, ← hk, h_109] using q2)) lr)
                · refine j_iload M dX3_likedPlace_141 rfl ?_
                  refine j_istore_4 M dX3_likedPlace_143 (by exact (by first | trivial | rfl)) ?_
                  refine j_iload M dX3_likedPlace_145 rfl ?_
                  refine j_istore_3 M dX3_likedPlace_147 (by exact (by first | trivial | rfl)) ?_
                  refine j_iinc_5 M dX3_likedPlace_148 (show _ + Int32.ofInt 1 = _ + 1 from rfl) (by exact (by first | trivial | rfl)) ?_
                  refine j_goto (tgt := 30) M dX3_likedPlace_151 (by decide) ?_
                  refine j_forget M (L' := [some (.ref (ad G c 0)), some (.int _), some (.int _), some (.int _), some (.int _), some (.int _), none, none, none]) (by repeat' (first | exact True.intro | refine ⟨rfl, ?_⟩)) ?_
                  have le := likes_at hW (f := f) hp h_36
                  have ev : σ c 2 (σ c 4 p) * 2 + σ c 1 (σ c 4 p) / 10 - (if 0 ≤ p - σ c 6 f then p - σ c 6 f else 0 - (p - σ c 6 f)) = likes s f (bkAt s p) := by rw [le, pe, be.1, be.2.1, fe.2.1, ← hk]; simp [h_109]
                  rw [ev] at h_138 ⊢
                  exact st (linv_yes hp h_36 hi (by rw [← cl, ← pe]; exact h_80) ((pos_ne p0).mpr (by rw [← be.1, ← pe]; exact h_71)) h_138)
            · refine j_goto (tgt := 148) M dX3_likedPlace_83 (by decide) ?_
              refine j_iinc_5 M dX3_likedPlace_148 (show _ + Int32.ofInt 1 = _ + 1 from rfl) (by exact (by first | trivial | rfl)) ?_
              refine j_goto (tgt := 30) M dX3_likedPlace_151 (by decide) ?_
              refine j_forget M (L' := [some (.ref (ad G c 0)), some (.int _), some (.int _), some (.int _), some (.int _), some (.int _), none, none, none]) (by repeat' (first | exact True.intro | refine ⟨rfl, ?_⟩)) ?_
              exact st (linv_no hp h_36 hi (fun q => h_80 (by rw [cl, pe]; exact q.1)) lr)
  refine j_aload_n M dX3_likedPlace_0 rfl ?_
  refine gf_X3_49 M hc dX3_likedPlace_1 ?_
  refine j_iload_n M dX3_likedPlace_4 rfl ?_
  refine al_L_5 M hc dX3_likedPlace_5 (by first | assumption | decide) (by first | assumption | decide) ?_
  refine j_istore_2 M dX3_likedPlace_6 (by exact (by first | trivial | rfl)) ?_
  refine j_ldc M k_X3_65 dX3_likedPlace_7 ?_
  refine j_istore_3 M dX3_likedPlace_9 (by exact (by first | trivial | rfl)) ?_
  refine j_iload_n M dX3_likedPlace_10 rfl ?_
  refine j_iconst (v := 4) M dX3_likedPlace_11 rfl ?_
  refine j_icmp_eq (tgt := 20) M dX3_likedPlace_12 (by decide) (fun h_12 => ?_) (fun h_12 => ?_)
  · refine j_iload_n M dX3_likedPlace_20 rfl ?_
    exact j_iret M dX3_likedPlace_21 ⟨_, rfl, by (try dsimp only); exact ⟨rfl, by unfold likedBy; rw [if_neg (fun q => by have := (k45 kr.1 kr.2).mp q; rw [fe.1] at *; first | exact this.1 h_12 | exact this.2 h_17)]⟩⟩
  · refine j_iload_n M dX3_likedPlace_15 rfl ?_
    refine j_iconst (v := 5) M dX3_likedPlace_16 rfl ?_
    refine j_icmp_ne (tgt := 22) M dX3_likedPlace_17 (by decide) (fun h_17 => ?_) (fun h_17 => ?_)
    · refine j_sipush (v := (-1000)) M dX3_likedPlace_22 rfl ?_
      refine j_istore_4 M dX3_likedPlace_25 (by exact (by first | trivial | rfl)) ?_
      refine j_iconst (v := 0) M dX3_likedPlace_27 rfl ?_
      refine j_istore_5 M dX3_likedPlace_28 (by exact (by first | trivial | rfl)) ?_
      exact lp 0 (by decide) _ _ _ fe.1 ((k45 (by rw [fe.1]; exact kr.1) (by rw [fe.1]; exact kr.2)).mpr ⟨h_12, h_17⟩) (le0_of hW.1.1.1) ⟨rfl, Or.inl ⟨rfl, rfl⟩⟩
    · refine j_iload_n M dX3_likedPlace_20 rfl ?_
      exact j_iret M dX3_likedPlace_21 ⟨_, rfl, by (try dsimp only); exact ⟨rfl, by unfold likedBy; rw [if_neg (fun q => by have := (k45 kr.1 kr.2).mp q; rw [fe.1] at *; first | exact this.1 h_12 | exact this.2 h_17)]⟩⟩
