def Tk0 (σ τ : Sg) (c d : Nat) : Prop := ∀ s, WF0 s → LibF (σ d) s → LibF (τ c) s
theorem sl_lib {k : Int32} (h0 : 0 ≤ k) (h1 : k < 24) : isLib (11 + k.toNatClampNeg) := by
  have := (i_ok (n := 24) h0 h1 rfl (by decide)).1
  exact ⟨by omega, by omega⟩
theorem rem_fin {σ τ : Sg} {c d : Nat} (hc : c ≠ 3) (h : Tk σ τ c d) : 
  Tk0 σ (up (up τ 3 0 (upI (τ 3 0) 1 (rem32 (τ 3 0 1 + 1) 24))) 3 0 (upI ((up τ 3 0 (upI (τ 3 0) 1 (rem32 (τ 3 0 1 + 1) 24))) 3 0) 2 (if 24 < (up τ 3 0 (upI (τ 3 0) 1 (rem32 (τ 3 0 1 + 1) 24))) 3 0 2 + 1 then 24 else (up τ 3 0 (upI (τ 3 0) 1 (rem32 (τ 3 0 1 + 1) 24))) 3 0 2 + 1))) c d ∧ 
  (up (up τ 3 0 (upI (τ 3 0) 1 (rem32 (τ 3 0 1 + 1) 24))) 3 0 (upI ((up τ 3 0 (upI (τ 3 0) 1 (rem32 (τ 3 0 1 + 1) 24))) 3 0) 2 (if 24 < (up τ 3 0 (upI (τ 3 0) 1 (rem32 (τ 3 0 1 + 1) 24))) 3 0 2 + 1 then 24 else (up τ 3 0 (upI (τ 3 0) 1 (rem32 (τ 3 0 1 + 1) 24))) 3 0 2 + 1))) 3 0 1 = rem32 (σ 3 0 1 + 1) 24 ∧ 
  (up (up τ 3 0 (upI (τ 3 0) 1 (rem32 (τ 3 0 1 + 1) 24))) 3 0 (upI ((up τ 3 0 (upI (τ 3 0) 1 (rem32 (τ 3 0 1 + 1) 24))) 3 0) 2 (if 24 < (up τ 3 0 (upI (τ 3 0) 1 (rem32 (τ 3 0 1 + 1) 24))) 3 0 2 + 1 then 24 else (up τ 3 0 (upI (τ 3 0) 1 (rem32 (τ 3 0 1 + 1) 24))) 3 0 2 + 1))) 3 0 2 = (if 24 < σ 3 0 2 + 1 then 24 else σ 3 0 2 + 1) ∧ 
  (∀ a k, a ≠ 3 → a ≠ c → (up (up τ 3 0 (upI (τ 3 0) 1 (rem32 (τ 3 0 1 + 1) 24))) 3 0 (upI ((up τ 3 0 (upI (τ 3 0) 1 (rem32 (τ 3 0 1 + 1) 24))) 3 0) 2 (if 24 < (up τ 3 0 (upI (τ 3 0) 1 (rem32 (τ 3 0 1 + 1) 24))) 3 0 2 + 1 then 24 else (up τ 3 0 (upI (τ 3 0) 1 (rem32 (τ 3 0 1 + 1) 24))) 3 0 2 + 1))) a k = σ a k) := by
  have e3 : τ 3 0 = σ 3 0 := h.2.2 3 0 (fun e => hc e.1.symm)
  refine ⟨fun s hs hl => ?_, ?_, ?_, fun a k h3 h4 => ?_⟩
  · have q := h.1 s hs hl
    have e : ∀ (f g : St), (up (up τ 3 0 f) 3 0 g) c = τ c := fun f g => funext (fun k => by rw [up_ne _ _ (fun e => hc e.1), up_ne _ _ (fun e => hc e.1)])
    rw [e]
    exact q
  · rw [up_same, upI_ne _ _ (by decide), up_same, upI_same, e3]
  · rw [up_same, upI_same, up_same, upI_ne _ _ (by decide), e3]
  · rw [up_ne _ _ (fun e => h3 e.1), up_ne _ _ (fun e => h3 e.1)]
    exact h.2.2 a k (fun e => h4 e.1)
theorem bri_fin {σ τ : Sg} {c d : Nat} {x : Int32} (hc : c ≠ 3) (h : Tk σ τ c d) : 
  Tk0 σ (up (up τ 3 0 (upI (τ 3 0) 1 x)) 3 0 (upI ((up τ 3 0 (upI (τ 3 0) 1 x)) 3 0) 2 ((up τ 3 0 (upI (τ 3 0) 1 x)) 3 0 2 - 1))) c d ∧ (up (up τ 3 0 (upI (τ 3 0) 1 x)) 3 0 (upI ((up τ 3 0 (upI (τ 3 0) 1 x)) 3 0) 2 ((up τ 3 0 (upI (τ 3 0) 1 x)) 3 0 2 - 1))) 3 0 1 = x ∧ 
  (up (up τ 3 0 (upI (τ 3 0) 1 x)) 3 0 (upI ((up τ 3 0 (upI (τ 3 0) 1 x)) 3 0) 2 ((up τ 3 0 (upI (τ 3 0) 1 x)) 3 0 2 - 1))) 3 0 2 = σ 3 0 2 - 1 ∧ (∀ a k, a ≠ 3 → a ≠ c → (up (up τ 3 0 (upI (τ 3 0) 1 x)) 3 0 (upI ((up τ 3 0 (upI (τ 3 0) 1 x)) 3 0) 2 ((up τ 3 0 (upI (τ 3 0) 1 x)) 3 0 2 - 1))) a k = σ a k) := by
  have e3 : τ 3 0 = σ 3 0 := h.2.2 3 0 (fun e => hc e.1.symm)
  refine ⟨fun s hs hl => ?_, ?_, ?_, fun a k h3 h4 => ?_⟩
  · have q := h.1 s hs hl
    have e : ∀ (f g : St), (up (up τ 3 0 f) 3 0 g) c = τ c := fun f g => funext (fun k => by rw [up_ne _ _ (fun e => hc e.1), up_ne _ _ (fun e => hc e.1)])
    rw [e]
    exact q
  · rw [up_same, upI_ne _ _ (by decide), up_same, upI_same]
  · rw [up_same, upI_same, up_same, upI_ne _ _ (by decide), e3]
  · rw [up_ne _ _ (fun e => h3 e.1), up_ne _ _ (fun e => h3 e.1)]
    exact h.2.2 a k (fun e => h4 e.1)
set_option maxRecDepth 100000 in
theorem c_X0_slotAt {l : Launch} {G : Gw} {σ : Sg} {k : Int32}  (k0 : 0 ≤ k) (k1 : k < 24) : Mt l G yX0_slotAt cX0_slotAt 2 (some (.object RX3)) 0 0 [.ref (ad G 3 0), .int k] σ (pR fun v τ => v = ad G (11 + k.toNatClampNeg) 0 ∧ τ = σ) := by
  refine mt_intro (by decide +kernel) (Nat.le_of_ble_eq_true rfl) (fun Φ M => ?_)
  show Φ 0 [some (.ref (ad G 3 0)), some (.int k)] [] σ
  refine j_iload_n M dX0_slotAt_0 rfl ?_
  refine j_if_lt (tgt := 19) M dX0_slotAt_1 (by decide) (fun h_1 => ?_) (fun h_1 => ?_)
  · exact absurd h_1 (Int32.not_lt.mpr k0)
  · refine j_iload_n M dX0_slotAt_4 rfl ?_
    refine j_bipush (v := 24) M dX0_slotAt_5 rfl ?_
    refine j_icmp_ge (tgt := 19) M dX0_slotAt_7 (by decide) (fun h_7 => ?_) (fun h_7 => ?_)
    · exact absurd k1 h_7
    · refine j_aload_n M dX0_slotAt_10 rfl ?_
      refine gf_X0_11 M dX0_slotAt_11 ?_
      refine j_iload_n M dX0_slotAt_14 rfl ?_
      refine al_acts M dX0_slotAt_15 (by first | assumption) (by first | assumption) ?_
      refine j_goto (tgt := 20) M dX0_slotAt_16 (by decide) ?_
      exact j_aret M dX0_slotAt_20 ⟨_, rfl, by (try dsimp only); exact ⟨rfl, rfl⟩⟩
set_option maxRecDepth 100000 in
theorem c_X0_remember {l : Launch} {G : Gw} {σ : Sg} {d : Nat} (hd : isLib d)  (hd11 : d < 11) (n0 : 0 ≤ σ 3 0 1) (n1 : σ 3 0 1 < 24) : Mt l G yX0_remember cX0_remember 3 none 1 22 [.ref (ad G 3 0), .ref (ad G d 0)] σ (pV fun τ => Tk0 σ τ (11 + (σ 3 0 1).toNatClampNeg) d ∧ τ 3 0 1 = rem32 (σ 3 0 1 + 1) 24 ∧ τ 3 0 2 = (if 24 < σ 3 0 2 + 1 then 24 else σ 3 0 2 + 1) ∧ (∀ c k, c ≠ 3 → c ≠ (11 + (σ 3 0 1).toNatClampNeg) → τ c k = σ c k)) := by
  refine mt_intro (by decide +kernel) (Nat.le_of_ble_eq_true rfl) (fun Φ M => ?_)
  show Φ 0 [some (.ref (ad G 3 0)), some (.ref (ad G d 0)), none] [] σ
  have hsl := sl_lib n0 n1
  have k3 : (11 + (σ 3 0 1).toNatClampNeg) ≠ 3 := by omega
  refine j_aload_n M dX0_remember_0 rfl ?_
  refine j_aload_n M dX0_remember_1 rfl ?_
  refine gf_X0_17 M dX0_remember_2 ?_
  refine j_inv1 M lk_X0_25 (c_X0_slotAt (by first | assumption) (by first | assumption)) rv_X0 dX0_remember_5 (Nat.le_of_ble_eq_true rfl) ⟨(Nat.le_of_ble_eq_true rfl), (Nat.le_of_ble_eq_true rfl)⟩ (kR fun r_5 σ_5 q_5 => ?_)
  obtain ⟨rfl, rfl⟩ := q_5
  refine j_astore_2 M dX0_remember_8 (by exact (by first | trivial | rfl)) ?_
  refine j_aload_n M dX0_remember_9 rfl ?_
  refine j_ifnonnull (tgt := 14) M dX0_remember_10 (by decide) ?_
  refine j_aload_n M dX0_remember_14 rfl ?_
  refine j_aload_n M dX0_remember_15 rfl ?_
  refine j_inv1 M lk_X0_29 (c_X3_take hsl hd ((by omega))) (rv_X3 hsl) dX0_remember_16 (Nat.le_of_ble_eq_true rfl) ⟨(Nat.le_of_ble_eq_true rfl), (Nat.le_of_ble_eq_true rfl)⟩ (kV fun σ_16 q_16 => ?_)
  refine j_aload_n M dX0_remember_19 rfl ?_
  refine j_aload_n M dX0_remember_20 rfl ?_
  refine gf_X0_17 M dX0_remember_21 ?_
  refine j_iconst (v := 1) M dX0_remember_24 rfl ?_
  refine j_iadd M dX0_remember_25 ?_
  refine j_bipush (v := 24) M dX0_remember_26 rfl ?_
  refine j_irem M dX0_remember_28 (by first | decide | assumption | grind) ?_
  refine pf_X0_17 M dX0_remember_29 ?_
  refine j_aload_n M dX0_remember_32 rfl ?_
  refine j_aload_n M dX0_remember_33 rfl ?_
  refine gf_X0_21 M dX0_remember_34 ?_
  refine j_iconst (v := 1) M dX0_remember_37 rfl ?_
  refine j_iadd M dX0_remember_38 ?_
  refine j_bipush (v := 24) M dX0_remember_39 rfl ?_
  refine j_min M mm_X0_33 sm_mmin in_J9 cd_mmin (Nat.le_of_ble_eq_true rfl) (Nat.le_of_ble_eq_true rfl) dX0_remember_41 ?_
  refine pf_X0_21 M dX0_remember_44 ?_
  exact j_vret M dX0_remember_47 ⟨rfl, by exact rem_fin k3 q_16⟩
set_option maxRecDepth 100000 in
theorem c_X0_bringBack {l : Launch} {G : Gw} {σ : Sg} {d : Nat} (hd : isLib d)  (hd11 : d < 11) (n0 : 0 ≤ rem32 (σ 3 0 1 + 24 - 1) 24) (n1 : rem32 (σ 3 0 1 + 24 - 1) 24 < 24) (hk : ¬ σ 3 0 2 = 0) : Mt l G yX0_bringBack cX0_bringBack 4 none 1 22 [.ref (ad G 3 0), .ref (ad G d 0)] σ (pV fun τ => Tk0 σ τ d (11 + (rem32 (σ 3 0 1 + 24 - 1) 24).toNatClampNeg) ∧ τ 3 0 1 = rem32 (σ 3 0 1 + 24 - 1) 24 ∧ τ 3 0 2 = σ 3 0 2 - 1 ∧ (∀ c k, c ≠ 3 → c ≠ d → τ c k = σ c k)) := by
  refine mt_intro (by decide +kernel) (Nat.le_of_ble_eq_true rfl) (fun Φ M => ?_)
  show Φ 0 [some (.ref (ad G 3 0)), some (.ref (ad G d 0)), none, none] [] σ
  have hsl := sl_lib n0 n1
  have k3 : d ≠ 3 := fun e => absurd hd.1 (by omega)
  refine j_aload_n M dX0_bringBack_0 rfl ?_
  refine gf_X0_17 M dX0_bringBack_1 ?_
  refine j_bipush (v := 24) M dX0_bringBack_4 rfl ?_
  refine j_iadd M dX0_bringBack_6 ?_
  refine j_iconst (v := 1) M dX0_bringBack_7 rfl ?_
  refine j_isub M dX0_bringBack_8 ?_
  refine j_bipush (v := 24) M dX0_bringBack_9 rfl ?_
  refine j_irem M dX0_bringBack_11 (by first | decide | assumption | grind) ?_
  refine j_istore_2 M dX0_bringBack_12 (by exact (by first | trivial | rfl)) ?_
  refine j_aload_n M dX0_bringBack_13 rfl ?_
  refine j_iload_n M dX0_bringBack_14 rfl ?_
  refine j_inv1 M lk_X0_25 (c_X0_slotAt (by first | assumption) (by first | assumption)) rv_X0 dX0_bringBack_15 (Nat.le_of_ble_eq_true rfl) ⟨(Nat.le_of_ble_eq_true rfl), (Nat.le_of_ble_eq_true rfl)⟩ (kR fun r_15 σ_15 q_15 => ?_)
  obtain ⟨rfl, rfl⟩ := q_15
  refine j_astore_3 M dX0_bringBack_18 (by exact (by first | trivial | rfl)) ?_
  refine j_aload_n M dX0_bringBack_19 rfl ?_
  refine j_ifnull M dX0_bringBack_20 ?_
  refine j_aload_n M dX0_bringBack_23 rfl ?_
  refine gf_X0_21 M dX0_bringBack_24 ?_
  refine j_if_ne (tgt := 31) M dX0_bringBack_27 (by decide) (fun h_27 => ?_) (fun h_27 => ?_)
  · refine j_aload_n M dX0_bringBack_31 rfl ?_
    refine j_aload_n M dX0_bringBack_32 rfl ?_
    refine j_inv1 M lk_X0_29 (c_X3_take hd hsl ((by omega))) (rv_X3 hd) dX0_bringBack_33 (Nat.le_of_ble_eq_true rfl) ⟨(Nat.le_of_ble_eq_true rfl), (Nat.le_of_ble_eq_true rfl)⟩ (kV fun σ_33 q_33 => ?_)
    refine j_aload_n M dX0_bringBack_36 rfl ?_
    refine j_iload_n M dX0_bringBack_37 rfl ?_
    refine pf_X0_17 M dX0_bringBack_38 ?_
    refine j_aload_n M dX0_bringBack_41 rfl ?_
    refine j_dup M dX0_bringBack_42 rfl ?_
    refine gf_X0_21 M dX0_bringBack_43 ?_
    refine j_iconst (v := 1) M dX0_bringBack_46 rfl ?_
    refine j_isub M dX0_bringBack_47 ?_
    refine pf_X0_21 M dX0_bringBack_48 ?_
    exact j_vret M dX0_bringBack_51 ⟨rfl, by exact bri_fin k3 q_33⟩
  · exact absurd h_27 hk
set_option maxRecDepth 100000 in
theorem c_X0_forget {l : Launch} {G : Gw} {σ : Sg}    : Mt l G yX0_forget cX0_forget 1 none 0 0 [.ref (ad G 3 0)] σ (pV fun τ => τ = up σ 3 0 (upI (σ 3 0) 2 0)) := by
  refine mt_intro (by decide +kernel) (Nat.le_of_ble_eq_true rfl) (fun Φ M => ?_)
  show Φ 0 [some (.ref (ad G 3 0))] [] σ
  refine j_aload_n M dX0_forget_0 rfl ?_
  refine j_iconst (v := 0) M dX0_forget_1 rfl ?_
  refine pf_X0_21 M dX0_forget_2 ?_
  exact j_vret M dX0_forget_5 ⟨rfl, by rfl⟩
