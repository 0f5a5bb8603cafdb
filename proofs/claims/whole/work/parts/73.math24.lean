theorem i8_eq (v : Int32) : v.toInt8.toInt32 = shr32 (shl32 v 24) 24 := by
  apply Int32.toBitVec_inj.mp
  have e : (shr32 (shl32 v 24) 24).toBitVec = (v.toBitVec <<< 24).sshiftRight 24 := by
    unfold shr32 shl32
    simp [Int32.toBitVec_shiftRight, Int32.toBitVec_shiftLeft]
  rw [e, Int8.toBitVec_toInt32, Int32.toBitVec_toInt8]
  ext i hi
  simp only [BitVec.getElem_signExtend, BitVec.getElem_sshiftRight, BitVec.msb_eq_getLsbD_last, BitVec.getElem_shiftLeft, BitVec.getLsbD_shiftLeft]
  by_cases h : i < 8
  · have h2 : 24 + i < 32 := by omega
    have h3 : ¬ 24 + i < 24 := by omega
    simp [h, h2, h3, hi]
  · have : ¬ (24 + i < 32) := by omega
    simp [h, this, BitVec.getElem_signExtend]
theorem i16_eq (v : Int32) : v.toInt16.toInt32 = shr32 (shl32 v 16) 16 := by
  apply Int32.toBitVec_inj.mp
  have e : (shr32 (shl32 v 16) 16).toBitVec = (v.toBitVec <<< 16).sshiftRight 16 := by
    unfold shr32 shl32
    simp [Int32.toBitVec_shiftRight, Int32.toBitVec_shiftLeft]
  rw [e, Int16.toBitVec_toInt32, Int32.toBitVec_toInt16]
  ext i hi
  simp only [BitVec.getElem_signExtend, BitVec.getElem_sshiftRight, BitVec.msb_eq_getLsbD_last, BitVec.getElem_shiftLeft, BitVec.getLsbD_shiftLeft]
  by_cases h : i < 16
  · have h2 : 16 + i < 32 := by omega
    have h3 : ¬ 16 + i < 16 := by omega
    simp [h, h2, h3, hi]
  · have : ¬ (16 + i < 32) := by omega
    simp [h, this, BitVec.getElem_signExtend]

theorem cpy_ofF {f g : St} {n0 n1 : Nat} {sp dp m : Int32} (h1 : 0 ≤ sp) (h2 : 0 ≤ dp) (h3 : 0 ≤ m) (h4 : sp.toNatClampNeg + m.toNatClampNeg ≤ n0) (h5 : dp.toNatClampNeg + m.toNatClampNeg ≤ n1) (b0 : n0 < 1000) (b1 : n1 < 1000) : va_cpy (ofF f) (ofF g) sp.toNatClampNeg dp.toNatClampNeg m.toNatClampNeg = ofF (blkS g (fun t => f (sp + t)) dp m) := by
  obtain ⟨a, ha, rfl⟩ := nI_of (Int32.not_lt.mpr h1)
  obtain ⟨b, hb, rfl⟩ := nI_of (Int32.not_lt.mpr h2)
  obtain ⟨c, hc, rfl⟩ := nI_of (Int32.not_lt.mpr h3)
  rw [nI_clamp ha, nI_clamp hc] at h4
  rw [nI_clamp hb, nI_clamp hc] at h5
  rw [nI_clamp ha, nI_clamp hb, nI_clamp hc]
  funext j
  unfold va_cpy ofF blkS
  by_cases hj : j < 2147483648
  · rw [if_pos hj]
    have e : (nI b ≤ nI j ∧ nI j < nI b + nI c) ↔ (b ≤ j ∧ j < b + c) := by
      rw [nI_add, nI_leI hb hj, nI_ltI hj (by omega)]
    by_cases h : b ≤ j ∧ j < b + c
    · obtain ⟨t, rfl⟩ : ∃ t, j = b + t := ⟨j - b, by omega⟩
      rw [if_pos h, if_pos (e.mpr h), if_pos (by omega), show b + t - b = t by omega, ← nI_add, ← nI_add, cancel_l, if_pos hj]
    · rw [if_neg h, if_neg (fun q => h (e.mp q)), if_pos hj]
  · rw [if_neg hj, if_neg (by omega), if_neg hj]
section Acp
variable {l : Launch} {G : Gw} {own : String} {cc : ByteArray} {nL fr lo : Nat} {ret : Option FieldType} {post : Option Value → Sg → Prop} {Φ : Ph} {pc : Nat} {L : List (Option Value)} {st : List Value} {σ : Sg}
theorem j_acopy (M : Mach l G own cc nL ret fr lo post Φ) {c0 k0 n0 c k n index : Nat} {sp dp m : Int32} (hv0 : vld c0 k0 = true) (hv : vld c k = true) (hc0 : cel G c0 k0 (σ c0 k0) = iarr G n0 (σ c0 k0)) (hc : ∀ f, cel G c k f = iarr G n f) (b0 : n0 < 1000) (b1 : n < 1000) (w1 : Cond.methodLink own index arraycopyName ∈ tws) (w2 : Cond.native arraycopyName ∈ tws) (w3 : Cond.static arraycopyName ∈ tws) (w4 : Cond.initialized "java/lang/System" ∈ tws) (hfr : 1 ≤ fr) (hlo : (st.map fun v => v.category).sum + (nativeFrameWords "java/lang/System" "arraycopy" 5 + 11) ≤ lo) (d : decode cc pc = .ok (.invokestatic index, 3)) (h1 : 0 ≤ sp) (h2 : 0 ≤ dp) (h3 : 0 ≤ m) (h4 : sp.toNatClampNeg + m.toNatClampNeg ≤ n0) (h5 : dp.toNatClampNeg + m.toNatClampNeg ≤ n)
    (kk : Φ (pc + 3) L st (up σ c k (blkS (σ c k) (fun t => σ c0 k0 (sp + t)) dp m))) : Φ pc L (.int m :: .int dp :: .ref (ad G c k) :: .int sp :: .ref (ad G c0 k0) :: st) σ := by
  obtain ⟨p, e, R, s, mm, args, below, meth, cd, cells, slots, Q, ⟨hx, hb, hml, hown, hts⟩, hWk, hRm, hRet, rfl⟩ := M
  intro hn H locs ls hW hS hl
  obtain ⟨q0, hi0, he0⟩ := wl_at (G := G) (σ := σ) hv0
  obtain ⟨q, hi, he⟩ := wl_at (G := G) (σ := σ) hv
  rw [hc0] at he0
  rw [hc] at he
  refine va_copyi hx hb (hml.trans (hn.symm.trans hl.1.symm)) hown (hts _ w1) (hts _ w2) (hts _ w3) (hts _ w4) hWk.2.1 hW (wl_D hWk.1 σ) hS q0 q 0 0 he0 he rfl rfl rfl (Int32.not_lt.mpr h1) (Int32.not_lt.mpr h2) (Int32.not_lt.mpr h3) h4 h5 (fun _ _ => rfl) (Nat.le_trans hfr hRm.1) (Nat.le_trans hlo hRm.2.1) d (fun H1 locs1 hP hD hS1 => ?_)
  rw [cpy_ofF h1 h2 h3 h4 h5 b0 b1, show (Sum.inl (G.2.1.1, n, Sum.inl (ofF (blkS (σ c k) (fun t => σ c0 k0 (sp + t)) dp m))) : va_E) = cel G c k (blkS (σ c k) (fun t => σ c0 k0 (sp + t)) dp m) from (hc _).symm, wl_set hi] at hP
  exact kk hn H1 locs1 ls hP hS1 hl
end Acp
/-- a row of the class, when it is there, has at most 40 items -/
def RowB (L Z : St) : Prop := ∀ r, 0 ≤ r → r < 8 → L r ≠ -1 → 0 ≤ Z r ∧ Z r ≤ 40
theorem fd_0 {L Z : St} {w i n : Int32} (h : fdR L Z w i n = 0) : (0 ≤ w ∧ w < 8) ∧ L w ≠ -1 ∧ (0 ≤ i ∧ 0 ≤ n ∧ n ≤ Z w ∧ i ≤ Z w - n) := by
  unfold fdR at h
  by_cases a : ¬ (0 ≤ w ∧ w < 8) ∨ L w = -1
  · rw [if_pos a] at h; exact absurd h (by decide)
  · rw [if_neg a] at h
    have a1 := fd_rng a
    by_cases b : ¬ i < 0 ∧ ¬ n < 0 ∧ ¬ Z w < n ∧ ¬ Z w - n < i
    · exact ⟨a1, fun e => a (Or.inr e), Int32.not_lt.mp b.1, Int32.not_lt.mp b.2.1, Int32.not_lt.mp b.2.2.1, Int32.not_lt.mp b.2.2.2⟩
    · rw [if_neg b] at h; exact absurd h (by decide)
theorem acp_rng {w i n z : Int32} (w0 : 0 ≤ w) (w8 : w < 8) (i0 : 0 ≤ i) (n0 : 0 ≤ n) (h1 : n ≤ z) (h2 : i ≤ z - n) (z1 : z ≤ 40) : (0 ≤ w * 40 + i) ∧ (w * 40 + i).toNatClampNeg + n.toNatClampNeg ≤ 320 := by
  obtain ⟨a, ha, rfl⟩ := nI_of (Int32.not_lt.mpr w0)
  obtain ⟨b, hb, rfl⟩ := nI_of (Int32.not_lt.mpr i0)
  obtain ⟨c, hc, rfl⟩ := nI_of (Int32.not_lt.mpr n0)
  obtain ⟨d, hd, rfl⟩ := nI_of (Int32.not_lt.mpr (Int32.le_trans n0 h1))
  have a8 : a < 8 := (nI_ltI (b := 8) ha (by decide)).mp w8
  have d4 : d ≤ 40 := (nI_leI (b := 40) hd (by decide)).mp z1
  have cd : c ≤ d := (nI_leI hc hd).mp h1
  have e : nI d - nI c = nI (d - c) := by
    have := cancel_l (nI c) (nI (d - c))
    rw [nI_add, show c + (d - c) = d by omega] at this
    exact this
  rw [e] at h2
  have bd : b ≤ d - c := (nI_leI hb (by omega)).mp h2
  rw [Int32.mul_comm, show (40 : Int32) = nI 40 from rfl, pk_mul, nI_add, nI_clamp (by omega), nI_clamp hc]
  exact ⟨nI_pos' (by omega), by omega⟩
theorem ix_row {w i : Int32} (w0 : 0 ≤ w) (w8 : w < 8) (i0 : 0 ≤ i) (i1 : i < 40) : 0 ≤ w * 40 + i ∧ w * 40 + i < 320 := by
  rw [Int32.mul_comm]
  exact (ix40 w0 (by grind) i0 i1).1
def fdC (L Z : St) (a i b j n : Int32) : Int32 := if (¬ (0 ≤ a ∧ a < 8) ∨ L a = -1) ∨ (¬ (0 ≤ b ∧ b < 8) ∨ L b = -1) then 1 else if ¬ L a = L b then 5 else if ¬ fdR L Z a i n = 0 then fdR L Z a i n else fdR L Z b j n
theorem fdC_0 {L Z : St} {a i b j n : Int32} (h : fdC L Z a i b j n = 0) : L a = L b ∧ fdR L Z a i n = 0 ∧ fdR L Z b j n = 0 := by
  unfold fdC at h
  by_cases p : (¬ (0 ≤ a ∧ a < 8) ∨ L a = -1) ∨ (¬ (0 ≤ b ∧ b < 8) ∨ L b = -1)
  · rw [if_pos p] at h; exact absurd h (by decide)
  · rw [if_neg p] at h
    by_cases q : L a = L b
    · rw [if_neg (fun e => e q)] at h
      by_cases r : fdR L Z a i n = 0
      · rw [if_neg (fun e => e r)] at h
        exact ⟨q, r, h⟩
      · rw [if_pos r] at h; exact absurd h r
    · rw [if_pos q] at h; exact absurd h (by decide)
/-- what the class's row keeps of a number -/
def lanV (L v : Int32) : Int32 := if L = 0 then v.toInt8.toInt32 else if L = 1 then v.toInt16.toInt32 else v
def rowsL (L : St) (n : Int32) : Int32 := foldI (fun r a => a + if L r = -1 then 0 else 1) 0 n
def pickS (σ : Sg) (w i n : Int32) : Sg := if fdR (σ 1 1) (σ 1 2) w i n = 0 then up σ 1 0 (upI (upI (σ 1 0) 3 (w * 40 + i)) 4 n) else up σ 1 0 (upI (upI (σ 1 0) 3 0) 4 0)
