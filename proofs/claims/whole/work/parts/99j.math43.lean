/-- the law's machine: a machine with the script -/
def MachX (l : Launch) (G : Gw) (fr lo : Nat) (post : Option Value → Sg → Prop) (Φ : Ph) (b L : Nat) (xs : Nat → Int32) : Prop :=
  ∃ (p : Program) (e : Env) (R : Room) (s : State) (m : MethodId) (args : Array Value) (below : List Frame) (meth : Method) (c : Code) (cells slots : Nat) (Q : State → Prop),
    (p.tables.exec = Jvm.exec ∧ c.code = code ∧ c.maxLocals = 4 ∧ s.vm.findClass RL = some m.cls ∧ ∀ w ∈ tws, w.before args s = true) ∧ Wk G s ∧ (fr ≤ R.frames ∧ lo ≤ R.locals ∧ cells ≤ R.cells ∧ slots ≤ R.slots) ∧
    (∀ (pc : Nat) (v : Option Value) (σ : Sg), retI (some .boolean) code pc v → post v σ → ∀ (H : Heap) (locs : List Loc) (ls : Array Slot), Wd G σ H → va_S (AA G) s.heap H locs → W p l e R s m args below meth c H locs cells slots Q (F0 m pc ls v.toList)) ∧
    (Φ = fun pc L st σ => L.length = 4 → ∀ (H : Heap) (locs : List Loc) (ls : Array Slot), Wd G σ H → va_S (AA G) s.heap H locs → lx ls L → W p l e R s m args below meth c H locs cells slots Q (F0 m pc ls st)) ∧
    va_X b L xs s s.heap ∧ b < s.heap.size ∧ ¬ AA G b
section Scr
variable {l : Launch} {G : Gw} {fr lo : Nat} {post : Option Value → Sg → Prop} {Φ : Ph} {b L : Nat} {xs : Nat → Int32} {pc : Nat} {Lc : List (Option Value)} {st : List Value} {σ : Sg}
theorem MachX.m (M : MachX l G fr lo post Φ b L xs) : Mach l G RL code 4 (some .boolean) fr lo post Φ := by
  obtain ⟨p, e, R, s, m, args, below, meth, c, cells, slots, Q, h1, h2, h3, h4, h5, h6⟩ := M
  exact ⟨p, e, R, s, m, args, below, meth, c, cells, slots, Q, h1, h2, h3, h4, h5⟩
theorem j_sld (M : MachX l G fr lo post Φ b L xs) {i : Int32} (hL : L < 2147483648) (d : decode code pc = .ok (.iaload, 1)) (h0 : 0 ≤ i) (h1 : i < nI L) (kk : Φ (pc + 1) Lc (.int (xs i.toNatClampNeg) :: st) σ) : Φ pc Lc (.int i :: .ref b :: st) σ := by
  obtain ⟨p, e, R, s, m, args, below, meth, cd, cells, slots, Q, ⟨hx, hb, hml, hown, hts⟩, hWk, hRm, hRet, rfl, hX, hbl, hbA⟩ := M
  intro hn H locs ls hW hS hl
  exact va_sld hx hb hX hbl hbA hS (i_ok h0 h1 rfl hL).2.2 d (kk hn H locs ls hW hS hl)
theorem j_slen (M : MachX l G fr lo post Φ b L xs) (d : decode code pc = .ok (.arraylength, 1)) (kk : Φ (pc + 1) Lc (.int (nI L) :: st) σ) : Φ pc Lc (.ref b :: st) σ := by
  obtain ⟨p, e, R, s, m, args, below, meth, cd, cells, slots, Q, ⟨hx, hb, hml, hown, hts⟩, hWk, hRm, hRet, rfl, hX, hbl, hbA⟩ := M
  intro hn H locs ls hW hS hl
  exact va_slen hx hb hX hbl hbA hS d (kk hn H locs ls hW hS hl)
end Scr
theorem feed0 {σ : Sg} (h : Rel σ) : 0 ≤ σ 2 0 1 := by
  obtain ⟨N, n1, n2, _⟩ := h.2.2.1
  rw [n2]
  exact nI_pos' (by omega)
theorem feed1 {σ : Sg} (h : Rel σ) : 0 ≤ σ 40 0 8 ∧ σ 40 0 8 ≤ 120 := by
  obtain ⟨N, n1, n2, n3, _⟩ := h.2.2.1
  rw [n3]
  exact ⟨nI_pos' (by omega), (nI_leI (b := 120) (by omega) (by decide)).mpr n1⟩
