theorem oi_im : Cond.instanceMethod objectInit ∈ tws := tws_of (by decide +kernel) (by decide +kernel)
theorem oi_cd : Cond.code objectInit ⟨#[0xb1]⟩ 1 none ∈ tws := tws_of (by decide +kernel) (by decide +kernel)
abbrev Cw : Type := Nat × Nat × va_W
abbrev Ph2 : Type := Nat → List (Option Value) → List Value → Cw → Prop
/-- a constructor's machine: its world is a list of cells that grows -/
def MachC (l : Launch) (D : va_G) (tys : List (ClassId × FieldType)) (own : String) (cc : ByteArray) (nL fr lo cm sm : Nat) (A : Nat → Prop) (ini : Prop) (post : Cw → Prop) (Φ : Ph2) : Prop :=
  ∃ (p : Program) (e : Env) (R : Room) (s : State) (m : MethodId) (args : Array Value) (below : List Frame) (meth : Method) (c : Code) (Q : State → Prop),
    (p.tables.exec = Jvm.exec ∧ c.code = cc ∧ c.maxLocals = nL ∧ s.vm.findClass own = some m.cls ∧ ∀ w ∈ tws, w.before args s = true) ∧ (ini → meth.name = "<init>") ∧ va_AO RX3 s ∧ va_K D vwCl tys s ∧ (∀ q, s.heap.size ≤ q → A q) ∧ (fr ≤ R.frames ∧ lo ≤ R.locals ∧ cm ≤ R.cells ∧ sm ≤ R.slots) ∧
    (∀ (pc : Nat) (σ : Cw), decode cc pc = .ok (.return_, 1) → post σ → σ.1 ≤ cm → σ.2.1 ≤ sm → ∀ (H : Heap) (locs : List Loc) (ls : Array Slot), va_P D vwCl σ.2.2 H → va_D A σ.2.2 → va_S A s.heap H locs → W p l e R s m args below meth c H locs σ.1 σ.2.1 Q (F0 m pc ls [])) ∧
    Φ = fun pc L st σ => L.length = nL → σ.1 ≤ cm → σ.2.1 ≤ sm → ∀ (H : Heap) (locs : List Loc) (ls : Array Slot), va_P D vwCl σ.2.2 H → va_D A σ.2.2 → va_S A s.heap H locs → lx ls L → W p l e R s m args below meth c H locs σ.1 σ.2.1 Q (F0 m pc ls st)
section Grow
variable {l : Launch} {D : va_G} {tys : List (ClassId × FieldType)} {own : String} {cc : ByteArray} {nL fr lo cm sm : Nat} {A : Nat → Prop} {ini : Prop} {post : Cw → Prop} {Φ : Ph2} {pc : Nat} {L : List (Option Value)} {st : List Value} {σ : Cw} {rest : List (Option Value)}
theorem g_iconst (M : MachC l D tys own cc nL fr lo cm sm A ini post Φ) {n : Int} {v : Int32} (d : decode cc pc = .ok (.iconst n, 1)) (hv : Int32.ofInt n = v) (k : Φ (pc + 1) L (.int v :: st) σ) : Φ pc L (st) σ := by
  obtain ⟨p, e, R, s, m, args, below, meth, c, Q, ⟨hx, hb, hml, hown, hts⟩, hini, hao, hK, hA, hRm, hRet, rfl⟩ := M
  intro hn hc hs H locs ls hP hD hS hl
  exact lv_iconst hx hb d hv (k hn hc hs H locs ls hP hD hS hl)
theorem g_bipush (M : MachC l D tys own cc nL fr lo cm sm A ini post Φ) {n : Int} {v : Int32} (d : decode cc pc = .ok (.bipush n, 2)) (hv : (Int8.ofInt n).toInt32 = v) (k : Φ (pc + 2) L (.int v :: st) σ) : Φ pc L (st) σ := by
  obtain ⟨p, e, R, s, m, args, below, meth, c, Q, ⟨hx, hb, hml, hown, hts⟩, hini, hao, hK, hA, hRm, hRet, rfl⟩ := M
  intro hn hc hs H locs ls hP hD hS hl
  exact lv_bipush hx hb d hv (k hn hc hs H locs ls hP hD hS hl)
theorem g_sipush (M : MachC l D tys own cc nL fr lo cm sm A ini post Φ) {n : Int} {v : Int32} (d : decode cc pc = .ok (.sipush n, 3)) (hv : (Int16.ofInt n).toInt32 = v) (k : Φ (pc + 3) L (.int v :: st) σ) : Φ pc L (st) σ := by
  obtain ⟨p, e, R, s, m, args, below, meth, c, Q, ⟨hx, hb, hml, hown, hts⟩, hini, hao, hK, hA, hRm, hRet, rfl⟩ := M
  intro hn hc hs H locs ls hP hD hS hl
  exact lv_sipush hx hb d hv (k hn hc hs H locs ls hP hD hS hl)
theorem g_ldc (M : MachC l D tys own cc nL fr lo cm sm A ini post Φ) {i : Nat} {v : Int32} (h : .constant own i v ∈ tws) (d : decode cc pc = .ok (.ldc i, 2)) (k : Φ (pc + 2) L (.int v :: st) σ) : Φ pc L st σ := by
  obtain ⟨p, e, R, s, m, args, below, meth, c, Q, ⟨hx, hb, hml, hown, hts⟩, hini, hao, hK, hA, hRm, hRet, rfl⟩ := M
  intro hn hc hs H locs ls hP hD hS hl
  exact lv_ldc hx hb hown (hts _ h) d (k hn hc hs H locs ls hP hD hS hl)
theorem g_ldcw (M : MachC l D tys own cc nL fr lo cm sm A ini post Φ) {i : Nat} {v : Int32} (h : .constant own i v ∈ tws) (d : decode cc pc = .ok (.ldc_w i, 3)) (k : Φ (pc + 3) L (.int v :: st) σ) : Φ pc L st σ := by
  obtain ⟨p, e, R, s, m, args, below, meth, c, Q, ⟨hx, hb, hml, hown, hts⟩, hini, hao, hK, hA, hRm, hRet, rfl⟩ := M
  intro hn hc hs H locs ls hP hD hS hl
  exact lv_ldcw hx hb hown (hts _ h) d (k hn hc hs H locs ls hP hD hS hl)
theorem g_iload_n (M : MachC l D tys own cc nL fr lo cm sm A ini post Φ) {k : Fin 4} {x : Int32} (d : decode cc pc = .ok (.iload_n k, 1)) (hL : L[(k : Nat)]? = some (some (.int x))) (k : Φ (pc + 1) L (.int x :: st) σ) : Φ pc L st σ := by
  obtain ⟨p, e, R, s, m, args, below, meth, c, Q, ⟨hx, hb, hml, hown, hts⟩, hini, hao, hK, hA, hRm, hRet, rfl⟩ := M
  intro hn hc hs H locs ls hP hD hS hl
  exact lv_iload_n hx hb d rfl (hl.2.2 _ _ hL) (k hn hc hs H locs ls hP hD hS hl)
theorem g_istore_n0 (M : MachC l D tys own cc nL fr lo cm sm A ini post Φ) {k : Fin 4} {x : Int32} (d : decode cc pc = .ok (.istore_n k, 1)) (hi : (k : Nat) < L.length) (hp : okPrev L k) (k : Φ (pc + 1) (L.set k (some (.int x))) st σ) : Φ pc L (.int x :: st) σ := by
  obtain ⟨p, e, R, s, m, args, below, meth, c, Q, ⟨hx, hb, hml, hown, hts⟩, hini, hao, hK, hA, hRm, hRet, rfl⟩ := M
  intro hn hc hs H locs ls hP hD hS hl
  refine lv_istore_n hx hb d rfl hl.has hi rfl (fun ls1 h1 => k (by simpa using hn) hc hs H locs ls1 hP hD hS (lx_st1 hp rfl h1))
theorem g_aload_n (M : MachC l D tys own cc nL fr lo cm sm A ini post Φ) {k : Fin 4} {x : Nat} (d : decode cc pc = .ok (.aload_n k, 1)) (hL : L[(k : Nat)]? = some (some (.ref x))) (k : Φ (pc + 1) L (.ref x :: st) σ) : Φ pc L st σ := by
  obtain ⟨p, e, R, s, m, args, below, meth, c, Q, ⟨hx, hb, hml, hown, hts⟩, hini, hao, hK, hA, hRm, hRet, rfl⟩ := M
  intro hn hc hs H locs ls hP hD hS hl
  exact lv_aload_n hx hb d rfl (hl.2.2 _ _ hL) (k hn hc hs H locs ls hP hD hS hl)
theorem g_astore_n0 (M : MachC l D tys own cc nL fr lo cm sm A ini post Φ) {k : Fin 4} {x : Nat} (d : decode cc pc = .ok (.astore_n k, 1)) (hi : (k : Nat) < L.length) (hp : okPrev L k) (k : Φ (pc + 1) (L.set k (some (.ref x))) st σ) : Φ pc L (.ref x :: st) σ := by
  obtain ⟨p, e, R, s, m, args, below, meth, c, Q, ⟨hx, hb, hml, hown, hts⟩, hini, hao, hK, hA, hRm, hRet, rfl⟩ := M
  intro hn hc hs H locs ls hP hD hS hl
  refine lv_astore_n hx hb d rfl hl.has hi rfl (fun ls1 h1 => k (by simpa using hn) hc hs H locs ls1 hP hD hS (lx_st1 hp rfl h1))
theorem g_iinc0 (M : MachC l D tys own cc nL fr lo cm sm A ini post Φ) {i : Nat} {n : Int} {x v : Int32} (d : decode cc pc = .ok (.iinc i n, 3)) (hL : L[i]? = some (some (.int x))) (hv : x + Int32.ofInt n = v) (hp : okPrev L i) (k : Φ (pc + 3) (L.set i (some (.int v))) st σ) : Φ pc L st σ := by
  obtain ⟨p, e, R, s, m, args, below, meth, c, Q, ⟨hx, hb, hml, hown, hts⟩, hini, hao, hK, hA, hRm, hRet, rfl⟩ := M
  intro hn hc hs H locs ls hP hD hS hl
  have hi : i < L.length := (List.getElem?_eq_some_iff.mp hL).1
  obtain ⟨j, hj⟩ := List.getElem?_of_mem ((enL_mem L 0 (i, .int x)).mpr ⟨i, by simp, hL⟩)
  exact lv_iinc hx hb d hl.has hj hv hi rfl (fun ls1 h1 => k (by simpa using hn) hc hs H locs ls1 hP hD hS (lx_st1 hp rfl h1))
theorem g_dup (M : MachC l D tys own cc nL fr lo cm sm A ini post Φ) {v : Value} (d : decode cc pc = .ok (.dup, 1)) (hv : v.category = 1) (k : Φ (pc + 1) L (v :: v :: st) σ) : Φ pc L (v :: st) σ := by
  obtain ⟨p, e, R, s, m, args, below, meth, c, Q, ⟨hx, hb, hml, hown, hts⟩, hini, hao, hK, hA, hRm, hRet, rfl⟩ := M
  intro hn hc hs H locs ls hP hD hS hl
  exact lv_dup hx hb d hv (k hn hc hs H locs ls hP hD hS hl)
theorem g_icmp_ge (M : MachC l D tys own cc nL fr lo cm sm A ini post Φ) {x y : Int32} {off : Int} {tgt : Nat} (d : decode cc pc = .ok (.if_icmp .ge off, 3)) (ht : (pc : Int) + off = (tgt : Int)) (kt : ¬ x < y → Φ tgt L st σ) (kf : x < y → Φ (pc + 3) L st σ) : Φ pc L (.int y :: .int x :: st) σ := by
  obtain ⟨p, e, R, s, m, args, below, meth, c, Q, ⟨hx, hb, hml, hown, hts⟩, hini, hao, hK, hA, hRm, hRet, rfl⟩ := M
  intro hn hc hs H locs ls hP hD hS hl
  exact lv_icmp_ge hx hb d ht (fun h => kt (Int32.not_lt.mpr h) hn hc hs H locs ls hP hD hS hl) (fun h => kf (Int32.not_le.mp h) hn hc hs H locs ls hP hD hS hl)
theorem g_goto (M : MachC l D tys own cc nL fr lo cm sm A ini post Φ) {off : Int} {tgt : Nat} (d : decode cc pc = .ok (.goto off, 3)) (ht : (pc : Int) + off = (tgt : Int)) (k : Φ tgt L st σ) : Φ pc L st σ := by
  obtain ⟨p, e, R, s, m, args, below, meth, c, Q, ⟨hx, hb, hml, hown, hts⟩, hini, hao, hK, hA, hRm, hRet, rfl⟩ := M
  intro hn hc hs H locs ls hP hD hS hl
  exact lv_goto hx hb d ht (k hn hc hs H locs ls hP hD hS hl)
theorem g_istore_1 (M : MachC l D tys own cc nL fr lo cm sm A ini post Φ) {x0 x1 : Option Value} {x : Int32} (d : decode cc pc = .ok (.istore_n 1, 1)) (hp : noLong x0) (k : Φ (pc + 1) (x0 :: some (.int x) :: rest) st σ) : Φ pc (x0 :: x1 :: rest) (.int x :: st) σ := g_istore_n0 M d (by show 1 < _; simp only [List.length_cons]; omega) (fun o ho => by simp at ho; subst ho; exact hp) k
theorem g_astore_1 (M : MachC l D tys own cc nL fr lo cm sm A ini post Φ) {x0 x1 : Option Value} {x : Nat} (d : decode cc pc = .ok (.astore_n 1, 1)) (hp : noLong x0) (k : Φ (pc + 1) (x0 :: some (.ref x) :: rest) st σ) : Φ pc (x0 :: x1 :: rest) (.ref x :: st) σ := g_astore_n0 M d (by show 1 < _; simp only [List.length_cons]; omega) (fun o ho => by simp at ho; subst ho; exact hp) k
theorem g_iinc_1 (M : MachC l D tys own cc nL fr lo cm sm A ini post Φ) {x0 : Option Value} {n : Int} {x v : Int32} (d : decode cc pc = .ok (.iinc 1 n, 3)) (hv : x + Int32.ofInt n = v) (hp : noLong x0) (k : Φ (pc + 3) (x0 :: some (.int v) :: rest) st σ) : Φ pc (x0 :: some (.int x) :: rest) st σ := g_iinc0 M d (by simp) hv (fun o ho => by simp at ho; subst ho; exact hp) k
theorem g_astore_2 (M : MachC l D tys own cc nL fr lo cm sm A ini post Φ) {x0 x1 x2 : Option Value} {x : Nat} (d : decode cc pc = .ok (.astore_n 2, 1)) (hp : noLong x1) (k : Φ (pc + 1) (x0 :: x1 :: some (.ref x) :: rest) st σ) : Φ pc (x0 :: x1 :: x2 :: rest) (.ref x :: st) σ := g_astore_n0 M d (by show 2 < _; simp only [List.length_cons]; omega) (fun o ho => by simp at ho; subst ho; exact hp) k
theorem g_istore_3 (M : MachC l D tys own cc nL fr lo cm sm A ini post Φ) {x0 x1 x2 x3 : Option Value} {x : Int32} (d : decode cc pc = .ok (.istore_n 3, 1)) (hp : noLong x2) (k : Φ (pc + 1) (x0 :: x1 :: x2 :: some (.int x) :: rest) st σ) : Φ pc (x0 :: x1 :: x2 :: x3 :: rest) (.int x :: st) σ := g_istore_n0 M d (by show 3 < _; simp only [List.length_cons]; omega) (fun o ho => by simp at ho; subst ho; exact hp) k
theorem g_init0 (M : MachC l D tys own cc nL fr lo cm sm A ini post Φ) {idx a : Nat} (hl1 : Cond.methodLink own idx objectInit ∈ tws) (hfr : 1 ≤ fr) (hlo : (st.map fun v => v.category).sum + 12 ≤ lo) (d : decode cc pc = .ok (.invokespecial idx, 3)) (kk : Φ (pc + 3) L st σ) : Φ pc L (.ref a :: st) σ := by
  obtain ⟨p, e, R, s, m, args, below, meth, c, Q, ⟨hx, hb, hml, hown, hts⟩, hini, hao, hK, hA, hRm, hRet, rfl⟩ := M
  intro hn hc hs H locs ls hP hD hS hl
  refine W.objInit hx hb hown (hts _ hl1) (hts _ oi_im) (hts _ oi_cd) rfl (by rw [hml]; exact hl.1.trans hn) rfl d (Nat.le_trans hfr hRm.1) ?_ ?_
  · refine Nat.le_trans ?_ hRm.2.1
    show 2 * 0 + _ + 12 ≤ lo
    omega
  · exact kk hn hc hs H locs ls hP hD hS hl
theorem g_put (M : MachC l D tys own cc nL fr lo cm sm A ini post Φ) {ci index N k a q0 : Nat} {C : String} {T : u_T} {ty0 : Nat → FieldType} {fs : List Value} {v : Value} (he : σ.2.2[q0]? = some (a, .inr (ci, fs))) (hcl : vwCl[ci]? = some (C, T, N)) (hk : k < N) (hin : ∀ w ∈ u_ws C T N, w ∈ tws) (hty : ∀ k, k < N → parseFieldDescriptor (T k).2.2.1 = some (ty0 k)) (hnm : ∀ a, a < N → ∀ b, b < N → a ≠ b → (T a).2.1 ≠ (T b).2.1) (hlink : Cond.fieldLink own index (T k).1 (T k).2.1 (T k).2.2.1 ∈ tws) (hfin : (T k).2.2.2 = false) (hn' : narrow (ty0 k) v = v) (hfit : fits (ty0 k) v = true) (hlen : k < fs.length) (d : decode cc pc = .ok (.putfield index, 3)) (kk : Φ (pc + 3) L st (σ.1, σ.2.1, σ.2.2.set q0 (a, .inr (ci, fs.set k v)))) : Φ pc L (v :: .ref a :: st) σ := by
  obtain ⟨p, e, R, s, m, args, below, meth, c, Q, ⟨hx, hb, hml, hown, hts⟩, hini, hao, hK, hA, hRm, hRet, rfl⟩ := M
  intro hn hc hs H locs ls hP hD hS hl
  exact va_put hx hb hts hin ty0 hty hnm hown hK hP hD hS q0 he hcl k hk (hts _ hlink) (fun _ h9 => h9) hfin (hty k hk) hn' hfit hlen d (fun H1 locs1 hP1 hD1 hS1 => kk hn hc hs H1 locs1 ls hP1 hD1 hS1 hl)
theorem g_putF (M : MachC l D tys own cc nL fr lo cm sm A ini post Φ) (hi : ini) {ci index N k a q0 : Nat} {C : String} {T : u_T} {ty0 : Nat → FieldType} {fs : List Value} {v : Value} (he : σ.2.2[q0]? = some (a, .inr (ci, fs))) (hcl : vwCl[ci]? = some (C, T, N)) (hk : k < N) (hin : ∀ w ∈ u_ws C T N, w ∈ tws) (hty : ∀ k, k < N → parseFieldDescriptor (T k).2.2.1 = some (ty0 k)) (hnm : ∀ a, a < N → ∀ b, b < N → a ≠ b → (T a).2.1 ≠ (T b).2.1) (hlink : Cond.fieldLink own index (T k).1 (T k).2.1 (T k).2.2.1 ∈ tws) (hfin : (T k).2.2.2 = true) (hdecl : (T k).1 = own) (hn' : narrow (ty0 k) v = v) (hfit : fits (ty0 k) v = true) (hlen : k < fs.length) (d : decode cc pc = .ok (.putfield index, 3)) (kk : Φ (pc + 3) L st (σ.1, σ.2.1, σ.2.2.set q0 (a, .inr (ci, fs.set k v)))) : Φ pc L (v :: .ref a :: st) σ := by
  obtain ⟨p, e, R, s, m, args, below, meth, c, Q, ⟨hx, hb, hml, hown, hts⟩, hini, hao, hK, hA, hRm, hRet, rfl⟩ := M
  intro hn hc hs H locs ls hP hD hS hl
  exact va_putF hx hb hts hin ty0 hty hnm hown hK hP hD hS q0 he hcl k hk (hts _ hlink) (fun _ h9 => h9) hfin (hini hi) hdecl (hty k hk) hn' hfit hlen d (fun H1 locs1 hP1 hD1 hS1 => kk hn hc hs H1 locs1 ls hP1 hD1 hS1 hl)
theorem g_get (M : MachC l D tys own cc nL fr lo cm sm A ini post Φ) {ci index N k a q0 : Nat} {C : String} {T : u_T} {fs : List Value} {v : Value} (he : σ.2.2[q0]? = some (a, .inr (ci, fs))) (hcl : vwCl[ci]? = some (C, T, N)) (hk : k < N) (hin : ∀ w ∈ u_ws C T N, w ∈ tws) (hlink : Cond.fieldLink own index (T k).1 (T k).2.1 (T k).2.2.1 ∈ tws) (hfs : fs[k]? = some v) (d : decode cc pc = .ok (.getfield index, 3)) (kk : Φ (pc + 3) L (v :: st) σ) : Φ pc L (.ref a :: st) σ := by
  obtain ⟨p, e, R, s, m, args, below, meth, c, Q, ⟨hx, hb, hml, hown, hts⟩, hini, hao, hK, hA, hRm, hRet, rfl⟩ := M
  intro hn hc hs H locs ls hP hD hS hl
  exact va_get hx hb hts hin hown hK hP q0 he hcl k hk (hts _ hlink) (fun _ h9 => h9) hfs d (kk hn hc hs H locs ls hP hD hS hl)
theorem g_ret (M : MachC l D tys own cc nL fr lo cm sm A ini post Φ) (hp : post σ) (d : decode cc pc = .ok (.return_, 1)) : Φ pc L [] σ := by
  obtain ⟨p, e, R, s, m, args, below, meth, c, Q, ⟨hx, hb, hml, hown, hts⟩, hini, hao, hK, hA, hRm, hRet, rfl⟩ := M
  intro hn hc hs H locs ls hP hD hS hl
  exact hRet pc σ d hp hc hs H locs ls hP hD hS
/-- an array of ints: its class is the one of the list -/
theorem g_newi (M : MachC l D tys own cc nL fr lo cm sm A ini post Φ) {cI : ClassId} (hI : tys[0]? = some (cI, .int)) {n : Int32} {N' : Nat} (hneg : ¬ n < 0) (hN : n.toNatClampNeg = N') (hby : N' * componentBytes .int ≤ 536870912) (hc1 : σ.1 + 1 ≤ cm) (hs1 : σ.2.1 + N' ≤ sm) (hw : Cond.arrayClass .int ∈ tws) (d : decode cc pc = .ok (.newarray .int, 2)) (kk : ∀ q : Nat, Φ (pc + 2) L (.ref q :: st) (σ.1 + 1, σ.2.1 + N', σ.2.2 ++ [(q, .inl (cI, N', .inl (fun _ => 0)))])) : Φ pc L (.int n :: st) σ := by
  obtain ⟨p, e, R, s, m, args, below, meth, c, Q, ⟨hx, hb, hml, hown, hts⟩, hini, hao, hK, hA, hRm, hRet, rfl⟩ := M
  intro hn hc hs H locs ls hP hD hS hl
  refine va_newa hx hb (atype := .int) (hts _ hw) (ty := .int) rfl hK hP hD hS hA (a0 := (N', .inl (fun _ => 0))) (fun _ => rfl) hneg hN hby (Nat.le_trans hc1 hRm.2.2.1) (Nat.le_trans hs1 hRm.2.2.2) d (fun q cA H1 hK1 hP1 hD1 hS1 => ?_)
  have e : cA = cI := by
    have a := (hK1.2 tys.length (cA, .int) (by simp)).2
    have b := (hK.2 0 (cI, .int) hI).2
    exact Option.some.inj (a.symm.trans b)
  subst e
  exact kk q hn hc1 hs1 H1 locs ls hP1 hD1 hS1 hl
theorem g_newz (M : MachC l D tys own cc nL fr lo cm sm A ini post Φ) {cZ : ClassId} (hI : tys[1]? = some (cZ, .boolean)) {n : Int32} {N' : Nat} (hneg : ¬ n < 0) (hN : n.toNatClampNeg = N') (hby : N' * componentBytes .boolean ≤ 536870912) (hc1 : σ.1 + 1 ≤ cm) (hs1 : σ.2.1 + N' ≤ sm) (hw : Cond.arrayClass .boolean ∈ tws) (d : decode cc pc = .ok (.newarray .boolean, 2)) (kk : ∀ q : Nat, Φ (pc + 2) L (.ref q :: st) (σ.1 + 1, σ.2.1 + N', σ.2.2 ++ [(q, .inl (cZ, N', .inl (fun _ => 0)))])) : Φ pc L (.int n :: st) σ := by
  obtain ⟨p, e, R, s, m, args, below, meth, c, Q, ⟨hx, hb, hml, hown, hts⟩, hini, hao, hK, hA, hRm, hRet, rfl⟩ := M
  intro hn hc hs H locs ls hP hD hS hl
  refine va_newa hx hb (atype := .boolean) (hts _ hw) (ty := .boolean) rfl hK hP hD hS hA (a0 := (N', .inl (fun _ => 0))) (fun _ => rfl) hneg hN hby (Nat.le_trans hc1 hRm.2.2.1) (Nat.le_trans hs1 hRm.2.2.2) d (fun q cA H1 hK1 hP1 hD1 hS1 => ?_)
  have e : cA = cZ := by
    have a := (hK1.2 tys.length (cA, .boolean) (by simp)).2
    have b := (hK.2 1 (cZ, .boolean) hI).2
    exact Option.some.inj (a.symm.trans b)
  subst e
  exact kk q hn hc1 hs1 H1 locs ls hP1 hD1 hS1 hl
theorem g_newq (M : MachC l D tys own cc nL fr lo cm sm A ini post Φ) {cL : ClassId} {index : Nat} (hI : tys[2]? = some (cL, .object RX3)) {n : Int32} {N' : Nat} (hneg : ¬ n < 0) (hN : n.toNatClampNeg = N') (hby : N' * 4 ≤ 536870912) (hc1 : σ.1 + 1 ≤ cm) (hs1 : σ.2.1 + N' ≤ sm) (hw : Cond.classLink own index RX3 ∈ tws) (d : decode cc pc = .ok (.anewarray index, 3)) (kk : ∀ q : Nat, Φ (pc + 3) L (.ref q :: st) (σ.1 + 1, σ.2.1 + N', σ.2.2 ++ [(q, .inl (cL, N', .inr (.inr (.inr (.inr (fun _ => none))))))])) : Φ pc L (.int n :: st) σ := by
  obtain ⟨p, e, R, s, m, args, below, meth, c, Q, ⟨hx, hb, hml, hown, hts⟩, hini, hao, hK, hA, hRm, hRet, rfl⟩ := M
  intro hn hc hs H locs ls hP hD hS hl
  refine va_newq hx hb hown (hts _ hw) hao hK hP hD hS hA hneg hN hby (Nat.le_trans hc1 hRm.2.2.1) (Nat.le_trans hs1 hRm.2.2.2) d (fun q cA H1 hK1 hP1 hD1 hS1 => ?_)
  have e : cA = cL := by
    obtain ⟨kA, comp, a1, a2, a3, a4⟩ := (hK1.2 tys.length (cA, .object RX3) (by simp)).2
    obtain ⟨kB, comp', b1, b2, b3, b4⟩ := (hK.2 2 (cL, .object RX3) hI).2
    exact Option.some.inj (a4.symm.trans b4)
  subst e
  exact kk q hn hc1 hs1 H1 locs ls hP1 hD1 hS1 hl
theorem g_new (M : MachC l D tys own cc nL fr lo cm sm A ini post Φ) {ci index N : Nat} {C : String} {T : u_T} {ty0 : Nat → FieldType} {fs : List Value} (hcl : vwCl[ci]? = some (C, T, N)) (hin : ∀ w ∈ u_ws C T N, w ∈ tws) (hty : ∀ k, k < N → parseFieldDescriptor (T k).2.2.1 = some (ty0 k)) (w1 : Cond.classLink own index C ∈ tws) (w2 : Cond.instantiable C N ∈ tws) (w3 : Cond.initialized C ∈ tws) (hfs : ∀ j, j < N → defaultValue (ty0 j) = vp_V fs j) (hc1 : σ.1 + 1 ≤ cm) (hs1 : σ.2.1 + N ≤ sm) (d : decode cc pc = .ok (.new index, 3)) (kk : ∀ q : Nat, Φ (pc + 3) L (.ref q :: st) (σ.1 + 1, σ.2.1 + N, σ.2.2 ++ [(q, .inr (ci, fs))])) : Φ pc L st σ := by
  obtain ⟨p, e, R, s, m, args, below, meth, c, Q, ⟨hx, hb, hml, hown, hts⟩, hini, hao, hK, hA, hRm, hRet, rfl⟩ := M
  intro hn hc hs H locs ls hP hD hS hl
  refine va_new hx hb hts hin ty0 hty hown (hts _ w1) (hts _ w2) (hts _ w3) hK hP hD hS hA hcl hfs (Nat.le_trans hc1 hRm.2.2.1) (Nat.le_trans hs1 hRm.2.2.2) d (fun q H1 hP1 hD1 hS1 => ?_)
  exact kk q hn hc1 hs1 H1 locs ls hP1 hD1 hS1 hl
theorem g_iast (M : MachC l D tys own cc nL fr lo cm sm A ini post Φ) {cI : ClassId} (hI : tys[0]? = some (cI, .int)) {a q0 n : Nat} {f : Nat → Int32} {i x : Int32} (he : σ.2.2[q0]? = some (a, .inl (cI, n, .inl f))) (hin : vp_in i n) (d : decode cc pc = .ok (.iastore, 1)) (kk : Φ (pc + 1) L st (σ.1, σ.2.1, σ.2.2.set q0 (a, .inl (cI, n, .inl (upd f i.toNatClampNeg x))))) : Φ pc L (.int x :: .int i :: .ref a :: st) σ := by
  obtain ⟨p, e, R, s, m, args, below, meth, c, Q, ⟨hx, hb, hml, hown, hts⟩, hini, hao, hK, hA, hRm, hRet, rfl⟩ := M
  intro hn hc hs H locs ls hP hD hS hl
  exact va_iast hx hb hK hP hD hS q0 0 he hI hin d (fun H1 locs1 hP1 hD1 hS1 => kk hn hc hs H1 locs1 ls hP1 hD1 hS1 hl)
theorem g_aast (M : MachC l D tys own cc nL fr lo cm sm A ini post Φ) {cL : ClassId} (hI : tys[2]? = some (cL, .object RX3)) {a q0 qk n v : Nat} {f : Nat → Option Nat} {vs : List Value} {i : Int32} (he : σ.2.2[q0]? = some (a, .inl (cL, n, .inr (.inr (.inr (.inr f)))))) (hv : σ.2.2[qk]? = some (v, .inr (3, vs))) (hin : vp_in i n) (d : decode cc pc = .ok (.aastore, 1)) (kk : Φ (pc + 1) L st (σ.1, σ.2.1, σ.2.2.set q0 (a, .inl (cL, n, .inr (.inr (.inr (.inr (va_up f i.toNatClampNeg (some v))))))))) : Φ pc L (.ref v :: .int i :: .ref a :: st) σ := by
  obtain ⟨p, e, R, s, m, args, below, meth, c, Q, ⟨hx, hb, hml, hown, hts⟩, hini, hao, hK, hA, hRm, hRet, rfl⟩ := M
  intro hn hc hs H locs ls hP hD hS hl
  exact va_astq hx hb hK hP hD hS q0 2 qk 3 he hI hv rfl hin d (fun H1 locs1 hP1 hD1 hS1 => kk hn hc hs H1 locs1 ls hP1 hD1 hS1 hl)
end Grow
