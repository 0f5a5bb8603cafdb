section Rows
variable {l : Launch} {G : Gw} {own : String} {cc : ByteArray} {nL fr lo : Nat} {ret : Option FieldType} {post : Option Value → Sg → Prop} {Φ : Ph} {pc : Nat} {L : List (Option Value)} {st : List Value} {σ : Sg}
theorem j_iconst (M : Mach l G own cc nL ret fr lo post Φ) {n : Int} {v : Int32} (d : decode cc pc = .ok (.iconst n, 1)) (hv : Int32.ofInt n = v) (k : Φ (pc + 1) L (.int v :: st) σ) : Φ pc L (st) σ := by
  obtain ⟨p, e, R, s, m, args, below, meth, c, cells, slots, Q, ⟨hx, hb, hml, hown, hts⟩, hWk, hRm, hRet, rfl⟩ := M
  intro hn H locs ls hW hS hl
  exact lv_iconst hx hb d hv (k hn H locs ls hW hS hl)
theorem j_bipush (M : Mach l G own cc nL ret fr lo post Φ) {n : Int} {v : Int32} (d : decode cc pc = .ok (.bipush n, 2)) (hv : (Int8.ofInt n).toInt32 = v) (k : Φ (pc + 2) L (.int v :: st) σ) : Φ pc L (st) σ := by
  obtain ⟨p, e, R, s, m, args, below, meth, c, cells, slots, Q, ⟨hx, hb, hml, hown, hts⟩, hWk, hRm, hRet, rfl⟩ := M
  intro hn H locs ls hW hS hl
  exact lv_bipush hx hb d hv (k hn H locs ls hW hS hl)
theorem j_sipush (M : Mach l G own cc nL ret fr lo post Φ) {n : Int} {v : Int32} (d : decode cc pc = .ok (.sipush n, 3)) (hv : (Int16.ofInt n).toInt32 = v) (k : Φ (pc + 3) L (.int v :: st) σ) : Φ pc L (st) σ := by
  obtain ⟨p, e, R, s, m, args, below, meth, c, cells, slots, Q, ⟨hx, hb, hml, hown, hts⟩, hWk, hRm, hRet, rfl⟩ := M
  intro hn H locs ls hW hS hl
  exact lv_sipush hx hb d hv (k hn H locs ls hW hS hl)
theorem j_lconst (M : Mach l G own cc nL ret fr lo post Φ) {n : Fin 2} {v : Int64} (d : decode cc pc = .ok (.lconst n, 1)) (hv : Int64.ofNat (n : Nat) = v) (k : Φ (pc + 1) L (.long v :: st) σ) : Φ pc L st σ := by
  obtain ⟨p, e, R, s, m, args, below, meth, c, cells, slots, Q, ⟨hx, hb, hml, hown, hts⟩, hWk, hRm, hRet, rfl⟩ := M
  intro hn H locs ls hW hS hl
  exact lv_lconst hx hb d hv (k hn H locs ls hW hS hl)
theorem tw {s : State} {args : Array Value} (hts : ∀ w ∈ tws, w.before args s = true) {w : Cond} (h : w ∈ tws) : w.before args s = true := hts w h
theorem j_ldc (M : Mach l G own cc nL ret fr lo post Φ) {i : Nat} {v : Int32} (h : .constant own i v ∈ tws) (d : decode cc pc = .ok (.ldc i, 2)) (k : Φ (pc + 2) L (.int v :: st) σ) : Φ pc L st σ := by
  obtain ⟨p, e, R, s, m, args, below, meth, c, cells, slots, Q, ⟨hx, hb, hml, hown, hts⟩, hWk, hRm, hRet, rfl⟩ := M
  intro hn H locs ls hW hS hl
  exact lv_ldc hx hb hown (hts _ h) d (k hn H locs ls hW hS hl)
theorem j_ldcw (M : Mach l G own cc nL ret fr lo post Φ) {i : Nat} {v : Int32} (h : .constant own i v ∈ tws) (d : decode cc pc = .ok (.ldc_w i, 3)) (k : Φ (pc + 3) L (.int v :: st) σ) : Φ pc L st σ := by
  obtain ⟨p, e, R, s, m, args, below, meth, c, cells, slots, Q, ⟨hx, hb, hml, hown, hts⟩, hWk, hRm, hRet, rfl⟩ := M
  intro hn H locs ls hW hS hl
  exact lv_ldcw hx hb hown (hts _ h) d (k hn H locs ls hW hS hl)
theorem j_ldc2 (M : Mach l G own cc nL ret fr lo post Φ) {i : Nat} {v : Int64} (h : .constantLong own i v ∈ tws) (d : decode cc pc = .ok (.ldc2_w i, 3)) (k : Φ (pc + 3) L (.long v :: st) σ) : Φ pc L st σ := by
  obtain ⟨p, e, R, s, m, args, below, meth, c, cells, slots, Q, ⟨hx, hb, hml, hown, hts⟩, hWk, hRm, hRet, rfl⟩ := M
  intro hn H locs ls hW hS hl
  exact lv_ldc2 hx hb hown (hts _ h) d (k hn H locs ls hW hS hl)
theorem j_iload_n (M : Mach l G own cc nL ret fr lo post Φ) {k : Fin 4} {x : Int32} (d : decode cc pc = .ok (.iload_n k, 1)) (hL : L[(k : Nat)]? = some (some (.int x))) (k : Φ (pc + 1) L (.int x :: st) σ) : Φ pc L st σ := by
  obtain ⟨p, e, R, s, m, args, below, meth, c, cells, slots, Q, ⟨hx, hb, hml, hown, hts⟩, hWk, hRm, hRet, rfl⟩ := M
  intro hn H locs ls hW hS hl
  exact lv_iload_n hx hb d rfl (hl.2.2 _ _ hL) (k hn H locs ls hW hS hl)
theorem j_iload (M : Mach l G own cc nL ret fr lo post Φ) {i : Nat} {x : Int32} (d : decode cc pc = .ok (.iload i, 2)) (hL : L[i]? = some (some (.int x))) (k : Φ (pc + 2) L (.int x :: st) σ) : Φ pc L st σ := by
  obtain ⟨p, e, R, s, m, args, below, meth, c, cells, slots, Q, ⟨hx, hb, hml, hown, hts⟩, hWk, hRm, hRet, rfl⟩ := M
  intro hn H locs ls hW hS hl
  exact lv_iload hx hb d (hl.2.2 _ _ hL) (k hn H locs ls hW hS hl)
theorem j_istore_n0 (M : Mach l G own cc nL ret fr lo post Φ) {k : Fin 4} {x : Int32} (d : decode cc pc = .ok (.istore_n k, 1)) (hi : (k : Nat) < L.length) (hp : okPrev L k) (k : Φ (pc + 1) (L.set k (some (.int x))) st σ) : Φ pc L (.int x :: st) σ := by
  obtain ⟨p, e, R, s, m, args, below, meth, c, cells, slots, Q, ⟨hx, hb, hml, hown, hts⟩, hWk, hRm, hRet, rfl⟩ := M
  intro hn H locs ls hW hS hl
  refine lv_istore_n hx hb d rfl hl.has hi rfl (fun ls1 h1 => k (by simpa using hn) H locs ls1 hW hS (lx_st1 hp rfl h1))
theorem j_istore0 (M : Mach l G own cc nL ret fr lo post Φ) {i : Nat} {x : Int32} (d : decode cc pc = .ok (.istore i, 2)) (hi : i < L.length) (hp : okPrev L i) (k : Φ (pc + 2) (L.set i (some (.int x))) st σ) : Φ pc L (.int x :: st) σ := by
  obtain ⟨p, e, R, s, m, args, below, meth, c, cells, slots, Q, ⟨hx, hb, hml, hown, hts⟩, hWk, hRm, hRet, rfl⟩ := M
  intro hn H locs ls hW hS hl
  refine lv_istore hx hb d  hl.has hi rfl (fun ls1 h1 => k (by simpa using hn) H locs ls1 hW hS (lx_st1 hp rfl h1))
theorem j_lload_n (M : Mach l G own cc nL ret fr lo post Φ) {k : Fin 4} {x : Int64} (d : decode cc pc = .ok (.lload_n k, 1)) (hL : L[(k : Nat)]? = some (some (.long x))) (k : Φ (pc + 1) L (.long x :: st) σ) : Φ pc L st σ := by
  obtain ⟨p, e, R, s, m, args, below, meth, c, cells, slots, Q, ⟨hx, hb, hml, hown, hts⟩, hWk, hRm, hRet, rfl⟩ := M
  intro hn H locs ls hW hS hl
  exact lv_lload_n hx hb d rfl (hl.2.2 _ _ hL) (k hn H locs ls hW hS hl)
theorem j_lload (M : Mach l G own cc nL ret fr lo post Φ) {i : Nat} {x : Int64} (d : decode cc pc = .ok (.lload i, 2)) (hL : L[i]? = some (some (.long x))) (k : Φ (pc + 2) L (.long x :: st) σ) : Φ pc L st σ := by
  obtain ⟨p, e, R, s, m, args, below, meth, c, cells, slots, Q, ⟨hx, hb, hml, hown, hts⟩, hWk, hRm, hRet, rfl⟩ := M
  intro hn H locs ls hW hS hl
  exact lv_lload hx hb d (hl.2.2 _ _ hL) (k hn H locs ls hW hS hl)
theorem j_lstore_n0 (M : Mach l G own cc nL ret fr lo post Φ) {k : Fin 4} {x : Int64} (d : decode cc pc = .ok (.lstore_n k, 1)) (hi : (k : Nat) + 1 < L.length) (hp : okPrev L k) (k : Φ (pc + 1) ((L.set k (some (.long x))).set (k + 1) none) st σ) : Φ pc L (.long x :: st) σ := by
  obtain ⟨p, e, R, s, m, args, below, meth, c, cells, slots, Q, ⟨hx, hb, hml, hown, hts⟩, hWk, hRm, hRet, rfl⟩ := M
  intro hn H locs ls hW hS hl
  refine lv_lstore_n hx hb d rfl hl.has hi rfl (fun ls1 h1 => k (by simpa using hn) H locs ls1 hW hS (lx_st2 hp rfl h1))
theorem j_lstore0 (M : Mach l G own cc nL ret fr lo post Φ) {i : Nat} {x : Int64} (d : decode cc pc = .ok (.lstore i, 2)) (hi : i + 1 < L.length) (hp : okPrev L i) (k : Φ (pc + 2) ((L.set i (some (.long x))).set (i + 1) none) st σ) : Φ pc L (.long x :: st) σ := by
  obtain ⟨p, e, R, s, m, args, below, meth, c, cells, slots, Q, ⟨hx, hb, hml, hown, hts⟩, hWk, hRm, hRet, rfl⟩ := M
  intro hn H locs ls hW hS hl
  refine lv_lstore hx hb d  hl.has hi rfl (fun ls1 h1 => k (by simpa using hn) H locs ls1 hW hS (lx_st2 hp rfl h1))
theorem j_aload_n (M : Mach l G own cc nL ret fr lo post Φ) {k : Fin 4} {x : Nat} (d : decode cc pc = .ok (.aload_n k, 1)) (hL : L[(k : Nat)]? = some (some (.ref x))) (k : Φ (pc + 1) L (.ref x :: st) σ) : Φ pc L st σ := by
  obtain ⟨p, e, R, s, m, args, below, meth, c, cells, slots, Q, ⟨hx, hb, hml, hown, hts⟩, hWk, hRm, hRet, rfl⟩ := M
  intro hn H locs ls hW hS hl
  exact lv_aload_n hx hb d rfl (hl.2.2 _ _ hL) (k hn H locs ls hW hS hl)
theorem j_aload (M : Mach l G own cc nL ret fr lo post Φ) {i : Nat} {x : Nat} (d : decode cc pc = .ok (.aload i, 2)) (hL : L[i]? = some (some (.ref x))) (k : Φ (pc + 2) L (.ref x :: st) σ) : Φ pc L st σ := by
  obtain ⟨p, e, R, s, m, args, below, meth, c, cells, slots, Q, ⟨hx, hb, hml, hown, hts⟩, hWk, hRm, hRet, rfl⟩ := M
  intro hn H locs ls hW hS hl
  exact lv_aload hx hb d (hl.2.2 _ _ hL) (k hn H locs ls hW hS hl)
theorem j_astore_n0 (M : Mach l G own cc nL ret fr lo post Φ) {k : Fin 4} {x : Nat} (d : decode cc pc = .ok (.astore_n k, 1)) (hi : (k : Nat) < L.length) (hp : okPrev L k) (k : Φ (pc + 1) (L.set k (some (.ref x))) st σ) : Φ pc L (.ref x :: st) σ := by
  obtain ⟨p, e, R, s, m, args, below, meth, c, cells, slots, Q, ⟨hx, hb, hml, hown, hts⟩, hWk, hRm, hRet, rfl⟩ := M
  intro hn H locs ls hW hS hl
  refine lv_astore_n hx hb d rfl hl.has hi rfl (fun ls1 h1 => k (by simpa using hn) H locs ls1 hW hS (lx_st1 hp rfl h1))
theorem j_astore0 (M : Mach l G own cc nL ret fr lo post Φ) {i : Nat} {x : Nat} (d : decode cc pc = .ok (.astore i, 2)) (hi : i < L.length) (hp : okPrev L i) (k : Φ (pc + 2) (L.set i (some (.ref x))) st σ) : Φ pc L (.ref x :: st) σ := by
  obtain ⟨p, e, R, s, m, args, below, meth, c, cells, slots, Q, ⟨hx, hb, hml, hown, hts⟩, hWk, hRm, hRet, rfl⟩ := M
  intro hn H locs ls hW hS hl
  refine lv_astore hx hb d  hl.has hi rfl (fun ls1 h1 => k (by simpa using hn) H locs ls1 hW hS (lx_st1 hp rfl h1))
theorem j_iinc0 (M : Mach l G own cc nL ret fr lo post Φ) {i : Nat} {n : Int} {x v : Int32} (d : decode cc pc = .ok (.iinc i n, 3)) (hL : L[i]? = some (some (.int x))) (hv : x + Int32.ofInt n = v) (hp : okPrev L i) (k : Φ (pc + 3) (L.set i (some (.int v))) st σ) : Φ pc L st σ := by
  obtain ⟨p, e, R, s, m, args, below, meth, c, cells, slots, Q, ⟨hx, hb, hml, hown, hts⟩, hWk, hRm, hRet, rfl⟩ := M
  intro hn H locs ls hW hS hl
  have hi : i < L.length := (List.getElem?_eq_some_iff.mp hL).1
  obtain ⟨j, hj⟩ := List.getElem?_of_mem ((enL_mem L 0 (i, .int x)).mpr ⟨i, by simp, hL⟩)
  exact lv_iinc hx hb d hl.has hj hv hi rfl (fun ls1 h1 => k (by simpa using hn) H locs ls1 hW hS (lx_st1 hp rfl h1))
theorem j_iadd (M : Mach l G own cc nL ret fr lo post Φ) {x y : Int32} (d : decode cc pc = .ok (.iadd, 1))  (k : Φ (pc + 1) L (.int (x + y) :: st) σ) : Φ pc L (.int y :: .int x :: st) σ := by
  obtain ⟨p, e, R, s, m, args, below, meth, c, cells, slots, Q, ⟨hx, hb, hml, hown, hts⟩, hWk, hRm, hRet, rfl⟩ := M
  intro hn H locs ls hW hS hl
  exact lv_iadd hx hb d  (k hn H locs ls hW hS hl)
theorem j_isub (M : Mach l G own cc nL ret fr lo post Φ) {x y : Int32} (d : decode cc pc = .ok (.isub, 1))  (k : Φ (pc + 1) L (.int (x - y) :: st) σ) : Φ pc L (.int y :: .int x :: st) σ := by
  obtain ⟨p, e, R, s, m, args, below, meth, c, cells, slots, Q, ⟨hx, hb, hml, hown, hts⟩, hWk, hRm, hRet, rfl⟩ := M
  intro hn H locs ls hW hS hl
  exact lv_isub hx hb d  (k hn H locs ls hW hS hl)
theorem j_imul (M : Mach l G own cc nL ret fr lo post Φ) {x y : Int32} (d : decode cc pc = .ok (.imul, 1))  (k : Φ (pc + 1) L (.int (x * y) :: st) σ) : Φ pc L (.int y :: .int x :: st) σ := by
  obtain ⟨p, e, R, s, m, args, below, meth, c, cells, slots, Q, ⟨hx, hb, hml, hown, hts⟩, hWk, hRm, hRet, rfl⟩ := M
  intro hn H locs ls hW hS hl
  exact lv_imul hx hb d  (k hn H locs ls hW hS hl)
theorem j_iand (M : Mach l G own cc nL ret fr lo post Φ) {x y : Int32} (d : decode cc pc = .ok (.iand, 1))  (k : Φ (pc + 1) L (.int (x &&& y) :: st) σ) : Φ pc L (.int y :: .int x :: st) σ := by
  obtain ⟨p, e, R, s, m, args, below, meth, c, cells, slots, Q, ⟨hx, hb, hml, hown, hts⟩, hWk, hRm, hRet, rfl⟩ := M
  intro hn H locs ls hW hS hl
  exact lv_iand hx hb d  (k hn H locs ls hW hS hl)
theorem j_ior (M : Mach l G own cc nL ret fr lo post Φ) {x y : Int32} (d : decode cc pc = .ok (.ior, 1))  (k : Φ (pc + 1) L (.int (x ||| y) :: st) σ) : Φ pc L (.int y :: .int x :: st) σ := by
  obtain ⟨p, e, R, s, m, args, below, meth, c, cells, slots, Q, ⟨hx, hb, hml, hown, hts⟩, hWk, hRm, hRet, rfl⟩ := M
  intro hn H locs ls hW hS hl
  exact lv_ior hx hb d  (k hn H locs ls hW hS hl)
theorem j_ixor (M : Mach l G own cc nL ret fr lo post Φ) {x y : Int32} (d : decode cc pc = .ok (.ixor, 1))  (k : Φ (pc + 1) L (.int (x ^^^ y) :: st) σ) : Φ pc L (.int y :: .int x :: st) σ := by
  obtain ⟨p, e, R, s, m, args, below, meth, c, cells, slots, Q, ⟨hx, hb, hml, hown, hts⟩, hWk, hRm, hRet, rfl⟩ := M
  intro hn H locs ls hW hS hl
  exact lv_ixor hx hb d  (k hn H locs ls hW hS hl)
def rem32 (x y : Int32) : Int32 := x - x / y * y
def rem64 (x y : Int64) : Int64 := x - x / y * y
def shl32 (x y : Int32) : Int32 := x <<< (y &&& 31)
def shr32 (x y : Int32) : Int32 := x >>> (y &&& 31)
theorem j_ishl (M : Mach l G own cc nL ret fr lo post Φ) {x y : Int32} (d : decode cc pc = .ok (.ishl, 1))  (k : Φ (pc + 1) L (.int (shl32 x y) :: st) σ) : Φ pc L (.int y :: .int x :: st) σ := by
  obtain ⟨p, e, R, s, m, args, below, meth, c, cells, slots, Q, ⟨hx, hb, hml, hown, hts⟩, hWk, hRm, hRet, rfl⟩ := M
  intro hn H locs ls hW hS hl
  exact lv_ishl hx hb d  (k hn H locs ls hW hS hl)
theorem j_ishr (M : Mach l G own cc nL ret fr lo post Φ) {x y : Int32} (d : decode cc pc = .ok (.ishr, 1))  (k : Φ (pc + 1) L (.int (shr32 x y) :: st) σ) : Φ pc L (.int y :: .int x :: st) σ := by
  obtain ⟨p, e, R, s, m, args, below, meth, c, cells, slots, Q, ⟨hx, hb, hml, hown, hts⟩, hWk, hRm, hRet, rfl⟩ := M
  intro hn H locs ls hW hS hl
  exact lv_ishr hx hb d  (k hn H locs ls hW hS hl)
theorem j_iushr (M : Mach l G own cc nL ret fr lo post Φ) {x y v : Int32} (d : decode cc pc = .ok (.iushr, 1)) (hv : (x.toUInt32 >>> (y.toUInt32 &&& Int32.toUInt32 31)).toInt32 = v) (k : Φ (pc + 1) L (.int v :: st) σ) : Φ pc L (.int y :: .int x :: st) σ := by
  obtain ⟨p, e, R, s, m, args, below, meth, c, cells, slots, Q, ⟨hx, hb, hml, hown, hts⟩, hWk, hRm, hRet, rfl⟩ := M
  intro hn H locs ls hW hS hl
  exact lv_iushr hx hb d hv (k hn H locs ls hW hS hl)
theorem j_idiv (M : Mach l G own cc nL ret fr lo post Φ) {x y : Int32} (d : decode cc pc = .ok (.idiv, 1)) (hy : ¬ y = 0) (k : Φ (pc + 1) L (.int (x / y) :: st) σ) : Φ pc L (.int y :: .int x :: st) σ := by
  obtain ⟨p, e, R, s, m, args, below, meth, c, cells, slots, Q, ⟨hx, hb, hml, hown, hts⟩, hWk, hRm, hRet, rfl⟩ := M
  intro hn H locs ls hW hS hl
  exact lv_idiv hx hb d hy (k hn H locs ls hW hS hl)
theorem j_irem (M : Mach l G own cc nL ret fr lo post Φ) {x y : Int32} (d : decode cc pc = .ok (.irem, 1)) (hy : ¬ y = 0) (k : Φ (pc + 1) L (.int (rem32 x y) :: st) σ) : Φ pc L (.int y :: .int x :: st) σ := by
  obtain ⟨p, e, R, s, m, args, below, meth, c, cells, slots, Q, ⟨hx, hb, hml, hown, hts⟩, hWk, hRm, hRet, rfl⟩ := M
  intro hn H locs ls hW hS hl
  exact lv_irem hx hb d hy (k hn H locs ls hW hS hl)
theorem j_ineg (M : Mach l G own cc nL ret fr lo post Φ) {x : Int32} (d : decode cc pc = .ok (.ineg, 1))  (k : Φ (pc + 1) L (.int (-x) :: st) σ) : Φ pc L (.int x :: st) σ := by
  obtain ⟨p, e, R, s, m, args, below, meth, c, cells, slots, Q, ⟨hx, hb, hml, hown, hts⟩, hWk, hRm, hRet, rfl⟩ := M
  intro hn H locs ls hW hS hl
  exact lv_ineg hx hb d  (k hn H locs ls hW hS hl)
theorem j_ladd (M : Mach l G own cc nL ret fr lo post Φ) {x y : Int64} (d : decode cc pc = .ok (.ladd, 1))  (k : Φ (pc + 1) L (.long (x + y) :: st) σ) : Φ pc L (.long y :: .long x :: st) σ := by
  obtain ⟨p, e, R, s, m, args, below, meth, c, cells, slots, Q, ⟨hx, hb, hml, hown, hts⟩, hWk, hRm, hRet, rfl⟩ := M
  intro hn H locs ls hW hS hl
  exact lv_ladd hx hb d  (k hn H locs ls hW hS hl)
theorem j_lsub (M : Mach l G own cc nL ret fr lo post Φ) {x y : Int64} (d : decode cc pc = .ok (.lsub, 1))  (k : Φ (pc + 1) L (.long (x - y) :: st) σ) : Φ pc L (.long y :: .long x :: st) σ := by
  obtain ⟨p, e, R, s, m, args, below, meth, c, cells, slots, Q, ⟨hx, hb, hml, hown, hts⟩, hWk, hRm, hRet, rfl⟩ := M
  intro hn H locs ls hW hS hl
  exact lv_lsub hx hb d  (k hn H locs ls hW hS hl)
theorem j_lmul (M : Mach l G own cc nL ret fr lo post Φ) {x y : Int64} (d : decode cc pc = .ok (.lmul, 1))  (k : Φ (pc + 1) L (.long (x * y) :: st) σ) : Φ pc L (.long y :: .long x :: st) σ := by
  obtain ⟨p, e, R, s, m, args, below, meth, c, cells, slots, Q, ⟨hx, hb, hml, hown, hts⟩, hWk, hRm, hRet, rfl⟩ := M
  intro hn H locs ls hW hS hl
  exact lv_lmul hx hb d  (k hn H locs ls hW hS hl)
theorem j_ldiv (M : Mach l G own cc nL ret fr lo post Φ) {x y : Int64} (d : decode cc pc = .ok (.ldiv, 1)) (hy : ¬ y = 0) (k : Φ (pc + 1) L (.long (x / y) :: st) σ) : Φ pc L (.long y :: .long x :: st) σ := by
  obtain ⟨p, e, R, s, m, args, below, meth, c, cells, slots, Q, ⟨hx, hb, hml, hown, hts⟩, hWk, hRm, hRet, rfl⟩ := M
  intro hn H locs ls hW hS hl
  exact lv_ldiv hx hb d hy (k hn H locs ls hW hS hl)
theorem j_lrem (M : Mach l G own cc nL ret fr lo post Φ) {x y : Int64} (d : decode cc pc = .ok (.lrem, 1)) (hy : ¬ y = 0) (k : Φ (pc + 1) L (.long (rem64 x y) :: st) σ) : Φ pc L (.long y :: .long x :: st) σ := by
  obtain ⟨p, e, R, s, m, args, below, meth, c, cells, slots, Q, ⟨hx, hb, hml, hown, hts⟩, hWk, hRm, hRet, rfl⟩ := M
  intro hn H locs ls hW hS hl
  exact lv_lrem hx hb d hy (k hn H locs ls hW hS hl)
theorem j_lcmp (M : Mach l G own cc nL ret fr lo post Φ) {x y : Int64} (d : decode cc pc = .ok (.lcmp, 1)) (k : Φ (pc + 1) L (.int (lg_cmp x y) :: st) σ) : Φ pc L (.long y :: .long x :: st) σ := by
  obtain ⟨p, e, R, s, m, args, below, meth, c, cells, slots, Q, ⟨hx, hb, hml, hown, hts⟩, hWk, hRm, hRet, rfl⟩ := M
  intro hn H locs ls hW hS hl
  exact W.lcmp hx hb d (k hn H locs ls hW hS hl)
theorem j_i2l (M : Mach l G own cc nL ret fr lo post Φ) {x : Int32} (d : decode cc pc = .ok (.i2l, 1))  (k : Φ (pc + 1) L (.long x.toInt64 :: st) σ) : Φ pc L (.int x :: st) σ := by
  obtain ⟨p, e, R, s, m, args, below, meth, c, cells, slots, Q, ⟨hx, hb, hml, hown, hts⟩, hWk, hRm, hRet, rfl⟩ := M
  intro hn H locs ls hW hS hl
  exact lv_i2l hx hb d rfl (k hn H locs ls hW hS hl)
theorem j_l2i (M : Mach l G own cc nL ret fr lo post Φ) {x : Int64} (d : decode cc pc = .ok (.l2i, 1))  (k : Φ (pc + 1) L (.int x.toInt32 :: st) σ) : Φ pc L (.long x :: st) σ := by
  obtain ⟨p, e, R, s, m, args, below, meth, c, cells, slots, Q, ⟨hx, hb, hml, hown, hts⟩, hWk, hRm, hRet, rfl⟩ := M
  intro hn H locs ls hW hS hl
  exact lv_l2i hx hb d rfl (k hn H locs ls hW hS hl)
theorem j_i2b (M : Mach l G own cc nL ret fr lo post Φ) {x : Int32} (d : decode cc pc = .ok (.i2b, 1))  (k : Φ (pc + 1) L (.int x.toInt8.toInt32 :: st) σ) : Φ pc L (.int x :: st) σ := by
  obtain ⟨p, e, R, s, m, args, below, meth, c, cells, slots, Q, ⟨hx, hb, hml, hown, hts⟩, hWk, hRm, hRet, rfl⟩ := M
  intro hn H locs ls hW hS hl
  exact lv_i2b hx hb d rfl (k hn H locs ls hW hS hl)
theorem j_i2s (M : Mach l G own cc nL ret fr lo post Φ) {x : Int32} (d : decode cc pc = .ok (.i2s, 1))  (k : Φ (pc + 1) L (.int x.toInt16.toInt32 :: st) σ) : Φ pc L (.int x :: st) σ := by
  obtain ⟨p, e, R, s, m, args, below, meth, c, cells, slots, Q, ⟨hx, hb, hml, hown, hts⟩, hWk, hRm, hRet, rfl⟩ := M
  intro hn H locs ls hW hS hl
  exact lv_i2s hx hb d rfl (k hn H locs ls hW hS hl)
theorem j_dup (M : Mach l G own cc nL ret fr lo post Φ) {v : Value} (d : decode cc pc = .ok (.dup, 1)) (hv : v.category = 1) (k : Φ (pc + 1) L (v :: v :: st) σ) : Φ pc L (v :: st) σ := by
  obtain ⟨p, e, R, s, m, args, below, meth, c, cells, slots, Q, ⟨hx, hb, hml, hown, hts⟩, hWk, hRm, hRet, rfl⟩ := M
  intro hn H locs ls hW hS hl
  exact lv_dup hx hb d hv (k hn H locs ls hW hS hl)
theorem j_pop (M : Mach l G own cc nL ret fr lo post Φ) {v : Value} (d : decode cc pc = .ok (.pop, 1)) (hv : v.category = 1) (k : Φ (pc + 1) L st σ) : Φ pc L (v :: st) σ := by
  obtain ⟨p, e, R, s, m, args, below, meth, c, cells, slots, Q, ⟨hx, hb, hml, hown, hts⟩, hWk, hRm, hRet, rfl⟩ := M
  intro hn H locs ls hW hS hl
  exact lv_pop hx hb d hv (k hn H locs ls hW hS hl)
theorem j_dup2 (M : Mach l G own cc nL ret fr lo post Φ) {v w : Value} (d : decode cc pc = .ok (.dup2, 1)) (hv : v.category = 1) (hw : w.category = 1) (k : Φ (pc + 1) L (v :: w :: v :: w :: st) σ) : Φ pc L (v :: w :: st) σ := by
  obtain ⟨p, e, R, s, m, args, below, meth, c, cells, slots, Q, ⟨hx, hb, hml, hown, hts⟩, hWk, hRm, hRet, rfl⟩ := M
  intro hn H locs ls hW hS hl
  exact lv_dup2_11 hx hb d hv hw (k hn H locs ls hW hS hl)
theorem j_null (M : Mach l G own cc nL ret fr lo post Φ) (d : decode cc pc = .ok (.aconst_null, 1)) (k : Φ (pc + 1) L (.null :: st) σ) : Φ pc L st σ := by
  obtain ⟨p, e, R, s, m, args, below, meth, c, cells, slots, Q, ⟨hx, hb, hml, hown, hts⟩, hWk, hRm, hRet, rfl⟩ := M
  intro hn H locs ls hW hS hl
  exact lv_null hx hb d (k hn H locs ls hW hS hl)
theorem j_if_eq (M : Mach l G own cc nL ret fr lo post Φ) {x : Int32} {off : Int} {tgt : Nat} (d : decode cc pc = .ok (.ifCond .eq off, 3)) (ht : (pc : Int) + off = (tgt : Int)) (kt : x = 0 → Φ tgt L st σ) (kf : ¬ x = 0 → Φ (pc + 3) L st σ) : Φ pc L (.int x :: st) σ := by
  obtain ⟨p, e, R, s, m, args, below, meth, c, cells, slots, Q, ⟨hx, hb, hml, hown, hts⟩, hWk, hRm, hRet, rfl⟩ := M
  intro hn H locs ls hW hS hl
  exact lv_if_eq hx hb d ht (fun h => kt h hn H locs ls hW hS hl) (fun h => kf h hn H locs ls hW hS hl)
theorem j_icmp_eq (M : Mach l G own cc nL ret fr lo post Φ) {x y : Int32} {off : Int} {tgt : Nat} (d : decode cc pc = .ok (.if_icmp .eq off, 3)) (ht : (pc : Int) + off = (tgt : Int)) (kt : x = y → Φ tgt L st σ) (kf : ¬ x = y → Φ (pc + 3) L st σ) : Φ pc L (.int y :: .int x :: st) σ := by
  obtain ⟨p, e, R, s, m, args, below, meth, c, cells, slots, Q, ⟨hx, hb, hml, hown, hts⟩, hWk, hRm, hRet, rfl⟩ := M
  intro hn H locs ls hW hS hl
  exact lv_icmp_eq hx hb d ht (fun h => kt h hn H locs ls hW hS hl) (fun h => kf h hn H locs ls hW hS hl)
theorem j_if_ne (M : Mach l G own cc nL ret fr lo post Φ) {x : Int32} {off : Int} {tgt : Nat} (d : decode cc pc = .ok (.ifCond .ne off, 3)) (ht : (pc : Int) + off = (tgt : Int)) (kt : ¬ x = 0 → Φ tgt L st σ) (kf : x = 0 → Φ (pc + 3) L st σ) : Φ pc L (.int x :: st) σ := by
  obtain ⟨p, e, R, s, m, args, below, meth, c, cells, slots, Q, ⟨hx, hb, hml, hown, hts⟩, hWk, hRm, hRet, rfl⟩ := M
  intro hn H locs ls hW hS hl
  exact lv_if_ne hx hb d ht (fun h => kt h hn H locs ls hW hS hl) (fun h => kf h hn H locs ls hW hS hl)
theorem j_icmp_ne (M : Mach l G own cc nL ret fr lo post Φ) {x y : Int32} {off : Int} {tgt : Nat} (d : decode cc pc = .ok (.if_icmp .ne off, 3)) (ht : (pc : Int) + off = (tgt : Int)) (kt : ¬ x = y → Φ tgt L st σ) (kf : x = y → Φ (pc + 3) L st σ) : Φ pc L (.int y :: .int x :: st) σ := by
  obtain ⟨p, e, R, s, m, args, below, meth, c, cells, slots, Q, ⟨hx, hb, hml, hown, hts⟩, hWk, hRm, hRet, rfl⟩ := M
  intro hn H locs ls hW hS hl
  exact lv_icmp_ne hx hb d ht (fun h => kt h hn H locs ls hW hS hl) (fun h => kf h hn H locs ls hW hS hl)
theorem j_if_lt (M : Mach l G own cc nL ret fr lo post Φ) {x : Int32} {off : Int} {tgt : Nat} (d : decode cc pc = .ok (.ifCond .lt off, 3)) (ht : (pc : Int) + off = (tgt : Int)) (kt : x < 0 → Φ tgt L st σ) (kf : ¬ x < 0 → Φ (pc + 3) L st σ) : Φ pc L (.int x :: st) σ := by
  obtain ⟨p, e, R, s, m, args, below, meth, c, cells, slots, Q, ⟨hx, hb, hml, hown, hts⟩, hWk, hRm, hRet, rfl⟩ := M
  intro hn H locs ls hW hS hl
  exact lv_if_lt hx hb d ht (fun h => kt h hn H locs ls hW hS hl) (fun h => kf h hn H locs ls hW hS hl)
theorem j_icmp_lt (M : Mach l G own cc nL ret fr lo post Φ) {x y : Int32} {off : Int} {tgt : Nat} (d : decode cc pc = .ok (.if_icmp .lt off, 3)) (ht : (pc : Int) + off = (tgt : Int)) (kt : x < y → Φ tgt L st σ) (kf : ¬ x < y → Φ (pc + 3) L st σ) : Φ pc L (.int y :: .int x :: st) σ := by
  obtain ⟨p, e, R, s, m, args, below, meth, c, cells, slots, Q, ⟨hx, hb, hml, hown, hts⟩, hWk, hRm, hRet, rfl⟩ := M
  intro hn H locs ls hW hS hl
  exact lv_icmp_lt hx hb d ht (fun h => kt h hn H locs ls hW hS hl) (fun h => kf h hn H locs ls hW hS hl)
theorem j_if_ge (M : Mach l G own cc nL ret fr lo post Φ) {x : Int32} {off : Int} {tgt : Nat} (d : decode cc pc = .ok (.ifCond .ge off, 3)) (ht : (pc : Int) + off = (tgt : Int)) (kt : ¬ x < 0 → Φ tgt L st σ) (kf : x < 0 → Φ (pc + 3) L st σ) : Φ pc L (.int x :: st) σ := by
  obtain ⟨p, e, R, s, m, args, below, meth, c, cells, slots, Q, ⟨hx, hb, hml, hown, hts⟩, hWk, hRm, hRet, rfl⟩ := M
  intro hn H locs ls hW hS hl
  exact lv_if_ge hx hb d ht (fun h => kt (Int32.not_lt.mpr h) hn H locs ls hW hS hl) (fun h => kf (Int32.not_le.mp h) hn H locs ls hW hS hl)
theorem j_icmp_ge (M : Mach l G own cc nL ret fr lo post Φ) {x y : Int32} {off : Int} {tgt : Nat} (d : decode cc pc = .ok (.if_icmp .ge off, 3)) (ht : (pc : Int) + off = (tgt : Int)) (kt : ¬ x < y → Φ tgt L st σ) (kf : x < y → Φ (pc + 3) L st σ) : Φ pc L (.int y :: .int x :: st) σ := by
  obtain ⟨p, e, R, s, m, args, below, meth, c, cells, slots, Q, ⟨hx, hb, hml, hown, hts⟩, hWk, hRm, hRet, rfl⟩ := M
  intro hn H locs ls hW hS hl
  exact lv_icmp_ge hx hb d ht (fun h => kt (Int32.not_lt.mpr h) hn H locs ls hW hS hl) (fun h => kf (Int32.not_le.mp h) hn H locs ls hW hS hl)
theorem j_if_gt (M : Mach l G own cc nL ret fr lo post Φ) {x : Int32} {off : Int} {tgt : Nat} (d : decode cc pc = .ok (.ifCond .gt off, 3)) (ht : (pc : Int) + off = (tgt : Int)) (kt : 0 < x → Φ tgt L st σ) (kf : ¬ 0 < x → Φ (pc + 3) L st σ) : Φ pc L (.int x :: st) σ := by
  obtain ⟨p, e, R, s, m, args, below, meth, c, cells, slots, Q, ⟨hx, hb, hml, hown, hts⟩, hWk, hRm, hRet, rfl⟩ := M
  intro hn H locs ls hW hS hl
  exact lv_if_gt hx hb d ht (fun h => kt h hn H locs ls hW hS hl) (fun h => kf h hn H locs ls hW hS hl)
theorem j_icmp_gt (M : Mach l G own cc nL ret fr lo post Φ) {x y : Int32} {off : Int} {tgt : Nat} (d : decode cc pc = .ok (.if_icmp .gt off, 3)) (ht : (pc : Int) + off = (tgt : Int)) (kt : y < x → Φ tgt L st σ) (kf : ¬ y < x → Φ (pc + 3) L st σ) : Φ pc L (.int y :: .int x :: st) σ := by
  obtain ⟨p, e, R, s, m, args, below, meth, c, cells, slots, Q, ⟨hx, hb, hml, hown, hts⟩, hWk, hRm, hRet, rfl⟩ := M
  intro hn H locs ls hW hS hl
  exact lv_icmp_gt hx hb d ht (fun h => kt h hn H locs ls hW hS hl) (fun h => kf h hn H locs ls hW hS hl)
theorem j_if_le (M : Mach l G own cc nL ret fr lo post Φ) {x : Int32} {off : Int} {tgt : Nat} (d : decode cc pc = .ok (.ifCond .le off, 3)) (ht : (pc : Int) + off = (tgt : Int)) (kt : ¬ 0 < x → Φ tgt L st σ) (kf : 0 < x → Φ (pc + 3) L st σ) : Φ pc L (.int x :: st) σ := by
  obtain ⟨p, e, R, s, m, args, below, meth, c, cells, slots, Q, ⟨hx, hb, hml, hown, hts⟩, hWk, hRm, hRet, rfl⟩ := M
  intro hn H locs ls hW hS hl
  exact lv_if_le hx hb d ht (fun h => kt (Int32.not_lt.mpr h) hn H locs ls hW hS hl) (fun h => kf (Int32.not_le.mp h) hn H locs ls hW hS hl)
theorem j_icmp_le (M : Mach l G own cc nL ret fr lo post Φ) {x y : Int32} {off : Int} {tgt : Nat} (d : decode cc pc = .ok (.if_icmp .le off, 3)) (ht : (pc : Int) + off = (tgt : Int)) (kt : ¬ y < x → Φ tgt L st σ) (kf : y < x → Φ (pc + 3) L st σ) : Φ pc L (.int y :: .int x :: st) σ := by
  obtain ⟨p, e, R, s, m, args, below, meth, c, cells, slots, Q, ⟨hx, hb, hml, hown, hts⟩, hWk, hRm, hRet, rfl⟩ := M
  intro hn H locs ls hW hS hl
  exact lv_icmp_le hx hb d ht (fun h => kt (Int32.not_lt.mpr h) hn H locs ls hW hS hl) (fun h => kf (Int32.not_le.mp h) hn H locs ls hW hS hl)
theorem j_goto (M : Mach l G own cc nL ret fr lo post Φ) {off : Int} {tgt : Nat} (d : decode cc pc = .ok (.goto off, 3)) (ht : (pc : Int) + off = (tgt : Int)) (k : Φ tgt L st σ) : Φ pc L st σ := by
  obtain ⟨p, e, R, s, m, args, below, meth, c, cells, slots, Q, ⟨hx, hb, hml, hown, hts⟩, hWk, hRm, hRet, rfl⟩ := M
  intro hn H locs ls hW hS hl
  exact lv_goto hx hb d ht (k hn H locs ls hW hS hl)
theorem j_ifnonnull (M : Mach l G own cc nL ret fr lo post Φ) {x : Nat} {off : Int} {tgt : Nat} (d : decode cc pc = .ok (.ifnonnull off, 3)) (ht : (pc : Int) + off = (tgt : Int)) (k : Φ tgt L st σ) : Φ pc L (.ref x :: st) σ := by
  obtain ⟨p, e, R, s, m, args, below, meth, c, cells, slots, Q, ⟨hx, hb, hml, hown, hts⟩, hWk, hRm, hRet, rfl⟩ := M
  intro hn H locs ls hW hS hl
  exact lv_ifnonnull hx hb d ht (k hn H locs ls hW hS hl)
theorem j_ifnull (M : Mach l G own cc nL ret fr lo post Φ) {x : Nat} {off : Int} (d : decode cc pc = .ok (.ifnull off, 3)) (k : Φ (pc + 3) L st σ) : Φ pc L (.ref x :: st) σ := by
  obtain ⟨p, e, R, s, m, args, below, meth, c, cells, slots, Q, ⟨hx, hb, hml, hown, hts⟩, hWk, hRm, hRet, rfl⟩ := M
  intro hn H locs ls hW hS hl
  exact lv_ifnull hx hb d (k hn H locs ls hW hS hl)
theorem j_ifnonnullN (M : Mach l G own cc nL ret fr lo post Φ) {off : Int} (d : decode cc pc = .ok (.ifnonnull off, 3)) (k : Φ (pc + 3) L st σ) : Φ pc L (.null :: st) σ := by
  obtain ⟨p, e, R, s, m, args, below, meth, c, cells, slots, Q, ⟨hx, hb, hml, hown, hts⟩, hWk, hRm, hRet, rfl⟩ := M
  intro hn H locs ls hW hS hl
  exact lv_ifnonnullN hx hb d (k hn H locs ls hW hS hl)
theorem j_ifnullN (M : Mach l G own cc nL ret fr lo post Φ) {off : Int} {tgt : Nat} (d : decode cc pc = .ok (.ifnull off, 3)) (ht : (pc : Int) + off = (tgt : Int)) (k : Φ tgt L st σ) : Φ pc L (.null :: st) σ := by
  obtain ⟨p, e, R, s, m, args, below, meth, c, cells, slots, Q, ⟨hx, hb, hml, hown, hts⟩, hWk, hRm, hRet, rfl⟩ := M
  intro hn H locs ls hW hS hl
  exact lv_ifnullN hx hb d ht (k hn H locs ls hW hS hl)
theorem j_tabOut (M : Mach l G own cc nL ret fr lo post Φ) {dflt lo hi : Int} {offs : Array Int} {len : Nat} {x : Int32} {tgt : Nat} (d : decode cc pc = .ok (.tableswitch dflt lo hi offs, len)) (h : x.toInt < lo ∨ hi < x.toInt) (ht : (pc : Int) + dflt = (tgt : Int)) (k : Φ tgt L st σ) : Φ pc L (.int x :: st) σ := by
  obtain ⟨p, e, R, s, m, args, below, meth, c, cells, slots, Q, ⟨hx, hb, hml, hown, hts⟩, hWk, hRm, hRet, rfl⟩ := M
  intro hn H locs ls hW hS hl
  exact lv_tableOut hx hb d h ht (k hn H locs ls hW hS hl)
theorem j_tabIn (M : Mach l G own cc nL ret fr lo post Φ) {dflt lo hi : Int} {offs : Array Int} {len : Nat} {x : Int32} {off : Int} {tgt : Nat} (d : decode cc pc = .ok (.tableswitch dflt lo hi offs, len)) (h1 : ¬ x.toInt < lo) (h2 : ¬ hi < x.toInt) (ho : offs[(x.toInt - lo).toNat]? = some off) (ht : (pc : Int) + off = (tgt : Int)) (k : Φ tgt L st σ) : Φ pc L (.int x :: st) σ := by
  obtain ⟨p, e, R, s, m, args, below, meth, c, cells, slots, Q, ⟨hx, hb, hml, hown, hts⟩, hWk, hRm, hRet, rfl⟩ := M
  intro hn H locs ls hW hS hl
  exact lv_tableIn hx hb d h1 h2 ho ht (k hn H locs ls hW hS hl)
theorem j_lookup (M : Mach l G own cc nL ret fr lo post Φ) {dflt : Int} {ps : Array (Int × Int)} {len : Nat} {x : Int32} {off : Int} {tgt : Nat} (d : decode cc pc = .ok (.lookupswitch dflt ps, len)) (hp : (ps.toList.zip (ps.toList.drop 1)).all (fun (a, next) => a.1 < next.1) = true) (ho : Op.lookupswitch.offset ps.toList dflt x.toInt = off) (ht : (pc : Int) + off = (tgt : Int)) (k : Φ tgt L st σ) : Φ pc L (.int x :: st) σ := by
  obtain ⟨p, e, R, s, m, args, below, meth, c, cells, slots, Q, ⟨hx, hb, hml, hown, hts⟩, hWk, hRm, hRet, rfl⟩ := M
  intro hn H locs ls hW hS hl
  exact lv_lookup hx hb d hp ho ht (k hn H locs ls hW hS hl)
theorem j_iret (M : Mach l G own cc nL (some .int) fr lo post Φ) {x : Int32} (d : decode cc pc = .ok (.ireturn, 1))  (h : post (some (.int x)) σ) : Φ pc L ([.int x]) σ := by
  obtain ⟨p, e, R, s, m, args, below, meth, c, cells, slots, Q, ⟨hx, hb, hml, hown, hts⟩, hWk, hRm, hRet, rfl⟩ := M
  intro hn H locs ls hW hS hl
  exact hRet pc (some (.int x)) σ (Or.inl ⟨rfl, d, x, rfl⟩) h H locs ls hW hS
theorem j_zret (M : Mach l G own cc nL (some .boolean) fr lo post Φ) {x : Int32} (d : decode cc pc = .ok (.ireturn, 1)) (hz : x = 0 ∨ x = 1) (h : post (some (.int x)) σ) : Φ pc L ([.int x]) σ := by
  obtain ⟨p, e, R, s, m, args, below, meth, c, cells, slots, Q, ⟨hx, hb, hml, hown, hts⟩, hWk, hRm, hRet, rfl⟩ := M
  intro hn H locs ls hW hS hl
  exact hRet pc (some (.int x)) σ (Or.inr (Or.inl ⟨rfl, d, by rcases hz with rfl | rfl <;> simp⟩)) h H locs ls hW hS
theorem j_vret (M : Mach l G own cc nL none fr lo post Φ)  (d : decode cc pc = .ok (.return_, 1))  (h : post (none) σ) : Φ pc L ([]) σ := by
  obtain ⟨p, e, R, s, m, args, below, meth, c, cells, slots, Q, ⟨hx, hb, hml, hown, hts⟩, hWk, hRm, hRet, rfl⟩ := M
  intro hn H locs ls hW hS hl
  exact hRet pc (none) σ (Or.inr (Or.inr (Or.inl ⟨rfl, d, rfl⟩))) h H locs ls hW hS
theorem j_lret (M : Mach l G own cc nL (some .long) fr lo post Φ) {x : Int64} (d : decode cc pc = .ok (.lreturn, 1))  (h : post (some (.long x)) σ) : Φ pc L ([.long x]) σ := by
  obtain ⟨p, e, R, s, m, args, below, meth, c, cells, slots, Q, ⟨hx, hb, hml, hown, hts⟩, hWk, hRm, hRet, rfl⟩ := M
  intro hn H locs ls hW hS hl
  exact hRet pc (some (.long x)) σ (Or.inr (Or.inr (Or.inr (Or.inl ⟨rfl, d, x, rfl⟩)))) h H locs ls hW hS
theorem j_aret (M : Mach l G own cc nL (some (.object RX3)) fr lo post Φ) {x : Nat} (d : decode cc pc = .ok (.areturn, 1))  (h : post (some (.ref x)) σ) : Φ pc L ([.ref x]) σ := by
  obtain ⟨p, e, R, s, m, args, below, meth, c, cells, slots, Q, ⟨hx, hb, hml, hown, hts⟩, hWk, hRm, hRet, rfl⟩ := M
  intro hn H locs ls hW hS hl
  exact hRet pc (some (.ref x)) σ (Or.inr (Or.inr (Or.inr (Or.inr ⟨rfl, d, Or.inr ⟨x, rfl⟩⟩)))) h H locs ls hW hS
theorem j_aretN (M : Mach l G own cc nL (some (.object RX3)) fr lo post Φ)  (d : decode cc pc = .ok (.areturn, 1))  (h : post (some .null) σ) : Φ pc L ([.null]) σ := by
  obtain ⟨p, e, R, s, m, args, below, meth, c, cells, slots, Q, ⟨hx, hb, hml, hown, hts⟩, hWk, hRm, hRet, rfl⟩ := M
  intro hn H locs ls hW hS hl
  exact hRet pc (some .null) σ (Or.inr (Or.inr (Or.inr (Or.inr ⟨rfl, d, Or.inl rfl⟩)))) h H locs ls hW hS
def lsub : List (Option Value) → List (Option Value) → Prop
  | [], [] => True
  | none :: a, _ :: b => lsub a b
  | some v :: a, w :: b => w = some v ∧ lsub a b
  | _, _ => False
theorem lsub_len : ∀ {a b : List (Option Value)}, lsub a b → a.length = b.length
  | [], [], _ => rfl
  | none :: a, _ :: b, h => congrArg (· + 1) (lsub_len (a := a) (b := b) h)
  | some v :: a, w :: b, h => congrArg (· + 1) (lsub_len (a := a) (b := b) h.2)
  | [], _ :: _, h => h.elim
  | none :: _, [], h => h.elim
  | some _ :: _, [], h => h.elim
theorem lsub_at : ∀ {a b : List (Option Value)}, lsub a b → ∀ (i : Nat) (v : Value), a[i]? = some (some v) → b[i]? = some (some v)
  | [], [], _, i, v, h => by simp at h
  | none :: a, _ :: b, h, 0, v, hi => by simp at hi
  | none :: a, _ :: b, h, i + 1, v, hi => by simpa using lsub_at (a := a) (b := b) h i v (by simpa using hi)
  | some u :: a, w :: b, h, 0, v, hi => by simpa [h.1] using hi
  | some u :: a, w :: b, h, i + 1, v, hi => by simpa using lsub_at (a := a) (b := b) h.2 i v (by simpa using hi)
  | [], _ :: _, h, _, _, _ => h.elim
  | none :: _, [], h, _, _, _ => h.elim
  | some _ :: _, [], h, _, _, _ => h.elim
theorem j_forget (M : Mach l G own cc nL ret fr lo post Φ) {L' : List (Option Value)} (h : lsub L' L) (k : Φ pc L' st σ) : Φ pc L st σ := by
  obtain ⟨p, e, R, s, m, args, below, meth, c, cells, slots, Q, ⟨hx, hb, hml, hown, hts⟩, hWk, hRm, hRet, rfl⟩ := M
  intro hn H locs ls hW hS hl
  exact k ((lsub_len h).trans hn) H locs ls hW hS (hl.sub (lsub_len h) (lsub_at h))
end Rows
section Rows2
variable {l : Launch} {G : Gw} {own : String} {cc : ByteArray} {nL fr lo : Nat} {ret : Option FieldType} {post : Option Value → Sg → Prop} {Φ : Ph} {pc : Nat} {rest : List (Option Value)} {st : List Value} {σ : Sg}
theorem j_istore_0 (M : Mach l G own cc nL ret fr lo post Φ) {x0 : Option Value} {x : Int32} (d : decode cc pc = .ok (.istore_n 0, 1))  (k : Φ (pc + 1) (some (.int x) :: rest) st σ) : Φ pc (x0 :: rest) (.int x :: st) σ := j_istore_n0 M d (by show 0 < _; simp only [List.length_cons]; omega) trivial k
theorem j_astore_0 (M : Mach l G own cc nL ret fr lo post Φ) {x0 : Option Value} {x : Nat} (d : decode cc pc = .ok (.astore_n 0, 1))  (k : Φ (pc + 1) (some (.ref x) :: rest) st σ) : Φ pc (x0 :: rest) (.ref x :: st) σ := j_astore_n0 M d (by show 0 < _; simp only [List.length_cons]; omega) trivial k
theorem j_iinc_0 (M : Mach l G own cc nL ret fr lo post Φ) {n : Int} {x v : Int32} (d : decode cc pc = .ok (.iinc 0 n, 3)) (hv : x + Int32.ofInt n = v) (k : Φ (pc + 3) (some (.int v) :: rest) st σ) : Φ pc (some (.int x) :: rest) st σ := j_iinc0 M d (by simp) hv trivial k
theorem j_lstore_0 (M : Mach l G own cc nL ret fr lo post Φ) {x0 x1 : Option Value} {x : Int64} (d : decode cc pc = .ok (.lstore_n 0, 1))  (k : Φ (pc + 1) (some (.long x) :: none :: rest) st σ) : Φ pc (x0 :: x1 :: rest) (.long x :: st) σ := j_lstore_n0 M d (by show 0 + 1 < _; simp only [List.length_cons]; omega) trivial k
theorem j_istore_1 (M : Mach l G own cc nL ret fr lo post Φ) {x0 x1 : Option Value} {x : Int32} (d : decode cc pc = .ok (.istore_n 1, 1)) (hp : noLong x0) (k : Φ (pc + 1) (x0 :: some (.int x) :: rest) st σ) : Φ pc (x0 :: x1 :: rest) (.int x :: st) σ := j_istore_n0 M d (by show 1 < _; simp only [List.length_cons]; omega) (fun o ho => by simp at ho; subst ho; exact hp) k
theorem j_astore_1 (M : Mach l G own cc nL ret fr lo post Φ) {x0 x1 : Option Value} {x : Nat} (d : decode cc pc = .ok (.astore_n 1, 1)) (hp : noLong x0) (k : Φ (pc + 1) (x0 :: some (.ref x) :: rest) st σ) : Φ pc (x0 :: x1 :: rest) (.ref x :: st) σ := j_astore_n0 M d (by show 1 < _; simp only [List.length_cons]; omega) (fun o ho => by simp at ho; subst ho; exact hp) k
theorem j_iinc_1 (M : Mach l G own cc nL ret fr lo post Φ) {x0 : Option Value} {n : Int} {x v : Int32} (d : decode cc pc = .ok (.iinc 1 n, 3)) (hv : x + Int32.ofInt n = v) (hp : noLong x0) (k : Φ (pc + 3) (x0 :: some (.int v) :: rest) st σ) : Φ pc (x0 :: some (.int x) :: rest) st σ := j_iinc0 M d (by simp) hv (fun o ho => by simp at ho; subst ho; exact hp) k
theorem j_lstore_1 (M : Mach l G own cc nL ret fr lo post Φ) {x0 x1 x2 : Option Value} {x : Int64} (d : decode cc pc = .ok (.lstore_n 1, 1)) (hp : noLong x0) (k : Φ (pc + 1) (x0 :: some (.long x) :: none :: rest) st σ) : Φ pc (x0 :: x1 :: x2 :: rest) (.long x :: st) σ := j_lstore_n0 M d (by show 1 + 1 < _; simp only [List.length_cons]; omega) (fun o ho => by simp at ho; subst ho; exact hp) k
theorem j_istore_2 (M : Mach l G own cc nL ret fr lo post Φ) {x0 x1 x2 : Option Value} {x : Int32} (d : decode cc pc = .ok (.istore_n 2, 1)) (hp : noLong x1) (k : Φ (pc + 1) (x0 :: x1 :: some (.int x) :: rest) st σ) : Φ pc (x0 :: x1 :: x2 :: rest) (.int x :: st) σ := j_istore_n0 M d (by show 2 < _; simp only [List.length_cons]; omega) (fun o ho => by simp at ho; subst ho; exact hp) k
theorem j_astore_2 (M : Mach l G own cc nL ret fr lo post Φ) {x0 x1 x2 : Option Value} {x : Nat} (d : decode cc pc = .ok (.astore_n 2, 1)) (hp : noLong x1) (k : Φ (pc + 1) (x0 :: x1 :: some (.ref x) :: rest) st σ) : Φ pc (x0 :: x1 :: x2 :: rest) (.ref x :: st) σ := j_astore_n0 M d (by show 2 < _; simp only [List.length_cons]; omega) (fun o ho => by simp at ho; subst ho; exact hp) k
theorem j_iinc_2 (M : Mach l G own cc nL ret fr lo post Φ) {x0 x1 : Option Value} {n : Int} {x v : Int32} (d : decode cc pc = .ok (.iinc 2 n, 3)) (hv : x + Int32.ofInt n = v) (hp : noLong x1) (k : Φ (pc + 3) (x0 :: x1 :: some (.int v) :: rest) st σ) : Φ pc (x0 :: x1 :: some (.int x) :: rest) st σ := j_iinc0 M d (by simp) hv (fun o ho => by simp at ho; subst ho; exact hp) k
theorem j_lstore_2 (M : Mach l G own cc nL ret fr lo post Φ) {x0 x1 x2 x3 : Option Value} {x : Int64} (d : decode cc pc = .ok (.lstore_n 2, 1)) (hp : noLong x1) (k : Φ (pc + 1) (x0 :: x1 :: some (.long x) :: none :: rest) st σ) : Φ pc (x0 :: x1 :: x2 :: x3 :: rest) (.long x :: st) σ := j_lstore_n0 M d (by show 2 + 1 < _; simp only [List.length_cons]; omega) (fun o ho => by simp at ho; subst ho; exact hp) k
theorem j_istore_3 (M : Mach l G own cc nL ret fr lo post Φ) {x0 x1 x2 x3 : Option Value} {x : Int32} (d : decode cc pc = .ok (.istore_n 3, 1)) (hp : noLong x2) (k : Φ (pc + 1) (x0 :: x1 :: x2 :: some (.int x) :: rest) st σ) : Φ pc (x0 :: x1 :: x2 :: x3 :: rest) (.int x :: st) σ := j_istore_n0 M d (by show 3 < _; simp only [List.length_cons]; omega) (fun o ho => by simp at ho; subst ho; exact hp) k
theorem j_astore_3 (M : Mach l G own cc nL ret fr lo post Φ) {x0 x1 x2 x3 : Option Value} {x : Nat} (d : decode cc pc = .ok (.astore_n 3, 1)) (hp : noLong x2) (k : Φ (pc + 1) (x0 :: x1 :: x2 :: some (.ref x) :: rest) st σ) : Φ pc (x0 :: x1 :: x2 :: x3 :: rest) (.ref x :: st) σ := j_astore_n0 M d (by show 3 < _; simp only [List.length_cons]; omega) (fun o ho => by simp at ho; subst ho; exact hp) k
theorem j_iinc_3 (M : Mach l G own cc nL ret fr lo post Φ) {x0 x1 x2 : Option Value} {n : Int} {x v : Int32} (d : decode cc pc = .ok (.iinc 3 n, 3)) (hv : x + Int32.ofInt n = v) (hp : noLong x2) (k : Φ (pc + 3) (x0 :: x1 :: x2 :: some (.int v) :: rest) st σ) : Φ pc (x0 :: x1 :: x2 :: some (.int x) :: rest) st σ := j_iinc0 M d (by simp) hv (fun o ho => by simp at ho; subst ho; exact hp) k
theorem j_lstore_3 (M : Mach l G own cc nL ret fr lo post Φ) {x0 x1 x2 x3 x4 : Option Value} {x : Int64} (d : decode cc pc = .ok (.lstore_n 3, 1)) (hp : noLong x2) (k : Φ (pc + 1) (x0 :: x1 :: x2 :: some (.long x) :: none :: rest) st σ) : Φ pc (x0 :: x1 :: x2 :: x3 :: x4 :: rest) (.long x :: st) σ := j_lstore_n0 M d (by show 3 + 1 < _; simp only [List.length_cons]; omega) (fun o ho => by simp at ho; subst ho; exact hp) k
theorem j_istore_4 (M : Mach l G own cc nL ret fr lo post Φ) {x0 x1 x2 x3 x4 : Option Value} {x : Int32} (d : decode cc pc = .ok (.istore 4, 2)) (hp : noLong x3) (k : Φ (pc + 2) (x0 :: x1 :: x2 :: x3 :: some (.int x) :: rest) st σ) : Φ pc (x0 :: x1 :: x2 :: x3 :: x4 :: rest) (.int x :: st) σ := j_istore0 M d (by simp) (fun o ho => by simp at ho; subst ho; exact hp) k
theorem j_astore_4 (M : Mach l G own cc nL ret fr lo post Φ) {x0 x1 x2 x3 x4 : Option Value} {x : Nat} (d : decode cc pc = .ok (.astore 4, 2)) (hp : noLong x3) (k : Φ (pc + 2) (x0 :: x1 :: x2 :: x3 :: some (.ref x) :: rest) st σ) : Φ pc (x0 :: x1 :: x2 :: x3 :: x4 :: rest) (.ref x :: st) σ := j_astore0 M d (by simp) (fun o ho => by simp at ho; subst ho; exact hp) k
theorem j_iinc_4 (M : Mach l G own cc nL ret fr lo post Φ) {x0 x1 x2 x3 : Option Value} {n : Int} {x v : Int32} (d : decode cc pc = .ok (.iinc 4 n, 3)) (hv : x + Int32.ofInt n = v) (hp : noLong x3) (k : Φ (pc + 3) (x0 :: x1 :: x2 :: x3 :: some (.int v) :: rest) st σ) : Φ pc (x0 :: x1 :: x2 :: x3 :: some (.int x) :: rest) st σ := j_iinc0 M d (by simp) hv (fun o ho => by simp at ho; subst ho; exact hp) k
theorem j_lstore_4 (M : Mach l G own cc nL ret fr lo post Φ) {x0 x1 x2 x3 x4 x5 : Option Value} {x : Int64} (d : decode cc pc = .ok (.lstore 4, 2)) (hp : noLong x3) (k : Φ (pc + 2) (x0 :: x1 :: x2 :: x3 :: some (.long x) :: none :: rest) st σ) : Φ pc (x0 :: x1 :: x2 :: x3 :: x4 :: x5 :: rest) (.long x :: st) σ := j_lstore0 M d (by simp) (fun o ho => by simp at ho; subst ho; exact hp) k
theorem j_istore_5 (M : Mach l G own cc nL ret fr lo post Φ) {x0 x1 x2 x3 x4 x5 : Option Value} {x : Int32} (d : decode cc pc = .ok (.istore 5, 2)) (hp : noLong x4) (k : Φ (pc + 2) (x0 :: x1 :: x2 :: x3 :: x4 :: some (.int x) :: rest) st σ) : Φ pc (x0 :: x1 :: x2 :: x3 :: x4 :: x5 :: rest) (.int x :: st) σ := j_istore0 M d (by simp) (fun o ho => by simp at ho; subst ho; exact hp) k
theorem j_astore_5 (M : Mach l G own cc nL ret fr lo post Φ) {x0 x1 x2 x3 x4 x5 : Option Value} {x : Nat} (d : decode cc pc = .ok (.astore 5, 2)) (hp : noLong x4) (k : Φ (pc + 2) (x0 :: x1 :: x2 :: x3 :: x4 :: some (.ref x) :: rest) st σ) : Φ pc (x0 :: x1 :: x2 :: x3 :: x4 :: x5 :: rest) (.ref x :: st) σ := j_astore0 M d (by simp) (fun o ho => by simp at ho; subst ho; exact hp) k
theorem j_iinc_5 (M : Mach l G own cc nL ret fr lo post Φ) {x0 x1 x2 x3 x4 : Option Value} {n : Int} {x v : Int32} (d : decode cc pc = .ok (.iinc 5 n, 3)) (hv : x + Int32.ofInt n = v) (hp : noLong x4) (k : Φ (pc + 3) (x0 :: x1 :: x2 :: x3 :: x4 :: some (.int v) :: rest) st σ) : Φ pc (x0 :: x1 :: x2 :: x3 :: x4 :: some (.int x) :: rest) st σ := j_iinc0 M d (by simp) hv (fun o ho => by simp at ho; subst ho; exact hp) k
theorem j_lstore_5 (M : Mach l G own cc nL ret fr lo post Φ) {x0 x1 x2 x3 x4 x5 x6 : Option Value} {x : Int64} (d : decode cc pc = .ok (.lstore 5, 2)) (hp : noLong x4) (k : Φ (pc + 2) (x0 :: x1 :: x2 :: x3 :: x4 :: some (.long x) :: none :: rest) st σ) : Φ pc (x0 :: x1 :: x2 :: x3 :: x4 :: x5 :: x6 :: rest) (.long x :: st) σ := j_lstore0 M d (by simp) (fun o ho => by simp at ho; subst ho; exact hp) k
theorem j_istore_6 (M : Mach l G own cc nL ret fr lo post Φ) {x0 x1 x2 x3 x4 x5 x6 : Option Value} {x : Int32} (d : decode cc pc = .ok (.istore 6, 2)) (hp : noLong x5) (k : Φ (pc + 2) (x0 :: x1 :: x2 :: x3 :: x4 :: x5 :: some (.int x) :: rest) st σ) : Φ pc (x0 :: x1 :: x2 :: x3 :: x4 :: x5 :: x6 :: rest) (.int x :: st) σ := j_istore0 M d (by simp) (fun o ho => by simp at ho; subst ho; exact hp) k
theorem j_astore_6 (M : Mach l G own cc nL ret fr lo post Φ) {x0 x1 x2 x3 x4 x5 x6 : Option Value} {x : Nat} (d : decode cc pc = .ok (.astore 6, 2)) (hp : noLong x5) (k : Φ (pc + 2) (x0 :: x1 :: x2 :: x3 :: x4 :: x5 :: some (.ref x) :: rest) st σ) : Φ pc (x0 :: x1 :: x2 :: x3 :: x4 :: x5 :: x6 :: rest) (.ref x :: st) σ := j_astore0 M d (by simp) (fun o ho => by simp at ho; subst ho; exact hp) k
theorem j_iinc_6 (M : Mach l G own cc nL ret fr lo post Φ) {x0 x1 x2 x3 x4 x5 : Option Value} {n : Int} {x v : Int32} (d : decode cc pc = .ok (.iinc 6 n, 3)) (hv : x + Int32.ofInt n = v) (hp : noLong x5) (k : Φ (pc + 3) (x0 :: x1 :: x2 :: x3 :: x4 :: x5 :: some (.int v) :: rest) st σ) : Φ pc (x0 :: x1 :: x2 :: x3 :: x4 :: x5 :: some (.int x) :: rest) st σ := j_iinc0 M d (by simp) hv (fun o ho => by simp at ho; subst ho; exact hp) k
theorem j_lstore_6 (M : Mach l G own cc nL ret fr lo post Φ) {x0 x1 x2 x3 x4 x5 x6 x7 : Option Value} {x : Int64} (d : decode cc pc = .ok (.lstore 6, 2)) (hp : noLong x5) (k : Φ (pc + 2) (x0 :: x1 :: x2 :: x3 :: x4 :: x5 :: some (.long x) :: none :: rest) st σ) : Φ pc (x0 :: x1 :: x2 :: x3 :: x4 :: x5 :: x6 :: x7 :: rest) (.long x :: st) σ := j_lstore0 M d (by simp) (fun o ho => by simp at ho; subst ho; exact hp) k
theorem j_istore_7 (M : Mach l G own cc nL ret fr lo post Φ) {x0 x1 x2 x3 x4 x5 x6 x7 : Option Value} {x : Int32} (d : decode cc pc = .ok (.istore 7, 2)) (hp : noLong x6) (k : Φ (pc + 2) (x0 :: x1 :: x2 :: x3 :: x4 :: x5 :: x6 :: some (.int x) :: rest) st σ) : Φ pc (x0 :: x1 :: x2 :: x3 :: x4 :: x5 :: x6 :: x7 :: rest) (.int x :: st) σ := j_istore0 M d (by simp) (fun o ho => by simp at ho; subst ho; exact hp) k
theorem j_astore_7 (M : Mach l G own cc nL ret fr lo post Φ) {x0 x1 x2 x3 x4 x5 x6 x7 : Option Value} {x : Nat} (d : decode cc pc = .ok (.astore 7, 2)) (hp : noLong x6) (k : Φ (pc + 2) (x0 :: x1 :: x2 :: x3 :: x4 :: x5 :: x6 :: some (.ref x) :: rest) st σ) : Φ pc (x0 :: x1 :: x2 :: x3 :: x4 :: x5 :: x6 :: x7 :: rest) (.ref x :: st) σ := j_astore0 M d (by simp) (fun o ho => by simp at ho; subst ho; exact hp) k
theorem j_iinc_7 (M : Mach l G own cc nL ret fr lo post Φ) {x0 x1 x2 x3 x4 x5 x6 : Option Value} {n : Int} {x v : Int32} (d : decode cc pc = .ok (.iinc 7 n, 3)) (hv : x + Int32.ofInt n = v) (hp : noLong x6) (k : Φ (pc + 3) (x0 :: x1 :: x2 :: x3 :: x4 :: x5 :: x6 :: some (.int v) :: rest) st σ) : Φ pc (x0 :: x1 :: x2 :: x3 :: x4 :: x5 :: x6 :: some (.int x) :: rest) st σ := j_iinc0 M d (by simp) hv (fun o ho => by simp at ho; subst ho; exact hp) k
theorem j_lstore_7 (M : Mach l G own cc nL ret fr lo post Φ) {x0 x1 x2 x3 x4 x5 x6 x7 x8 : Option Value} {x : Int64} (d : decode cc pc = .ok (.lstore 7, 2)) (hp : noLong x6) (k : Φ (pc + 2) (x0 :: x1 :: x2 :: x3 :: x4 :: x5 :: x6 :: some (.long x) :: none :: rest) st σ) : Φ pc (x0 :: x1 :: x2 :: x3 :: x4 :: x5 :: x6 :: x7 :: x8 :: rest) (.long x :: st) σ := j_lstore0 M d (by simp) (fun o ho => by simp at ho; subst ho; exact hp) k
theorem j_istore_8 (M : Mach l G own cc nL ret fr lo post Φ) {x0 x1 x2 x3 x4 x5 x6 x7 x8 : Option Value} {x : Int32} (d : decode cc pc = .ok (.istore 8, 2)) (hp : noLong x7) (k : Φ (pc + 2) (x0 :: x1 :: x2 :: x3 :: x4 :: x5 :: x6 :: x7 :: some (.int x) :: rest) st σ) : Φ pc (x0 :: x1 :: x2 :: x3 :: x4 :: x5 :: x6 :: x7 :: x8 :: rest) (.int x :: st) σ := j_istore0 M d (by simp) (fun o ho => by simp at ho; subst ho; exact hp) k
theorem j_astore_8 (M : Mach l G own cc nL ret fr lo post Φ) {x0 x1 x2 x3 x4 x5 x6 x7 x8 : Option Value} {x : Nat} (d : decode cc pc = .ok (.astore 8, 2)) (hp : noLong x7) (k : Φ (pc + 2) (x0 :: x1 :: x2 :: x3 :: x4 :: x5 :: x6 :: x7 :: some (.ref x) :: rest) st σ) : Φ pc (x0 :: x1 :: x2 :: x3 :: x4 :: x5 :: x6 :: x7 :: x8 :: rest) (.ref x :: st) σ := j_astore0 M d (by simp) (fun o ho => by simp at ho; subst ho; exact hp) k
theorem j_iinc_8 (M : Mach l G own cc nL ret fr lo post Φ) {x0 x1 x2 x3 x4 x5 x6 x7 : Option Value} {n : Int} {x v : Int32} (d : decode cc pc = .ok (.iinc 8 n, 3)) (hv : x + Int32.ofInt n = v) (hp : noLong x7) (k : Φ (pc + 3) (x0 :: x1 :: x2 :: x3 :: x4 :: x5 :: x6 :: x7 :: some (.int v) :: rest) st σ) : Φ pc (x0 :: x1 :: x2 :: x3 :: x4 :: x5 :: x6 :: x7 :: some (.int x) :: rest) st σ := j_iinc0 M d (by simp) hv (fun o ho => by simp at ho; subst ho; exact hp) k
theorem j_lstore_8 (M : Mach l G own cc nL ret fr lo post Φ) {x0 x1 x2 x3 x4 x5 x6 x7 x8 x9 : Option Value} {x : Int64} (d : decode cc pc = .ok (.lstore 8, 2)) (hp : noLong x7) (k : Φ (pc + 2) (x0 :: x1 :: x2 :: x3 :: x4 :: x5 :: x6 :: x7 :: some (.long x) :: none :: rest) st σ) : Φ pc (x0 :: x1 :: x2 :: x3 :: x4 :: x5 :: x6 :: x7 :: x8 :: x9 :: rest) (.long x :: st) σ := j_lstore0 M d (by simp) (fun o ho => by simp at ho; subst ho; exact hp) k
theorem j_istore_9 (M : Mach l G own cc nL ret fr lo post Φ) {x0 x1 x2 x3 x4 x5 x6 x7 x8 x9 : Option Value} {x : Int32} (d : decode cc pc = .ok (.istore 9, 2)) (hp : noLong x8) (k : Φ (pc + 2) (x0 :: x1 :: x2 :: x3 :: x4 :: x5 :: x6 :: x7 :: x8 :: some (.int x) :: rest) st σ) : Φ pc (x0 :: x1 :: x2 :: x3 :: x4 :: x5 :: x6 :: x7 :: x8 :: x9 :: rest) (.int x :: st) σ := j_istore0 M d (by simp) (fun o ho => by simp at ho; subst ho; exact hp) k
theorem j_astore_9 (M : Mach l G own cc nL ret fr lo post Φ) {x0 x1 x2 x3 x4 x5 x6 x7 x8 x9 : Option Value} {x : Nat} (d : decode cc pc = .ok (.astore 9, 2)) (hp : noLong x8) (k : Φ (pc + 2) (x0 :: x1 :: x2 :: x3 :: x4 :: x5 :: x6 :: x7 :: x8 :: some (.ref x) :: rest) st σ) : Φ pc (x0 :: x1 :: x2 :: x3 :: x4 :: x5 :: x6 :: x7 :: x8 :: x9 :: rest) (.ref x :: st) σ := j_astore0 M d (by simp) (fun o ho => by simp at ho; subst ho; exact hp) k
theorem j_iinc_9 (M : Mach l G own cc nL ret fr lo post Φ) {x0 x1 x2 x3 x4 x5 x6 x7 x8 : Option Value} {n : Int} {x v : Int32} (d : decode cc pc = .ok (.iinc 9 n, 3)) (hv : x + Int32.ofInt n = v) (hp : noLong x8) (k : Φ (pc + 3) (x0 :: x1 :: x2 :: x3 :: x4 :: x5 :: x6 :: x7 :: x8 :: some (.int v) :: rest) st σ) : Φ pc (x0 :: x1 :: x2 :: x3 :: x4 :: x5 :: x6 :: x7 :: x8 :: some (.int x) :: rest) st σ := j_iinc0 M d (by simp) hv (fun o ho => by simp at ho; subst ho; exact hp) k
theorem j_lstore_9 (M : Mach l G own cc nL ret fr lo post Φ) {x0 x1 x2 x3 x4 x5 x6 x7 x8 x9 x10 : Option Value} {x : Int64} (d : decode cc pc = .ok (.lstore 9, 2)) (hp : noLong x8) (k : Φ (pc + 2) (x0 :: x1 :: x2 :: x3 :: x4 :: x5 :: x6 :: x7 :: x8 :: some (.long x) :: none :: rest) st σ) : Φ pc (x0 :: x1 :: x2 :: x3 :: x4 :: x5 :: x6 :: x7 :: x8 :: x9 :: x10 :: rest) (.long x :: st) σ := j_lstore0 M d (by simp) (fun o ho => by simp at ho; subst ho; exact hp) k
theorem j_istore_10 (M : Mach l G own cc nL ret fr lo post Φ) {x0 x1 x2 x3 x4 x5 x6 x7 x8 x9 x10 : Option Value} {x : Int32} (d : decode cc pc = .ok (.istore 10, 2)) (hp : noLong x9) (k : Φ (pc + 2) (x0 :: x1 :: x2 :: x3 :: x4 :: x5 :: x6 :: x7 :: x8 :: x9 :: some (.int x) :: rest) st σ) : Φ pc (x0 :: x1 :: x2 :: x3 :: x4 :: x5 :: x6 :: x7 :: x8 :: x9 :: x10 :: rest) (.int x :: st) σ := j_istore0 M d (by simp) (fun o ho => by simp at ho; subst ho; exact hp) k
theorem j_astore_10 (M : Mach l G own cc nL ret fr lo post Φ) {x0 x1 x2 x3 x4 x5 x6 x7 x8 x9 x10 : Option Value} {x : Nat} (d : decode cc pc = .ok (.astore 10, 2)) (hp : noLong x9) (k : Φ (pc + 2) (x0 :: x1 :: x2 :: x3 :: x4 :: x5 :: x6 :: x7 :: x8 :: x9 :: some (.ref x) :: rest) st σ) : Φ pc (x0 :: x1 :: x2 :: x3 :: x4 :: x5 :: x6 :: x7 :: x8 :: x9 :: x10 :: rest) (.ref x :: st) σ := j_astore0 M d (by simp) (fun o ho => by simp at ho; subst ho; exact hp) k
theorem j_iinc_10 (M : Mach l G own cc nL ret fr lo post Φ) {x0 x1 x2 x3 x4 x5 x6 x7 x8 x9 : Option Value} {n : Int} {x v : Int32} (d : decode cc pc = .ok (.iinc 10 n, 3)) (hv : x + Int32.ofInt n = v) (hp : noLong x9) (k : Φ (pc + 3) (x0 :: x1 :: x2 :: x3 :: x4 :: x5 :: x6 :: x7 :: x8 :: x9 :: some (.int v) :: rest) st σ) : Φ pc (x0 :: x1 :: x2 :: x3 :: x4 :: x5 :: x6 :: x7 :: x8 :: x9 :: some (.int x) :: rest) st σ := j_iinc0 M d (by simp) hv (fun o ho => by simp at ho; subst ho; exact hp) k
theorem j_lstore_10 (M : Mach l G own cc nL ret fr lo post Φ) {x0 x1 x2 x3 x4 x5 x6 x7 x8 x9 x10 x11 : Option Value} {x : Int64} (d : decode cc pc = .ok (.lstore 10, 2)) (hp : noLong x9) (k : Φ (pc + 2) (x0 :: x1 :: x2 :: x3 :: x4 :: x5 :: x6 :: x7 :: x8 :: x9 :: some (.long x) :: none :: rest) st σ) : Φ pc (x0 :: x1 :: x2 :: x3 :: x4 :: x5 :: x6 :: x7 :: x8 :: x9 :: x10 :: x11 :: rest) (.long x :: st) σ := j_lstore0 M d (by simp) (fun o ho => by simp at ho; subst ho; exact hp) k
theorem j_istore_11 (M : Mach l G own cc nL ret fr lo post Φ) {x0 x1 x2 x3 x4 x5 x6 x7 x8 x9 x10 x11 : Option Value} {x : Int32} (d : decode cc pc = .ok (.istore 11, 2)) (hp : noLong x10) (k : Φ (pc + 2) (x0 :: x1 :: x2 :: x3 :: x4 :: x5 :: x6 :: x7 :: x8 :: x9 :: x10 :: some (.int x) :: rest) st σ) : Φ pc (x0 :: x1 :: x2 :: x3 :: x4 :: x5 :: x6 :: x7 :: x8 :: x9 :: x10 :: x11 :: rest) (.int x :: st) σ := j_istore0 M d (by simp) (fun o ho => by simp at ho; subst ho; exact hp) k
theorem j_astore_11 (M : Mach l G own cc nL ret fr lo post Φ) {x0 x1 x2 x3 x4 x5 x6 x7 x8 x9 x10 x11 : Option Value} {x : Nat} (d : decode cc pc = .ok (.astore 11, 2)) (hp : noLong x10) (k : Φ (pc + 2) (x0 :: x1 :: x2 :: x3 :: x4 :: x5 :: x6 :: x7 :: x8 :: x9 :: x10 :: some (.ref x) :: rest) st σ) : Φ pc (x0 :: x1 :: x2 :: x3 :: x4 :: x5 :: x6 :: x7 :: x8 :: x9 :: x10 :: x11 :: rest) (.ref x :: st) σ := j_astore0 M d (by simp) (fun o ho => by simp at ho; subst ho; exact hp) k
theorem j_iinc_11 (M : Mach l G own cc nL ret fr lo post Φ) {x0 x1 x2 x3 x4 x5 x6 x7 x8 x9 x10 : Option Value} {n : Int} {x v : Int32} (d : decode cc pc = .ok (.iinc 11 n, 3)) (hv : x + Int32.ofInt n = v) (hp : noLong x10) (k : Φ (pc + 3) (x0 :: x1 :: x2 :: x3 :: x4 :: x5 :: x6 :: x7 :: x8 :: x9 :: x10 :: some (.int v) :: rest) st σ) : Φ pc (x0 :: x1 :: x2 :: x3 :: x4 :: x5 :: x6 :: x7 :: x8 :: x9 :: x10 :: some (.int x) :: rest) st σ := j_iinc0 M d (by simp) hv (fun o ho => by simp at ho; subst ho; exact hp) k
theorem j_lstore_11 (M : Mach l G own cc nL ret fr lo post Φ) {x0 x1 x2 x3 x4 x5 x6 x7 x8 x9 x10 x11 x12 : Option Value} {x : Int64} (d : decode cc pc = .ok (.lstore 11, 2)) (hp : noLong x10) (k : Φ (pc + 2) (x0 :: x1 :: x2 :: x3 :: x4 :: x5 :: x6 :: x7 :: x8 :: x9 :: x10 :: some (.long x) :: none :: rest) st σ) : Φ pc (x0 :: x1 :: x2 :: x3 :: x4 :: x5 :: x6 :: x7 :: x8 :: x9 :: x10 :: x11 :: x12 :: rest) (.long x :: st) σ := j_lstore0 M d (by simp) (fun o ho => by simp at ho; subst ho; exact hp) k
theorem j_istore_12 (M : Mach l G own cc nL ret fr lo post Φ) {x0 x1 x2 x3 x4 x5 x6 x7 x8 x9 x10 x11 x12 : Option Value} {x : Int32} (d : decode cc pc = .ok (.istore 12, 2)) (hp : noLong x11) (k : Φ (pc + 2) (x0 :: x1 :: x2 :: x3 :: x4 :: x5 :: x6 :: x7 :: x8 :: x9 :: x10 :: x11 :: some (.int x) :: rest) st σ) : Φ pc (x0 :: x1 :: x2 :: x3 :: x4 :: x5 :: x6 :: x7 :: x8 :: x9 :: x10 :: x11 :: x12 :: rest) (.int x :: st) σ := j_istore0 M d (by simp) (fun o ho => by simp at ho; subst ho; exact hp) k
theorem j_astore_12 (M : Mach l G own cc nL ret fr lo post Φ) {x0 x1 x2 x3 x4 x5 x6 x7 x8 x9 x10 x11 x12 : Option Value} {x : Nat} (d : decode cc pc = .ok (.astore 12, 2)) (hp : noLong x11) (k : Φ (pc + 2) (x0 :: x1 :: x2 :: x3 :: x4 :: x5 :: x6 :: x7 :: x8 :: x9 :: x10 :: x11 :: some (.ref x) :: rest) st σ) : Φ pc (x0 :: x1 :: x2 :: x3 :: x4 :: x5 :: x6 :: x7 :: x8 :: x9 :: x10 :: x11 :: x12 :: rest) (.ref x :: st) σ := j_astore0 M d (by simp) (fun o ho => by simp at ho; subst ho; exact hp) k
theorem j_iinc_12 (M : Mach l G own cc nL ret fr lo post Φ) {x0 x1 x2 x3 x4 x5 x6 x7 x8 x9 x10 x11 : Option Value} {n : Int} {x v : Int32} (d : decode cc pc = .ok (.iinc 12 n, 3)) (hv : x + Int32.ofInt n = v) (hp : noLong x11) (k : Φ (pc + 3) (x0 :: x1 :: x2 :: x3 :: x4 :: x5 :: x6 :: x7 :: x8 :: x9 :: x10 :: x11 :: some (.int v) :: rest) st σ) : Φ pc (x0 :: x1 :: x2 :: x3 :: x4 :: x5 :: x6 :: x7 :: x8 :: x9 :: x10 :: x11 :: some (.int x) :: rest) st σ := j_iinc0 M d (by simp) hv (fun o ho => by simp at ho; subst ho; exact hp) k
theorem j_lstore_12 (M : Mach l G own cc nL ret fr lo post Φ) {x0 x1 x2 x3 x4 x5 x6 x7 x8 x9 x10 x11 x12 x13 : Option Value} {x : Int64} (d : decode cc pc = .ok (.lstore 12, 2)) (hp : noLong x11) (k : Φ (pc + 2) (x0 :: x1 :: x2 :: x3 :: x4 :: x5 :: x6 :: x7 :: x8 :: x9 :: x10 :: x11 :: some (.long x) :: none :: rest) st σ) : Φ pc (x0 :: x1 :: x2 :: x3 :: x4 :: x5 :: x6 :: x7 :: x8 :: x9 :: x10 :: x11 :: x12 :: x13 :: rest) (.long x :: st) σ := j_lstore0 M d (by simp) (fun o ho => by simp at ho; subst ho; exact hp) k
theorem j_istore_13 (M : Mach l G own cc nL ret fr lo post Φ) {x0 x1 x2 x3 x4 x5 x6 x7 x8 x9 x10 x11 x12 x13 : Option Value} {x : Int32} (d : decode cc pc = .ok (.istore 13, 2)) (hp : noLong x12) (k : Φ (pc + 2) (x0 :: x1 :: x2 :: x3 :: x4 :: x5 :: x6 :: x7 :: x8 :: x9 :: x10 :: x11 :: x12 :: some (.int x) :: rest) st σ) : Φ pc (x0 :: x1 :: x2 :: x3 :: x4 :: x5 :: x6 :: x7 :: x8 :: x9 :: x10 :: x11 :: x12 :: x13 :: rest) (.int x :: st) σ := j_istore0 M d (by simp) (fun o ho => by simp at ho; subst ho; exact hp) k
theorem j_astore_13 (M : Mach l G own cc nL ret fr lo post Φ) {x0 x1 x2 x3 x4 x5 x6 x7 x8 x9 x10 x11 x12 x13 : Option Value} {x : Nat} (d : decode cc pc = .ok (.astore 13, 2)) (hp : noLong x12) (k : Φ (pc + 2) (x0 :: x1 :: x2 :: x3 :: x4 :: x5 :: x6 :: x7 :: x8 :: x9 :: x10 :: x11 :: x12 :: some (.ref x) :: rest) st σ) : Φ pc (x0 :: x1 :: x2 :: x3 :: x4 :: x5 :: x6 :: x7 :: x8 :: x9 :: x10 :: x11 :: x12 :: x13 :: rest) (.ref x :: st) σ := j_astore0 M d (by simp) (fun o ho => by simp at ho; subst ho; exact hp) k
theorem j_iinc_13 (M : Mach l G own cc nL ret fr lo post Φ) {x0 x1 x2 x3 x4 x5 x6 x7 x8 x9 x10 x11 x12 : Option Value} {n : Int} {x v : Int32} (d : decode cc pc = .ok (.iinc 13 n, 3)) (hv : x + Int32.ofInt n = v) (hp : noLong x12) (k : Φ (pc + 3) (x0 :: x1 :: x2 :: x3 :: x4 :: x5 :: x6 :: x7 :: x8 :: x9 :: x10 :: x11 :: x12 :: some (.int v) :: rest) st σ) : Φ pc (x0 :: x1 :: x2 :: x3 :: x4 :: x5 :: x6 :: x7 :: x8 :: x9 :: x10 :: x11 :: x12 :: some (.int x) :: rest) st σ := j_iinc0 M d (by simp) hv (fun o ho => by simp at ho; subst ho; exact hp) k
theorem j_lstore_13 (M : Mach l G own cc nL ret fr lo post Φ) {x0 x1 x2 x3 x4 x5 x6 x7 x8 x9 x10 x11 x12 x13 x14 : Option Value} {x : Int64} (d : decode cc pc = .ok (.lstore 13, 2)) (hp : noLong x12) (k : Φ (pc + 2) (x0 :: x1 :: x2 :: x3 :: x4 :: x5 :: x6 :: x7 :: x8 :: x9 :: x10 :: x11 :: x12 :: some (.long x) :: none :: rest) st σ) : Φ pc (x0 :: x1 :: x2 :: x3 :: x4 :: x5 :: x6 :: x7 :: x8 :: x9 :: x10 :: x11 :: x12 :: x13 :: x14 :: rest) (.long x :: st) σ := j_lstore0 M d (by simp) (fun o ho => by simp at ho; subst ho; exact hp) k
theorem j_istore_14 (M : Mach l G own cc nL ret fr lo post Φ) {x0 x1 x2 x3 x4 x5 x6 x7 x8 x9 x10 x11 x12 x13 x14 : Option Value} {x : Int32} (d : decode cc pc = .ok (.istore 14, 2)) (hp : noLong x13) (k : Φ (pc + 2) (x0 :: x1 :: x2 :: x3 :: x4 :: x5 :: x6 :: x7 :: x8 :: x9 :: x10 :: x11 :: x12 :: x13 :: some (.int x) :: rest) st σ) : Φ pc (x0 :: x1 :: x2 :: x3 :: x4 :: x5 :: x6 :: x7 :: x8 :: x9 :: x10 :: x11 :: x12 :: x13 :: x14 :: rest) (.int x :: st) σ := j_istore0 M d (by simp) (fun o ho => by simp at ho; subst ho; exact hp) k
theorem j_astore_14 (M : Mach l G own cc nL ret fr lo post Φ) {x0 x1 x2 x3 x4 x5 x6 x7 x8 x9 x10 x11 x12 x13 x14 : Option Value} {x : Nat} (d : decode cc pc = .ok (.astore 14, 2)) (hp : noLong x13) (k : Φ (pc + 2) (x0 :: x1 :: x2 :: x3 :: x4 :: x5 :: x6 :: x7 :: x8 :: x9 :: x10 :: x11 :: x12 :: x13 :: some (.ref x) :: rest) st σ) : Φ pc (x0 :: x1 :: x2 :: x3 :: x4 :: x5 :: x6 :: x7 :: x8 :: x9 :: x10 :: x11 :: x12 :: x13 :: x14 :: rest) (.ref x :: st) σ := j_astore0 M d (by simp) (fun o ho => by simp at ho; subst ho; exact hp) k
theorem j_iinc_14 (M : Mach l G own cc nL ret fr lo post Φ) {x0 x1 x2 x3 x4 x5 x6 x7 x8 x9 x10 x11 x12 x13 : Option Value} {n : Int} {x v : Int32} (d : decode cc pc = .ok (.iinc 14 n, 3)) (hv : x + Int32.ofInt n = v) (hp : noLong x13) (k : Φ (pc + 3) (x0 :: x1 :: x2 :: x3 :: x4 :: x5 :: x6 :: x7 :: x8 :: x9 :: x10 :: x11 :: x12 :: x13 :: some (.int v) :: rest) st σ) : Φ pc (x0 :: x1 :: x2 :: x3 :: x4 :: x5 :: x6 :: x7 :: x8 :: x9 :: x10 :: x11 :: x12 :: x13 :: some (.int x) :: rest) st σ := j_iinc0 M d (by simp) hv (fun o ho => by simp at ho; subst ho; exact hp) k
theorem j_lstore_14 (M : Mach l G own cc nL ret fr lo post Φ) {x0 x1 x2 x3 x4 x5 x6 x7 x8 x9 x10 x11 x12 x13 x14 x15 : Option Value} {x : Int64} (d : decode cc pc = .ok (.lstore 14, 2)) (hp : noLong x13) (k : Φ (pc + 2) (x0 :: x1 :: x2 :: x3 :: x4 :: x5 :: x6 :: x7 :: x8 :: x9 :: x10 :: x11 :: x12 :: x13 :: some (.long x) :: none :: rest) st σ) : Φ pc (x0 :: x1 :: x2 :: x3 :: x4 :: x5 :: x6 :: x7 :: x8 :: x9 :: x10 :: x11 :: x12 :: x13 :: x14 :: x15 :: rest) (.long x :: st) σ := j_lstore0 M d (by simp) (fun o ho => by simp at ho; subst ho; exact hp) k
theorem j_istore_15 (M : Mach l G own cc nL ret fr lo post Φ) {x0 x1 x2 x3 x4 x5 x6 x7 x8 x9 x10 x11 x12 x13 x14 x15 : Option Value} {x : Int32} (d : decode cc pc = .ok (.istore 15, 2)) (hp : noLong x14) (k : Φ (pc + 2) (x0 :: x1 :: x2 :: x3 :: x4 :: x5 :: x6 :: x7 :: x8 :: x9 :: x10 :: x11 :: x12 :: x13 :: x14 :: some (.int x) :: rest) st σ) : Φ pc (x0 :: x1 :: x2 :: x3 :: x4 :: x5 :: x6 :: x7 :: x8 :: x9 :: x10 :: x11 :: x12 :: x13 :: x14 :: x15 :: rest) (.int x :: st) σ := j_istore0 M d (by simp) (fun o ho => by simp at ho; subst ho; exact hp) k
theorem j_astore_15 (M : Mach l G own cc nL ret fr lo post Φ) {x0 x1 x2 x3 x4 x5 x6 x7 x8 x9 x10 x11 x12 x13 x14 x15 : Option Value} {x : Nat} (d : decode cc pc = .ok (.astore 15, 2)) (hp : noLong x14) (k : Φ (pc + 2) (x0 :: x1 :: x2 :: x3 :: x4 :: x5 :: x6 :: x7 :: x8 :: x9 :: x10 :: x11 :: x12 :: x13 :: x14 :: some (.ref x) :: rest) st σ) : Φ pc (x0 :: x1 :: x2 :: x3 :: x4 :: x5 :: x6 :: x7 :: x8 :: x9 :: x10 :: x11 :: x12 :: x13 :: x14 :: x15 :: rest) (.ref x :: st) σ := j_astore0 M d (by simp) (fun o ho => by simp at ho; subst ho; exact hp) k
theorem j_iinc_15 (M : Mach l G own cc nL ret fr lo post Φ) {x0 x1 x2 x3 x4 x5 x6 x7 x8 x9 x10 x11 x12 x13 x14 : Option Value} {n : Int} {x v : Int32} (d : decode cc pc = .ok (.iinc 15 n, 3)) (hv : x + Int32.ofInt n = v) (hp : noLong x14) (k : Φ (pc + 3) (x0 :: x1 :: x2 :: x3 :: x4 :: x5 :: x6 :: x7 :: x8 :: x9 :: x10 :: x11 :: x12 :: x13 :: x14 :: some (.int v) :: rest) st σ) : Φ pc (x0 :: x1 :: x2 :: x3 :: x4 :: x5 :: x6 :: x7 :: x8 :: x9 :: x10 :: x11 :: x12 :: x13 :: x14 :: some (.int x) :: rest) st σ := j_iinc0 M d (by simp) hv (fun o ho => by simp at ho; subst ho; exact hp) k
theorem j_lstore_15 (M : Mach l G own cc nL ret fr lo post Φ) {x0 x1 x2 x3 x4 x5 x6 x7 x8 x9 x10 x11 x12 x13 x14 x15 x16 : Option Value} {x : Int64} (d : decode cc pc = .ok (.lstore 15, 2)) (hp : noLong x14) (k : Φ (pc + 2) (x0 :: x1 :: x2 :: x3 :: x4 :: x5 :: x6 :: x7 :: x8 :: x9 :: x10 :: x11 :: x12 :: x13 :: x14 :: some (.long x) :: none :: rest) st σ) : Φ pc (x0 :: x1 :: x2 :: x3 :: x4 :: x5 :: x6 :: x7 :: x8 :: x9 :: x10 :: x11 :: x12 :: x13 :: x14 :: x15 :: x16 :: rest) (.long x :: st) σ := j_lstore0 M d (by simp) (fun o ho => by simp at ho; subst ho; exact hp) k
end Rows2
