theorem cel_lib (G : Gw) {c : Nat} (h : isLib c) (k : Nat) (f : Int32 → Int32) : cel G c k f = celL G c k f := by
  obtain ⟨h1, h2⟩ := h
  obtain ⟨d, rfl⟩ : ∃ d, c = d + 6 := ⟨c - 6, by omega⟩
  show (if d < 29 then celL G (d + 6) k f else celM G k f) = _
  rw [if_pos (by omega)]
theorem vld_lib {c k : Nat} (h : isLib c) (hk : k < 9) : vld c k = true := by
  obtain ⟨h1, h2⟩ := h
  obtain ⟨d, rfl⟩ : ∃ d, c = d + 6 := ⟨c - 6, by omega⟩
  show (if d < 29 then decide (k < 9) else _) = true
  rw [if_pos (by omega)]
  simpa using hk
theorem lib_now : isLib 6 := ⟨by decide, by decide⟩
theorem lib_draft : isLib 7 := ⟨by decide, by decide⟩
theorem lib_im0 : isLib 8 := ⟨by decide, by decide⟩
theorem lib_im1 : isLib 9 := ⟨by decide, by decide⟩
theorem lib_then : isLib 10 := ⟨by decide, by decide⟩
theorem i_ok {i n' : Int32} {n : Nat} (h0 : 0 ≤ i) (h1 : i < n') (hn : nI n = n') (hn2 : n < 2147483648) : i.toNatClampNeg < n ∧ nI i.toNatClampNeg = i ∧ vp_in i n := by
  subst hn
  have h0' : ¬ i < 0 := Int32.not_lt.mpr h0
  obtain ⟨j, hj, rfl⟩ := nI_of h0'
  have h1' : j < n := (nI_ltI hj hn2).mp h1
  rw [nI_clamp hj]
  exact ⟨h1', rfl, vp_in_nI h1' hn2⟩
theorem ofF_at {f : Int32 → Int32} {i : Int32} {n : Nat} (h : i.toNatClampNeg < n ∧ nI i.toNatClampNeg = i ∧ vp_in i n) (hn2 : n < 2147483648) : ofF f i.toNatClampNeg = f i := by
  unfold ofF
  rw [if_pos (by omega), h.2.1]
theorem ofF_upd {f : Int32 → Int32} {i x : Int32} {n : Nat} (h : i.toNatClampNeg < n ∧ nI i.toNatClampNeg = i ∧ vp_in i n) (hn2 : n < 2147483648) : upd (ofF f) i.toNatClampNeg x = ofF (upI f i x) := by
  funext j
  unfold upd ofF upI
  by_cases hj : j = i.toNatClampNeg
  · subst hj
    rw [if_pos rfl, if_pos (by omega), if_pos h.2.1]
  · rw [if_neg hj]
    by_cases hb : j < 2147483648
    · rw [if_pos hb, if_pos hb, if_neg]
      intro e
      apply hj
      rw [← e, nI_clamp hb]
    · rw [if_neg hb, if_neg hb]
theorem Wk.calling {G : Gw} {U : State} (h : Wk G U) (g : JFrame) (mk : MethodId) (a : Array Value) : Wk G (U.calling g mk a) :=
  ⟨h.1, va_K.moved (u := U) (U := U.calling g mk a) (Vm.Alike.refl U.vm) h.2.1, va_Z.moved (u := U) (U := U.calling g mk a) (Vm.Alike.refl U.vm) h.2.2.1, va_T.moved (u := U) (U := U.calling g mk a) (Vm.Alike.refl U.vm) h.2.2.2.1,
    va_Nw.same (u := U) (U := U.calling g mk a) rfl rfl h.2.2.2.2.1, va_Nw.same (u := U) (U := U.calling g mk a) rfl rfl h.2.2.2.2.2.1, va_Nw.same (u := U) (U := U.calling g mk a) rfl rfl h.2.2.2.2.2.2⟩
section Mem
variable {l : Launch} {G : Gw} {own : String} {cc : ByteArray} {nL fr lo : Nat} {ret : Option FieldType} {post : Option Value → Sg → Prop} {Φ : Ph} {pc : Nat} {L : List (Option Value)} {st : List Value} {σ : Sg}
theorem j_getf (M : Mach l G own cc nL ret fr lo post Φ) {c ci index N k : Nat} {C : String} {T : u_T} {fs : List Value} {v : Value} (hv : vld c 0 = true) (hc : cel G c 0 (σ c 0) = .inr (ci, fs)) (hcl : vwCl[ci]? = some (C, T, N)) (hk : k < N) (hin : ∀ w ∈ u_ws C T N, w ∈ tws) (hlink : Cond.fieldLink own index (T k).1 (T k).2.1 (T k).2.2.1 ∈ tws) (hfs : fs[k]? = some v) (d : decode cc pc = .ok (.getfield index, 3)) (kk : Φ (pc + 3) L (v :: st) σ) : Φ pc L (.ref (ad G c 0) :: st) σ := by
  obtain ⟨p, e, R, s, m, args, below, meth, cd, cells, slots, Q, ⟨hx, hb, hml, hown, hts⟩, hWk, hRm, hRet, rfl⟩ := M
  intro hn H locs ls hW hS hl
  obtain ⟨i, hi, he⟩ := wl_at (G := G) (σ := σ) hv
  rw [hc] at he
  exact va_get hx hb hts hin hown hWk.2.1 hW i he hcl k hk (hts _ hlink) (fun _ h9 => h9) hfs d (kk hn H locs ls hW hS hl)
theorem j_getfN (M : Mach l G own cc nL ret fr lo post Φ) {c ci index N k : Nat} {C host : String} {T : u_T} {fs : List Value} {v : Value} (hv : vld c 0 = true) (hc : cel G c 0 (σ c 0) = .inr (ci, fs)) (hcl : vwCl[ci]? = some (C, T, N)) (hk : k < N) (hin : ∀ w ∈ u_ws C T N, w ∈ tws) (hlink : ∀ U, Wk G U → va_Nw (.fieldLinkNest own index (T k).1 (T k).2.1 (T k).2.2.1 host) U) (hfs : fs[k]? = some v) (d : decode cc pc = .ok (.getfield index, 3)) (kk : Φ (pc + 3) L (v :: st) σ) : Φ pc L (.ref (ad G c 0) :: st) σ := by
  obtain ⟨p, e, R, s, m, args, below, meth, cd, cells, slots, Q, ⟨hx, hb, hml, hown, hts⟩, hWk, hRm, hRet, rfl⟩ := M
  intro hn H locs ls hW hS hl
  obtain ⟨i, hi, he⟩ := wl_at (G := G) (σ := σ) hv
  rw [hc] at he
  exact va_getN hx hb hts hin hown hWk.2.1 hW i he hcl k hk (va_Nw.use rfl (hlink _ hWk)) (fun _ h9 => h9) hfs d (kk hn H locs ls hW hS hl)
theorem j_putf (M : Mach l G own cc nL ret fr lo post Φ) {c ci index N k : Nat} {C : String} {T : u_T} {ty0 : Nat → FieldType} {fs : List Value} {v : Value} {f' : Int32 → Int32} (hv : vld c 0 = true) (hc : cel G c 0 (σ c 0) = .inr (ci, fs)) (hcl : vwCl[ci]? = some (C, T, N)) (hk : k < N) (hin : ∀ w ∈ u_ws C T N, w ∈ tws) (hty : ∀ k, k < N → parseFieldDescriptor (T k).2.2.1 = some (ty0 k)) (hnm : ∀ a, a < N → ∀ b, b < N → a ≠ b → (T a).2.1 ≠ (T b).2.1) (hlink : Cond.fieldLink own index (T k).1 (T k).2.1 (T k).2.2.1 ∈ tws) (hfin : (T k).2.2.2 = false) (hn : narrow (ty0 k) v = v) (hfit : fits (ty0 k) v = true) (hlen : k < fs.length) (hc' : cel G c 0 f' = .inr (ci, fs.set k v)) (d : decode cc pc = .ok (.putfield index, 3)) (kk : Φ (pc + 3) L st (up σ c 0 f')) : Φ pc L (v :: .ref (ad G c 0) :: st) σ := by
  obtain ⟨p, e, R, s, m, args, below, meth, cd, cells, slots, Q, ⟨hx, hb, hml, hown, hts⟩, hWk, hRm, hRet, rfl⟩ := M
  intro hn' H locs ls hW hS hl
  obtain ⟨i, hi, he⟩ := wl_at (G := G) (σ := σ) hv
  rw [hc] at he
  refine va_put hx hb hts hin ty0 hty hnm hown hWk.2.1 hW (wl_D hWk.1 σ) hS i he hcl k hk (hts _ hlink) (fun _ h9 => h9) hfin (hty k hk) hn hfit hlen d (fun H1 locs1 hP hD hS1 => ?_)
  rw [← hc', wl_set hi] at hP
  exact kk hn' H1 locs1 ls hP hS1 hl
theorem j_iald (M : Mach l G own cc nL ret fr lo post Φ) {c k n : Nat} {n' i : Int32} (hv : vld c k = true) (hc : cel G c k (σ c k) = iarr G n (σ c k)) (hn' : nI n = n') (hn2 : n < 2147483648) (d : decode cc pc = .ok (.iaload, 1)) (h0 : 0 ≤ i) (h1 : i < n') (kk : Φ (pc + 1) L (.int (σ c k i) :: st) σ) : Φ pc L (.int i :: .ref (ad G c k) :: st) σ := by
  obtain ⟨p, e, R, s, m, args, below, meth, cd, cells, slots, Q, ⟨hx, hb, hml, hown, hts⟩, hWk, hRm, hRet, rfl⟩ := M
  intro hn H locs ls hW hS hl
  obtain ⟨q, hi, he⟩ := wl_at (G := G) (σ := σ) hv
  rw [hc] at he
  have hk := i_ok h0 h1 hn' hn2
  refine va_iald hx hb hWk.2.1 hW q 0 he rfl hk.2.2 d ?_
  rw [ofF_at hk hn2]
  exact kk hn H locs ls hW hS hl
theorem j_zald (M : Mach l G own cc nL ret fr lo post Φ) {c k n : Nat} {n' i : Int32} (hv : vld c k = true) (hc : cel G c k (σ c k) = zarr G n (σ c k)) (hn' : nI n = n') (hn2 : n < 2147483648) (d : decode cc pc = .ok (.baload, 1)) (h0 : 0 ≤ i) (h1 : i < n') (kk : Φ (pc + 1) L (.int (σ c k i) :: st) σ) : Φ pc L (.int i :: .ref (ad G c k) :: st) σ := by
  obtain ⟨p, e, R, s, m, args, below, meth, cd, cells, slots, Q, ⟨hx, hb, hml, hown, hts⟩, hWk, hRm, hRet, rfl⟩ := M
  intro hn H locs ls hW hS hl
  obtain ⟨q, hi, he⟩ := wl_at (G := G) (σ := σ) hv
  rw [hc] at he
  have hk := i_ok h0 h1 hn' hn2
  refine va_zald hx hb hWk.2.1 hW q 1 he rfl hk.2.2 d ?_
  rw [ofF_at hk hn2]
  exact kk hn H locs ls hW hS hl
theorem j_aald (M : Mach l G own cc nL ret fr lo post Φ) {c k n b : Nat} {n' i : Int32} (hv : vld c k = true) (hc : cel G c k (σ c k) = larr G n b) (hn' : nI n = n') (hn2 : n < 2147483648) (d : decode cc pc = .ok (.aaload, 1)) (h0 : 0 ≤ i) (h1 : i < n') (kk : Φ (pc + 1) L (.ref (ad G (b + i.toNatClampNeg) 0) :: st) σ) : Φ pc L (.int i :: .ref (ad G c k) :: st) σ := by
  obtain ⟨p, e, R, s, m, args, below, meth, cd, cells, slots, Q, ⟨hx, hb, hml, hown, hts⟩, hWk, hRm, hRet, rfl⟩ := M
  intro hn H locs ls hW hS hl
  obtain ⟨q, hi, he⟩ := wl_at (G := G) (σ := σ) hv
  rw [hc] at he
  have hk := i_ok h0 h1 hn' hn2
  exact va_aldq hx hb hWk.2.1 hW q 2 he rfl hk.2.2 d (kk hn H locs ls hW hS hl)
theorem j_iast (M : Mach l G own cc nL ret fr lo post Φ) {c k n : Nat} {n' i x : Int32} (hv : vld c k = true) (hc : ∀ f, cel G c k f = iarr G n f) (hn' : nI n = n') (hn2 : n < 2147483648) (d : decode cc pc = .ok (.iastore, 1)) (h0 : 0 ≤ i) (h1 : i < n') (kk : Φ (pc + 1) L st (up σ c k (upI (σ c k) i x))) : Φ pc L (.int x :: .int i :: .ref (ad G c k) :: st) σ := by
  obtain ⟨p, e, R, s, m, args, below, meth, cd, cells, slots, Q, ⟨hx, hb, hml, hown, hts⟩, hWk, hRm, hRet, rfl⟩ := M
  intro hn H locs ls hW hS hl
  obtain ⟨q, hi, he⟩ := wl_at (G := G) (σ := σ) hv
  rw [hc] at he
  have hk := i_ok h0 h1 hn' hn2
  refine va_iast hx hb hWk.2.1 hW (wl_D hWk.1 σ) hS q 0 he rfl hk.2.2 d (fun H1 locs1 hP hD hS1 => ?_)
  rw [ofF_upd hk hn2, show (Sum.inl (G.2.1.1, n, Sum.inl (ofF (upI (σ c k) i x))) : va_E) = cel G c k (upI (σ c k) i x) from (hc _).symm, wl_set hi] at hP
  exact kk hn H1 locs1 ls hP hS1 hl
theorem j_zast (M : Mach l G own cc nL ret fr lo post Φ) {c k n : Nat} {n' i x : Int32} (hv : vld c k = true) (hc : ∀ f, cel G c k f = zarr G n f) (hn' : nI n = n') (hn2 : n < 2147483648) (hz : vp_nar .boolean x = x) (d : decode cc pc = .ok (.bastore, 1)) (h0 : 0 ≤ i) (h1 : i < n') (kk : Φ (pc + 1) L st (up σ c k (upI (σ c k) i x))) : Φ pc L (.int x :: .int i :: .ref (ad G c k) :: st) σ := by
  obtain ⟨p, e, R, s, m, args, below, meth, cd, cells, slots, Q, ⟨hx, hb, hml, hown, hts⟩, hWk, hRm, hRet, rfl⟩ := M
  intro hn H locs ls hW hS hl
  obtain ⟨q, hi, he⟩ := wl_at (G := G) (σ := σ) hv
  rw [hc] at he
  have hk := i_ok h0 h1 hn' hn2
  refine va_zast hx hb hWk.2.1 hW (wl_D hWk.1 σ) hS q 1 he rfl hk.2.2 d (fun H1 locs1 hP hD hS1 => ?_)
  rw [hz, ofF_upd hk hn2, show (Sum.inl (G.2.1.2.1, n, Sum.inl (ofF (upI (σ c k) i x))) : va_E) = cel G c k (upI (σ c k) i x) from (hc _).symm, wl_set hi] at hP
  exact kk hn H1 locs1 ls hP hS1 hl
theorem j_bkget (M : Mach l G RX6 cc nL ret fr lo post Φ) {index : Nat} (hlink : Cond.fieldLink RX6 index RX6 "BROADER_KIND" "[I" ∈ tws) (d : decode cc pc = .ok (.getstatic index, 3)) (kk : Φ (pc + 3) L (.ref (bkA G) :: st) σ) : Φ pc L st σ := by
  obtain ⟨p, e, R, s, m, args, below, meth, cd, cells, slots, Q, ⟨hx, hb, hml, hown, hts⟩, hWk, hRm, hRet, rfl⟩ := M
  intro hn H locs ls hW hS hl
  exact va_gets hx hb hWk.2.2.1 hS hown (hts _ hlink) (fun _ h => h) d (kk hn H locs ls hW hS hl)
theorem j_bklen (M : Mach l G own cc nL ret fr lo post Φ) (d : decode cc pc = .ok (.arraylength, 1)) (kk : Φ (pc + 1) L (.int 6 :: st) σ) : Φ pc L (.ref (bkA G) :: st) σ := by
  obtain ⟨p, e, R, s, m, args, below, meth, cd, cells, slots, Q, ⟨hx, hb, hml, hown, hts⟩, hWk, hRm, hRet, rfl⟩ := M
  intro hn H locs ls hW hS hl
  exact va_tlen hx hb hWk.2.2.2.1 hS rfl d (kk hn H locs ls hW hS hl)
theorem j_bkld (M : Mach l G own cc nL ret fr lo post Φ) {i : Int32} {v : Value} (hv : bkf i.toNatClampNeg = v) (d : decode cc pc = .ok (.iaload, 1)) (h0 : 0 ≤ i) (h1 : i < 6) (kk : Φ (pc + 1) L (v :: st) σ) : Φ pc L (.int i :: .ref (bkA G) :: st) σ := by
  obtain ⟨p, e, R, s, m, args, below, meth, cd, cells, slots, Q, ⟨hx, hb, hml, hown, hts⟩, hWk, hRm, hRet, rfl⟩ := M
  intro hn H locs ls hW hS hl
  exact va_ti hx hb hWk.2.2.2.1 hS (i_ok h0 h1 (n := 6) rfl (by decide)).2.2 hv d (kk hn H locs ls hW hS hl)
theorem j_min (M : Mach l G own cc nL ret fr lo post Φ) {index : Nat} {x y : Int32} (h1 : Cond.methodLink own index Lib.Math.min.name ∈ tws) (h2 : Cond.static Lib.Math.min.name ∈ tws) (h3 : Cond.initialized "java/lang/Math" ∈ tws) (h4 : Cond.code Lib.Math.min.name Lib.Math.min.code 2 (some .int) ∈ tws) (hfr : 1 ≤ fr) (hlo : (st.map fun v => v.category).sum + 13 ≤ lo) (d : decode cc pc = .ok (.invokestatic index, 3)) (kk : Φ (pc + 3) L (.int (if y < x then y else x) :: st) σ) : Φ pc L (.int y :: .int x :: st) σ := by
  obtain ⟨p, e, R, s, m, args, below, meth, cd, cells, slots, Q, ⟨hx, hb, hml, hown, hts⟩, hWk, hRm, hRet, rfl⟩ := M
  intro hn H locs ls hW hS hl
  exact va_mmin hx hb (hml.trans (hn.symm.trans hl.1.symm)) hown (hts _ h1) (hts _ h2) (hts _ h3) (hts _ h4) (Nat.le_trans hfr hRm.1) (Nat.le_trans hlo hRm.2.1) hRm.2.2.1 hRm.2.2.2 d (kk hn H locs ls hW hS hl)
theorem j_abs (M : Mach l G own cc nL ret fr lo post Φ) {index : Nat} {x : Int32} (h1 : Cond.methodLink own index Lib.Math.abs.name ∈ tws) (h2 : Cond.static Lib.Math.abs.name ∈ tws) (h3 : Cond.initialized "java/lang/Math" ∈ tws) (h4 : Cond.code Lib.Math.abs.name Lib.Math.abs.code 1 (some .int) ∈ tws) (hfr : 1 ≤ fr) (hlo : (st.map fun v => v.category).sum + 13 ≤ lo) (d : decode cc pc = .ok (.invokestatic index, 3)) (kk : Φ (pc + 3) L (.int (if 0 ≤ x then x else 0 - x) :: st) σ) : Φ pc L (.int x :: st) σ := by
  obtain ⟨p, e, R, s, m, args, below, meth, cd, cells, slots, Q, ⟨hx, hb, hml, hown, hts⟩, hWk, hRm, hRet, rfl⟩ := M
  intro hn H locs ls hW hS hl
  exact va_mabs hx hb (hml.trans (hn.symm.trans hl.1.symm)) hown (hts _ h1) (hts _ h2) (hts _ h3) (hts _ h4) (Nat.le_trans hfr hRm.1) (Nat.le_trans hlo hRm.2.1) hRm.2.2.1 hRm.2.2.2 d (kk hn H locs ls hW hS hl)
/-! calls -/
def LkV (own : String) (index : Nat) (C : String) (y : MethodName) (bytes : ByteArray) (maxL : Nat) (rt : Option FieldType) (n : Nat) : Prop :=
  Cond.methodLink own index y ∈ tws ∧ Cond.instanceMethod y ∈ tws ∧ Cond.selects C y y ∈ tws ∧ Cond.initialized y.cls ∈ tws ∧ Cond.code y bytes maxL rt ∈ tws ∧ (y.cls ≠ "java/lang/invoke/MethodHandle" ∧ y.cls ≠ "java/lang/invoke/VarHandle" ∧ (parseMethodDescriptor y.desc).map (fun d => d.parameters.length) = some n)
def LkS (own : String) (index : Nat) (y : MethodName) (bytes : ByteArray) (maxL : Nat) (rt : Option FieldType) (n : Nat) : Prop :=
  Cond.methodLink own index y ∈ tws ∧ Cond.static y ∈ tws ∧ Cond.initialized y.cls ∈ tws ∧ Cond.code y bytes maxL rt ∈ tws ∧ (y.cls ≠ "java/lang/invoke/MethodHandle" ∧ y.cls ≠ "java/lang/invoke/VarHandle" ∧ (parseMethodDescriptor y.desc).map (fun d => d.parameters.length) = some n)
def LkN (G : Gw) (own : String) (index : Nat) (y : MethodName) (host : String) (bytes : ByteArray) (maxL : Nat) (rt : Option FieldType) (n : Nat) : Prop :=
  (∀ U, Wk G U → va_Nw (.methodLinkNest own index y host) U) ∧ Cond.static y ∈ tws ∧ Cond.initialized y.cls ∈ tws ∧ Cond.code y bytes maxL rt ∈ tws ∧ (y.cls ≠ "java/lang/invoke/MethodHandle" ∧ y.cls ≠ "java/lang/invoke/VarHandle" ∧ (parseMethodDescriptor y.desc).map (fun d => d.parameters.length) = some n)
def Recv (G : Gw) (σ : Sg) (C : String) (b : Nat) : Prop := ∃ (i ci : Nat) (fs : List Value) (T : u_T) (N : Nat), (wl G σ)[i]? = some (b, .inr (ci, fs)) ∧ vwCl[ci]? = some (C, T, N)
theorem tws_good {y : MethodName} {bytes : ByteArray} {maxL : Nat} {rt : Option FieldType} (h : Cond.code y bytes maxL rt ∈ tws) : GoodIn tws (Cond.code y bytes maxL rt :: tws) := by
  intro w hw
  have : w ∈ tws := by
    rcases List.mem_cons.mp hw with e | e
    · rw [e]; exact h
    · exact e
  exact ⟨this, good_of_word (List.mem_filter.mp this).2⟩
theorem run_to {p : Program} {e : Env} {R : Room} {s : State} {m : MethodId} {args : Array Value} {below : List Frame} {meth : Method} {c : Code} {H : Heap} {locs : List Loc} {cells slots : Nat} {Q : State → Prop} {ls : Array Slot} {rest st0 : List Value} {a : Array Value} {ps : Option Value → Sg → Prop}
    (hr : va_Run p l e R s m args below meth c H locs cells slots 0 0 (F0 m pc ls st0) rest (Qv G ps a) (AA G)) (hS : va_S (AA G) s.heap H locs)
    (kk : ∀ (v : Option Value) (σ' : Sg) (H1 : Heap) (locs1 : List Loc), ps v σ' → Wd G σ' H1 → va_S (AA G) s.heap H1 locs1 → W p l e R s m args below meth c H1 locs1 cells slots Q (F0 m (pc + 3) ls (v.toList ++ rest))) : W p l e R s m args below meth c H locs cells slots Q (F0 m pc ls st0) := by
  intro T hT X
  obtain ⟨v, st₀, t, T', Lc, h0, X', hL, e1, e2, ⟨⟨v', σ', hv, hp, hb⟩, hz, hk⟩, st⟩ := hr T hT X
  cases hv
  rw [h0] at hz hk
  obtain ⟨t2, a1, b1⟩ := kk v σ' T'.heap (locs ++ Lc) hp (by rw [e1]; exact hb)
    ⟨Nat.le_trans hS.1 (by rw [e1]; exact hz), fun q h1 h2 => by rw [e1, hk q (Nat.lt_of_lt_of_le h1 hS.1) h2]; exact hS.2.1 q h1 h2, fun q hq => by
      rcases List.mem_append.mp hq with h | h
      · exact hS.2.2 q h
      · exact hL q h⟩ T' rfl X'
  exact ⟨t2, st t2 a1, b1⟩
theorem pc_blind {av : List Value} {σ : Sg} : FrameBlind (va_Pc av (fun U => Wd G σ U.heap ∧ Wk G U)) := by
  intro a U g mk h
  exact ⟨h.1, h.2.1, h.2.2.calling g mk a⟩
theorem wk_at {s U : State} {H : Heap} {locs : List Loc} (hWk : Wk G s) (hS : va_S (AA G) s.heap H locs) (hU : U.heap = H) (hw : s.WarmedH U.vm) : Wk G U :=
  hWk.next hw.alike hw (fun a ha hn => by rw [hU]; exact hS.2.1 a ha hn)
theorem j_inv (M : Mach l G own cc nL ret fr lo post Φ) {index maxL n fr1 lo1 b : Nat} {C : String} {y : MethodName} {bytes : ByteArray} {rt : Option FieldType} {As rest : List Value} {ps : Option Value → Sg → Prop}
    (lk : LkV own index C y bytes maxL rt n) (hM : Mt l G y bytes maxL rt fr1 lo1 (.ref b :: As) σ ps) (hrv : Recv G σ C b) (d : decode cc pc = .ok (.invokevirtual index, 3)) (hn : As.length = n) (hst : (rest.map fun v => v.category).sum ≤ 8) (hfr : fr1 + 1 ≤ fr ∧ 8 + (maxL + 11) + lo1 ≤ lo)
    (kk : ∀ v σ', ps v σ' → Φ (pc + 3) L (v.toList ++ rest) σ') : Φ pc L (As.reverse ++ .ref b :: rest) σ := by
  obtain ⟨p, e, R, s, m, args, below, meth, cd, cells, slots, Q, ⟨hx, hb, hml, hown, hts⟩, hWk, hRm, hRet, rfl⟩ := M
  intro hnL H locs ls hW hS hl
  obtain ⟨h1, h2, h3, h4, h5, h6⟩ := lk
  obtain ⟨i, ci, fs, T, N, hi, hci⟩ := hrv
  have cb := callB_of (R := R) n hts (tws_good h5) rfl (rm := { frames := fr1, cells := 0, slots := 0, locals := lo1 }) (mc := 0) (ms := 0) rfl rfl (hts _ h4) (hts _ h1) h6 ⟨Nat.le_trans hfr.1 hRm.1, Nat.le_trans hfr.2 hRm.2.1⟩
  refine run_to (va_runV (b := b) (As := As) (C := C) (rest := rest) ⟨hx, hb, hml, hown, hts⟩ hM ⟨cb, hts _ h2, hts _ h3⟩ ⟨pc_blind, va_recv hWk.2.1 hW hci hi, fun U hU hw => ⟨rfl, by rw [hU]; exact hW, wk_at hWk hS hU hw⟩⟩ rfl hn (hl.1.trans hnL) rfl (lv_room hst) d ⟨hRm.2.2.1, hRm.2.2.2⟩) hS (fun v σ' H1 locs1 hp hW1 hS1 => ?_)
  exact kk v σ' hp hnL H1 locs1 ls hW1 hS1 hl
theorem j_invs (M : Mach l G own cc nL ret fr lo post Φ) {index maxL n fr1 lo1 : Nat} {y : MethodName} {bytes : ByteArray} {rt : Option FieldType} {As rest : List Value} {ps : Option Value → Sg → Prop}
    (lk : LkS own index y bytes maxL rt n) (hM : Mt l G y bytes maxL rt fr1 lo1 As σ ps) (d : decode cc pc = .ok (.invokestatic index, 3)) (hn : As.length = n) (hst : (rest.map fun v => v.category).sum ≤ 8) (hfr : fr1 + 1 ≤ fr ∧ 8 + (maxL + 11) + lo1 ≤ lo)
    (kk : ∀ v σ', ps v σ' → Φ (pc + 3) L (v.toList ++ rest) σ') : Φ pc L (As.reverse ++ rest) σ := by
  obtain ⟨p, e, R, s, m, args, below, meth, cd, cells, slots, Q, ⟨hx, hb, hml, hown, hts⟩, hWk, hRm, hRet, rfl⟩ := M
  intro hnL H locs ls hW hS hl
  obtain ⟨h1, h2, h4, h5, h6⟩ := lk
  have cb := callB_of (R := R) n hts (tws_good h5) rfl (rm := { frames := fr1, cells := 0, slots := 0, locals := lo1 }) (mc := 0) (ms := 0) rfl rfl (hts _ h4) (hts _ h1) h6 ⟨Nat.le_trans hfr.1 hRm.1, Nat.le_trans hfr.2 hRm.2.1⟩
  refine run_to (va_runS (As := As) (rest := rest) ⟨hx, hb, hml, hown, hts⟩ hM ⟨cb, hts _ h2⟩ ⟨pc_blind, fun U hU hw => ⟨rfl, by rw [hU]; exact hW, wk_at hWk hS hU hw⟩⟩ rfl hn (hl.1.trans hnL) rfl (lv_room hst) d ⟨hRm.2.2.1, hRm.2.2.2⟩) hS (fun v σ' H1 locs1 hp hW1 hS1 => ?_)
  exact kk v σ' hp hnL H1 locs1 ls hW1 hS1 hl
theorem j_invn (M : Mach l G own cc nL ret fr lo post Φ) {index maxL n fr1 lo1 : Nat} {y : MethodName} {host : String} {bytes : ByteArray} {rt : Option FieldType} {As rest : List Value} {ps : Option Value → Sg → Prop}
    (lk : LkN G own index y host bytes maxL rt n) (hM : Mt l G y bytes maxL rt fr1 lo1 As σ ps) (d : decode cc pc = .ok (.invokestatic index, 3)) (hn : As.length = n) (hst : (rest.map fun v => v.category).sum ≤ 8) (hfr : fr1 + 1 ≤ fr ∧ 8 + (maxL + 11) + lo1 ≤ lo)
    (kk : ∀ v σ', ps v σ' → Φ (pc + 3) L (v.toList ++ rest) σ') : Φ pc L (As.reverse ++ rest) σ := by
  obtain ⟨p, e, R, s, m, args, below, meth, cd, cells, slots, Q, ⟨hx, hb, hml, hown, hts⟩, hWk, hRm, hRet, rfl⟩ := M
  intro hnL H locs ls hW hS hl
  obtain ⟨h1, h2, h4, h5, h6⟩ := lk
  have cb := va_cnB (R := R) n hts (tws_good h5) rfl (rm := { frames := fr1, cells := 0, slots := 0, locals := lo1 }) (mc := 0) (ms := 0) rfl rfl (h1 s hWk) (hts _ h4) h6 ⟨Nat.le_trans hfr.1 hRm.1, Nat.le_trans hfr.2 hRm.2.1⟩
  refine run_to (va_runSN (As := As) (rest := rest) ⟨hx, hb, hml, hown, hts⟩ hM ⟨cb, hts _ h2, trivial⟩ ⟨pc_blind, fun U hU hw => ⟨rfl, by rw [hU]; exact hW, wk_at hWk hS hU hw⟩⟩ rfl hn (hl.1.trans hnL) rfl (lv_room hst) d ⟨hRm.2.2.1, hRm.2.2.2⟩) hS (fun v σ' H1 locs1 hp hW1 hS1 => ?_)
  exact kk v σ' hp hnL H1 locs1 ls hW1 hS1 hl
end Mem
/-! posts, and a method's start -/
def pI (q : Int32 → Sg → Prop) : Option Value → Sg → Prop := fun v σ' => ∃ r, v = some (.int r) ∧ q r σ'
def pL (q : Int64 → Sg → Prop) : Option Value → Sg → Prop := fun v σ' => ∃ r, v = some (.long r) ∧ q r σ'
def pV (q : Sg → Prop) : Option Value → Sg → Prop := fun v σ' => v = none ∧ q σ'
def pR (q : Nat → Sg → Prop) : Option Value → Sg → Prop := fun v σ' => ∃ r, v = some (.ref r) ∧ q r σ'
theorem kI {Φ : Ph} {pc : Nat} {L : List (Option Value)} {rest : List Value} {q : Int32 → Sg → Prop} (h : ∀ r σ', q r σ' → Φ pc L (.int r :: rest) σ') : ∀ v σ', pI q v σ' → Φ pc L (v.toList ++ rest) σ' := by
  rintro v σ' ⟨r, rfl, h'⟩
  exact h r σ' h'
theorem kL {Φ : Ph} {pc : Nat} {L : List (Option Value)} {rest : List Value} {q : Int64 → Sg → Prop} (h : ∀ r σ', q r σ' → Φ pc L (.long r :: rest) σ') : ∀ v σ', pL q v σ' → Φ pc L (v.toList ++ rest) σ' := by
  rintro v σ' ⟨r, rfl, h'⟩
  exact h r σ' h'
theorem kR {Φ : Ph} {pc : Nat} {L : List (Option Value)} {rest : List Value} {q : Nat → Sg → Prop} (h : ∀ r σ', q r σ' → Φ pc L (.ref r :: rest) σ') : ∀ v σ', pR q v σ' → Φ pc L (v.toList ++ rest) σ' := by
  rintro v σ' ⟨r, rfl, h'⟩
  exact h r σ' h'
theorem kV {Φ : Ph} {pc : Nat} {L : List (Option Value)} {rest : List Value} {q : Sg → Prop} (h : ∀ σ', q σ' → Φ pc L rest σ') : ∀ v σ', pV q v σ' → Φ pc L (v.toList ++ rest) σ' := by
  rintro v σ' ⟨rfl, h'⟩
  exact h σ' h'
/-- locals at the start -/
def lenv : List Value → List (Option Value)
  | [] => []
  | v :: r => if v.category = 2 then some v :: none :: lenv r else some v :: lenv r
theorem lenv_at : ∀ (av : List Value) (k i : Nat) (v : Value), (lenv av)[i]? = some (some v) → (k + i, v) ∈ lv_args k av
  | [], k, i, v, h => by simp [lenv] at h
  | a :: r, k, i, v, h => by
    unfold lenv at h
    unfold lv_args
    by_cases hc : a.category = 2
    · rw [if_pos hc] at h ⊢
      match i, h with
      | 0, h => simp at h; subst h; exact List.mem_cons_self
      | 1, h => simp at h
      | i + 2, h =>
        have := lenv_at r (k + 2) i v (by simpa using h)
        rw [show k + (i + 2) = k + 2 + i by omega]
        exact List.mem_cons_of_mem _ this
    · rw [if_neg hc] at h ⊢
      match i, h with
      | 0, h => simp at h; subst h; exact List.mem_cons_self
      | i + 1, h =>
        have := lenv_at r (k + 1) i v (by simpa using h)
        rw [show k + (i + 1) = k + 1 + i by omega]
        exact List.mem_cons_of_mem _ this
theorem lenv_len : ∀ (av : List Value), (lenv av).length = (lg_sl av).length
  | [] => rfl
  | a :: r => by
    have ih := lenv_len r
    unfold lenv
    by_cases hc : a.category = 2
    · rw [if_pos hc]
      simp only [List.length_cons, ih, lg_sl, List.flatMap_cons, hc, if_true, List.length_append, List.length_nil]
      omega
    · rw [if_neg hc]
      simp only [List.length_cons, ih, lg_sl, List.flatMap_cons, hc, if_false, List.length_append, List.length_nil]
      omega
theorem mt_intro {l : Launch} {G : Gw} {y : MethodName} {cc : ByteArray} {nL fr lo : Nat} {ret : Option FieldType} {av : List Value} {σ : Sg} {post : Option Value → Sg → Prop} (hy : plainName y.cls = true) (hlen : (lg_sl av).length ≤ nL)
    (h : ∀ Φ : Ph, Mach l G y.cls cc nL ret fr lo post Φ → Φ 0 (lenv av ++ List.replicate (nL - (lg_sl av).length) none) [] σ) : Mt l G y cc nL ret fr lo av σ post := by
  refine Met.ofW (cc := cc) (maxL := nL) (ret := ret) hy rfl ?_
  intro p e s m args below meth c s₁ B hml hv
  obtain ⟨rfl, hWd, hWk⟩ := hv
  have hx := B.exec
  have hb := B.bytes
  have hr := B.returns
  have hts0 := atoms_spec (ws := .code y cc nL ret :: tws) B.pre
  have hown : s.vm.findClass y.cls = some m.cls := findClass_of_methodNamed B.named
  have hlocks := B.notSynchronized
  have hl := lv_entry av (n := nL) hlen
  rw [lg_entry_eq]
  refine h _ ⟨p, e, (headSpec (.code y cc nL ret :: tws) { frames := fr, cells := 0, slots := 0, locals := lo }).room, s, m, _, below, meth, c, 0, 0, _, ⟨hx, hb, hml, hown, fun w hw => hts0 w (List.mem_cons_of_mem _ hw)⟩, hWk, ⟨Nat.le_refl _, Nat.le_refl _, Nat.le_refl _, Nat.le_refl _⟩, ?_, rfl⟩ ?_ _ _ _ hWd va_S.rf ?_
  · intro pc v σ' hR hp H locs ls hW hS
    have hq : ∀ t : State, t.heap = H → s.WarmedH t.vm → Qv G post av.toArray s (.returned v) t := fun t ht _ => ⟨⟨v, σ', rfl, hp, by rw [ht]; exact hW⟩, hS.F ht⟩
    rcases hR with ⟨hrt, hd, x, rfl⟩ | ⟨hrt, hd, hz⟩ | ⟨hrt, hd, rfl⟩ | ⟨hrt, hd, x, rfl⟩ | ⟨hrt, hd, hz⟩
    · exact W.iret hx hb (hr.trans hrt) hq hS.2.2 hd
    · rcases hz with rfl | rfl
      · exact W.zret hx hb (hr.trans hrt) (by decide) hq hS.2.2 hd
      · exact W.zret hx hb (hr.trans hrt) (by decide) hq hS.2.2 hd
    · exact W.vret hx hb (hr.trans hrt) hq hS.2.2 hd
    · exact W.lret hx hb (hr.trans hrt) hq hS.2.2 hd
    · rcases hz with rfl | ⟨a, rfl⟩
      · exact W.aret hx hb (hr.trans hrt) (Or.inl ⟨_, rfl⟩) (Or.inl rfl) hq hS.2.2 hd
      · exact W.aret hx hb (hr.trans hrt) (Or.inl ⟨_, rfl⟩) (Or.inr ⟨a, rfl⟩) hq hS.2.2 hd
  · rw [List.length_append, lenv_len, List.length_replicate]
    omega
  · refine lx.of hl (by rw [List.length_append, lenv_len, List.length_replicate]; omega) (fun i v hi => ?_)
    rw [List.getElem?_append] at hi
    split at hi
    · have := lenv_at av 0 i v hi
      simpa using this
    · rw [List.getElem?_replicate] at hi
      split at hi <;> simp at hi
