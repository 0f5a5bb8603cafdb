/-! THE CLAIM OUT OF ONE WALK OF THE LAW'S BODY. Your part is whole_start (and what it stands on); all else here is the same for every law, but numbers. -/
def R_law : String := "FishReadersLaw"
def lw_P (b : Addr) (xs : List Int32) (args : Array Value) (s : State) : Prop := args = #[.ref b] ∧ s.IntsAt b xs ∧ xs.length ≤ 448 ∧ (Jvm.Cond.and given_1 narrow_1).before args s = true
def lw_Q (_ : Array Value) (s : State) (o : Outcome) (t : State) : Prop := o = .returned (some (.int 1)) ∧ Framed s o t [] 600000 7302250
def lw_Z (below : List Frame) (a : Array Value) (s : State) : State → Prop := fun t => ∃ o, t.status = .running ∧ Ended t below o ∧ lw_Q a s o t
/-- the law's own end, with 1 on the stack, nothing written that was there before, its room as the claim has it -/
theorem lw_ret {p : Program} {l : Launch} {e : Env} {s : State} {m : MethodId} {below : List Frame} {meth : Method} {c : Code} {b : Nat} (hx : p.tables.exec = Jvm.exec) (hb : c.code = code) (hr : meth.sig.returnType = ret) (hlocks : meth.locks = false) {pc : Nat} {H : Heap} {ls : Array Slot} (hdg : decode code pc = .ok (.ireturn, 1)) : W p l e room_1 s m #[Value.ref b] below meth c H [] 600000 7302250 (lw_Z below #[Value.ref b] s) (F0 m pc ls [.int 1]) := by
  intro T hT X
  obtain ⟨fs, hret, hrun, hended, hW, hframe⟩ := X.leave (v := some (.int 1)) (hlocks := hlocks) (fun h => by rw [hr] at h; cases h)
  have hmeth' : T.vm.method? m = some meth := X.method'
  refine ⟨T.setFrames fs, ?_, .returned (some (.int 1)), hrun, hended, rfl, ⟨_, rfl⟩, hW, hframe⟩
  jvm_step X.here [X.here.top, hx, hb, hdg, hmeth', hr, ret, narrow_b1]
  (try refine ⟨rfl, ?_⟩); (try refine ⟨rfl, ?_⟩)
  first | (intro acts; rw [hret _ acts rfl rfl rfl]) | rw [hret _ _ rfl rfl rfl]
  exact Steps.refl _
/-- what holds at the law's entry: the machine, the code, the tables' words (any of lw_tbl by 'hts w (by decide +kernel)'), the script of L ints xs at the cell b, what the Statement gives of the start (any of its parts by flat_of_before) -/
def lw_At (p : Program) (s : State) (m : MethodId) (meth : Method) (c : Code) (b L : Nat) (xs : Nat → Int32) : Prop :=
  p.tables.exec = Jvm.exec ∧ c.code = code ∧ meth.sig.returnType = ret ∧ c.maxLocals = 4 ∧ s.vm.findClass R_law = some m.cls ∧ (∀ w ∈ lw_tbl, w.before #[Value.ref b] s = true) ∧ va_X b L xs s s.heap ∧ b < s.heap.size ∧ meth.locks = false ∧ (Jvm.Cond.and given_1 narrow_1).before #[Value.ref b] s = true
-- ===== YOUR PART BEGINS =====
set_option maxRecDepth 100000 in
/-- YOUR PART: from the entry, for every script of at most 448 ints, the law comes to its end with true -/
theorem whole_start {p : Program} {e : Env} {s : State} {m : MethodId} {below : List Frame} {meth : Method} {c : Code} (l : Launch) (hflags : l.flags = flags0) {b L : Nat} {xs : Nat → Int32} (hL : L ≤ 448) (C0 : lw_At p s m meth c b L xs) : W p l e room_1 s m #[Value.ref b] below meth c s.heap [] 0 0 (lw_Z below #[Value.ref b] s) (entryFrame m ([Value.ref b] : List Value).toArray 4) := by
  obtain ⟨hx, hb, hr, hml, hown, hts0, hX, hbl, hlocks, hgv⟩ := C0
  have hts : ∀ w ∈ tws, w.before #[Value.ref b] s = true := fun w hw => hts0 w (List.mem_filter.mp hw).1
  have hao : va_AO RX3 s := va_AO.of (A := #[Value.ref b]) (hts0 _ (List.mem_of_getElem? (i := 227) (by decide +kernel)))
  obtain ⟨D, cI, cZ, cL, hK⟩ := kn_all hts hao
  obtain ⟨t, hZ, hT⟩ := bk_start (hts0 _ (List.mem_of_getElem? (i := 817) (by decide +kernel))) hts hgv
  rw [lg_entry_eq]
  generalize hQ : lw_Z below #[Value.ref b] s = Q0
  have M : MachC l D [(cI, .int), (cZ, .boolean), (cL, .object RX3)] RL code 4 10 400 600000 7302250 (fun q => s.heap.size ≤ q) False (fun _ => False) (fun pc L st σ => L.length = 4 → σ.1 ≤ 600000 → σ.2.1 ≤ 7302250 → ∀ (H : Heap) (locs : List Loc) (ls : Array Slot), va_P D vwCl σ.2.2 H → va_D (fun q => s.heap.size ≤ q) σ.2.2 → va_S (fun q => s.heap.size ≤ q) s.heap H locs → lx ls L → W p l e room_1 s m #[Value.ref b] below meth c H locs σ.1 σ.2.1 Q0 (F0 m pc ls st)) := ⟨p, e, room_1, s, m, #[Value.ref b], below, meth, c, Q0, ⟨hx, hb, hml, hown, hts⟩, False.elim, hao, hK, fun q h => h, ⟨Nat.le_of_ble_eq_true rfl, Nat.le_of_ble_eq_true rfl, Nat.le_of_ble_eq_true rfl, Nat.le_of_ble_eq_true rfl⟩, fun _ _ _ hp => hp.elim, rfl⟩
  have key : ∀ {Φ : Ph2}, MachC l D [(cI, .int), (cZ, .boolean), (cL, .object RX3)] RL code 4 10 400 600000 7302250 (fun q => s.heap.size ≤ q) False (fun _ => False) Φ → (∀ (b6 : Nat → Nat → Nat) (a7 : Nat → Nat), Φ 18 [some (.ref b), some (.ref (b6 0 0)), some (.ref (a7 0)), some (.int 0)] [] ((291, 4026, W0 cI cZ cL b6 a7) : Cw)) → Φ 0 [some (.ref b), none, none, none] [] ((0, 0, []) : Cw) := by
    clear M
    intro Φ M kk
    refine g_new M (ci := 6) (ty0 := tyX6) (fs := [.null, .null, .null, .null, .null, .null, .null, .null, .null, .int 0]) rfl hin_X6 tyX6_ok (tws_of (by decide +kernel) (by decide +kernel)) (tws_of (List.mem_of_getElem? (i := 81) (by decide +kernel)) (by decide +kernel)) in_X6 df_X6 (Nat.le_of_ble_eq_true rfl) (Nat.le_of_ble_eq_true rfl) dL_law_0 (fun q6 => ?_)
    refine g_dup M dL_law_3 rfl ?_
    refine g_ctor M ct_X6 (X := []) rfl (tws_of (List.mem_of_getElem? (i := 82) (by decide +kernel)) (by decide +kernel)) (tws_of (List.mem_of_getElem? (i := 83) (by decide +kernel)) (by decide +kernel)) in_X6 (tws_of (List.mem_of_getElem? (i := 84) (by decide +kernel)) (by decide +kernel)) rfl (by decide +kernel) ⟨Nat.le_of_ble_eq_true rfl, Nat.le_of_ble_eq_true rfl⟩ (Nat.le_of_ble_eq_true rfl) (Nat.le_of_ble_eq_true rfl) (Nat.le_of_ble_eq_true rfl) dL_law_4 (fun b6 e6 => ?_)
    refine g_astore_1 M dL_law_7 (by exact (by first | trivial | rfl)) ?_
    show Φ 8 [some (.ref b), some (.ref q6), none, none] [] ((275, 2280, grp_X6 cI cL b6) : Cw)
    refine g_new M (ci := 7) (ty0 := tyX7) (fs := [.null, .null, .null, .int 0, .int 0, .null, .null, .null, .int 0, .int 0, .int 0, .int 0, .int 0, .int 0, .int 0, .null, .null, .null, .int 0, .null, .null, .null, .null, .null, .null, .int 0]) rfl hin_X7 tyX7_ok (tws_of (by decide +kernel) (by decide +kernel)) (tws_of (List.mem_of_getElem? (i := 878) (by decide +kernel)) (by decide +kernel)) in_X7 df_X7 (Nat.le_of_ble_eq_true rfl) (Nat.le_of_ble_eq_true rfl) dL_law_8 (fun q7 => ?_)
    refine g_dup M dL_law_11 rfl ?_
    refine g_ctor M ct_X7 (X := grp_X6 cI cL b6) rfl (tws_of (List.mem_of_getElem? (i := 879) (by decide +kernel)) (by decide +kernel)) (tws_of (List.mem_of_getElem? (i := 880) (by decide +kernel)) (by decide +kernel)) in_X7 (tws_of (List.mem_of_getElem? (i := 881) (by decide +kernel)) (by decide +kernel)) rfl (by decide +kernel) ⟨Nat.le_of_ble_eq_true rfl, Nat.le_of_ble_eq_true rfl⟩ (Nat.le_of_ble_eq_true rfl) (Nat.le_of_ble_eq_true rfl) (Nat.le_of_ble_eq_true rfl) dL_law_12 (fun a7 e7 => ?_)
    refine g_astore_2 M dL_law_15 (by exact (by first | trivial | rfl)) ?_
    refine g_iconst (v := 0) M dL_law_16 rfl ?_
    refine g_istore_3 M dL_law_17 (by exact (by first | trivial | rfl)) ?_
    have e6' : b6 0 0 = q6 := e6
    have e7' : a7 0 = q7 := e7
    subst e6'
    subst e7'
    exact kk b6 a7
  have start := key M (fun b6 a7 => ?_)
  · have hP0 : va_P D vwCl [] s.heap := fun k q h => by simp at h
    have hD0 : va_D (fun q => s.heap.size ≤ q) [] := ⟨fun i j x y h _ _ => by simp at h, fun k q h => by simp at h⟩
    refine start rfl (Nat.zero_le _) (Nat.zero_le _) s.heap [] _ hP0 hD0 va_S.rf ?_
    exact lx.of (lv_entry ([.ref b]) (n := 4) (by show (1 : Nat) ≤ 4; decide)) rfl (fun i v hi => by
      match i, hi with
      | 0, hi => cases hi; exact List.mem_cons_self
      | 1, hi => cases hi
      | 2, hi => cases hi
      | 3, hi => cases hi
      | i + 4, hi => cases hi)
  · intro hn hc hs H locs ls hP hD hS hl
    have hAA := AA0 (D := D) (t := t) hD
    have hinj : Ginj (G0 D cI cZ cL b6 a7 t) := inj0 hD
    have hW : Wd (G0 D cI cZ cL b6 a7 t) s0 H := wd0 hP
    have hWk : Wk (G0 D cI cZ cL b6 a7 t) s := ⟨hinj, hK, hZ.narrow hAA, hT.narrow hAA, va_Nw.of rfl (hts0 _ (List.mem_of_getElem? (i := 773) (by decide +kernel))), va_Nw.of rfl (hts0 _ (List.mem_of_getElem? (i := 830) (by decide +kernel))), va_Nw.of rfl (hts0 _ (List.mem_of_getElem? (i := 251) (by decide +kernel)))⟩
    refine va_forget (fun q hq => hS.2.2 q hq) ?_
    refine W.widen (k := 600000) (n := 7302250) hc hs ?_
    have MX : MachX l (G0 D cI cZ cL b6 a7 t) 8 198 (fun v _ => v = some (.int 1)) (fun pc L st σ => L.length = 4 → ∀ (H : Heap) (locs : List Loc) (ls : Array Slot), Wd (G0 D cI cZ cL b6 a7 t) σ H → va_S (AA (G0 D cI cZ cL b6 a7 t)) s.heap H locs → lx ls L → W p l e room_1 s m #[Value.ref b] below meth c H locs 600000 7302250 Q0 (F0 m pc ls st)) b L xs := by
      refine ⟨p, e, room_1, s, m, #[Value.ref b], below, meth, c, 600000, 7302250, Q0, ⟨hx, hb, hml, hown, hts⟩, hWk, ⟨Nat.le_of_ble_eq_true rfl, Nat.le_of_ble_eq_true rfl, Nat.le_refl _, Nat.le_refl _⟩, ?_, rfl, hX, hbl, fun h => absurd hbl (Nat.not_lt.mpr (hAA b h))⟩
      intro pc v σ hret hv H1 locs1 ls1 _ hS1
      refine va_forget (fun q hq => hAA _ (hS1.2.2 q hq)) ?_
      have hv' : v = some (.int 1) := hv
      subst hv'
      have hd : decode code pc = .ok (.ireturn, 1) := by
        rcases hret with h | h | h | h | h
        · exact h.2.1
        · exact h.2.1
        · cases h.1
        · cases h.1
        · cases h.1
      rw [← hQ]
      exact lw_ret hx hb hr hlocks hd
    have hS' : va_S (AA (G0 D cI cZ cL b6 a7 t)) s.heap H [] := ⟨hS.1, fun q h1 _ => hS.2.1 q h1 (Nat.not_le.mpr h1), fun l h => by cases h⟩
    exact lw_loop MX hL 0 (Nat.zero_le _) s0 rel0 rfl H [] ls hW hS' hl
-- ===== YOUR PART ENDS =====
set_option maxHeartbeats 4000000 in
theorem lw_walk (l : Launch) (hflags : l.flags = flags0) (b : Addr) (xs : List Int32) : MetFree l x (headSpec (Jvm.Cond.code x code maxLocals ret :: tables_1) room_1) (lw_P b xs) (fun _ _ _ _ _ => True) lw_Q := by
  refine MetFree.of_bodyS (code := code) (maxLocals := maxLocals) (ret := ret) (by decide) ?_ ?_
  · intro args s m h hn
    obtain ⟨meth, c, h1, h2, h3, h4, h5, h6, -, -⟩ := Cond.code_spec hn (atoms_spec (ws := Jvm.Cond.code x code maxLocals ret :: tables_1) h _ List.mem_cons_self)
    exact ⟨meth, c, h1, h2, h3, h4, h5, h6⟩
  · intro p e s m args below meth c s₁ B hml0 hP _
    obtain ⟨rfl, hx, hbd, hgv⟩ := hP
    obtain ⟨scr, harrAt, hlist, hof, hsmall⟩ := hx
    obtain ⟨hcb, hkn, -, -⟩ := State.arrayAt?_spec harrAt
    have hown : s.vm.findClass R_law = some m.cls := findClass_of_methodNamed B.named
    have hts0 : ∀ c ∈ (Jvm.Cond.code x code maxLocals ret :: tables_1), c.before #[Value.ref b] s = true := atoms_spec (ws := Jvm.Cond.code x code maxLocals ret :: tables_1) B.pre
    have hts : ∀ w ∈ lw_tbl, w.before #[Value.ref b] s = true := k2_hts_sels lw_privs (fun w hw => hts0 w (List.mem_cons_of_mem _ hw)) lw_privs_ok
    have hml : c.maxLocals = 4 := B.maxLocals_eq (hts0 _ List.mem_cons_self)
    have X₀ : Stand p l e room_1 s m #[Value.ref b] below meth c s₁ [] 0 0 := Stand.of_body B
    have hh0 : s₁.heap = s.heap := by rw [B.state]; rfl
    have hsz : scr.slots.size = xs.length := by rw [← Array.length_toList, hlist, List.length_map]
    have hval : ∀ j : Nat, j < xs.length → scr.slots[j]? = some (.int (xs.getD j 0)) := fun j hj => by
      rw [← Array.getElem?_toList, hlist]
      simp [hj]
    have hbl : b < s.heap.size := (Array.getElem?_eq_some_iff.mp hcb).1
    have hX : va_X b xs.length (fun j => xs.getD j 0) s s.heap := ⟨scr, hcb, hof, hkn, hsz, hval⟩
    have K : W p l e room_1 s m #[Value.ref b] below meth c s₁.heap [] 0 0 (lw_Z below #[Value.ref b] s) (entryFrame m ([Value.ref b] : List Value).toArray 4) := by
      rw [hh0]
      exact whole_start l hflags hbd ⟨B.exec, B.bytes, B.returns, hml, hown, hts, hX, hbl, B.notSynchronized, hgv⟩
    obtain ⟨t, a1, o, b1, b2, b3⟩ := K s₁ rfl X₀
    exact ⟨t, o, a1, b1, b2, b3⟩
theorem lw_pre_spec {args : Array Value} {s : State} (h : (Jvm.Cond.and given_1 narrow_1).before args s = true) (hr : rest_1_c.before args s = true) : ∃ (b : Addr) (xs : List Int32), lw_P b xs args s := by
  have hs := flat_of_before _ h
  have hq := flat_of_before _ hr
  have hc : (Cond.count 1).before args s = true := hs _ (by decide +kernel)
  have harr : (Cond.arrayOf (.arg 0) .int).before args s = true := hs _ (by decide +kernel)
  have hle : (Cond.le (.length (.arg 0)) (.int 448)).before args s = true := hs _ (by decide +kernel)
  have hlen : (Cond.isInt (.length (.arg 0))).before args s = true := hq _ (by decide +kernel)
  have hall : (Cond.all (.arg 0) (.isInt (.elem (.arg 0) (.index 0)))).before args s = true := hq _ (by decide +kernel)
  obtain ⟨b, xs, hb, hx⟩ := State.ints_of_pre rfl harr hlen hall
  have hsm : xs.length < 2 ^ 31 := hx.choose_spec.2.2.2
  have hev : (Term.length (.arg 0)).eval args s none [] s = some (.int xs.length.toInt32) := hx.length_eval hb
  have hv := Cond.le_ints hev (show (Term.int 448).eval args s none [] s = some (.int 448) from rfl)
  have hd : xs.length.toInt32 ≤ 448 := by
    simpa [Cond.before, Cond.holds, hv] using hle
  have hN : xs.length ≤ 448 := (Int32.ofNat_le_ofNat hsm (by decide)).mp (show Int32.ofNat xs.length ≤ Int32.ofNat 448 from hd)
  exact ⟨b, xs, Cond.one_arg hc (show args[0]? = some (.ref b) from hb), hx, hN, h⟩
theorem lw_comes (l : Launch) (hflags : l.flags = flags0) : Comes l x (Jvm.Cond.code x code maxLocals ret :: tables_1) room_1 (fun tb e args s => Calls_1 tb e args s ∧ rest_1 tb e args s ∧ Pre_1 tb e args s)
    (fun _ _ args s o t => lw_Q args s o t) := by
  intro p e ha hc hk s m args below hf hfit hheap happ hpre
  obtain ⟨b, xs, hP⟩ := lw_pre_spec hpre.2.2 hpre.2.1
  obtain ⟨k, o, h1, h2, h3, hQ⟩ := lw_walk l hflags b xs p e ha hc hk s m args below hf ((Spec.applies_iff_loose hf).mp happ).1 hP trivial
  exact ⟨k, o, h1, h2, h3, hQ⟩
theorem lw_frame {s t : State} {o : Outcome} {args : Array Value} (h : Framed s o t [] 600000 7302250) :
    Framed s o t (fieldLocs frame_1_writes args s ++ arrayLocs frame_1_arrays args s ++ staticLocs frame_1_statics s) 600000 7302250 := h
theorem lw_limb (L : Cond) (hL : ∀ (args : Array Value) (s t : State), L.after args s (.returned (some (.int 1))) t = true) :
    ArmFor flags0 classFile x code maxLocals ret World_1 tables_1 room_1 Calls_1 rest_1 Pre_1
      (fun tb e a s o t => postC L tb e a s o t ∧ Framed s o t (fieldLocs frame_1_writes a s ++ arrayLocs frame_1_arrays a s ++ staticLocs frame_1_statics s) 600000 7302250) := by
  intro l hflags _ _ p e ha hc hk s m args below hf hfit hheap happ hpre
  obtain ⟨k, o, h1, h2, h3, rfl, hF⟩ := lw_comes l hflags p e ha hc hk s m args below hf hfit hheap happ hpre
  exact ⟨k, _, h1, h2, h3, hL args s _, lw_frame hF⟩
theorem i_vc : Claimed_1_1 ∧ Claimed_1_2 := ⟨lw_limb limb_1_1 (fun args s t => by simp [limb_1_1, Cond.after, Cond.holds, Cond.value]), lw_limb limb_1_2 (fun args s t => Cond.after_iff.mpr (by
  first | (rw [show limb_1_2 = Cond.eq .result (.int 1) from rfl, Cond.eq_ints (x := 1) (y := 1) rfl rfl]; simp; done) | (simp [limb_1_2, Cond.value, Term.eval]; done)))⟩
