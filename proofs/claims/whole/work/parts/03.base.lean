/-! THE LAYER: the whole world as one function, and a judgement that hides the machine -/
abbrev Sg : Type := Nat → Nat → Int32 → Int32
abbrev Gw : Type := va_G × (ClassId × ClassId × ClassId) × (Nat → Nat → Nat) × Nat
def ad (G : Gw) (c k : Nat) : Nat := G.2.2.1 c k
def bkA (G : Gw) : Nat := G.2.2.2
def ofF (f : Int32 → Int32) (j : Nat) : Int32 := if j < 2147483648 then f (nI j) else 0
def iarr (G : Gw) (n : Nat) (f : Int32 → Int32) : va_E := .inl (G.2.1.1, n, .inl (ofF f))
def zarr (G : Gw) (n : Nat) (f : Int32 → Int32) : va_E := .inl (G.2.1.2.1, n, .inl (ofF f))
def larr (G : Gw) (n c : Nat) : va_E := .inl (G.2.1.2.2, n, .inr (.inr (.inr (.inr (fun j => some (ad G (c + j) 0))))))
def isLib (c : Nat) : Prop := 6 ≤ c ∧ c < 35
def celL (G : Gw) (c k : Nat) (f : Int32 → Int32) : va_E := match k with
  | 0 => .inr (3, [.int (f 0), .int (f 1), .int (f 2), .int (f 3), .int (f 4), .int (f 5), .int (f 6), .int (f 7), .ref (ad G c 1), .ref (ad G c 2), .ref (ad G c 3), .ref (ad G c 4), .ref (ad G c 5), .ref (ad G c 6), .ref (ad G c 7), .ref (ad G c 8)])
  | 1 => iarr G 6 f
  | 2 => iarr G 6 f
  | 3 => iarr G 6 f
  | 4 => iarr G 6 f
  | _ => iarr G 5 f
def celM (G : Gw) (k : Nat) (f : Int32 → Int32) : va_E := match k with
  | 0 => .inr (7, [.ref (ad G 40 1), .ref (ad G 40 2), .ref (ad G 40 3), .int (f 3), .int (f 4), .ref (ad G 40 4), .ref (ad G 40 5), .ref (ad G 40 6), .int (f 8), .int (f 9), .int (f 10), .int (f 11), .int (f 12), .int (f 13), .int (f 14), .ref (ad G 40 7), .ref (ad G 40 8), .ref (ad G 40 9), .int (f 18), .ref (ad G 40 10), .ref (ad G 40 11), .ref (ad G 40 12), .ref (ad G 40 13), .ref (ad G 40 14), .ref (ad G 40 15), .int (f 25)])
  | 1 => iarr G 8 f
  | 2 => iarr G 8 f
  | 3 => iarr G 320 f
  | 4 => iarr G 41 f
  | 5 => iarr G 40 f
  | 6 => iarr G 120 f
  | 7 => iarr G 41 f
  | 8 => iarr G 5 f
  | 9 => iarr G 984 f
  | 10 => iarr G 41 f
  | 11 => iarr G 6 f
  | 12 => iarr G 6 f
  | 13 => zarr G 2 f
  | 14 => iarr G 82 f
  | 15 => iarr G 16 f
  | _ => iarr G 0 f
def cel (G : Gw) (c k : Nat) (f : Int32 → Int32) : va_E := match c with
  | 0 => .inr (6, [.ref (ad G 1 0), .ref (ad G 2 0), .ref (ad G 6 0), .ref (ad G 7 0), .ref (ad G 8 0), .ref (ad G 9 0), .ref (ad G 3 0), .ref (ad G 5 0), .ref (ad G 4 0), .int (f 9)])
  | 1 => match k with
    | 0 => .inr (4, [.ref (ad G 1 1), .ref (ad G 1 2), .ref (ad G 1 3), .int (f 3), .int (f 4)])
    | 1 => iarr G 8 f
    | 2 => iarr G 8 f
    | _ => iarr G 320 f
  | 2 => match k with
    | 0 => .inr (5, [.ref (ad G 2 1), .int (f 1), .int (f 2), .int (f 3), .int (f 4)])
    | _ => iarr G 120 f
  | 3 => match k with
    | 0 => .inr (0, [.ref (ad G 3 1), .int (f 1), .int (f 2)])
    | _ => larr G 24 11
  | 4 => match k with
    | 0 => .inr (1, [.ref (ad G 4 1), .int (f 1), .int (f 2), .int (f 3), .int (f 4), .int (f 5)])
    | _ => iarr G 16 f
  | 5 => match k with
    | 0 => .inr (2, [.ref (ad G 10 0), .ref (ad G 5 1), .ref (ad G 5 2)])
    | _ => iarr G 6 f
  | c + 6 => if c < 29 then celL G (c + 6) k f else celM G k f
def vld (c k : Nat) : Bool := match c with
  | 0 => k == 0
  | 1 => decide (k < 4)
  | 2 => decide (k < 2)
  | 3 => decide (k < 2)
  | 4 => decide (k < 2)
  | 5 => decide (k < 3)
  | c + 6 => if c < 29 then decide (k < 9) else decide (c + 6 = 40) && decide (k < 16)
def prs : List (Nat × Nat) := (List.range 41).flatMap fun c => ((List.range 16).filter fun k => vld c k).map fun k => (c, k)
theorem prs_mem {c k : Nat} (h : vld c k = true) : (c, k) ∈ prs := by
  have hb : c < 41 ∧ k < 16 := by
    unfold vld at h
    split at h <;> (try simp at h) <;> try omega
    split at h <;> (try simp at h) <;> omega
  simp only [prs, List.mem_flatMap, List.mem_range, List.mem_map, List.mem_filter]
  exact ⟨c, hb.1, k, ⟨hb.2, h⟩, rfl⟩
theorem prs_vld {c k : Nat} (h : (c, k) ∈ prs) : vld c k = true := by
  simp only [prs, List.mem_flatMap, List.mem_range, List.mem_map, List.mem_filter] at h
  obtain ⟨a, -, b, ⟨-, h⟩, e⟩ := h
  cases e
  exact h
theorem prs_nodup : prs.Nodup := by decide +kernel
def wl (G : Gw) (σ : Sg) : va_W := prs.map fun q => (ad G q.1 q.2, cel G q.1 q.2 (σ q.1 q.2))
def Wd (G : Gw) (σ : Sg) (H : Heap) : Prop := va_P G.1 vwCl (wl G σ) H
def Ginj (G : Gw) : Prop := ∀ c k c' k', vld c k = true → vld c' k' = true → ad G c k = ad G c' k' → c = c' ∧ k = k'
def AA (G : Gw) : Nat → Prop := fun q => ∃ c k, vld c k = true ∧ q = ad G c k
abbrev gtys (G : Gw) : List (ClassId × FieldType) := [(G.2.1.1, .int), (G.2.1.2.1, .boolean), (G.2.1.2.2, .object RX3)]
def bkf (j : Nat) : Value := match j with
  | 0 => .int (-1000000)
  | 1 => .int 0
  | 2 => .int 1
  | 3 => .int 1
  | 4 => .int 0
  | _ => .int 4
/-- what does not change: classes, addresses, the static array -/
def Wk (G : Gw) (U : State) : Prop := Ginj G ∧ va_K G.1 vwCl (gtys G) U ∧ va_Z RX6 "BROADER_KIND" "[I" (.ref (bkA G)) (AA G) U U.heap ∧ va_T .int (bkA G) 6 bkf (AA G) U U.heap ∧
  va_Nw (.methodLinkNest RX2 123 yX6_power RX6) U ∧ va_Nw (.methodLinkNest RX1 32 yX6_isKind RX6) U ∧ va_Nw (.fieldLinkNest RX6 244 RX2 "best" "[I" RX6) U
theorem Wk.next {G : Gw} {U V : State} (h : Wk G U) (hvm : U.vm.Alike V.vm) (hw : U.WarmedH V.vm) (hq : ∀ a : Nat, a < U.heap.size → ¬ AA G a → V.heap[a]? = U.heap[a]?) : Wk G V :=
  ⟨h.1, h.2.1.moved hvm, (h.2.2.1.moved hvm).kept hq, (h.2.2.2.1.moved hvm).kept hq, va_Nw.warmM hw h.2.2.2.2.1, va_Nw.warmM hw h.2.2.2.2.2.1, va_Nw.warmF hw h.2.2.2.2.2.2⟩
theorem prs_inj {i j : Nat} {q : Nat × Nat} (hi : prs[i]? = some q) (hj : prs[j]? = some q) : i = j := List.getElem?_inj (List.getElem?_eq_some_iff.mp hi).1 prs_nodup |>.mp (hi.trans hj.symm)
theorem wl_at {G : Gw} {σ : Sg} {c k : Nat} (h : vld c k = true) : ∃ i : Nat, prs[i]? = some (c, k) ∧ (wl G σ)[i]? = some (ad G c k, cel G c k (σ c k)) := by
  obtain ⟨i, hi⟩ := List.getElem?_of_mem (prs_mem h)
  exact ⟨i, hi, by simp [wl, hi]⟩
theorem wl_D {G : Gw} (hG : Ginj G) (σ : Sg) : va_D (AA G) (wl G σ) := by
  refine ⟨fun i j p q hp hq h => ?_, fun k q hk => ?_⟩
  · simp only [wl, List.getElem?_map, Option.map_eq_some_iff] at hp hq
    obtain ⟨a, ha, rfl⟩ := hp
    obtain ⟨b, hb, rfl⟩ := hq
    have := hG a.1 a.2 b.1 b.2 (prs_vld (List.mem_of_getElem? ha)) (prs_vld (List.mem_of_getElem? hb)) h
    have hab : a = b := Prod.ext this.1 this.2
    subst hab
    exact prs_inj ha hb
  · simp only [wl, List.getElem?_map, Option.map_eq_some_iff] at hk
    obtain ⟨a, ha, rfl⟩ := hk
    exact ⟨a.1, a.2, prs_vld (List.mem_of_getElem? ha), rfl⟩
def up (σ : Sg) (c k : Nat) (f : Int32 → Int32) : Sg := fun a b => if a = c ∧ b = k then f else σ a b
def upI (f : Int32 → Int32) (i v : Int32) : Int32 → Int32 := fun j => if j = i then v else f j
theorem up_same (σ : Sg) (c k : Nat) (f : Int32 → Int32) : up σ c k f c k = f := by simp [up]
theorem up_ne (σ : Sg) {c k a b : Nat} (f : Int32 → Int32) (h : ¬ (a = c ∧ b = k)) : up σ c k f a b = σ a b := by simp [up, h]
theorem up_up (σ : Sg) (c k : Nat) (f g : Int32 → Int32) : up (up σ c k f) c k g = up σ c k g := by
  funext a b
  simp only [up]
  split <;> rfl
theorem upI_same (f : Int32 → Int32) (i v : Int32) : upI f i v i = v := by simp [upI]
theorem upI_ne (f : Int32 → Int32) {i j : Int32} (v : Int32) (h : j ≠ i) : upI f i v j = f j := by simp [upI, h]
theorem wl_set {G : Gw} {σ : Sg} {c k i : Nat} {f : Int32 → Int32} (hi : prs[i]? = some (c, k)) : (wl G σ).set i (ad G c k, cel G c k f) = wl G (up σ c k f) := by
  apply List.ext_getElem?
  intro j
  simp only [wl, List.getElem?_set, List.getElem?_map, List.length_map]
  by_cases h : i = j
  · subst h
    have hl := (List.getElem?_eq_some_iff.mp hi).1
    simp only [hi, hl, if_true, Option.map_some, up_same]
  · simp only [h, if_false]
    cases hj : prs[j]? with
    | none => rfl
    | some q =>
      simp only [Option.map_some]
      rw [up_ne]
      rintro ⟨h1, h2⟩
      apply h
      have e : q = (c, k) := Prod.ext h1 h2
      subst e
      exact prs_inj hi hj
/-! locals -/
def enL : Nat → List (Option Value) → List (Nat × Value)
  | _, [] => []
  | k, none :: r => enL (k + 1) r
  | k, some v :: r => (k, v) :: enL (k + 1) r
theorem enL_mem : ∀ (L : List (Option Value)) (k : Nat) (q : Nat × Value), q ∈ enL k L ↔ ∃ i, q.1 = k + i ∧ L[i]? = some (some q.2)
  | [], k, q => by simp [enL]
  | none :: r, k, q => by
    rw [enL, enL_mem r (k + 1) q]
    constructor
    · rintro ⟨i, h1, h2⟩
      exact ⟨i + 1, by omega, by simpa using h2⟩
    · rintro ⟨i, h1, h2⟩
      cases i with
      | zero => simp at h2
      | succ i => exact ⟨i, by omega, by simpa using h2⟩
  | some v :: r, k, q => by
    rw [enL, List.mem_cons, enL_mem r (k + 1) q]
    constructor
    · rintro (h | ⟨i, h1, h2⟩)
      · subst h
        exact ⟨0, rfl, rfl⟩
      · exact ⟨i + 1, by omega, by simpa using h2⟩
    · rintro ⟨i, h1, h2⟩
      cases i with
      | zero =>
        left
        simp at h2
        exact Prod.ext h1 h2.symm
      | succ i => exact Or.inr ⟨i, by omega, by simpa using h2⟩
def lx (ls : Array Slot) (L : List (Option Value)) : Prop := ls.size = L.length ∧ lv_wf ls ∧ ∀ (i : Nat) (v : Value), L[i]? = some (some v) → ls[i]? = some (.val v)
theorem lx.has {ls : Array Slot} {L : List (Option Value)} (h : lx ls L) : lv_has ls L.length (enL 0 L) := by
  refine ⟨h.1, h.2.1, fun q hq => ?_⟩
  obtain ⟨i, h1, h2⟩ := (enL_mem L 0 q).mp hq
  rw [show q.1 = i by omega]
  exact h.2.2 i _ h2
theorem lx.of {ls : Array Slot} {n : Nat} {lv : List (Nat × Value)} {L : List (Option Value)} (h : lv_has ls n lv) (hn : L.length = n) (hm : ∀ (i : Nat) (v : Value), L[i]? = some (some v) → (i, v) ∈ lv) : lx ls L :=
  ⟨h.1.trans hn.symm, h.2.1, fun i v hi => h.2.2 (i, v) (hm i v hi)⟩
theorem lx.sub {ls : Array Slot} {L L' : List (Option Value)} (h : lx ls L) (hn : L'.length = L.length) (hm : ∀ (i : Nat) (v : Value), L'[i]? = some (some v) → L[i]? = some (some v)) : lx ls L' :=
  ⟨h.1.trans hn.symm, h.2.1, fun i v hi => h.2.2 i v (hm i v hi)⟩
def noLong (o : Option Value) : Prop := match o with
  | some v => v.category = 1
  | none => True
def okPrev (L : List (Option Value)) (i : Nat) : Prop := match i with
  | 0 => True
  | i + 1 => ∀ o, L[i]? = some o → noLong o
theorem lx_st1 {L : List (Option Value)} {i : Nat} {v : Value} {lv' : List (Nat × Value)} (hp : okPrev L i) (hl : (i, v) :: (enL 0 L).filter (fun q => !(q.1 == i) && !(q.1 + 1 == i && q.2.category == 2)) = lv') {ls : Array Slot} (h : lv_has ls L.length lv') : lx ls (L.set i (some v)) := by
  refine lx.of h (by simp) (fun j w hj => ?_)
  subst hl
  rw [List.getElem?_set] at hj
  by_cases hij : i = j
  · subst hij
    simp only [if_true] at hj
    split at hj
    · cases hj
      exact List.mem_cons_self
    · cases hj
  · rw [if_neg hij] at hj
    refine List.mem_cons_of_mem _ (List.mem_filter.mpr ⟨(enL_mem L 0 _).mpr ⟨j, by simp, hj⟩, ?_⟩)
    have h1 : (j == i) = false := by simpa using fun e => hij e.symm
    have h2 : (j + 1 == i && w.category == 2) = false := by
      by_cases e : j + 1 = i
      · subst e
        have := hp _ hj
        simp only [noLong] at this
        simp [this]
      · simp [e]
    simp [h1, h2]
theorem lx_st2 {L : List (Option Value)} {i : Nat} {v : Value} {lv' : List (Nat × Value)} (hp : okPrev L i) (hl : (i, v) :: (enL 0 L).filter (fun q => !(q.1 == i) && (!(q.1 == i + 1) && !(q.1 + 1 == i && q.2.category == 2))) = lv') {ls : Array Slot} (h : lv_has ls L.length lv') : lx ls ((L.set i (some v)).set (i + 1) none) := by
  refine lx.of h (by simp) (fun j w hj => ?_)
  subst hl
  rw [List.getElem?_set, List.getElem?_set] at hj
  by_cases hij1 : i + 1 = j
  · subst hij1
    simp at hj
  · rw [if_neg hij1] at hj
    by_cases hij : i = j
    · subst hij
      simp only [if_true] at hj
      split at hj
      · cases hj
        exact List.mem_cons_self
      · cases hj
    · rw [if_neg hij] at hj
      refine List.mem_cons_of_mem _ (List.mem_filter.mpr ⟨(enL_mem L 0 _).mpr ⟨j, by simp, hj⟩, ?_⟩)
      have h1 : (j == i) = false := by simpa using fun e => hij e.symm
      have h0 : (j == i + 1) = false := by simpa using fun e => hij1 e.symm
      have h2 : (j + 1 == i && w.category == 2) = false := by
        by_cases e : j + 1 = i
        · subst e
          have := hp _ hj
          simp only [noLong] at this
          simp [this]
        · simp [e]
      simp [h1, h2, h0]
/-! the judgement -/
def tws : List Cond := lw_tbl.filter goodWord
theorem tws_of {w : Cond} (h : w ∈ lw_tbl) (hg : goodWord w = true) : w ∈ tws := List.mem_filter.mpr ⟨h, hg⟩
def Qv (G : Gw) (post : Option Value → Sg → Prop) : Array Value → State → Outcome → State → Prop := fun _ st oc t => (∃ (v : Option Value) (σ' : Sg), oc = .returned v ∧ post v σ' ∧ Wd G σ' t.heap) ∧ va_F (AA G) st t
def Mt (l : Launch) (G : Gw) (y : MethodName) (cc : ByteArray) (nL : Nat) (ret : Option FieldType) (fr lo : Nat) (av : List Value) (σ : Sg) (post : Option Value → Sg → Prop) : Prop :=
  Met l y (.code y cc nL ret :: tws) { frames := fr, cells := 0, slots := 0, locals := lo } (va_Pc av (fun U => Wd G σ U.heap ∧ Wk G U)) (Qv G post) 0 0 (AA G)
def retI (ret : Option FieldType) (cc : ByteArray) (pc : Nat) (v : Option Value) : Prop :=
  (ret = some .int ∧ decode cc pc = .ok (.ireturn, 1) ∧ ∃ x, v = some (.int x)) ∨ (ret = some .boolean ∧ decode cc pc = .ok (.ireturn, 1) ∧ (v = some (.int 0) ∨ v = some (.int 1))) ∨ (ret = none ∧ decode cc pc = .ok (.return_, 1) ∧ v = none) ∨
  (ret = some .long ∧ decode cc pc = .ok (.lreturn, 1) ∧ ∃ x, v = some (.long x)) ∨ (ret = some (.object RX3) ∧ decode cc pc = .ok (.areturn, 1) ∧ (v = some .null ∨ ∃ a, v = some (.ref a)))
abbrev Ph : Type := Nat → List (Option Value) → List Value → Sg → Prop
def Mach (l : Launch) (G : Gw) (own : String) (cc : ByteArray) (nL : Nat) (ret : Option FieldType) (fr lo : Nat) (post : Option Value → Sg → Prop) (Φ : Ph) : Prop :=
  ∃ (p : Program) (e : Env) (R : Room) (s : State) (m : MethodId) (args : Array Value) (below : List Frame) (meth : Method) (c : Code) (cells slots : Nat) (Q : State → Prop),
    (p.tables.exec = Jvm.exec ∧ c.code = cc ∧ c.maxLocals = nL ∧ s.vm.findClass own = some m.cls ∧ ∀ w ∈ tws, w.before args s = true) ∧ Wk G s ∧ (fr ≤ R.frames ∧ lo ≤ R.locals ∧ cells ≤ R.cells ∧ slots ≤ R.slots) ∧
    (∀ (pc : Nat) (v : Option Value) (σ : Sg), retI ret cc pc v → post v σ → ∀ (H : Heap) (locs : List Loc) (ls : Array Slot), Wd G σ H → va_S (AA G) s.heap H locs → W p l e R s m args below meth c H locs cells slots Q (F0 m pc ls v.toList)) ∧
    Φ = fun pc L st σ => L.length = nL → ∀ (H : Heap) (locs : List Loc) (ls : Array Slot), Wd G σ H → va_S (AA G) s.heap H locs → lx ls L → W p l e R s m args below meth c H locs cells slots Q (F0 m pc ls st)
