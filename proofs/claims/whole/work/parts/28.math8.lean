def firstQ (t : Int32) (s : St) (w r : Int32) : Prop := if t = 0 then r = -1000002 else if inR 0 w 1 then (∃ r0, isFirst (fun n => firstP s n ≠ 0) r0 ∧ r = if r0 = -1000000 then -1000000 else if w = 0 then leastR (firstP s r0) else r0) else r = -1000001
def shA (A : St) : St := fun j => if 0 ≤ j ∧ j < 943 then A (j + 41) else A j
def putB (A s : St) (o : Int32) : St := fun j => if o ≤ j ∧ j < o + 41 then s (j - o) else A j
def getB (A : St) (o : Int32) : St := fun j => A (o + j)
theorem c_int (n : Nat) (h : n < 2147483648) : (nI n).toInt = (n : Int) := nI_toInt h
theorem cancel_l (o i : Int32) : o + i - o = i := by grind
theorem putB_step {D0 src D : St} {o i : Int32} (o0 : 0 ≤ o) (o1 : o < 1000) (i0 : 0 ≤ i) (i1 : i < 41) {N : Int32} (h : ∀ j, 0 ≤ j → j < N → D j = if o ≤ j ∧ j < o + i then src (j - o) else D0 j) : ∀ j, 0 ≤ j → j < N → upI D (o + i) (src i) j = if o ≤ j ∧ j < o + (i + 1) then src (j - o) else D0 j := by
  intro j j0 j1
  have a0 := t_le.mp o0
  have a1 := t_lt.mp o1
  have a2 := t_le.mp i0
  have a3 := t_lt.mp i1
  rw [show (0 : Int32).toInt = 0 by decide] at a0 a2
  rw [show (1000 : Int32).toInt = 1000 by decide] at a1
  rw [show (41 : Int32).toInt = 41 by decide] at a3
  have e1 := t_add (x := o) (y := i) (by omega) (by omega)
  have c1 : (1 : Int32).toInt = 1 := by decide
  have e2 := t_add (x := i) (y := 1) (by omega) (by omega)
  have e3 := t_add (x := o) (y := i + 1) (by omega) (by omega)
  by_cases e : j = o + i
  · subst e
    rw [upI_same, if_pos, cancel_l]
    rw [t_le, t_lt, e3, e2, e1, c1]
    omega
  · rw [upI_ne _ _ e, h j j0 j1]
    have hne : j.toInt ≠ o.toInt + i.toInt := fun q => e (Int32.toInt_inj.mp (q.trans e1.symm))
    have hiff : (o ≤ j ∧ j < o + i) ↔ (o ≤ j ∧ j < o + (i + 1)) := by
      rw [t_le, t_lt, t_lt, e3, e2, e1, c1]
      omega
    simp only [hiff]
theorem putB_0 {D0 src : St} {o : Int32} (j : Int32) : D0 j = if o ≤ j ∧ j < o + 0 then src (j - o) else D0 j := by
  rw [if_neg]
  rintro ⟨h1, h2⟩
  rw [Int32.add_zero] at h2
  exact absurd (Int32.lt_of_le_of_lt h1 h2) (Int32.lt_irrefl)
theorem ix41 {m i : Int32} (m0 : 0 ≤ m) (m1 : m ≤ 23) (i0 : 0 ≤ i) (i1 : i < 41) : (0 ≤ 41 * m + i ∧ 41 * m + i < 984) ∧ (0 ≤ 41 * m ∧ 41 * m < 1000) := by
  obtain ⟨a, ha, rfl⟩ := nI_of (Int32.not_lt.mpr m0)
  obtain ⟨b, hb, rfl⟩ := nI_of (Int32.not_lt.mpr i0)
  have h1 : a ≤ 23 := (nI_leI (b := 23) ha (by decide)).mp m1
  have h2 : b < 41 := (nI_ltI (b := 41) hb (by decide)).mp i1
  rw [show (41 : Int32) = nI 41 from rfl, pk_mul, nI_add]
  exact ⟨⟨nI_pos' (by omega), (nI_ltI (b := 984) (by omega) (by decide)).mpr (by omega)⟩, ⟨nI_pos' (by omega), (nI_ltI (b := 1000) (by omega) (by decide)).mpr (by omega)⟩⟩
theorem ix41k {m i : Int32} (m0 : 0 ≤ m) (m1 : m ≤ 1) (i0 : 0 ≤ i) (i1 : i < 41) : (0 ≤ 41 * m + i ∧ 41 * m + i < 82) ∧ (0 ≤ 41 * m ∧ 41 * m < 1000) := by
  obtain ⟨a, ha, rfl⟩ := nI_of (Int32.not_lt.mpr m0)
  obtain ⟨b, hb, rfl⟩ := nI_of (Int32.not_lt.mpr i0)
  have h1 : a ≤ 1 := (nI_leI (b := 1) ha (by decide)).mp m1
  have h2 : b < 41 := (nI_ltI (b := 41) hb (by decide)).mp i1
  rw [show (41 : Int32) = nI 41 from rfl, pk_mul, nI_add]
  exact ⟨⟨nI_pos' (by omega), (nI_ltI (b := 82) (by omega) (by decide)).mpr (by omega)⟩, ⟨nI_pos' (by omega), (nI_ltI (b := 1000) (by omega) (by decide)).mpr (by omega)⟩⟩
theorem ixp41 {i : Int32} (i0 : 0 ≤ i) (i1 : i < 943) : 0 ≤ i + 41 ∧ i + 41 < 984 := by grind
theorem i984 {i : Int32} (i1 : i < 943) : i < 984 := Int32.lt_of_lt_of_le i1 (by decide)
theorem sh_step {A D : St} {i : Int32} (i0 : 0 ≤ i) (i1 : i < 943) (h : ∀ j, 0 ≤ j → j < 984 → D j = if j < i then A (j + 41) else A j) : ∀ j, 0 ≤ j → j < 984 → upI D i (D (i + 41)) j = if j < i + 1 then A (j + 41) else A j := by
  intro j j0 j1
  have k := ixp41 i0 i1
  have hn : ¬ i + 41 < i := by grind
  by_cases e : j = i
  · subst e
    rw [upI_same, if_pos (inc_lt j0 i1).2.2, h _ k.1 k.2, if_neg hn]
  · rw [upI_ne _ _ e, h j j0 j1]
    have hiff : j < i ↔ j < i + 1 := ⟨fun q => Int32.lt_trans q (inc_lt i0 i1).2.2, fun q => lt_of_inc i0 i1 q e⟩
    simp only [hiff]
def noteA (A s : St) (m : Int32) : St := putB (if m = 24 then shA A else A) s (41 * (if m = 24 then 23 else m))
def noteM (m : Int32) : Int32 := (if m = 24 then 23 else m) + 1
theorem noteM_rng {m : Int32} (h0 : 0 ≤ m) (h1 : m ≤ 24) : 0 ≤ (if m = 24 then 23 else m) ∧ (if m = 24 then 23 else m) ≤ 23 := by
  split
  · exact ⟨by decide, by decide⟩
  · exact ⟨h0, by grind⟩
theorem upI_upI (f : Int32 → Int32) (i v w : Int32) : upI (upI f i v) i w = upI f i w := by
  funext j
  unfold upI
  split <;> rfl
theorem none_ne {n : Int32} (h : 0 ≤ n) : ¬ n = -1000000 := fun e => absurd (e ▸ h) (by decide)
theorem firstZ {s : St} (hw : WF s) {n : Int32} (hm : ∀ m, 0 ≤ m → m < n → firstP s m = 0) (hor : ¬ emptyM (gS s n) (s 0) = emptyM s (s 0) ∨ n = 60) (hz : firstP s n = 0) : ∀ m, 0 ≤ m → m ≤ 60 → ¬ firstP s m ≠ 0 := by
  rcases hor with q | q
  · exact absurd hz (firstP_ne hw q)
  · subst q
    intro m m0 m1 hne
    rcases Int32.lt_or_eq_of_le m1 with q | q
    · exact hne (hm m m0 q)
    · rw [q] at hne; exact hne hz
theorem noteM_le {m : Int32} (h0 : 0 ≤ m) (h1 : m ≤ 24) : 0 ≤ noteM m ∧ noteM m ≤ 24 := by
  have := noteM_rng h0 h1
  unfold noteM
  generalize (if m = 24 then 23 else m) = z at this
  grind
def actE (σ τ : Sg) (s' : St) : Prop := τ 40 4 = s' ∧ τ 40 0 = upI (σ 40 0) 18 (noteM (σ 40 0 18)) ∧ τ 40 9 = noteA (σ 40 9) (σ 40 4) (σ 40 0 18) ∧ frm σ τ 40 [0, 4, 9]
theorem actE_of {σ σ1 : Sg} {s' : St} (h0 : σ1 40 0 = upI (σ 40 0) 18 (noteM (σ 40 0 18))) (h9 : σ1 40 9 = noteA (σ 40 9) (σ 40 4) (σ 40 0 18)) (hf : frm σ σ1 40 [0, 9]) : actE σ (up σ1 40 4 s') s' :=
  ⟨by rw [up_same], by rw [up_ne _ _ (by decide)]; exact h0, by rw [up_ne _ _ (by decide)]; exact h9, frm_up (frm_mono hf (by decide)) (by decide)⟩
abbrev Nq : Type := St × St × Int32 × St
def nstep (q : Nq) : Nq := ((night (q.1, q.2.2.2)).1, noteA q.2.1 q.1 q.2.2.1, noteM q.2.2.1, (night (q.1, q.2.2.2)).2)
def nst (q : Nq) (n : Int32) : Nq := foldI (fun _ z => nstep z) q n
theorem nst_s {q : Nq} {i n : Int32} (h0 : 0 ≤ i) (h1 : i < n) : nst q (i + 1) = nstep (nst q i) := foldI_s _ _ h0 h1
theorem nst_WF {q : Nq} (h : WF q.1) (hm : 0 ≤ q.2.2.1 ∧ q.2.2.1 ≤ 24) (n : Int32) : (WF (nst q n).1 ∧ (nst q n).1 0 = q.1 0 ∧ (nst q n).1 1 = q.1 1) ∧ 0 ≤ (nst q n).2.2.1 ∧ (nst q n).2.2.1 ≤ 24 := by
  unfold nst foldI
  generalize n.toNatClampNeg = k
  induction k with
  | zero => exact ⟨⟨h, rfl, rfl⟩, hm⟩
  | succ k ih =>
    have w := night_WF (p := ((foldN (fun _ z => nstep z) q k).1, (foldN (fun _ z => nstep z) q k).2.2.2)) ih.1.1
    exact ⟨⟨w.1, w.2.1.trans ih.1.2.1, w.2.2.trans ih.1.2.2⟩, noteM_le ih.2.1 ih.2.2⟩
theorem pred_rng {m : Int32} (h0 : 0 ≤ m) (h1 : m ≤ 24) (hn : ¬ m = 0) : 0 ≤ m - 1 ∧ m - 1 ≤ 23 := by grind
theorem upI_self (f : Int32 → Int32) (i : Int32) : upI f i (f i) = f := by
  funext j
  unfold upI
  split
  · rename_i h; rw [h]
  · rfl
