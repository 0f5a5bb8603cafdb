def gt (l : List Nat) (i : Nat) : Nat := l.getD i 0
def isL (L : Int32 → Int32) (l : List Nat) : Prop := ∀ k, k < l.length → L (nI k) = nI (gt l k)
def swp (l : List Nat) (i j : Nat) : List Nat := (l.set i (gt l j)).set j (gt l i)
def fi (l : List Nat) : Nat → Nat
  | 0 => 0
  | i + 1 => if gt l (i + 1) < gt l i then fi l i else i + 1
def fj (l : List Nat) (p : Nat) : Nat → Nat
  | 0 => 0
  | j + 1 => if gt l (j + 1) < gt l p then fj l p j else j + 1
def rv : Nat → Nat → Nat → List Nat → List Nat
  | 0, _, _, l => l
  | f + 1, lo, hi, l => if lo < hi then rv f (lo + 1) (hi - 1) (swp l lo hi) else l
def nxl (l : List Nat) : Option (List Nat) :=
  match fi l (l.length - 1) with
  | 0 => none
  | p + 1 => some (rv l.length (p + 1) (l.length - 1) (swp l p (fj l p (l.length - 1))))
def perm (n : Nat) (l : List Nat) : Bool :=
  l.length == n && (List.range n).all (fun i => gt l i < n && (List.range n).any (fun k => gt l k == i) && (List.range n).all (fun k => i == k || gt l i != gt l k))
def chk : Nat → Nat → List Nat → Bool
  | 0, _, _ => false
  | m + 1, n, l => perm n l && (match nxl l with | none => true | some l' => chk m n l')
theorem chkF : ∀ n : Fin 6, chk 721 (n.val + 1) (List.range (n.val + 1)) = true := by decide +kernel
theorem gt_swp {l : List Nat} {i j k : Nat} (hi : i < l.length) (hj : j < l.length) : gt (swp l i j) k = if k = j then gt l i else if k = i then gt l j else gt l k := by
  unfold gt swp
  simp only [List.getD_eq_getElem?_getD, List.getElem?_set, List.length_set]
  by_cases e : k = j
  · subst e
    simp [hj, gt]
  · rw [if_neg e, if_neg (fun q => e q.symm)]
    by_cases e2 : k = i
    · subst e2
      simp [hi, gt]
    · rw [if_neg e2, if_neg (fun q => e2 q.symm)]
theorem len_swp (l : List Nat) (i j : Nat) : (swp l i j).length = l.length := by simp [swp]
theorem isL_swp {L : Int32 → Int32} {l : List Nat} {i j : Nat} (h : isL L l) (h6 : l.length ≤ 6) (hi : i < l.length) (hj : j < l.length) : isL (upI (upI L (nI i) (L (nI j))) (nI j) (L (nI i))) (swp l i j) := by
  intro k hk
  rw [len_swp] at hk
  rw [gt_swp hi hj]
  by_cases e : k = j
  · subst e
    rw [upI_same, if_pos rfl]
    exact h i hi
  · have ne : nI k ≠ nI j := fun q => e ((nI_eq (by omega) (by omega)).mp q)
    rw [upI_ne _ _ ne, if_neg e]
    by_cases e2 : k = i
    · subst e2
      rw [upI_same, if_pos rfl]
      exact h j hj
    · have ne2 : nI k ≠ nI i := fun q => e2 ((nI_eq (by omega) (by omega)).mp q)
      rw [upI_ne _ _ ne2, if_neg e2]
      exact h k hk
theorem len_rv : ∀ (f lo hi : Nat) (l : List Nat), (rv f lo hi l).length = l.length
  | 0, _, _, _ => rfl
  | f + 1, lo, hi, l => by
    unfold rv
    split
    · rw [len_rv f, len_swp]
    · rfl
theorem len_nxl {l l' : List Nat} (h : nxl l = some l') : l'.length = l.length := by
  unfold nxl at h
  split at h
  · exact absurd h (by simp)
  · rw [← Option.some.inj h, len_rv, len_swp]
theorem fi_le (l : List Nat) : ∀ m, fi l m ≤ m
  | 0 => Nat.le_refl _
  | m + 1 => by
    unfold fi
    split
    · exact Nat.le_succ_of_le (fi_le l m)
    · exact Nat.le_refl _
theorem fj_le (l : List Nat) (p : Nat) : ∀ m, fj l p m ≤ m
  | 0 => Nat.le_refl _
  | m + 1 => by
    unfold fj
    split
    · exact Nat.le_succ_of_le (fj_le l p m)
    · exact Nat.le_refl _
theorem perm_spec {n : Nat} {l : List Nat} (h : perm n l = true) : l.length = n ∧ (∀ i, i < n → gt l i < n) ∧ (∀ x, x < n → ∃ k, k < n ∧ gt l k = x) ∧ (∀ i k, i < n → k < n → gt l i = gt l k → i = k) := by
  unfold perm at h
  simp only [Bool.and_eq_true, beq_iff_eq, List.all_eq_true, List.mem_range, decide_eq_true_eq, List.any_eq_true, Bool.or_eq_true, bne_iff_ne] at h
  refine ⟨h.1, fun i hi => (h.2 i hi).1.1, fun x hx => (h.2 x hx).1.2, fun i k hi hk e => ?_⟩
  rcases (h.2 i hi).2 k hk with q | q
  · exact q
  · exact absurd e q
def plcN (l : List Nat) (s : St) : Nat → St
  | 0 => s
  | k + 1 => upI (plcN l s k) (20 + nI (gt l k)) (nI k)
def plc (s : St) (l : List Nat) : St := plcN l s l.length
theorem plcN_ne {l : List Nat} {s : St} {j : Int32} : ∀ k, (∀ i, i < k → j ≠ 20 + nI (gt l i)) → plcN l s k j = s j
  | 0, _ => rfl
  | k + 1, h => by
    show upI (plcN l s k) (20 + nI (gt l k)) (nI k) j = s j
    rw [upI_ne _ _ (h k (by omega))]
    exact plcN_ne k (fun i hi => h i (by omega))
theorem p20_in {a b : Nat} (ha : a < 6) (hb : b < 6) (h : (20 : Int32) + nI a = 20 + nI b) : a = b := by
  rw [show (20 : Int32) = nI 20 from rfl, nI_add, nI_add] at h
  have := (nI_eq (by omega) (by omega)).mp h
  omega
theorem plcN_at {n : Nat} {l : List Nat} {s : St} (h : perm n l = true) (h6 : n ≤ 6) {i : Nat} : ∀ k, i < k → k ≤ n → plcN l s k (20 + nI (gt l i)) = nI i
  | 0, hi, _ => absurd hi (by omega)
  | k + 1, hi, hk => by
    have p := perm_spec h
    show upI (plcN l s k) (20 + nI (gt l k)) (nI k) (20 + nI (gt l i)) = nI i
    by_cases e : i = k
    · subst e
      rw [upI_same]
    · have a := p.2.1 i (by omega)
      have b := p.2.1 k (by omega)
      rw [upI_ne _ _ (fun q => e (p.2.2.2 i k (by omega) (by omega) (p20_in (by omega) (by omega) q)))]
      exact plcN_at h h6 k (by omega) (by omega)
theorem bk_first {t : St} {w : Int32} {b : Nat} (hb : b < 6) (h : ∀ x, x < b → t (20 + nI x) ≠ w) (hw : t (20 + nI b) = w) : bkAt t w = nI b := by
  have key : ∀ k, k ≤ b → nI k ≤ bkAt t w := by
    intro k
    induction k with
    | zero => intro _; exact (bk_rng t w).1
    | succ k ih =>
      intro hk
      rw [nI_succ]
      exact bk_step (by exact nI_pos' (by omega)) ((nI_ltI (b := 6) (by omega) (by decide)).mpr (by omega)) (ih (by omega)) (h k (by omega))
  exact (bk_here (by exact nI_pos' (by omega)) ((nI_ltI (b := 6) (by omega) (by decide)).mpr hb) (key b (Nat.le_refl _)) hw).symm
theorem WF_plc {s : St} {n : Nat} {l : List Nat} (h : WF s) (n6 : n ≤ 6) (hn : s 0 = nI n) (hp : perm n l = true) : WF (plc s l) ∧ (plc s l) 0 = s 0 := by
  have p := perm_spec hp
  have gx : ∀ i, i < l.length → 0 ≤ nI (gt l i) ∧ nI (gt l i) < nI 6 := fun i hi => by
    have := p.2.1 i (by omega)
    exact ⟨nI_pos' (by omega), (nI_ltI (by omega) (by omega)).mpr (by omega)⟩
  have cc : ∀ k, k < 8 → plc s l (nI k) = s (nI k) := fun k hk => plcN_ne _ (fun i hi => (ix_c 20 6 k (gx i hi).1 (gx i hi).2 (by omega) (by omega)).symm)
  have e0 : plc s l 0 = s 0 := cc 0 (by omega)
  have sh : ∀ (A m : Nat) (b : Int32), 0 ≤ b → b < nI m → (A + m ≤ 20 ∨ 26 ≤ A) → A + m < 1000 → plc s l (nI A + b) = s (nI A + b) := fun A m b b0 b1 hA hs =>
    plcN_ne _ (fun i hi => ix_ne A 20 m 6 b0 b1 (gx i hi).1 (gx i hi).2 (by omega) (by omega))
  have pl : ∀ x, x < n → ∃ k, k < n ∧ gt l k = x ∧ plc s l (20 + nI x) = nI k := fun x hx => by
    obtain ⟨k, hk, e⟩ := p.2.2.1 x hx
    refine ⟨k, hk, e, ?_⟩
    rw [← e]
    exact plcN_at hp n6 _ (by omega) (by omega)
  have bk : ∀ i, i < n → bkAt (plc s l) (nI i) = nI (gt l i) := fun i hi => by
    have a := p.2.1 i hi
    refine bk_first (by omega) (fun x hx q => ?_) (plcN_at hp n6 _ (by omega) (by omega))
    obtain ⟨k, hk, e, e2⟩ := pl x (by omega)
    rw [e2] at q
    have := (nI_eq (by omega) (by omega)).mp q
    subst this
    omega
  refine ⟨⟨?_, ?_, ?_, ?_⟩, e0⟩
  · have q := h.1
    unfold wfN at q ⊢
    rw [e0, show plc s l 1 = s 1 from cc 1 (by omega), show plc s l 2 = s 2 from cc 2 (by omega), show plc s l 3 = s 3 from cc 3 (by omega), show plc s l 5 = s 5 from cc 5 (by omega), show plc s l 6 = s 6 from cc 6 (by omega), show plc s l 7 = s 7 from cc 7 (by omega)]
    exact q
  · intro b b0 b1
    rw [e0] at b1 ⊢
    have q := h.2.1 b b0 b1
    have b6 := h.b6 b1
    rw [show plc s l (8 + b) = s (8 + b) from sh 8 6 b b0 b6 (by omega) (by omega), show plc s l (14 + b) = s (14 + b) from sh 14 6 b b0 b6 (by omega) (by omega)]
    refine ⟨q.1, q.2.1, ?_⟩
    obtain ⟨x, hx, rfl⟩ := nI_of (Int32.not_lt.mpr b0)
    rw [hn] at b1 ⊢
    have xn := (nI_ltI hx (by omega)).mp b1
    obtain ⟨k, hk, e, e2⟩ := pl x xn
    rw [e2]
    exact ⟨⟨nI_pos' (by omega), (nI_ltI (by omega) (by omega)).mpr hk⟩, by rw [bk k hk, e]⟩
  · intro w w0 w1
    rw [e0, hn] at w1
    rw [e0, hn]
    obtain ⟨i, hi, rfl⟩ := nI_of (Int32.not_lt.mpr w0)
    have xn := (nI_ltI hi (by omega)).mp w1
    have a := p.2.1 i xn
    rw [bk i xn]
    exact ⟨nI_pos' (by omega), (nI_ltI (by omega) (by omega)).mpr a, plcN_at hp n6 _ (by omega) (by omega)⟩
  · intro f f0 f1
    have f1' : f < s 1 := by rw [← show plc s l 1 = s 1 from cc 1 (by omega)]; exact f1
    have q := h.2.2.2 f f0 f1'
    have f5 := h.f5 f1'
    rw [e0, show plc s l (26 + f) = s (26 + f) from sh 26 5 f f0 f5 (by omega) (by omega), show plc s l (31 + f) = s (31 + f) from sh 31 5 f f0 f5 (by omega) (by omega), show plc s l (36 + f) = s (36 + f) from sh 36 5 f f0 f5 (by omega) (by omega)]
    exact q
/-- orders gone through: the most, and the order of it -/
def ordF (s : St) (v n : Int32) (l : List Nat) (z : Int32 × List Nat) : Int32 × List Nat := if z.1 < sumSet (gS (plc s l) n) v (s 0) then (sumSet (gS (plc s l) n) v (s 0), l) else z
def ordL (s : St) (v n : Int32) : Nat → List Nat → Int32 × List Nat → Int32 × List Nat
  | 0, _, z => z
  | m + 1, l, z => match nxl l with | none => ordF s v n l z | some l' => ordL s v n m l' (ordF s v n l z)
def ordR (s : St) (v n i : Int32) : Int32 := if i < 0 then (ordL s v n 721 (List.range (s 0).toNatClampNeg) (-1, [])).1 else nI (gt (ordL s v n 721 (List.range (s 0).toNatClampNeg) (-1, [])).2 i.toNatClampNeg)
theorem sum_bd {s : St} (h : WF s) (v : Int32) : 0 ≤ sumSet s v (s 0) := by
  have := foldI_inv (f := fun b a => a + (if bitv v b = 1 then s (8 + b) else 0)) (a := (0 : Int32)) (n := s 0) (fun (i a : Int32) => 0 ≤ i ∧ i ≤ 6 ∧ 0 ≤ a ∧ a.toInt ≤ 99 * i.toInt) ⟨by decide, by decide, by decide, by decide⟩ (by
    intro j j0 j1 a ha
    have j6 := h.b6 j1
    have q := h.2.1 j j0 j1
    have key : ∀ d : Int32, 0 ≤ d → d ≤ 99 → 0 ≤ a + d ∧ (a + d).toInt ≤ 99 * (j + 1).toInt := by
      intro d d0 d1
      have x0 := t_le.mp d0
      have x1 := t_le.mp d1
      have y0 := t_le.mp ha.2.2.1
      have y1 := ha.2.2.2
      have z0 := t_le.mp j0
      have z1 := t_lt.mp j6
      rw [show (0 : Int32).toInt = 0 by decide] at x0 y0 z0
      rw [show (99 : Int32).toInt = 99 by decide] at x1
      rw [show (6 : Int32).toInt = 6 by decide] at z1
      rw [t_le, t_add (by omega) (by omega), t_add (x := j) (y := 1) (by rw [show (1 : Int32).toInt = 1 by decide]; omega) (by rw [show (1 : Int32).toInt = 1 by decide]; omega), show (0 : Int32).toInt = 0 by decide, show (1 : Int32).toInt = 1 by decide]
      omega
    have i1 := inc_lt j0 j6
    refine ⟨i1.1, i1.2.1, ?_⟩
    split
    · exact key _ q.1.1 q.1.2
    · exact key _ (by decide) (by decide)) (s 0) (le0_of h.1.1.1) (Int32.le_refl _)
  exact this.2.2.1
theorem plc_step (l : List Nat) (s : St) (k : Nat) : upI (plcN l s k) (20 + nI (gt l k)) (nI k) = plcN l s (k + 1) := rfl
