theorem nd_of : ∀ l : List Nat, l.Nodup → va_nd l = true
  | [], _ => rfl
  | a :: l, h => by
    rw [List.nodup_cons] at h
    simp only [va_nd, Bool.and_eq_true, decide_eq_true_eq]
    exact ⟨h.1, nd_of l h.2⟩
theorem join_last {A0 : Nat → Prop} {D : va_G} {cl : List vw_C} {X w1 : va_W} {x : Nat × va_E} {H H1 : Heap} (hP : va_P D cl (X ++ [x]) H) (hD : va_D A0 (X ++ [x])) (hk : ∀ q : Nat, q < H.size → ¬ va_A [x] H.size q → H1[q]? = H[q]?) (hF : ∀ q, va_A [x] H.size q → A0 q) (hP1 : va_P D cl w1 H1) (hD1 : va_D (va_A [x] H.size) w1) : va_P D cl (X ++ w1) H1 ∧ va_D A0 (X ++ w1) := by
  refine va_join (wc := [x]) (wr := X) hP hD [X.length] (List.range X.length) ?_ ?_ (nd_of _ List.nodup_range) ?_ hk hF hP1 hD1
  · simp
  · apply List.ext_getElem?
    intro i
    simp only [List.getElem?_map, List.getElem?_range]
    by_cases h : i < X.length
    · simp [h, List.getElem?_append_left]
    · simp [h]
  · intro i hi hj
    simp at hi hj
    omega
/-- a constructor's contract: its object's cell becomes a group of cells -/
def Ct {τ : Type} (hd : τ → Nat) (l : Launch) (D : va_G) (tys : List (ClassId × FieldType)) (y : MethodName) (cc : ByteArray) (nL fr lo cm sm ci : Nat) (dflt : List Value) (Grp : τ → va_W) : Prop := ∀ (h0 sz : Nat),
  Met l y (.code y cc nL none :: tws) { frames := fr, cells := cm, slots := sm, locals := lo } (va_Pc [.ref h0] (fun U => U.heap.size = sz ∧ va_P D vwCl [(h0, .inr (ci, dflt))] U.heap ∧ va_K D vwCl tys U ∧ va_AO RX3 U ∧ va_D (fun _ => True) [(h0, .inr (ci, dflt))]))
    (va_Qv (fun _ : Unit => True) (fun _ t => ∃ a : τ, hd a = h0 ∧ va_P D vwCl (Grp a) t.heap ∧ va_D (va_A [(h0, .inr (ci, dflt))] sz) (Grp a)) (va_A [(h0, .inr (ci, dflt))] sz)) cm sm (va_A [(h0, .inr (ci, dflt))] sz)
theorem ct_intro {τ : Type} {hd : τ → Nat} {l : Launch} {D : va_G} {tys : List (ClassId × FieldType)} {y : MethodName} {cc : ByteArray} {nL fr lo cm sm ci : Nat} {dflt : List Value} {Grp : τ → va_W} (hy : plainName y.cls = true) (hn : y.name = "<init>") (hlen : 1 ≤ nL)
    (h : ∀ (h0 : Nat) (A : Nat → Prop) (Φ : Ph2), MachC l D tys y.cls cc nL fr lo cm sm A True (fun σ => ∃ a : τ, hd a = h0 ∧ σ.2.2 = Grp a) Φ → Φ 0 (some (.ref h0) :: List.replicate (nL - 1) none) [] (0, 0, [(h0, .inr (ci, dflt))])) : Ct hd l D tys y cc nL fr lo cm sm ci dflt Grp := by
  intro h0 sz
  refine Met.ofW (cc := cc) (maxL := nL) (ret := none) hy rfl ?_
  intro p e s m args below meth c s₁ B hml hv
  obtain ⟨rfl, hsz, hP, hK, hao, hD0⟩ := hv
  have hx := B.exec
  have hb := B.bytes
  have hr := B.returns
  have hts0 := atoms_spec (ws := .code y cc nL none :: tws) B.pre
  have hown : s.vm.findClass y.cls = some m.cls := findClass_of_methodNamed B.named
  have hlocks := B.notSynchronized
  have hin : meth.name = "<init>" := (name_of_methodNamed B.named B.method).1.trans hn
  subst hsz
  have hD := hD0.self (sz := s.heap.size)
  generalize hAe : va_A [(h0, .inr (ci, dflt))] s.heap.size = A at hD ⊢
  have hA : ∀ q : Nat, s.heap.size ≤ q → A q := fun q h => by rw [← hAe]; exact Or.inr h
  have hS : va_S A s.heap s.heap [] := va_S.rf
  have hl := lv_entry ([.ref h0]) (n := nL) hlen
  rw [lg_entry_eq]
  refine h h0 A _ ⟨p, e, (headSpec (.code y cc nL none :: tws) { frames := fr, cells := cm, slots := sm, locals := lo }).room, s, m, _, below, meth, c, _, ⟨hx, hb, hml, hown, fun w hw => hts0 w (List.mem_cons_of_mem _ hw)⟩, fun _ => hin, hao, hK, hA, ⟨Nat.le_refl _, Nat.le_refl _, Nat.le_refl _, Nat.le_refl _⟩, ?_, rfl⟩ ?_ (Nat.zero_le _) (Nat.zero_le _) _ _ _ hP hD hS ?_
  · intro pc σ hd hp hc hs H locs ls hP1 hD1 hS1
    obtain ⟨a, ha, hw⟩ := hp
    rw [hw] at hP1 hD1
    refine W.widen (k := cm) (n := sm) hc hs ?_
    exact W.vret hx hb hr (fun t ht hW => ⟨⟨(), rfl, trivial, a, ha, by rw [ht]; exact hP1, hD1⟩, hS1.F ht⟩) hS1.2.2 hd
  · rw [List.length_cons, List.length_replicate]
    omega
  · refine lx.of hl (by rw [List.length_cons, List.length_replicate]; omega) (fun i v hi => ?_)
    have hi2 : (lenv [Value.ref h0] ++ List.replicate (nL - 1) none)[i]? = some (some v) := hi
    rw [List.getElem?_append] at hi2
    split at hi2
    · have := lenv_at [Value.ref h0] 0 i v hi2
      simpa using this
    · rw [List.getElem?_replicate] at hi2
      split at hi2 <;> simp at hi2
section Grow2
variable {l : Launch} {D : va_G} {tys : List (ClassId × FieldType)} {own : String} {cc : ByteArray} {nL fr lo cm sm : Nat} {A : Nat → Prop} {ini : Prop} {post : Cw → Prop} {Φ : Ph2} {pc : Nat} {L : List (Option Value)} {st : List Value} {σ : Cw}
theorem g_ctor {τ : Type} {hd : τ → Nat} (M : MachC l D tys own cc nL fr lo cm sm A ini post Φ) {idx q maxL fr1 lo1 mc ms ci : Nat} {y : MethodName} {bytes : ByteArray} {dflt : List Value} {Grp : τ → va_W} {X : va_W} (hC : Ct hd l D tys y bytes maxL fr1 lo1 mc ms ci dflt Grp) (hX : σ.2.2 = X ++ [(q, .inr (ci, dflt))]) (w1 : Cond.methodLink own idx y ∈ tws) (w2 : Cond.instanceMethod y ∈ tws) (w3 : Cond.initialized y.cls ∈ tws) (w4 : Cond.code y bytes maxL none ∈ tws) (hname : y.name = "<init>") (hn0 : y.cls ≠ "java/lang/invoke/MethodHandle" ∧ y.cls ≠ "java/lang/invoke/VarHandle" ∧ (parseMethodDescriptor y.desc).map (fun d => d.parameters.length) = some 0) (hfr : fr1 + 1 ≤ fr ∧ 8 + (maxL + 11) + lo1 ≤ lo) (hst : (st.map fun v => v.category).sum ≤ 8) (hc1 : σ.1 + mc ≤ cm) (hs1 : σ.2.1 + ms ≤ sm) (d : decode cc pc = .ok (.invokespecial idx, 3))
    (kk : ∀ a : τ, hd a = q → Φ (pc + 3) L st (σ.1 + mc, σ.2.1 + ms, X ++ Grp a)) : Φ pc L (.ref q :: st) σ := by
  obtain ⟨p, e, R, s, m, args, below, meth, c, Q, ⟨hx, hb, hml, hown, hts⟩, hini, hao, hK, hA, hRm, hRet, rfl⟩ := M
  intro hn hc hs H locs ls hP hD hS hl
  rw [hX] at hP hD
  have hPc : va_P D vwCl [(q, .inr (ci, dflt))] H := hP.sub [X.length] (by simp)
  have hDc : va_D A [(q, .inr (ci, dflt))] := hD.sub [X.length] (by simp [va_nd]) (by simp)
  have hFc := va_free (wc := [(q, .inr (ci, dflt))]) hD hS hA [X.length] (by simp)
  have cb := callB_of (R := R) 0 hts (tws_good w4) rfl (rm := { frames := fr1, cells := mc, slots := ms, locals := lo1 }) (mc := mc) (ms := ms) rfl rfl (hts _ w3) (hts _ w1) hn0 ⟨Nat.le_trans hfr.1 hRm.1, Nat.le_trans hfr.2 hRm.2.1⟩
  refine va_callv (va_runI (As := []) (rest := st) ⟨hx, hb, hml, hown, hts⟩ (hC q H.size) ⟨cb, hname, hts _ w2⟩ ⟨fun a U g mk z => by obtain ⟨z0, z1, z2, z3, z4, z5⟩ := z; exact ⟨z0, z1, z2, va_K.moved (u := U) (U := U.calling g mk a) (Vm.Alike.refl U.vm) z3, va_AO.moved (u := U) (U := U.calling g mk a) (Vm.Alike.refl U.vm) z4, z5⟩, fun U hU hW => ⟨rfl, by rw [hU], by rw [hU]; exact hPc, va_K.moved hW.alike hK, va_AO.moved hW.alike hao, hDc.weaken (fun _ _ _ _ => trivial)⟩⟩ rfl rfl (hl.1.trans hn) rfl (lv_room hst) d ⟨Nat.le_trans hc1 hRm.2.2.1, Nat.le_trans hs1 hRm.2.2.2⟩) hS (fun q _ h => hFc q h) hFc (fun u t H1 locs1 ht hvm _ hB hz1 hk1 hS1 => ?_)
  obtain ⟨a, ha, hP1, hD1⟩ := hB
  rw [ht] at hP1
  obtain ⟨hP2, hD2⟩ := join_last hP hD hk1 hFc hP1 hD1
  exact kk a ha hn hc1 hs1 H1 locs1 ls hP2 hD2 hS1 hl
end Grow2
