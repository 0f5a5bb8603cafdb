def rowsC (z : St) (n : Int32) : Int32 := foldI (fun r a => a + (if z r < 0 then 0 else 1)) 0 n
def dustT (s : St) (n : Int32) : Int32 := foldI (fun f a => a + s (36 + f)) 0 n
def countR (z s : St) (m by_ w : Int32) : Int32 := if w = 0 then rowsC z 8 else if w = 1 then s 0 else if w = 2 then s 1 else if w = 3 then s 4 else if w = 4 then sumP s (s 0) else if w = 5 then dustT s (s 1) else if w = 6 then m else if w = 7 then by_ else -1000001
abbrev kindB (k a : Int32) : Prop := a = 0 ∨ k = a ∨ (a = 1 ∧ k < 4) ∨ (a = 4 ∧ k = 5)
theorem cp_i {n i : Int32} (n0 : 0 ≤ n) (n1 : n ≤ 40) (i0 : 0 ≤ i) (i1 : i < n) : i < 40 := Int32.lt_of_lt_of_le i1 n1
theorem sub_L {a n : Int32} (a0 : -1 ≤ a) (a1 : a ≤ 40) (n0 : 0 ≤ n) : a.toInt64 - n.toInt64 = (a - n).toInt64 := by
  apply Int64.toInt_inj.mp
  rw [t_le] at a0 a1 n0
  rw [show (-1 : Int32).toInt = -1 by decide] at a0
  rw [show (40 : Int32).toInt = 40 by decide] at a1
  rw [show (0 : Int32).toInt = 0 by decide] at n0
  have h := n.toInt_lt
  rw [Int64.toInt_sub, Int32.toInt_toInt64, Int32.toInt_toInt64, Int32.toInt_toInt64, t_sub (by omega) (by omega)]
  exact Int.bmod_eq_of_le (by omega) (by omega)
theorem cp_rng {i n z k : Int32} (z0 : -1 ≤ z) (z1 : z ≤ 40) (n0 : 0 ≤ n) (i0 : 0 ≤ i) (i1 : i ≤ z - n) (k0 : 0 ≤ k) (k1 : k < n) : (0 ≤ i + k ∧ i + k < 40) ∧ n ≤ 40 := by
  rw [t_le, t_lt] at *
  rw [t_le]
  rw [show (-1 : Int32).toInt = -1 by decide] at z0
  rw [show (40 : Int32).toInt = 40 by decide] at *
  rw [show (0 : Int32).toInt = 0 by decide] at *
  have h := n.toInt_lt
  rw [t_sub (by omega) (by omega)] at i1
  rw [t_add (by omega) (by omega)]
  omega
theorem cp_n {i n z : Int32} (z0 : -1 ≤ z) (z1 : z ≤ 40) (n0 : 0 ≤ n) (i0 : 0 ≤ i) (i1 : i ≤ z - n) : n ≤ 40 := by
  rw [t_le] at *
  rw [show (-1 : Int32).toInt = -1 by decide] at z0
  rw [show (40 : Int32).toInt = 40 by decide] at *
  rw [show (0 : Int32).toInt = 0 by decide] at *
  have h := n.toInt_lt
  rw [t_sub (by omega) (by omega)] at i1
  omega
theorem add_as3 (a b c : Int32) : a + b + c = a + b + c := rfl
theorem cp_o {w i n z : Int32} (w0 : 0 ≤ w) (w7 : w ≤ 7) (z0 : -1 ≤ z) (z1 : z ≤ 40) (n0 : 0 ≤ n) (i0 : 0 ≤ i) (i1 : i ≤ z - n) : 0 ≤ 40 * w + i ∧ 40 * w + i < 1000 := by
  have k := (ix40 (m := w) (i := 0) w0 w7 (by decide) (by decide)).2
  rw [t_le, t_lt] at *
  rw [t_le] at k
  rw [show (-1 : Int32).toInt = -1 by decide] at z0
  rw [show (40 : Int32).toInt = 40 by decide] at *
  rw [show (0 : Int32).toInt = 0 by decide] at *
  rw [show (280 : Int32).toInt = 280 by decide] at k
  rw [show (1000 : Int32).toInt = 1000 by decide]
  have h := n.toInt_lt
  rw [t_sub (by omega) (by omega)] at i1
  rw [t_add (by omega) (by omega)]
  omega
