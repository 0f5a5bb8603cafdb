section
theorem zz_1 (a b : Int32) (h : 0 ≤ a) (h2 : a < b) (h3 : b ≤ 6) : a ≤ 5 := by grind
theorem zz_2 (a b : Int32) (h : 0 ≤ a) (h2 : a < b) (h3 : b ≤ 6) : a + 1 ≤ b := by grind
theorem zz_3 (a b : Int32) (h : 0 ≤ a) (h1 : a ≤ 99) (h2 : 0 ≤ b) (h3 : b ≤ 9) : b + a / 10 ≤ 18 := by grind
theorem zz_4 (a b : Int32) : (if a < b then (1 : Int32) else 0) = (if ¬ (b ≤ a) then 1 else 0) := by grind
theorem zz_5 (a : Int32) (h : ¬ a < 0) (h2 : a < 6) : a = 0 ∨ a = 1 ∨ a = 2 ∨ a = 3 ∨ a = 4 ∨ a = 5 := by grind
theorem zz_6 (f : Nat → Int32) (i j : Nat) (v : Int32) (h : i ≠ j) : (if i = j then v else f i) = f i := by grind
theorem zz_7 (a b : Int32) (h : 0 ≤ a) (h2 : a < b) (h3 : b ≤ 6) : a.toInt + 1 ≤ b.toInt := by grind
theorem zz_8 (a b : Int32) (h : 0 ≤ a) (h2 : a < b) (h3 : b ≤ 6) : a.toNatClampNeg < 6 := by grind
end
