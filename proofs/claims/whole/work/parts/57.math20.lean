/-- a library of the class holds the model's state s -/
def LibF (F : Nat → St) (s : St) : Prop := (F 0 0 = s 0 ∧ F 0 1 = s 1 ∧ F 0 2 = s 2 ∧ F 0 3 = s 3 ∧ F 0 4 = s 4 ∧ F 0 5 = s 5 ∧ F 0 6 = s 6 ∧ F 0 7 = s 7) ∧ (∀ b, 0 ≤ b → b < s 0 → F 1 b = s (8 + b) ∧ F 2 b = s (14 + b) ∧ F 3 b = s (20 + b) ∧ F 4 b = bkAt s b) ∧ (∀ f, 0 ≤ f → f < s 1 → F 5 f = s (26 + f) ∧ F 6 f = s (31 + f) ∧ F 7 f = s (36 + f))
def fullM (s : St) (n : Int32) : Int32 := foldI (fun b a => a ||| (if 0 < s (8 + b) then shl32 1 b else 0)) 0 n
def dustS (s : St) (m n : Int32) : Int32 := foldI (fun f a => a + (if bitv m f = 0 then s (36 + f) else 0)) 0 n
def upP (s : St) (p k : Int32) : Int32 := if 0 < s 0 then rem32 (p + k) (s 0) else p
