/-! WHAT THE REFERENCE DOES, as functions: a row of its table as four functions: F its first 15 ints, P the places, L what the runners hold, G what is left to them -/
def row (T : TV) (b : Nat) : Int32 := if b < 15 then T.1 b else if b < 23 then T.2.1 (b - 15) else if b < 26 then T.2.2.1 (b - 23) else T.2.2.2 (b - 26)
def setT (tv : Nat → TV) (i : Nat) (T : TV) : Nat → TV := fun a => if a = i then T else tv a
theorem setT_i (tv : Nat → TV) (i : Nat) (T : TV) : setT tv i T i = T := by simp [setT]
theorem setT_ne (tv : Nat → TV) {i j : Nat} (h : j ≠ i) (T : TV) : setT tv i T j = tv j := by simp [setT, h]
theorem setT_self (tv : Nat → TV) (i : Nat) : setT tv i (tv i) = tv := by funext a; unfold setT; split <;> simp_all
theorem setT_setT (tv : Nat → TV) (i : Nat) (T T' : TV) : setT (setT tv i T) i T' = setT tv i T' := by funext a; unfold setT; split <;> rfl
