/-! small rules for walks -/
theorem kti (x : Int32) : ((Value.int x).category = 1) = True := eq_true rfl
theorem ktl (x : Int64) : ((Value.long x).category = 2) = True := eq_true rfl
theorem ktr (x : Nat) : ((Value.ref x).category = 1) = True := eq_true rfl
theorem ktn : (Value.null.category = 1) = True := eq_true rfl
theorem ktv : (nv.category = 1) = True := eq_true rfl
theorem ktf (x : Int64) : ((Value.long x).category = 1) = False := eq_false (fun h => absurd h (by show ¬ (2 = 1); decide))
theorem ok_is {S : mS} {a c : Nat} : ok S a c = (a < S.1 ∧ S.2.2.1 a = c) := rfl
theorem okI_is {S : mS} {a : Nat} : okI S a = (a < S.1 ∧ (S.2.2.1 a = 11 ∨ S.2.2.1 a = 19)) := rfl
theorem okA_is {S : mS} {a : Nat} : okA S a = (a < S.1 ∧ 10 ≤ S.2.2.1 a) := rfl
theorem up_is {α : Type} (f : Nat → α) (k : Nat) (v : α) (j : Nat) : va_up f k v j = if j = k then v else f j := rfl
theorem mlt_is {α : Type} (f : Nat → α) (a n : Nat) (x y : α) (b : Nat) : mlt f a n x y b = if b = a then x else if a < b ∧ b < a + 1 + n then y else f b := rfl
theorem inb_is {i : Int32} {n : Nat} : inb i n = (¬ i < 0 ∧ i.toNatClampNeg < n) := rfl
