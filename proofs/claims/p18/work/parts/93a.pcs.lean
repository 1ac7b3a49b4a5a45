/-! the class's calls heats, reached, even, striker, plan -/
/-- what a call that asks the Planner of width c leaves -/
def PcS (S : mS) (I : mI) (R : mR) (c : Nat) (S' : mS) (I' : mI) (R' : mR) : Prop := (S' = S ∧ R' = R ∧ ∃ P, R 39 c = some P ∧ PlI I' P c (nW c) (wt c) ∧ Pv P c I I') ∨ (R 39 c = none ∧ S'.1 = S.1 + 54 + 3 * c ∧ S'.2.1 ≤ S.2.1 + 13 + yW c ∧ Ext S S' ∧ PlS S' R' S.1 c (nW c) ∧ PlI I' S.1 c (nW c) (wt c) ∧ (∀ a, a < S.1 → I' a = I a ∧ (¬ a = 39 → R' a = R a)) ∧ R' 39 = va_up (R 39) c (some S.1))
