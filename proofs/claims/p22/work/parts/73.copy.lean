/-! Smithy.copyFrom: the RECIPES -/
def rpR (R : mR) (z y i : Nat) : mR := va_up R (z + 4) (fun k => if k < i then R (y + 4) k else R (z + 4) k)
section CF
variable {d z y : Nat} {S : mS} {I : mI} {L : mL} {R : mR} {Q : mQ}
theorem cf_lp (hz : SmS S R z) (hy : SmS S R y) (hne : z + 6 < y ∨ y + 6 < z) (hrec : ∀ k q, k < 8 → R (y + 4) k = some q → ok S q 5) (hq : ∀ x, Ev (d + 1) 95 84 [.ref z, .ref y, x] [] S I L (rpR R z y 8) Q) : ∀ (N i : Nat), i + N = 8 → Ev (d + 1) 95 60 [.ref z, .ref y, .int (nI i)] [] S I L (rpR R z y i) Q := by
  have oz := hz.2.2.2.2.2.2
  have oy := hy.2.2.2.2.2.2
  have oRy : okR S (y + 4) := ⟨oy.1.1, by rw [oy.1.2]; decide⟩
  have az : z + 4 < S.1 ∧ 14 ≤ S.2.2.1 (z + 4) ∧ S.2.2.1 (z + 4) < 17 := ⟨oz.1.1, by rw [oz.1.2]; decide, by rw [oz.1.2]; decide⟩
  have ez : elK (S.2.2.1 (z + 4)) = 5 := by rw [oz.1.2]; rfl
  have r1 : ∀ i, rpR R z y i z 5 = some (z + 4) := fun i => by
    unfold rpR
    rw [uu_n _ _ (by omega)]
    exact oz.2.2
  have r2 : ∀ i, rpR R z y i y 5 = some (y + 4) := fun i => by
    unfold rpR
    rw [uu_n _ _ (by omega)]
    exact oy.2.2
  have r3 : ∀ i k, rpR R z y i (y + 4) k = R (y + 4) k := fun i k => by
    unfold rpR
    rw [uu_n _ _ (by omega)]
  have r4 : ∀ i, va_up (rpR R z y i) (z + 4) (va_up (rpR R z y i (z + 4)) i (R (y + 4) i)) = rpR R z y (i + 1) := fun i => by
    unfold rpR
    rw [uu_u, uu_s]
    congr 1
    funext k
    by_cases g : k = i
    · rw [g, uu_s, if_pos (by omega)]
    · rw [uu_n _ _ g]
      by_cases g2 : k < i
      · rw [if_pos g2, if_pos (by omega)]
      · rw [if_neg g2, if_neg (by omega)]
  intro N
  induction N with
  | zero =>
    intro i hi
    obtain rfl : i = 8 := by omega
    have e : (nI 8 < (8 : Int32)) = False := eq_false (by decide)
    rw [E95_60]
    simp only [E95_61, E95_63, rfs, rfn, cs0, csi, csl, csr, csn, kti, ktl, ktr, ktn, ktv, ktf, true_and, and_true, and_self, ↓reduceIte, Nat.reduceAdd, Nat.reduceSub, Nat.reduceMul, Nat.reduceLT, Nat.reduceLeDiff, Nat.reduceEqDiff, true_or, or_true, false_or, or_false, not_true_eq_false, not_false_eq_true, reduceCtorEq, cmp_lt, cmp_gt, cmp_eq, Int32.reduceAdd, Int32.reduceSub, Int32.reduceMul, Int32.reduceLT, Int32.reduceToNatClampNeg, eq_self, ne_eq, Int64.reduceAdd, Int64.reduceSub, Int64.reduceMul, Int64.reduceLT, e]
    exact hq _
  | succ N ih =>
    intro i hi
    have e1 : (nI i < (8 : Int32)) = True := eq_true (nI_lt (a := i) (b := 8) (by omega) (by decide))
    have e3 : inb (nI i) 8 = True := inb_nI (by omega) (by decide)
    have e4 : (nI i).toNatClampNeg = i := nI_clamp (by omega)
    have r4' := r4 i
    rw [E95_60]
    cases hr : R (y + 4) i with
    | none =>
      rw [hr] at r4'
      simp only [E95_61, E95_63, E95_66, E95_67, E95_70, E95_71, E95_72, E95_75, E95_76, E95_77n, E95_78, E95_81, rfs, rfn, cs0, csi, csl, csr, csn, kti, ktl, ktr, ktn, ktv, ktf, true_and, and_true, and_self, ↓reduceIte, Nat.reduceAdd, Nat.reduceSub, Nat.reduceMul, Nat.reduceLT, Nat.reduceLeDiff, Nat.reduceEqDiff, true_or, or_true, false_or, or_false, not_true_eq_false, not_false_eq_true, reduceCtorEq, cmp_lt, cmp_gt, cmp_eq, Int32.reduceAdd, Int32.reduceSub, Int32.reduceMul, Int32.reduceLT, Int32.reduceToNatClampNeg, eq_self, ne_eq, Int64.reduceAdd, Int64.reduceSub, Int64.reduceMul, Int64.reduceLT, sk0 hz, sk0 hy, r1, r2, r3, hr, oRy, oy.2.1, oz.2.1, az, e1, e3, e4, r4', nI_1]
      exact ih (i + 1) (by omega)
    | some q =>
      rw [hr] at r4'
      have o5 := hrec i q (by omega) hr
      simp only [E95_61, E95_63, E95_66, E95_67, E95_70, E95_71, E95_72, E95_75, E95_76, E95_77, E95_78, E95_81, rfs, rfn, cs0, csi, csl, csr, csn, kti, ktl, ktr, ktn, ktv, ktf, true_and, and_true, and_self, ↓reduceIte, Nat.reduceAdd, Nat.reduceSub, Nat.reduceMul, Nat.reduceLT, Nat.reduceLeDiff, Nat.reduceEqDiff, true_or, or_true, false_or, or_false, not_true_eq_false, not_false_eq_true, reduceCtorEq, cmp_lt, cmp_gt, cmp_eq, Int32.reduceAdd, Int32.reduceSub, Int32.reduceMul, Int32.reduceLT, Int32.reduceToNatClampNeg, eq_self, ne_eq, Int64.reduceAdd, Int64.reduceSub, Int64.reduceMul, Int64.reduceLT, sk0 hz, sk0 hy, r1, r2, r3, hr, oRy, oy.2.1, oz.2.1, az, ez, o5, e1, e3, e4, r4', nI_1]
      exact ih (i + 1) (by omega)
end CF
