/-! the class's planner(), and the calls that ask it -/
theorem pR39 : ∀ q, q ∈ pR → ¬ q.1 = 39 := by decide
section PC
variable {d c : Nat} {S : mS} {I : mI} {L : mL} {R : mR} {Q : mQ}
theorem mid (hc : c = 3 ∨ c = 4 ∨ c = 5) : (if (3 : Int32) < (if nI c < (5 : Int32) then nI c else 5) then (if nI c < (5 : Int32) then nI c else 5) else 3) = nI c := by
  rcases hc with rfl | rfl | rfl <;> decide
theorem planner_c (hS : Pm S) (hR : Pr R) (hc : c = 3 ∨ c = 4 ∨ c = 5) (h5 : I 5 0 = nI c) (h1 : ∀ P, R 39 c = some P → Q (.ref P) S I L R) (h2 : R 39 c = none → ∀ S' I' L' R', S'.1 = S.1 + 54 + 3 * c → S'.2.1 ≤ S.2.1 + 13 + yW c → Ext S S' → PlS S' R' S.1 c (nW c) → PlI I' S.1 c (nW c) (wt c) → (∀ a, a < S.1 → I' a = I a ∧ (¬ a = 39 → R' a = R a)) → R' 39 = va_up (R 39) c (some S.1) → Q (.ref S.1) S' I' L' R') : EvM (d + 6) 134 [.ref 4] S I L R Q := by
  have h85 := hS.1
  have i1 : inb (nI c) 6 = True := inb_nI (by omega) (by decide)
  have ec : (nI c).toNatClampNeg = c := nI_clamp (by omega)
  have o := of_eq_true (pk39 hS)
  have oR : okR S 39 := ⟨o.1, by rw [o.2]; decide⟩
  have em := mid hc
  cases hr : R 39 c with
  | some P =>
    simp only [M134, E134_0, E134_1, E134_2, E134_3, E134_6, E134_9, E134_12, E134_15, E134_16, E134_17, E134_20, E134_21, E134_22, E134_22n, E134_23, E134_23n, E134_24, E134_24n, E134_27, E134_30, E134_31, E134_32, E134_35, E134_35n, E134_36, E134_37, E134_40, E134_41, E134_41n, E134_42, E134_42n, E134_43, E134_43n, E134_44, E134_44n, pk4 hS, pk5 hS, pk39 hS, pl39 hS, pa39 hS, pq39 hS, pr4_0 hR, pr4_10 hR, rfs, rfn, cs0, csi, csl, csr, csn, kti, ktl, ktr, ktn, ktv, ktf, true_and, and_true, and_self, ↓reduceIte, Nat.reduceAdd, Nat.reduceSub, Nat.reduceMul, Nat.reduceLT, Nat.reduceLeDiff, Nat.reduceEqDiff, true_or, or_true, false_or, or_false, not_true_eq_false, not_false_eq_true, reduceCtorEq, cmp_lt, cmp_gt, cmp_eq, Int32.reduceAdd, Int32.reduceSub, Int32.reduceMul, Int32.reduceLT, Int32.reduceToNatClampNeg, eq_self, ne_eq, Int64.reduceAdd, Int64.reduceSub, Int64.reduceMul, Int64.reduceLT, h5, em, i1, ec, oR, hr]
    exact h1 P hr
  | none =>
    have ew : (S.1 + 1, S.2.1 + 13, va_up S.2.2.1 S.1 3, va_up S.2.2.2 S.1 0) = nwS S 13 3 := rfl
    simp only [M134, E134_0, E134_1, E134_2, E134_3, E134_6, E134_9, E134_12, E134_15, E134_16, E134_17, E134_20, E134_21, E134_22, E134_22n, E134_23, E134_23n, E134_24, E134_24n, E134_27, E134_30, E134_31, E134_32, E134_35, E134_35n, E134_36, E134_37, E134_40, E134_41, E134_41n, E134_42, E134_42n, E134_43, E134_43n, E134_44, E134_44n, pk4 hS, pk5 hS, pk39 hS, pl39 hS, pa39 hS, pq39 hS, pr4_0 hR, pr4_10 hR, rfs, rfn, cs0, csi, csl, csr, csn, kti, ktl, ktr, ktn, ktv, ktf, true_and, and_true, and_self, ↓reduceIte, Nat.reduceAdd, Nat.reduceSub, Nat.reduceMul, Nat.reduceLT, Nat.reduceLeDiff, Nat.reduceEqDiff, true_or, or_true, false_or, or_false, not_true_eq_false, not_false_eq_true, reduceCtorEq, cmp_lt, cmp_gt, cmp_eq, Int32.reduceAdd, Int32.reduceSub, Int32.reduceMul, Int32.reduceLT, Int32.reduceToNatClampNeg, eq_self, ne_eq, Int64.reduceAdd, Int64.reduceSub, Int64.reduceMul, Int64.reduceLT, h5, em, i1, ec, oR, hr, ew, nwS_o]
    refine pinitM (P := S.1) hc rfl (uu_s _ _ _) (fun S' I' L' R' f1 f2 f3 f4 f5 f6 => ?_)
    have f0 : Ext S (nwS S 13 3) := ⟨Nat.le_succ _, nwS_e⟩
    have f3' : Ext S S' := Ext.tr f0 f3
    have hS' : Pm S' := Pm_ext hS f3'.1 f3'.2
    have fr : ∀ a, a < S.1 → I' a = I a ∧ R' a = R a := fun a h => by
      have q := f6 a h
      exact ⟨q.1.trans (uu_n _ _ (Nat.ne_of_lt h)), q.2.trans (uu_n _ _ (Nat.ne_of_lt h))⟩
    have hR1 : Pr R' := Pr_ext hR (fun a h => (fr a (by omega)).2)
    have k39 := of_eq_true (pk39 hS')
    have a39 : (39 < S'.1 ∧ 14 ≤ S'.2.2.1 39 ∧ S'.2.2.1 39 < 17) := ⟨k39.1, by rw [k39.2]; decide, by rw [k39.2]; decide⟩
    have el : elK (S'.2.2.1 39) = 3 := by rw [k39.2]; rfl
    have o3 : ok S' S.1 3 := f4.1.1
    have p410 : R' 4 10 = some 39 := pr4_10 hR1
    have k4 := of_eq_true (pk4 hS')
    have l39 := pl39 hS'
    simp only [E134_0, E134_1, E134_2, E134_3, E134_6, E134_9, E134_12, E134_15, E134_16, E134_17, E134_20, E134_21, E134_22, E134_22n, E134_23, E134_23n, E134_24, E134_24n, E134_27, E134_30, E134_31, E134_32, E134_35, E134_35n, E134_36, E134_37, E134_40, E134_41, E134_41n, E134_42, E134_42n, E134_43, E134_43n, E134_44, E134_44n, rfs, rfn, cs0, csi, csl, csr, csn, kti, ktl, ktr, ktn, ktv, ktf, true_and, and_true, and_self, ↓reduceIte, Nat.reduceAdd, Nat.reduceSub, Nat.reduceMul, Nat.reduceLT, Nat.reduceLeDiff, Nat.reduceEqDiff, true_or, or_true, false_or, or_false, not_true_eq_false, not_false_eq_true, reduceCtorEq, cmp_lt, cmp_gt, cmp_eq, Int32.reduceAdd, Int32.reduceSub, Int32.reduceMul, Int32.reduceLT, Int32.reduceToNatClampNeg, eq_self, ne_eq, Int64.reduceAdd, Int64.reduceSub, Int64.reduceMul, Int64.reduceLT, a39, el, o3, l39, i1, ec, k4, p410]
    refine h2 hr S' I' L' _ f1 (by have q : S'.2.1 ≤ S.2.1 + 13 + yW c := f2; exact q) f3' ?_ f5 (fun a h => ⟨(fr a h).1, fun z => ?_⟩) ?_
    · obtain ⟨g1, g2, g3, ⟨v1, v2, v3, v4⟩, g5, g6⟩ := f4
      have e : pL1 S.1 c = S.1 + 11 + 3 * c := rfl
      have nn : ∀ a, S.1 ≤ a → va_up R' 39 (va_up (R' 39) c (some S.1)) a = R' a := fun a h => uu_n _ _ (by omega)
      refine ⟨g1, ?_, Ext.rf.fo (fun a x y => nn a (by omega)) g3, ⟨Ext.rf.lv (nn _ (by omega)) (nn _ (by omega)) v1, Ext.rf.lv (nn _ (by omega)) (nn _ (by omega)) v2, Ext.rf.lv (nn _ (by omega)) (nn _ (by omega)) v3, Ext.rf.lv (nn _ (by omega)) (nn _ (by omega)) v4⟩, Ext.rf.mat (nn _ (by omega)) g5, g6⟩
      rw [nn _ (Nat.le_refl _)]
      exact g2
    · rw [uu_n _ _ z]
      exact (fr a h).2
    · rw [uu_s, (fr 39 (by omega)).2]
end PC
