/-! the class's call image -/
theorem pR12 : ∀ q, q ∈ pR → ¬ q.1 = 12 := by decide
theorem SmS.R {S : mS} {R R' : mR} {z : Nat} (h : SmS S R z) (hr : R' z = R z) : SmS S R' z := by
  unfold SmS at h ⊢
  rw [hr]
  exact h
theorem SmS.S {S S' : mS} {R : mR} {z : Nat} (h : SmS S R z) (h1 : S.1 ≤ S'.1) (he : ∀ a, a < S.1 → S'.2.2.1 a = S.2.2.1 a ∧ S'.2.2.2 a = S.2.2.2 a) : SmS S' R z := by
  have k : ∀ {a c : Nat}, ok S a c → ok S' a c := fun o => ⟨Nat.lt_of_lt_of_le o.1 h1, (he _ o.1).1.trans o.2⟩
  have l : ∀ {a c n : Nat}, ok S a c → S.2.2.2 a = n → S'.2.2.2 a = n := fun o q => (he _ o.1).2.trans q
  obtain ⟨a0, ⟨a1, a2, a3⟩, ⟨b1, b2, b3⟩, ⟨c1, c2, c3⟩, ⟨d1, d2, d3⟩, ⟨e1, e2, e3⟩, f1, f2, f3⟩ := h
  exact ⟨k a0, ⟨k a1, l a1 a2, a3⟩, ⟨k b1, l b1 b2, b3⟩, ⟨k c1, l c1 c2, c3⟩, ⟨k d1, l d1 d2, d3⟩, ⟨k e1, l e1 e2, e3⟩, k f1, l f1 f2, f3⟩
section IM
variable {d : Nat} {k : Int32} {S : mS} {I : mI} {L : mL} {R : mR} {Q : mQ}
theorem image_c (hS : Pm S) (hR : Pr R) (hi : Img S R) (hrec : ∀ i q, i < 8 → R 9 i = some q → ok S q 5) (h0 : k < 0 ∨ ¬ k < 2 → Q (.int (-1)) S (refF I (-1)) L R) (h1 : ¬ k < 0 → k < 2 → ∀ y, R 12 k.toNatClampNeg = some y → Q (.int 0) S (graF (cfB (cfA I y 5) y 5)) L (rpR R y 5 8)) (h2 : ¬ k < 0 → k < 2 → R 12 k.toNatClampNeg = none → ∀ S' I' L' R', S'.1 = S.1 + 7 → S'.2.1 = S.2.1 + 49 → (∀ a, a < S.1 → S'.2.2.1 a = S.2.2.1 a ∧ S'.2.2.2 a = S.2.2.2 a) → SmS S' R' S.1 → (∀ a, a < S.1 → I' a = I a ∧ L' a = L a ∧ (¬ a = 12 → R' a = R a)) → R' 12 = va_up (R 12) k.toNatClampNeg (some S.1) → Q (.int 0) S' (graF (cfB (cfA I' S.1 5) S.1 5)) L' (rpR R' S.1 5 8)) : EvM (d + 3) 125 [.ref 4, .int k] S I L R Q := by
  have h85 := hS.1
  by_cases g1 : k < 0
  · simp only [M125, E125_0, E125_1, E125_4, E125_5, E125_6, E125_9, E125_10, E125_11, E125_14, E125_15, E125_16, E125_19, E125_20, E125_21, E125_21n, E125_22, E125_22n, E125_23, E125_23n, E125_26, E125_29, E125_30, E125_33, E125_33n, E125_34, E125_35, E125_38, E125_39, E125_39n, E125_40, E125_40n, E125_41, E125_41n, E125_42, E125_43, E125_46, E125_49, E125_50, E125_51, E125_54, pk4 hS, pk5 hS, pk12 hS, pl12 hS, pa12 hS, pq12 hS, pk53 hS, pl53 hS, pa53 hS, pi53 hS, pr4_0 hR, pr4_1 hR, pr4_12 hR, rfs, rfn, cs0, csi, csl, csr, csn, kti, ktl, ktr, ktn, ktv, ktf, true_and, and_true, and_self, ↓reduceIte, Nat.reduceAdd, Nat.reduceSub, Nat.reduceMul, Nat.reduceLT, Nat.reduceLeDiff, Nat.reduceEqDiff, true_or, or_true, false_or, or_false, not_true_eq_false, not_false_eq_true, reduceCtorEq, cmp_lt, cmp_gt, cmp_eq, Int32.reduceAdd, Int32.reduceSub, Int32.reduceMul, Int32.reduceLT, Int32.reduceToNatClampNeg, eq_self, ne_eq, Int64.reduceAdd, Int64.reduceSub, Int64.reduceMul, Int64.reduceLT, g1, refu hS hR]
    exact h0 (Or.inl g1)
  by_cases g2 : k < 2
  · have i1 : inb k 2 = True := inb_lt (n := 2) (by decide) g1 g2
    have o := of_eq_true (pk12 hS)
    have oR : okR S 12 := ⟨o.1, by rw [o.2]; decide⟩
    cases hr : R 12 k.toNatClampNeg with
    | some y =>
      obtain ⟨f1, f2, f3⟩ := hi k.toNatClampNeg y (of_eq_true i1).2 hr
      simp only [M125, E125_0, E125_1, E125_4, E125_5, E125_6, E125_9, E125_10, E125_11, E125_14, E125_15, E125_16, E125_19, E125_20, E125_21, E125_21n, E125_22, E125_22n, E125_23, E125_23n, E125_26, E125_29, E125_30, E125_33, E125_33n, E125_34, E125_35, E125_38, E125_39, E125_39n, E125_40, E125_40n, E125_41, E125_41n, E125_42, E125_43, E125_46, E125_49, E125_50, E125_51, E125_54, pk4 hS, pk5 hS, pk12 hS, pl12 hS, pa12 hS, pq12 hS, pk53 hS, pl53 hS, pa53 hS, pi53 hS, pr4_0 hR, pr4_1 hR, pr4_12 hR, rfs, rfn, cs0, csi, csl, csr, csn, kti, ktl, ktr, ktn, ktv, ktf, true_and, and_true, and_self, ↓reduceIte, Nat.reduceAdd, Nat.reduceSub, Nat.reduceMul, Nat.reduceLT, Nat.reduceLeDiff, Nat.reduceEqDiff, true_or, or_true, false_or, or_false, not_true_eq_false, not_false_eq_true, reduceCtorEq, cmp_lt, cmp_gt, cmp_eq, Int32.reduceAdd, Int32.reduceSub, Int32.reduceMul, Int32.reduceLT, Int32.reduceToNatClampNeg, eq_self, ne_eq, Int64.reduceAdd, Int64.reduceSub, Int64.reduceMul, Int64.reduceLT, g1, g2, i1, oR, hr, f1.1]
      refine cpf f1 (smi5 hS hR) (by omega) (fun i q h3 h4 => hrec i q h3 h4) ?_
      have hR' : Pr (rpR R y 5 8) := Pr_ext hR (fun a h => uu_n _ _ (by omega))
      simp only [E125_0, E125_1, E125_4, E125_5, E125_6, E125_9, E125_10, E125_11, E125_14, E125_15, E125_16, E125_19, E125_20, E125_21, E125_21n, E125_22, E125_22n, E125_23, E125_23n, E125_26, E125_29, E125_30, E125_33, E125_33n, E125_34, E125_35, E125_38, E125_39, E125_39n, E125_40, E125_40n, E125_41, E125_41n, E125_42, E125_43, E125_46, E125_49, E125_50, E125_51, E125_54, rfs, rfn, cs0, csi, csl, csr, csn, kti, ktl, ktr, ktn, ktv, ktf, true_and, and_true, and_self, ↓reduceIte, Nat.reduceAdd, Nat.reduceSub, Nat.reduceMul, Nat.reduceLT, Nat.reduceLeDiff, Nat.reduceEqDiff, true_or, or_true, false_or, or_false, not_true_eq_false, not_false_eq_true, reduceCtorEq, cmp_lt, cmp_gt, cmp_eq, Int32.reduceAdd, Int32.reduceSub, Int32.reduceMul, Int32.reduceLT, Int32.reduceToNatClampNeg, eq_self, ne_eq, Int64.reduceAdd, Int64.reduceSub, Int64.reduceMul, Int64.reduceLT, gran hS hR', of_eq_true (pk4 hS)]
      exact h1 g1 g2 y hr
    | none =>
      have ew : (S.1 + 1, S.2.1 + 10, va_up S.2.2.1 S.1 7, va_up S.2.2.2 S.1 0) = nwS S 10 7 := rfl
      simp only [M125, E125_0, E125_1, E125_4, E125_5, E125_6, E125_9, E125_10, E125_11, E125_14, E125_15, E125_16, E125_19, E125_20, E125_21, E125_21n, E125_22, E125_22n, E125_23, E125_23n, E125_26, E125_29, E125_30, E125_33, E125_33n, E125_34, E125_35, E125_38, E125_39, E125_39n, E125_40, E125_40n, E125_41, E125_41n, E125_42, E125_43, E125_46, E125_49, E125_50, E125_51, E125_54, pk4 hS, pk5 hS, pk12 hS, pl12 hS, pa12 hS, pq12 hS, pk53 hS, pl53 hS, pa53 hS, pi53 hS, pr4_0 hR, pr4_1 hR, pr4_12 hR, rfs, rfn, cs0, csi, csl, csr, csn, kti, ktl, ktr, ktn, ktv, ktf, true_and, and_true, and_self, ↓reduceIte, Nat.reduceAdd, Nat.reduceSub, Nat.reduceMul, Nat.reduceLT, Nat.reduceLeDiff, Nat.reduceEqDiff, true_or, or_true, false_or, or_false, not_true_eq_false, not_false_eq_true, reduceCtorEq, cmp_lt, cmp_gt, cmp_eq, Int32.reduceAdd, Int32.reduceSub, Int32.reduceMul, Int32.reduceLT, Int32.reduceToNatClampNeg, eq_self, ne_eq, Int64.reduceAdd, Int64.reduceSub, Int64.reduceMul, Int64.reduceLT, g1, g2, i1, oR, hr, ew, nwS_o]
      refine smn (z := S.1) (uu_s _ _ _) rfl (fun S' I' L' R' f1 f2 f3 f4 f5 => ?_)
      have f3' : ∀ a, a < S.1 → S'.2.2.1 a = S.2.2.1 a ∧ S'.2.2.2 a = S.2.2.2 a := fun a h => ⟨(f3 a (Nat.lt_succ_of_lt h)).1.trans (nwS_e a h).1, (f3 a (Nat.lt_succ_of_lt h)).2.trans (nwS_e a h).2⟩
      have hS' : Pm S' := Pm_ext hS (by omega) f3'
      have fr : ∀ a, a < S.1 → I' a = I a ∧ L' a = L a ∧ R' a = R a := fun a h => by
        have q := f5 a h
        exact ⟨q.1.trans (uu_n _ _ (Nat.ne_of_lt h)), q.2.1.trans (uu_n _ _ (Nat.ne_of_lt h)), q.2.2.trans (uu_n _ _ (Nat.ne_of_lt h))⟩
      have hR1 : Pr R' := Pr_ext hR (fun a h => (fr a (by omega)).2.2)
      have k12 := of_eq_true (pk12 hS')
      have a12 : (12 < S'.1 ∧ 14 ≤ S'.2.2.1 12 ∧ S'.2.2.1 12 < 17) := ⟨k12.1, by rw [k12.2]; decide, by rw [k12.2]; decide⟩
      have el : elK (S'.2.2.1 12) = 7 := by rw [k12.2]; rfl
      have oR' : okR S' 12 := ⟨k12.1, by rw [k12.2]; decide⟩
      have o7 : ok S' S.1 7 := f4.1
      have hR2 : Pr (va_up R' 12 (va_up (R' 12) k.toNatClampNeg (some S.1))) := fun q hq => by
        rw [uu_n _ _ (pR12 q hq)]
        exact hR1 q hq
      have e12 : R' 12 = R 12 := (fr 12 (by omega)).2.2
      have p41 : R' 4 1 = some 12 := pr4_1 hR1
      have p40 : va_up R' 12 (va_up (R' 12) k.toNatClampNeg (some S.1)) 4 0 = some 5 := pr4_0 hR2
      have k4 := of_eq_true (pk4 hS')
      have k5 := of_eq_true (pk5 hS')
      have l12 := pl12 hS'
      simp only [E125_0, E125_1, E125_4, E125_5, E125_6, E125_9, E125_10, E125_11, E125_14, E125_15, E125_16, E125_19, E125_20, E125_21, E125_21n, E125_22, E125_22n, E125_23, E125_23n, E125_26, E125_29, E125_30, E125_33, E125_33n, E125_34, E125_35, E125_38, E125_39, E125_39n, E125_40, E125_40n, E125_41, E125_41n, E125_42, E125_43, E125_46, E125_49, E125_50, E125_51, E125_54, rfs, rfn, cs0, csi, csl, csr, csn, kti, ktl, ktr, ktn, ktv, ktf, true_and, and_true, and_self, ↓reduceIte, Nat.reduceAdd, Nat.reduceSub, Nat.reduceMul, Nat.reduceLT, Nat.reduceLeDiff, Nat.reduceEqDiff, true_or, or_true, false_or, or_false, not_true_eq_false, not_false_eq_true, reduceCtorEq, cmp_lt, cmp_gt, cmp_eq, Int32.reduceAdd, Int32.reduceSub, Int32.reduceMul, Int32.reduceLT, Int32.reduceToNatClampNeg, eq_self, ne_eq, Int64.reduceAdd, Int64.reduceSub, Int64.reduceMul, Int64.reduceLT, a12, el, o7, l12, i1, k4, k5, p41, p40]
      have v4 : SmS S' (va_up R' 12 (va_up (R' 12) k.toNatClampNeg (some S.1))) S.1 := f4.R (uu_n _ _ (by omega))
      refine cpf v4 (smi5 hS' hR2) (by omega) (fun i q h3 h4 => ?_) ?_
      · have h5 : R 9 i = some q := by
          rw [← (fr 9 (by omega)).2.2]
          rw [uu_n _ _ (by decide)] at h4
          exact h4
        have o5 := hrec i q h3 h5
        exact ⟨by have := o5.1; omega, (f3' q o5.1).1.trans o5.2⟩
      · have hR3 : Pr (rpR (va_up R' 12 (va_up (R' 12) k.toNatClampNeg (some S.1))) S.1 5 8) := Pr_ext hR2 (fun a h => uu_n _ _ (by omega))
        simp only [E125_0, E125_1, E125_4, E125_5, E125_6, E125_9, E125_10, E125_11, E125_14, E125_15, E125_16, E125_19, E125_20, E125_21, E125_21n, E125_22, E125_22n, E125_23, E125_23n, E125_26, E125_29, E125_30, E125_33, E125_33n, E125_34, E125_35, E125_38, E125_39, E125_39n, E125_40, E125_40n, E125_41, E125_41n, E125_42, E125_43, E125_46, E125_49, E125_50, E125_51, E125_54, rfs, rfn, cs0, csi, csl, csr, csn, kti, ktl, ktr, ktn, ktv, ktf, true_and, and_true, and_self, ↓reduceIte, Nat.reduceAdd, Nat.reduceSub, Nat.reduceMul, Nat.reduceLT, Nat.reduceLeDiff, Nat.reduceEqDiff, true_or, or_true, false_or, or_false, not_true_eq_false, not_false_eq_true, reduceCtorEq, cmp_lt, cmp_gt, cmp_eq, Int32.reduceAdd, Int32.reduceSub, Int32.reduceMul, Int32.reduceLT, Int32.reduceToNatClampNeg, eq_self, ne_eq, Int64.reduceAdd, Int64.reduceSub, Int64.reduceMul, Int64.reduceLT, gran hS' hR3, k4]
        refine h2 g1 g2 hr S' I' L' _ f1 (by rw [f2]; show S.2.1 + 10 + 39 = _; omega) f3' v4 (fun a h => ⟨(fr a h).1, (fr a h).2.1, fun z => ?_⟩) ?_
        · rw [uu_n _ _ z]
          exact (fr a h).2.2
        · rw [uu_s, e12]
  · simp only [M125, E125_0, E125_1, E125_4, E125_5, E125_6, E125_9, E125_10, E125_11, E125_14, E125_15, E125_16, E125_19, E125_20, E125_21, E125_21n, E125_22, E125_22n, E125_23, E125_23n, E125_26, E125_29, E125_30, E125_33, E125_33n, E125_34, E125_35, E125_38, E125_39, E125_39n, E125_40, E125_40n, E125_41, E125_41n, E125_42, E125_43, E125_46, E125_49, E125_50, E125_51, E125_54, pk4 hS, pk5 hS, pk12 hS, pl12 hS, pa12 hS, pq12 hS, pk53 hS, pl53 hS, pa53 hS, pi53 hS, pr4_0 hR, pr4_1 hR, pr4_12 hR, rfs, rfn, cs0, csi, csl, csr, csn, kti, ktl, ktr, ktn, ktv, ktf, true_and, and_true, and_self, ↓reduceIte, Nat.reduceAdd, Nat.reduceSub, Nat.reduceMul, Nat.reduceLT, Nat.reduceLeDiff, Nat.reduceEqDiff, true_or, or_true, false_or, or_false, not_true_eq_false, not_false_eq_true, reduceCtorEq, cmp_lt, cmp_gt, cmp_eq, Int32.reduceAdd, Int32.reduceSub, Int32.reduceMul, Int32.reduceLT, Int32.reduceToNatClampNeg, eq_self, ne_eq, Int64.reduceAdd, Int64.reduceSub, Int64.reduceMul, Int64.reduceLT, g1, g2, refu hS hR]
    exact h0 (Or.inr g2)
end IM
