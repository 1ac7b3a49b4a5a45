/-! the class's call twelve -/
def Gt (I J : mI) : Prop := ∀ a, a < 26 ∨ 31 < a → ¬ a = 38 → J a = I a
theorem Gt.gu {I J K : mI} (h : Gt I J) (g : Gu 26 J K) : Gt I K := fun a h1 h2 => (g a h1).trans (h a h1 h2)
section CA
variable {d a l q n k1 k2 k3 m : Nat} {S : mS} {I : mI} {L : mL} {R : mR} {Q : mQ}
theorem wi_in {i : Nat} (hS : Pm S) (hR : Pr R) (hi : i < 12) (hq : ∀ v x, Ev (d + 2) 137 38 [.ref 4, .int v, .int (nI i), x] [] S I L R Q) : ∀ (N j : Nat) (v : Int32), j + N = i → Ev (d + 2) 137 12 [.ref 4, .int v, .int (nI i), .int (nI j)] [] S I L R Q := by
  intro N
  induction N with
  | zero =>
    intro j v hj
    obtain rfl : j = i := by omega
    have e : (nI j < nI j) = False := eq_false (nI_nlt (Nat.le_refl _) (by omega))
    rw [E137_12]
    simp only [E137_13, E137_14, rfs, rfn, cs0, csi, csl, csr, csn, kti, ktl, ktr, ktn, ktv, ktf, true_and, and_true, and_self, ↓reduceIte, Nat.reduceAdd, Nat.reduceSub, Nat.reduceMul, Nat.reduceLT, Nat.reduceLeDiff, Nat.reduceEqDiff, true_or, or_true, false_or, or_false, not_true_eq_false, not_false_eq_true, reduceCtorEq, cmp_lt, cmp_gt, cmp_eq, Int32.reduceAdd, Int32.reduceSub, Int32.reduceMul, Int32.reduceLT, Int32.reduceToNatClampNeg, eq_self, ne_eq, Int64.reduceAdd, Int64.reduceSub, Int64.reduceMul, Int64.reduceLT, e]
    exact hq _ _
  | succ N ih =>
    intro j v hj
    have e1 : (nI j < nI i) = True := eq_true (nI_lt (by omega) (by omega))
    have k := fun Q => apa (d := d) (i := i) (j := j) (I := I) (L := L) (Q := Q) hS hR (of_eq_true (pk38 hS)) (pl38 hS) (by omega) (by omega) (by omega)
    rw [E137_12]
    simp only [E137_0, E137_1, E137_2, E137_3, E137_5, E137_7, E137_10, E137_11, E137_13, E137_14, E137_17, E137_18, E137_19, E137_20, E137_21, E137_24, E137_25, E137_28, E137_31, E137_32, E137_35, E137_41, E137_44, E137_45, pk4 hS, pk5 hS, pk27 hS, pl27 hS, pa27 hS, pi27 hS, pk38 hS, pl38 hS, pa38 hS, pi38 hS, pr4_0 hR, pr4_7 hR, pr4_8 hR, pr4_9 hR, pr26_1 hR, rfs, rfn, cs0, csi, csl, csr, csn, kti, ktl, ktr, ktn, ktv, ktf, true_and, and_true, and_self, ↓reduceIte, Nat.reduceAdd, Nat.reduceSub, Nat.reduceMul, Nat.reduceLT, Nat.reduceLeDiff, Nat.reduceEqDiff, true_or, or_true, false_or, or_false, not_true_eq_false, not_false_eq_true, reduceCtorEq, cmp_lt, cmp_gt, cmp_eq, Int32.reduceAdd, Int32.reduceSub, Int32.reduceMul, Int32.reduceLT, Int32.reduceToNatClampNeg, eq_self, ne_eq, Int64.reduceAdd, Int64.reduceSub, Int64.reduceMul, Int64.reduceLT, n1_0, bI_t, bI_f, e1, k, nI_1]
    exact ih (j + 1) _ (by omega)
theorem wi_lp (hS : Pm S) (hR : Pr R) (hq : ∀ v, Q (.int v) S I L R) : ∀ (N i : Nat) (v : Int32) (x : Value), i + N = 12 → Ev (d + 2) 137 4 [.ref 4, .int v, .int (nI i), x] [] S I L R Q := by
  intro N
  induction N with
  | zero =>
    intro i v x hi
    obtain rfl : i = 12 := by omega
    have e : (nI 12 < (12 : Int32)) = False := eq_false (by decide)
    rw [E137_4]
    simp only [E137_5, E137_7, E137_44, E137_45, rfs, rfn, cs0, csi, csl, csr, csn, kti, ktl, ktr, ktn, ktv, ktf, true_and, and_true, and_self, ↓reduceIte, Nat.reduceAdd, Nat.reduceSub, Nat.reduceMul, Nat.reduceLT, Nat.reduceLeDiff, Nat.reduceEqDiff, true_or, or_true, false_or, or_false, not_true_eq_false, not_false_eq_true, reduceCtorEq, cmp_lt, cmp_gt, cmp_eq, Int32.reduceAdd, Int32.reduceSub, Int32.reduceMul, Int32.reduceLT, Int32.reduceToNatClampNeg, eq_self, ne_eq, Int64.reduceAdd, Int64.reduceSub, Int64.reduceMul, Int64.reduceLT, e]
    exact hq _
  | succ N ih =>
    intro i v x hi
    have e1 : (nI i < (12 : Int32)) = True := eq_true (nI_lt (a := i) (b := 12) (by omega) (by decide))
    rw [E137_4]
    simp only [E137_5, E137_7, E137_10, E137_11, rfs, rfn, cs0, csi, csl, csr, csn, kti, ktl, ktr, ktn, ktv, ktf, true_and, and_true, and_self, ↓reduceIte, Nat.reduceAdd, Nat.reduceSub, Nat.reduceMul, Nat.reduceLT, Nat.reduceLeDiff, Nat.reduceEqDiff, true_or, or_true, false_or, or_false, not_true_eq_false, not_false_eq_true, reduceCtorEq, cmp_lt, cmp_gt, cmp_eq, Int32.reduceAdd, Int32.reduceSub, Int32.reduceMul, Int32.reduceLT, Int32.reduceToNatClampNeg, eq_self, ne_eq, Int64.reduceAdd, Int64.reduceSub, Int64.reduceMul, Int64.reduceLT, e1]
    have k := wi_in (d := d) (i := i) (I := I) (L := L) (Q := Q) hS hR (by omega) (fun v x => by
      simp only [E137_38, E137_41, rfs, rfn, cs0, csi, csl, csr, csn, kti, ktl, ktr, ktn, ktv, ktf, true_and, and_true, and_self, ↓reduceIte, Nat.reduceAdd, Nat.reduceSub, Nat.reduceMul, Nat.reduceLT, Nat.reduceLeDiff, Nat.reduceEqDiff, true_or, or_true, false_or, or_false, not_true_eq_false, not_false_eq_true, reduceCtorEq, cmp_lt, cmp_gt, cmp_eq, Int32.reduceAdd, Int32.reduceSub, Int32.reduceMul, Int32.reduceLT, Int32.reduceToNatClampNeg, eq_self, ne_eq, Int64.reduceAdd, Int64.reduceSub, Int64.reduceMul, Int64.reduceLT, nI_1]
      exact ih (i + 1) _ _ (by omega)) i 0 v (by omega)
    rw [show nI 0 = 0 from rfl] at k
    exact k
theorem wid (hS : Pm S) (hR : Pr R) (hq : ∀ v, Q (.int v) S I L R) : EvM (d + 2) 137 [.ref 4] S I L R Q := by
  have k := wi_lp (d := d) hS hR hq 12 0 0 nv (by omega)
  rw [show nI 0 = 0 from rfl] at k
  simp only [M137, E137_0, E137_1, E137_2, E137_3, E137_5, E137_7, E137_10, E137_11, E137_13, E137_14, E137_17, E137_18, E137_19, E137_20, E137_21, E137_24, E137_25, E137_28, E137_31, E137_32, E137_35, E137_38, E137_41, E137_44, E137_45, rfs, rfn, cs0, csi, csl, csr, csn, kti, ktl, ktr, ktn, ktv, ktf, true_and, and_true, and_self, ↓reduceIte, Nat.reduceAdd, Nat.reduceSub, Nat.reduceMul, Nat.reduceLT, Nat.reduceLeDiff, Nat.reduceEqDiff, true_or, or_true, false_or, or_false, not_true_eq_false, not_false_eq_true, reduceCtorEq, cmp_lt, cmp_gt, cmp_eq, Int32.reduceAdd, Int32.reduceSub, Int32.reduceMul, Int32.reduceLT, Int32.reduceToNatClampNeg, eq_self, ne_eq, Int64.reduceAdd, Int64.reduceSub, Int64.reduceMul, Int64.reduceLT]
  exact k
theorem mk_lp {x y : Int32} (hS : Pm S) (hR : Pr R) (e2 : RecS S R q n k1 k2 k3 m) (h85 : 85 ≤ q) (h86 : 85 ≤ k2) (e3 : I q 0 = nI n) (hq : ∀ J, Gt I J → Q .null S J L R) : ∀ (N i : Nat) (J : mI), i + N = 12 → Gt I J → Ev (d + 7) 135 12 [.ref 4, .ref q, .int x, .int y, .int (nI i)] [] S J L R Q := by
  have hz := smi5 hS hR
  have t1 := run26 hS hR
  intro N
  induction N with
  | zero =>
    intro i J hi hg
    obtain rfl : i = 12 := by omega
    have e : (nI 12 < (12 : Int32)) = False := eq_false (by decide)
    rw [E135_12]
    simp only [E135_0, E135_1, E135_4, E135_5, E135_6, E135_9, E135_10, E135_14, E135_16, E135_19, E135_20, E135_23, E135_24, E135_27, E135_27n, E135_28, E135_29, E135_32, E135_33, E135_34, E135_37, E135_40, E135_41, E135_42, E135_45, E135_47, E135_48, E135_49, E135_50, E135_53, E135_56, E135_59, E135_60, E135_63, E135_64, E135_65, E135_68, pk4 hS, pk5 hS, pk27 hS, pl27 hS, pa27 hS, pi27 hS, pk38 hS, pl38 hS, pa38 hS, pi38 hS, pr4_0 hR, pr4_7 hR, pr4_8 hR, pr4_9 hR, pr26_1 hR, rfs, rfn, cs0, csi, csl, csr, csn, kti, ktl, ktr, ktn, ktv, ktf, true_and, and_true, and_self, ↓reduceIte, Nat.reduceAdd, Nat.reduceSub, Nat.reduceMul, Nat.reduceLT, Nat.reduceLeDiff, Nat.reduceEqDiff, true_or, or_true, false_or, or_false, not_true_eq_false, not_false_eq_true, reduceCtorEq, cmp_lt, cmp_gt, cmp_eq, Int32.reduceAdd, Int32.reduceSub, Int32.reduceMul, Int32.reduceLT, Int32.reduceToNatClampNeg, eq_self, ne_eq, Int64.reduceAdd, Int64.reduceSub, Int64.reduceMul, Int64.reduceLT, n1_0, bI_t, bI_f, e, t1.1, tkH t1]
    exact hq _ (hg.gu ((Gu.rf.pt (by omega) (by omega)).pt (by omega) (by omega)))
  | succ N ih =>
    intro i J hi hg
    have e1 : (nI i < (12 : Int32)) = True := eq_true (nI_lt (a := i) (b := 12) (by omega) (by decide))
    have c1 := fun Q => car (d := d) (w := -1) (I := J) (L := L) (Q := Q) t1 hz e2 (Or.inr (by omega)) (Or.inr (by omega)) (by rw [hg q (Or.inr (by omega)) (by omega)]; exact e3)
    have e5 : nI i * 5 = nI (5 * i) := by rw [show (5 : Int32) = nI 5 from rfl, pk_mul, Nat.mul_comm]
    have e6 : (nI (5 * i) < 0) = False := eq_false (nI_pos (by omega))
    have e7 : (nI (5 * i)).toNatClampNeg = 5 * i := nI_clamp (by omega)
    have e8 : (5 * i + 5 ≤ 60) = True := eq_true (by omega)
    rw [E135_12]
    simp only [E135_0, E135_1, E135_4, E135_5, E135_6, E135_9, E135_10, E135_14, E135_16, E135_19, E135_20, E135_23, E135_24, E135_27, E135_27n, E135_28, E135_29, E135_32, E135_33, E135_34, E135_37, E135_40, E135_41, E135_42, E135_45, E135_47, E135_48, E135_49, E135_50, E135_53, E135_56, E135_59, E135_60, E135_63, E135_64, E135_65, E135_68, pk4 hS, pk5 hS, pk27 hS, pl27 hS, pa27 hS, pi27 hS, pk38 hS, pl38 hS, pa38 hS, pi38 hS, pr4_0 hR, pr4_7 hR, pr4_8 hR, pr4_9 hR, pr26_1 hR, rfs, rfn, cs0, csi, csl, csr, csn, kti, ktl, ktr, ktn, ktv, ktf, true_and, and_true, and_self, ↓reduceIte, Nat.reduceAdd, Nat.reduceSub, Nat.reduceMul, Nat.reduceLT, Nat.reduceLeDiff, Nat.reduceEqDiff, true_or, or_true, false_or, or_false, not_true_eq_false, not_false_eq_true, reduceCtorEq, cmp_lt, cmp_gt, cmp_eq, Int32.reduceAdd, Int32.reduceSub, Int32.reduceMul, Int32.reduceLT, Int32.reduceToNatClampNeg, eq_self, ne_eq, Int64.reduceAdd, Int64.reduceSub, Int64.reduceMul, Int64.reduceLT, n1_0, bI_t, bI_f, e1, t1.1, c1, e5, e6, e7, e8, nI_1]
    refine ih (i + 1) _ (by omega) (fun a h1 h2 => ?_)
    rw [uu_n _ _ h2]
    exact (hg.gu Gu.rf.ca) a h1 h2
end CA
