/-! the reference: in, tell, status, fault -/
def telF (I : mI) (v : Int32) : mI := if v < 0 then put (put I 54 1 v) 55 (-v).toNatClampNeg (I 55 (-v).toNatClampNeg + 1) else put I 54 1 0
def inB (v lo hi : Int64) : Bool := decide (¬ v < lo ∧ ¬ hi < v)
section RF
variable {d : Nat} {S : mS} {I : mI} {L : mL} {R : mR} {Q : mQ}
theorem inn {v lo hi : Int64} : EvM (d + 1) 140 [.long v, .long lo, .long hi] S I L R Q = Q (.int (bI (inB v lo hi))) S I L R := by
  have e : inB v lo hi = decide (¬ v < lo ∧ ¬ hi < v) := rfl
  rw [e]
  by_cases h1 : v < lo <;> by_cases h2 : hi < v <;> simp only [M140, E140_0, E140_1, E140_2, E140_3, E140_6, E140_7, E140_9, E140_10, E140_13, E140_14, E140_17, E140_18, rfs, rfn, cs0, csi, csl, csr, csn, kti, ktl, ktr, ktn, ktv, ktf, true_and, and_true, and_self, ↓reduceIte, Nat.reduceAdd, Nat.reduceSub, Nat.reduceMul, Nat.reduceLT, Nat.reduceLeDiff, Nat.reduceEqDiff, true_or, or_true, false_or, or_false, not_true_eq_false, not_false_eq_true, reduceCtorEq, cmp_lt, cmp_gt, cmp_eq, Int32.reduceAdd, Int32.reduceSub, Int32.reduceMul, Int32.reduceLT, Int32.reduceToNatClampNeg, eq_self, ne_eq, Int64.reduceAdd, Int64.reduceSub, Int64.reduceMul, Int64.reduceLT, h1, h2, decide_true, decide_false, bI_t, bI_f, and_false, false_and]
theorem telP {v : Int32} (hS : Pm S) (hR : Pr R) (h : ¬ v < 0) : EvM (d + 1) 141 [.ref 54, .int v] S I L R Q = Q (.int v) S (telF I v) L R := by
  unfold telF
  rw [if_neg h]
  simp only [M141, E141_0, E141_1, E141_2, E141_5, E141_6, E141_9, E141_10, E141_13, E141_14, E141_17, E141_18, E141_21, E141_22, E141_23, E141_24, E141_25, E141_26, E141_27, E141_28, E141_29, pk54 hS, pk55 hS, pl55 hS, pa55 hS, pi55 hS, pr54_2 hR, rfs, rfn, cs0, csi, csl, csr, csn, kti, ktl, ktr, ktn, ktv, ktf, true_and, and_true, and_self, ↓reduceIte, Nat.reduceAdd, Nat.reduceSub, Nat.reduceMul, Nat.reduceLT, Nat.reduceLeDiff, Nat.reduceEqDiff, true_or, or_true, false_or, or_false, not_true_eq_false, not_false_eq_true, reduceCtorEq, cmp_lt, cmp_gt, cmp_eq, Int32.reduceAdd, Int32.reduceSub, Int32.reduceMul, Int32.reduceLT, Int32.reduceToNatClampNeg, eq_self, ne_eq, Int64.reduceAdd, Int64.reduceSub, Int64.reduceMul, Int64.reduceLT, pt, h]
theorem telN {v : Int32} (hS : Pm S) (hR : Pr R) (h : v < 0) (hi : inb (-v) 7 = True) : EvM (d + 1) 141 [.ref 54, .int v] S I L R Q = Q (.int v) S (telF I v) L R := by
  unfold telF
  rw [if_pos h]
  simp only [M141, E141_0, E141_1, E141_2, E141_5, E141_6, E141_9, E141_10, E141_13, E141_14, E141_17, E141_18, E141_21, E141_22, E141_23, E141_24, E141_25, E141_26, E141_27, E141_28, E141_29, pk54 hS, pk55 hS, pl55 hS, pa55 hS, pi55 hS, pr54_2 hR, rfs, rfn, cs0, csi, csl, csr, csn, kti, ktl, ktr, ktn, ktv, ktf, true_and, and_true, and_self, ↓reduceIte, Nat.reduceAdd, Nat.reduceSub, Nat.reduceMul, Nat.reduceLT, Nat.reduceLeDiff, Nat.reduceEqDiff, true_or, or_true, false_or, or_false, not_true_eq_false, not_false_eq_true, reduceCtorEq, cmp_lt, cmp_gt, cmp_eq, Int32.reduceAdd, Int32.reduceSub, Int32.reduceMul, Int32.reduceLT, Int32.reduceToNatClampNeg, eq_self, ne_eq, Int64.reduceAdd, Int64.reduceSub, Int64.reduceMul, Int64.reduceLT, pt, pt_m, h, hi]
end RF
