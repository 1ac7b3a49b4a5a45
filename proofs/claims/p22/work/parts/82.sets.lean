/-! the class's Forge: safety, whatever the longs are -/
theorem iteB {c : Prop} [Decidable c] {P Q : Prop} (h1 : P) (h2 : Q) : (if c then P else Q) := by
  by_cases h : c
  · rw [if_pos h]; exact h1
  · rw [if_neg h]; exact h2
section FH
variable {d a b c e n : Nat} {S : mS} {I : mI} {R : mR} {Q : mQ}
theorem adH_lp (la : lon S a n) (lb : lon S b n) (hn : n < 2 ^ 24) (hq : ∀ L, Q .null S I L R) : ∀ (m i : Nat) (L : mL), i + m = n → Ev (d + 1) 6 2 [.ref a, .ref b, .int (nI i)] [] S I L R Q := by
  have A := lonA la
  have B := lonA lb
  intro m
  induction m with
  | zero =>
    intro i L hi
    obtain rfl : i = n := by omega
    have e0 : (nI i < nI i) = False := eq_false (nI_nlt (Nat.le_refl i) (by omega))
    rw [E6_2]
    simp only [E6_0, E6_1, E6_3, E6_4, E6_5, E6_8, E6_9, E6_9n, E6_10, E6_11, E6_14, E6_14n, E6_15, E6_16, E6_17, E6_18, E6_19, E6_20, E6_21, E6_22, E6_23, E6_26, E6_29, rfs, rfn, cs0, csi, csl, csr, csn, kti, ktl, ktr, ktn, ktv, ktf, true_and, and_true, and_self, ↓reduceIte, Nat.reduceAdd, Nat.reduceSub, Nat.reduceMul, Nat.reduceLT, Nat.reduceLeDiff, Nat.reduceEqDiff, true_or, or_true, false_or, or_false, not_true_eq_false, not_false_eq_true, reduceCtorEq, cmp_lt, cmp_gt, cmp_eq, Int32.reduceAdd, Int32.reduceSub, Int32.reduceMul, Int32.reduceLT, Int32.reduceToNatClampNeg, eq_self, ne_eq, Int64.reduceAdd, Int64.reduceSub, Int64.reduceMul, Int64.reduceLT, A, la.2, e0]
    exact hq _
  | succ m ih =>
    intro i L hi
    have e1 : (nI i < nI n) = True := eq_true (nI_lt (by omega) (by omega))
    have e3 : inb (nI i) n = True := inb_nI (by omega) (by omega)
    rw [E6_2]
    simp only [E6_0, E6_1, E6_3, E6_4, E6_5, E6_8, E6_9, E6_9n, E6_10, E6_11, E6_14, E6_14n, E6_15, E6_16, E6_17, E6_18, E6_19, E6_20, E6_21, E6_22, E6_23, E6_26, E6_29, rfs, rfn, cs0, csi, csl, csr, csn, kti, ktl, ktr, ktn, ktv, ktf, true_and, and_true, and_self, ↓reduceIte, Nat.reduceAdd, Nat.reduceSub, Nat.reduceMul, Nat.reduceLT, Nat.reduceLeDiff, Nat.reduceEqDiff, true_or, or_true, false_or, or_false, not_true_eq_false, not_false_eq_true, reduceCtorEq, cmp_lt, cmp_gt, cmp_eq, Int32.reduceAdd, Int32.reduceSub, Int32.reduceMul, Int32.reduceLT, Int32.reduceToNatClampNeg, eq_self, ne_eq, Int64.reduceAdd, Int64.reduceSub, Int64.reduceMul, Int64.reduceLT, A, B, la.1, la.2, lb.1, lb.2, e1, e3, nI_1]
    exact ih (i + 1) _ (by omega)
theorem adH {L : mL} (la : lon S a n) (lb : lon S b n) (hn : n < 2 ^ 24) (hq : ∀ L, Q .null S I L R) : EvM (d + 1) 6 [.ref a, .ref b] S I L R Q := by
  have k := adH_lp (d := d) la lb hn hq n 0 L (by omega)
  rw [show nI 0 = 0 from rfl] at k
  simp only [M6, E6_0, E6_1, E6_3, E6_4, E6_5, E6_8, E6_9, E6_9n, E6_10, E6_11, E6_14, E6_14n, E6_15, E6_16, E6_17, E6_18, E6_19, E6_20, E6_21, E6_22, E6_23, E6_26, E6_29, rfs, rfn, cs0, csi, csl, csr, csn, kti, ktl, ktr, ktn, ktv, ktf, true_and, and_true, and_self, ↓reduceIte, Nat.reduceAdd, Nat.reduceSub, Nat.reduceMul, Nat.reduceLT, Nat.reduceLeDiff, Nat.reduceEqDiff, true_or, or_true, false_or, or_false, not_true_eq_false, not_false_eq_true, reduceCtorEq, cmp_lt, cmp_gt, cmp_eq, Int32.reduceAdd, Int32.reduceSub, Int32.reduceMul, Int32.reduceLT, Int32.reduceToNatClampNeg, eq_self, ne_eq, Int64.reduceAdd, Int64.reduceSub, Int64.reduceMul, Int64.reduceLT]
  exact k
theorem keH_lp (la : lon S a n) (lb : lon S b n) (hn : n < 2 ^ 24) (hq : ∀ v L, Q (.int (bI v)) S I L R) : ∀ (m i : Nat) (L : mL) (v : Int64), i + m = n → Ev (d + 1) 7 5 [.ref a, .ref b, .long v, nv, .int (nI i)] [] S I L R Q := by
  have A := lonA la
  have B := lonA lb
  intro m
  induction m with
  | zero =>
    intro i L v hi
    obtain rfl : i = n := by omega
    have e0 : (nI i < nI i) = False := eq_false (nI_nlt (Nat.le_refl i) (by omega))
    rw [E7_5]
    by_cases g : v = 0
    · simp only [E7_0, E7_1, E7_2, E7_3, E7_7, E7_8, E7_9, E7_12, E7_14, E7_14n, E7_15, E7_16, E7_19, E7_20, E7_22, E7_23, E7_24, E7_24n, E7_25, E7_27, E7_28, E7_29, E7_30, E7_31, E7_32, E7_34, E7_35, E7_36, E7_37, E7_40, E7_43, E7_44, E7_45, E7_46, E7_49, E7_50, E7_53, E7_54, rfs, rfn, cs0, csi, csl, csr, csn, kti, ktl, ktr, ktn, ktv, ktf, true_and, and_true, and_self, ↓reduceIte, Nat.reduceAdd, Nat.reduceSub, Nat.reduceMul, Nat.reduceLT, Nat.reduceLeDiff, Nat.reduceEqDiff, true_or, or_true, false_or, or_false, not_true_eq_false, not_false_eq_true, reduceCtorEq, cmp_lt, cmp_gt, cmp_eq, Int32.reduceAdd, Int32.reduceSub, Int32.reduceMul, Int32.reduceLT, Int32.reduceToNatClampNeg, eq_self, ne_eq, Int64.reduceAdd, Int64.reduceSub, Int64.reduceMul, Int64.reduceLT, A, la.2, e0, g]
      exact hq false _
    · simp only [E7_0, E7_1, E7_2, E7_3, E7_7, E7_8, E7_9, E7_12, E7_14, E7_14n, E7_15, E7_16, E7_19, E7_20, E7_22, E7_23, E7_24, E7_24n, E7_25, E7_27, E7_28, E7_29, E7_30, E7_31, E7_32, E7_34, E7_35, E7_36, E7_37, E7_40, E7_43, E7_44, E7_45, E7_46, E7_49, E7_50, E7_53, E7_54, rfs, rfn, cs0, csi, csl, csr, csn, kti, ktl, ktr, ktn, ktv, ktf, true_and, and_true, and_self, ↓reduceIte, Nat.reduceAdd, Nat.reduceSub, Nat.reduceMul, Nat.reduceLT, Nat.reduceLeDiff, Nat.reduceEqDiff, true_or, or_true, false_or, or_false, not_true_eq_false, not_false_eq_true, reduceCtorEq, cmp_lt, cmp_gt, cmp_eq, Int32.reduceAdd, Int32.reduceSub, Int32.reduceMul, Int32.reduceLT, Int32.reduceToNatClampNeg, eq_self, ne_eq, Int64.reduceAdd, Int64.reduceSub, Int64.reduceMul, Int64.reduceLT, A, la.2, e0, g]
      exact hq true _
  | succ m ih =>
    intro i L v hi
    have e1 : (nI i < nI n) = True := eq_true (nI_lt (by omega) (by omega))
    have e3 : inb (nI i) n = True := inb_nI (by omega) (by omega)
    rw [E7_5]
    simp only [E7_0, E7_1, E7_2, E7_3, E7_7, E7_8, E7_9, E7_12, E7_14, E7_14n, E7_15, E7_16, E7_19, E7_20, E7_22, E7_23, E7_24, E7_24n, E7_25, E7_27, E7_28, E7_29, E7_30, E7_31, E7_32, E7_34, E7_35, E7_36, E7_37, E7_40, E7_43, E7_44, E7_45, E7_46, E7_49, E7_50, E7_53, E7_54, rfs, rfn, cs0, csi, csl, csr, csn, kti, ktl, ktr, ktn, ktv, ktf, true_and, and_true, and_self, ↓reduceIte, Nat.reduceAdd, Nat.reduceSub, Nat.reduceMul, Nat.reduceLT, Nat.reduceLeDiff, Nat.reduceEqDiff, true_or, or_true, false_or, or_false, not_true_eq_false, not_false_eq_true, reduceCtorEq, cmp_lt, cmp_gt, cmp_eq, Int32.reduceAdd, Int32.reduceSub, Int32.reduceMul, Int32.reduceLT, Int32.reduceToNatClampNeg, eq_self, ne_eq, Int64.reduceAdd, Int64.reduceSub, Int64.reduceMul, Int64.reduceLT, A, B, la.1, la.2, lb.1, lb.2, e1, e3, nI_1]
    exact ih (i + 1) _ _ (by omega)
theorem keH {L : mL} (la : lon S a n) (lb : lon S b n) (hn : n < 2 ^ 24) (hq : ∀ v L, Q (.int (bI v)) S I L R) : EvM (d + 1) 7 [.ref a, .ref b] S I L R Q := by
  have k := keH_lp (d := d) la lb hn hq n 0 L 0 (by omega)
  rw [show nI 0 = 0 from rfl] at k
  simp only [M7, E7_0, E7_1, E7_2, E7_3, E7_7, E7_8, E7_9, E7_12, E7_14, E7_14n, E7_15, E7_16, E7_19, E7_20, E7_22, E7_23, E7_24, E7_24n, E7_25, E7_27, E7_28, E7_29, E7_30, E7_31, E7_32, E7_34, E7_35, E7_36, E7_37, E7_40, E7_43, E7_44, E7_45, E7_46, E7_49, E7_50, E7_53, E7_54, rfs, rfn, cs0, csi, csl, csr, csn, kti, ktl, ktr, ktn, ktv, ktf, true_and, and_true, and_self, ↓reduceIte, Nat.reduceAdd, Nat.reduceSub, Nat.reduceMul, Nat.reduceLT, Nat.reduceLeDiff, Nat.reduceEqDiff, true_or, or_true, false_or, or_false, not_true_eq_false, not_false_eq_true, reduceCtorEq, cmp_lt, cmp_gt, cmp_eq, Int32.reduceAdd, Int32.reduceSub, Int32.reduceMul, Int32.reduceLT, Int32.reduceToNatClampNeg, eq_self, ne_eq, Int64.reduceAdd, Int64.reduceSub, Int64.reduceMul, Int64.reduceLT]
  exact k
theorem meH {L : mL} (la : lon S a n) (lb : lon S b n) (hn : n < 2 ^ 24) (hq : ∀ v, Q (.int (bI v)) S I L R) : EvM (d + 1) 8 [.ref a, .ref b] S I L R Q := meetA la.1 la.2 lb.1 lb.2 hn (fun _ => hq true) (fun _ => hq false)
theorem bcH {L : mL} {x : Int64} (hq : ∀ v, Q (.int v) S I L R) : EvM (d + 1) 230 [.long x] S I L R Q := by
  simp only [M230, E230_0, E230_1, E230_2, E230_3, E230_4, E230_7, E230_8, E230_9, E230_10, E230_11, E230_14, E230_15, E230_16, E230_17, E230_18, E230_21, E230_22, E230_23, E230_24, E230_25, E230_26, E230_27, E230_28, E230_29, E230_32, E230_33, E230_34, E230_35, E230_36, E230_38, E230_39, E230_40, E230_41, E230_42, E230_43, E230_45, E230_46, E230_47, E230_48, E230_49, E230_50, E230_52, E230_53, E230_54, E230_55, E230_56, E230_57, E230_59, E230_60, rfs, rfn, cs0, csi, csl, csr, csn, kti, ktl, ktr, ktn, ktv, ktf, true_and, and_true, and_self, ↓reduceIte, Nat.reduceAdd, Nat.reduceSub, Nat.reduceMul, Nat.reduceLT, Nat.reduceLeDiff, Nat.reduceEqDiff, true_or, or_true, false_or, or_false, not_true_eq_false, not_false_eq_true, reduceCtorEq, cmp_lt, cmp_gt, cmp_eq, Int32.reduceAdd, Int32.reduceSub, Int32.reduceMul, Int32.reduceLT, Int32.reduceToNatClampNeg, eq_self, ne_eq, Int64.reduceAdd, Int64.reduceSub, Int64.reduceMul, Int64.reduceLT]
  exact hq _
theorem siH_lp {L : mL} (la : lon S a n) (hn : n < 2 ^ 24) (hq : ∀ v, Q (.int v) S I L R) : ∀ (m i : Nat) (v : Int32), i + m = n → Ev (d + 2) 9 4 [.ref a, .int v, .int (nI i)] [] S I L R Q := by
  have A := lonA la
  intro m
  induction m with
  | zero =>
    intro i v hi
    obtain rfl : i = n := by omega
    have e0 : (nI i < nI i) = False := eq_false (nI_nlt (Nat.le_refl i) (by omega))
    rw [E9_4]
    simp only [E9_0, E9_1, E9_2, E9_3, E9_5, E9_6, E9_7, E9_10, E9_11, E9_12, E9_13, E9_14, E9_17, E9_18, E9_19, E9_22, E9_25, E9_26, rfs, rfn, cs0, csi, csl, csr, csn, kti, ktl, ktr, ktn, ktv, ktf, true_and, and_true, and_self, ↓reduceIte, Nat.reduceAdd, Nat.reduceSub, Nat.reduceMul, Nat.reduceLT, Nat.reduceLeDiff, Nat.reduceEqDiff, true_or, or_true, false_or, or_false, not_true_eq_false, not_false_eq_true, reduceCtorEq, cmp_lt, cmp_gt, cmp_eq, Int32.reduceAdd, Int32.reduceSub, Int32.reduceMul, Int32.reduceLT, Int32.reduceToNatClampNeg, eq_self, ne_eq, Int64.reduceAdd, Int64.reduceSub, Int64.reduceMul, Int64.reduceLT, A, la.2, e0]
    exact hq _
  | succ m ih =>
    intro i v hi
    have e1 : (nI i < nI n) = True := eq_true (nI_lt (by omega) (by omega))
    have e3 : inb (nI i) n = True := inb_nI (by omega) (by omega)
    rw [E9_4]
    simp only [E9_0, E9_1, E9_2, E9_3, E9_5, E9_6, E9_7, E9_10, E9_11, E9_12, E9_13, E9_14, E9_17, E9_18, E9_19, E9_22, E9_25, E9_26, rfs, rfn, cs0, csi, csl, csr, csn, kti, ktl, ktr, ktn, ktv, ktf, true_and, and_true, and_self, ↓reduceIte, Nat.reduceAdd, Nat.reduceSub, Nat.reduceMul, Nat.reduceLT, Nat.reduceLeDiff, Nat.reduceEqDiff, true_or, or_true, false_or, or_false, not_true_eq_false, not_false_eq_true, reduceCtorEq, cmp_lt, cmp_gt, cmp_eq, Int32.reduceAdd, Int32.reduceSub, Int32.reduceMul, Int32.reduceLT, Int32.reduceToNatClampNeg, eq_self, ne_eq, Int64.reduceAdd, Int64.reduceSub, Int64.reduceMul, Int64.reduceLT, A, la.1, la.2, e1, e3, nI_1]
    refine bcH (fun w => ?_)
    simp only [E9_0, E9_1, E9_2, E9_3, E9_5, E9_6, E9_7, E9_10, E9_11, E9_12, E9_13, E9_14, E9_17, E9_18, E9_19, E9_22, E9_25, E9_26, rfs, rfn, cs0, csi, csl, csr, csn, kti, ktl, ktr, ktn, ktv, ktf, true_and, and_true, and_self, ↓reduceIte, Nat.reduceAdd, Nat.reduceSub, Nat.reduceMul, Nat.reduceLT, Nat.reduceLeDiff, Nat.reduceEqDiff, true_or, or_true, false_or, or_false, not_true_eq_false, not_false_eq_true, reduceCtorEq, cmp_lt, cmp_gt, cmp_eq, Int32.reduceAdd, Int32.reduceSub, Int32.reduceMul, Int32.reduceLT, Int32.reduceToNatClampNeg, eq_self, ne_eq, Int64.reduceAdd, Int64.reduceSub, Int64.reduceMul, Int64.reduceLT, nI_1]
    exact ih (i + 1) _ (by omega)
theorem siH {L : mL} (la : lon S a n) (hn : n < 2 ^ 24) (hq : ∀ v, Q (.int v) S I L R) : EvM (d + 2) 9 [.ref a] S I L R Q := by
  have k := siH_lp (d := d) la hn hq n 0 0 (by omega)
  rw [show nI 0 = 0 from rfl] at k
  simp only [M9, E9_0, E9_1, E9_2, E9_3, E9_5, E9_6, E9_7, E9_10, E9_11, E9_12, E9_13, E9_14, E9_17, E9_18, E9_19, E9_22, E9_25, E9_26, rfs, rfn, cs0, csi, csl, csr, csn, kti, ktl, ktr, ktn, ktv, ktf, true_and, and_true, and_self, ↓reduceIte, Nat.reduceAdd, Nat.reduceSub, Nat.reduceMul, Nat.reduceLT, Nat.reduceLeDiff, Nat.reduceEqDiff, true_or, or_true, false_or, or_false, not_true_eq_false, not_false_eq_true, reduceCtorEq, cmp_lt, cmp_gt, cmp_eq, Int32.reduceAdd, Int32.reduceSub, Int32.reduceMul, Int32.reduceLT, Int32.reduceToNatClampNeg, eq_self, ne_eq, Int64.reduceAdd, Int64.reduceSub, Int64.reduceMul, Int64.reduceLT]
  exact k
theorem loH_lp {L : mL} (la : lon S a n) (hn : n < 2 ^ 24) (hq : ∀ v, Q (.int v) S I L R) : ∀ (m i : Nat), i + m = n → Ev (d + 2) 10 2 [.ref a, .int (nI i)] [] S I L R Q := by
  have A := lonA la
  intro m
  induction m with
  | zero =>
    intro i hi
    obtain rfl : i = n := by omega
    have e0 : (nI i < nI i) = False := eq_false (nI_nlt (Nat.le_refl i) (by omega))
    rw [E10_2]
    simp only [E10_0, E10_1, E10_3, E10_4, E10_5, E10_8, E10_9, E10_10, E10_11, E10_12, E10_13, E10_16, E10_17, E10_19, E10_20, E10_21, E10_22, E10_23, E10_24, E10_25, E10_26, E10_27, E10_28, E10_29, E10_30, E10_33, E10_34, E10_35, E10_38, E10_41, E10_42, rfs, rfn, cs0, csi, csl, csr, csn, kti, ktl, ktr, ktn, ktv, ktf, true_and, and_true, and_self, ↓reduceIte, Nat.reduceAdd, Nat.reduceSub, Nat.reduceMul, Nat.reduceLT, Nat.reduceLeDiff, Nat.reduceEqDiff, true_or, or_true, false_or, or_false, not_true_eq_false, not_false_eq_true, reduceCtorEq, cmp_lt, cmp_gt, cmp_eq, Int32.reduceAdd, Int32.reduceSub, Int32.reduceMul, Int32.reduceLT, Int32.reduceToNatClampNeg, eq_self, ne_eq, Int64.reduceAdd, Int64.reduceSub, Int64.reduceMul, Int64.reduceLT, A, la.2, e0]
    exact hq _
  | succ m ih =>
    intro i hi
    have e1 : (nI i < nI n) = True := eq_true (nI_lt (by omega) (by omega))
    have e3 : inb (nI i) n = True := inb_nI (by omega) (by omega)
    rw [E10_2]
    by_cases g : L a (nI i).toNatClampNeg = 0
    · simp only [E10_0, E10_1, E10_3, E10_4, E10_5, E10_8, E10_9, E10_10, E10_11, E10_12, E10_13, E10_16, E10_17, E10_19, E10_20, E10_21, E10_22, E10_23, E10_24, E10_25, E10_26, E10_27, E10_28, E10_29, E10_30, E10_33, E10_34, E10_35, E10_38, E10_41, E10_42, rfs, rfn, cs0, csi, csl, csr, csn, kti, ktl, ktr, ktn, ktv, ktf, true_and, and_true, and_self, ↓reduceIte, Nat.reduceAdd, Nat.reduceSub, Nat.reduceMul, Nat.reduceLT, Nat.reduceLeDiff, Nat.reduceEqDiff, true_or, or_true, false_or, or_false, not_true_eq_false, not_false_eq_true, reduceCtorEq, cmp_lt, cmp_gt, cmp_eq, Int32.reduceAdd, Int32.reduceSub, Int32.reduceMul, Int32.reduceLT, Int32.reduceToNatClampNeg, eq_self, ne_eq, Int64.reduceAdd, Int64.reduceSub, Int64.reduceMul, Int64.reduceLT, A, la.1, la.2, e1, e3, g, nI_1]
      exact ih (i + 1) (by omega)
    · simp only [E10_0, E10_1, E10_3, E10_4, E10_5, E10_8, E10_9, E10_10, E10_11, E10_12, E10_13, E10_16, E10_17, E10_19, E10_20, E10_21, E10_22, E10_23, E10_24, E10_25, E10_26, E10_27, E10_28, E10_29, E10_30, E10_33, E10_34, E10_35, E10_38, E10_41, E10_42, rfs, rfn, cs0, csi, csl, csr, csn, kti, ktl, ktr, ktn, ktv, ktf, true_and, and_true, and_self, ↓reduceIte, Nat.reduceAdd, Nat.reduceSub, Nat.reduceMul, Nat.reduceLT, Nat.reduceLeDiff, Nat.reduceEqDiff, true_or, or_true, false_or, or_false, not_true_eq_false, not_false_eq_true, reduceCtorEq, cmp_lt, cmp_gt, cmp_eq, Int32.reduceAdd, Int32.reduceSub, Int32.reduceMul, Int32.reduceLT, Int32.reduceToNatClampNeg, eq_self, ne_eq, Int64.reduceAdd, Int64.reduceSub, Int64.reduceMul, Int64.reduceLT, A, la.1, la.2, e1, e3, g]
      refine bcH (fun w => ?_)
      simp only [E10_0, E10_1, E10_3, E10_4, E10_5, E10_8, E10_9, E10_10, E10_11, E10_12, E10_13, E10_16, E10_17, E10_19, E10_20, E10_21, E10_22, E10_23, E10_24, E10_25, E10_26, E10_27, E10_28, E10_29, E10_30, E10_33, E10_34, E10_35, E10_38, E10_41, E10_42, rfs, rfn, cs0, csi, csl, csr, csn, kti, ktl, ktr, ktn, ktv, ktf, true_and, and_true, and_self, ↓reduceIte, Nat.reduceAdd, Nat.reduceSub, Nat.reduceMul, Nat.reduceLT, Nat.reduceLeDiff, Nat.reduceEqDiff, true_or, or_true, false_or, or_false, not_true_eq_false, not_false_eq_true, reduceCtorEq, cmp_lt, cmp_gt, cmp_eq, Int32.reduceAdd, Int32.reduceSub, Int32.reduceMul, Int32.reduceLT, Int32.reduceToNatClampNeg, eq_self, ne_eq, Int64.reduceAdd, Int64.reduceSub, Int64.reduceMul, Int64.reduceLT]
      exact hq _
theorem loH {L : mL} (la : lon S a n) (hn : n < 2 ^ 24) (hq : ∀ v, Q (.int v) S I L R) : EvM (d + 2) 10 [.ref a] S I L R Q := by
  have k := loH_lp (d := d) la hn hq n 0 (by omega)
  rw [show nI 0 = 0 from rfl] at k
  simp only [M10, E10_0, E10_1, E10_3, E10_4, E10_5, E10_8, E10_9, E10_10, E10_11, E10_12, E10_13, E10_16, E10_17, E10_19, E10_20, E10_21, E10_22, E10_23, E10_24, E10_25, E10_26, E10_27, E10_28, E10_29, E10_30, E10_33, E10_34, E10_35, E10_38, E10_41, E10_42, rfs, rfn, cs0, csi, csl, csr, csn, kti, ktl, ktr, ktn, ktv, ktf, true_and, and_true, and_self, ↓reduceIte, Nat.reduceAdd, Nat.reduceSub, Nat.reduceMul, Nat.reduceLT, Nat.reduceLeDiff, Nat.reduceEqDiff, true_or, or_true, false_or, or_false, not_true_eq_false, not_false_eq_true, reduceCtorEq, cmp_lt, cmp_gt, cmp_eq, Int32.reduceAdd, Int32.reduceSub, Int32.reduceMul, Int32.reduceLT, Int32.reduceToNatClampNeg, eq_self, ne_eq, Int64.reduceAdd, Int64.reduceSub, Int64.reduceMul, Int64.reduceLT]
  exact k
theorem soH {L : mL} {r : Int32} (la : lon S a n) (hn : n < 2 ^ 24) (hq : ∀ L, Q .null S I L R) : EvM (d + 2) 11 [.ref a, .int r] S I L R Q := by
  have A := lonA la
  have fl := fun L Q => fillL (d := d) (v := 0) (I := I) (L := L) (R := R) (Q := Q) la.1 la.2 (by omega)
  by_cases g1 : r >>> (6 &&& 31) < 0
  · simp only [M11, E11_0, E11_1, E11_2, E11_5, E11_6, E11_8, E11_9, E11_10, E11_11, E11_14, E11_15, E11_16, E11_17, E11_20, E11_21, E11_22, E11_23, E11_24, E11_26, E11_27, E11_28, E11_29, rfs, rfn, cs0, csi, csl, csr, csn, kti, ktl, ktr, ktn, ktv, ktf, true_and, and_true, and_self, ↓reduceIte, Nat.reduceAdd, Nat.reduceSub, Nat.reduceMul, Nat.reduceLT, Nat.reduceLeDiff, Nat.reduceEqDiff, true_or, or_true, false_or, or_false, not_true_eq_false, not_false_eq_true, reduceCtorEq, cmp_lt, cmp_gt, cmp_eq, Int32.reduceAdd, Int32.reduceSub, Int32.reduceMul, Int32.reduceLT, Int32.reduceToNatClampNeg, eq_self, ne_eq, Int64.reduceAdd, Int64.reduceSub, Int64.reduceMul, Int64.reduceLT, fl, A, la.1, la.2, g1]
    exact hq _
  by_cases g2 : r >>> (6 &&& 31) < nI n
  · have e3 : inb (r >>> (6 &&& 31)) n = True := inb_lt (by omega) g1 g2
    simp only [M11, E11_0, E11_1, E11_2, E11_5, E11_6, E11_8, E11_9, E11_10, E11_11, E11_14, E11_15, E11_16, E11_17, E11_20, E11_21, E11_22, E11_23, E11_24, E11_26, E11_27, E11_28, E11_29, rfs, rfn, cs0, csi, csl, csr, csn, kti, ktl, ktr, ktn, ktv, ktf, true_and, and_true, and_self, ↓reduceIte, Nat.reduceAdd, Nat.reduceSub, Nat.reduceMul, Nat.reduceLT, Nat.reduceLeDiff, Nat.reduceEqDiff, true_or, or_true, false_or, or_false, not_true_eq_false, not_false_eq_true, reduceCtorEq, cmp_lt, cmp_gt, cmp_eq, Int32.reduceAdd, Int32.reduceSub, Int32.reduceMul, Int32.reduceLT, Int32.reduceToNatClampNeg, eq_self, ne_eq, Int64.reduceAdd, Int64.reduceSub, Int64.reduceMul, Int64.reduceLT, fl, A, la.1, la.2, g1, g2, e3]
    exact hq _
  · simp only [M11, E11_0, E11_1, E11_2, E11_5, E11_6, E11_8, E11_9, E11_10, E11_11, E11_14, E11_15, E11_16, E11_17, E11_20, E11_21, E11_22, E11_23, E11_24, E11_26, E11_27, E11_28, E11_29, rfs, rfn, cs0, csi, csl, csr, csn, kti, ktl, ktr, ktn, ktv, ktf, true_and, and_true, and_self, ↓reduceIte, Nat.reduceAdd, Nat.reduceSub, Nat.reduceMul, Nat.reduceLT, Nat.reduceLeDiff, Nat.reduceEqDiff, true_or, or_true, false_or, or_false, not_true_eq_false, not_false_eq_true, reduceCtorEq, cmp_lt, cmp_gt, cmp_eq, Int32.reduceAdd, Int32.reduceSub, Int32.reduceMul, Int32.reduceLT, Int32.reduceToNatClampNeg, eq_self, ne_eq, Int64.reduceAdd, Int64.reduceSub, Int64.reduceMul, Int64.reduceLT, fl, A, la.1, la.2, g1, g2]
    exact hq _
theorem shH_lp {x xq r : Int32} (la : lon S a n) (lb : lon S b n) (lc : lon S c n) (le : lon S e n) (hn : n < 2 ^ 24) (hq : ∀ L, Q .null S I L R) : ∀ (m i : Nat) (L : mL) (y8 y10 : Value), i + m = n → Ev (d + 1) 15 15 [.ref a, .ref b, .ref c, .int x, .ref e, .int xq, .int r, .int (nI i), y8, nv, y10] [] S I L R Q := by
  have A := lonA la
  have B := lonA lb
  have C := lonA lc
  have E := lonA le
  intro m
  induction m with
  | zero =>
    intro i L y8 y10 hi
    obtain rfl : i = n := by omega
    have e0 : (nI i < nI i) = False := eq_false (nI_nlt (Nat.le_refl i) (by omega))
    rw [E15_15]
    simp only [E15_0, E15_1, E15_3, E15_4, E15_6, E15_7, E15_9, E15_10, E15_12, E15_13, E15_17, E15_18, E15_19, E15_22, E15_24, E15_24n, E15_25, E15_26, E15_29, E15_31, E15_31n, E15_32, E15_33, E15_36, E15_37, E15_39, E15_40, E15_42, E15_44, E15_45, E15_46, E15_49, E15_51, E15_51n, E15_52, E15_54, E15_55, E15_55n, E15_56, E15_58, E15_59, E15_60, E15_61, E15_63, E15_65, E15_67, E15_68, E15_70, E15_72, E15_75, E15_77, E15_77n, E15_79, E15_80, E15_83, E15_83n, E15_85, E15_87, E15_88, E15_89, E15_91, E15_93, E15_94, E15_95, E15_96, E15_98, E15_101, E15_103, E15_104, E15_105, E15_108, E15_110, E15_111, E15_112, E15_112n, E15_114, E15_115, E15_118, E15_118n, E15_120, E15_122, E15_123, E15_124, E15_125, E15_126, E15_128, E15_130, E15_132, E15_133, E15_134, E15_135, E15_136, E15_139, E15_142, rfs, rfn, cs0, csi, csl, csr, csn, kti, ktl, ktr, ktn, ktv, ktf, true_and, and_true, and_self, ↓reduceIte, Nat.reduceAdd, Nat.reduceSub, Nat.reduceMul, Nat.reduceLT, Nat.reduceLeDiff, Nat.reduceEqDiff, true_or, or_true, false_or, or_false, not_true_eq_false, not_false_eq_true, reduceCtorEq, cmp_lt, cmp_gt, cmp_eq, Int32.reduceAdd, Int32.reduceSub, Int32.reduceMul, Int32.reduceLT, Int32.reduceToNatClampNeg, eq_self, ne_eq, Int64.reduceAdd, Int64.reduceSub, Int64.reduceMul, Int64.reduceLT, A, la.2, e0]
    exact hq _
  | succ m ih =>
    intro i L y8 y10 hi
    have e1 : (nI i < nI n) = True := eq_true (nI_lt (by omega) (by omega))
    have e3 : inb (nI i) n = True := inb_nI (by omega) (by omega)
    have h136 : ∀ (L : mL) (v : Int64) (y : Value), Ev (d + 1) 15 136 [.ref a, .ref b, .ref c, .int x, .ref e, .int xq, .int r, .int (nI i), .long v, nv, y] [] S I L R Q := fun L v y => by
      simp only [E15_136, E15_139, rfs, rfn, cs0, csi, csl, csr, csn, kti, ktl, ktr, ktn, ktv, ktf, true_and, and_true, and_self, ↓reduceIte, Nat.reduceAdd, Nat.reduceSub, Nat.reduceMul, Nat.reduceLT, Nat.reduceLeDiff, Nat.reduceEqDiff, true_or, or_true, false_or, or_false, not_true_eq_false, not_false_eq_true, reduceCtorEq, cmp_lt, cmp_gt, cmp_eq, Int32.reduceAdd, Int32.reduceSub, Int32.reduceMul, Int32.reduceLT, Int32.reduceToNatClampNeg, eq_self, ne_eq, Int64.reduceAdd, Int64.reduceSub, Int64.reduceMul, Int64.reduceLT, nI_1]
      exact ih (i + 1) L _ _ (by omega)
    have h96 : ∀ (L : mL) (v : Int64) (t : Int32), Ev (d + 1) 15 96 [.ref a, .ref b, .ref c, .int x, .ref e, .int xq, .int r, .int (nI i), .long v, nv, .int t] [] S I L R Q := fun L v t => by
      by_cases g1 : r = 0
      · simp only [E15_0, E15_1, E15_3, E15_4, E15_6, E15_7, E15_9, E15_10, E15_12, E15_13, E15_17, E15_18, E15_19, E15_22, E15_24, E15_24n, E15_25, E15_26, E15_29, E15_31, E15_31n, E15_32, E15_33, E15_36, E15_37, E15_39, E15_40, E15_42, E15_44, E15_45, E15_46, E15_49, E15_51, E15_51n, E15_52, E15_54, E15_55, E15_55n, E15_56, E15_58, E15_59, E15_60, E15_61, E15_63, E15_65, E15_67, E15_68, E15_70, E15_72, E15_75, E15_77, E15_77n, E15_79, E15_80, E15_83, E15_83n, E15_85, E15_87, E15_88, E15_89, E15_91, E15_93, E15_94, E15_95, E15_96, E15_98, E15_101, E15_103, E15_104, E15_105, E15_108, E15_110, E15_111, E15_112, E15_112n, E15_114, E15_115, E15_118, E15_118n, E15_120, E15_122, E15_123, E15_124, E15_125, E15_126, E15_128, E15_130, E15_132, E15_133, E15_134, E15_135, E15_139, E15_142, rfs, rfn, cs0, csi, csl, csr, csn, kti, ktl, ktr, ktn, ktv, ktf, true_and, and_true, and_self, ↓reduceIte, Nat.reduceAdd, Nat.reduceSub, Nat.reduceMul, Nat.reduceLT, Nat.reduceLeDiff, Nat.reduceEqDiff, true_or, or_true, false_or, or_false, not_true_eq_false, not_false_eq_true, reduceCtorEq, cmp_lt, cmp_gt, cmp_eq, Int32.reduceAdd, Int32.reduceSub, Int32.reduceMul, Int32.reduceLT, Int32.reduceToNatClampNeg, eq_self, ne_eq, Int64.reduceAdd, Int64.reduceSub, Int64.reduceMul, Int64.reduceLT, g1]
        have q := h136 L v (.int t)
        rw [g1] at q
        exact q
      by_cases g2 : t + 1 < 0
      · simp only [E15_0, E15_1, E15_3, E15_4, E15_6, E15_7, E15_9, E15_10, E15_12, E15_13, E15_17, E15_18, E15_19, E15_22, E15_24, E15_24n, E15_25, E15_26, E15_29, E15_31, E15_31n, E15_32, E15_33, E15_36, E15_37, E15_39, E15_40, E15_42, E15_44, E15_45, E15_46, E15_49, E15_51, E15_51n, E15_52, E15_54, E15_55, E15_55n, E15_56, E15_58, E15_59, E15_60, E15_61, E15_63, E15_65, E15_67, E15_68, E15_70, E15_72, E15_75, E15_77, E15_77n, E15_79, E15_80, E15_83, E15_83n, E15_85, E15_87, E15_88, E15_89, E15_91, E15_93, E15_94, E15_95, E15_96, E15_98, E15_101, E15_103, E15_104, E15_105, E15_108, E15_110, E15_111, E15_112, E15_112n, E15_114, E15_115, E15_118, E15_118n, E15_120, E15_122, E15_123, E15_124, E15_125, E15_126, E15_128, E15_130, E15_132, E15_133, E15_134, E15_135, E15_139, E15_142, rfs, rfn, cs0, csi, csl, csr, csn, kti, ktl, ktr, ktn, ktv, ktf, true_and, and_true, and_self, ↓reduceIte, Nat.reduceAdd, Nat.reduceSub, Nat.reduceMul, Nat.reduceLT, Nat.reduceLeDiff, Nat.reduceEqDiff, true_or, or_true, false_or, or_false, not_true_eq_false, not_false_eq_true, reduceCtorEq, cmp_lt, cmp_gt, cmp_eq, Int32.reduceAdd, Int32.reduceSub, Int32.reduceMul, Int32.reduceLT, Int32.reduceToNatClampNeg, eq_self, ne_eq, Int64.reduceAdd, Int64.reduceSub, Int64.reduceMul, Int64.reduceLT, g1, g2]
        exact h136 _ _ _
      by_cases g3 : t + 1 < nI n
      · have e5 : inb (t + 1) n = True := inb_lt (by omega) g2 g3
        simp only [E15_0, E15_1, E15_3, E15_4, E15_6, E15_7, E15_9, E15_10, E15_12, E15_13, E15_17, E15_18, E15_19, E15_22, E15_24, E15_24n, E15_25, E15_26, E15_29, E15_31, E15_31n, E15_32, E15_33, E15_36, E15_37, E15_39, E15_40, E15_42, E15_44, E15_45, E15_46, E15_49, E15_51, E15_51n, E15_52, E15_54, E15_55, E15_55n, E15_56, E15_58, E15_59, E15_60, E15_61, E15_63, E15_65, E15_67, E15_68, E15_70, E15_72, E15_75, E15_77, E15_77n, E15_79, E15_80, E15_83, E15_83n, E15_85, E15_87, E15_88, E15_89, E15_91, E15_93, E15_94, E15_95, E15_96, E15_98, E15_101, E15_103, E15_104, E15_105, E15_108, E15_110, E15_111, E15_112, E15_112n, E15_114, E15_115, E15_118, E15_118n, E15_120, E15_122, E15_123, E15_124, E15_125, E15_126, E15_128, E15_130, E15_132, E15_133, E15_134, E15_135, E15_139, E15_142, rfs, rfn, cs0, csi, csl, csr, csn, kti, ktl, ktr, ktn, ktv, ktf, true_and, and_true, and_self, ↓reduceIte, Nat.reduceAdd, Nat.reduceSub, Nat.reduceMul, Nat.reduceLT, Nat.reduceLeDiff, Nat.reduceEqDiff, true_or, or_true, false_or, or_false, not_true_eq_false, not_false_eq_true, reduceCtorEq, cmp_lt, cmp_gt, cmp_eq, Int32.reduceAdd, Int32.reduceSub, Int32.reduceMul, Int32.reduceLT, Int32.reduceToNatClampNeg, eq_self, ne_eq, Int64.reduceAdd, Int64.reduceSub, Int64.reduceMul, Int64.reduceLT, E, le.1, le.2, g1, g2, g3, e5]
        exact h136 _ _ _
      · simp only [E15_0, E15_1, E15_3, E15_4, E15_6, E15_7, E15_9, E15_10, E15_12, E15_13, E15_17, E15_18, E15_19, E15_22, E15_24, E15_24n, E15_25, E15_26, E15_29, E15_31, E15_31n, E15_32, E15_33, E15_36, E15_37, E15_39, E15_40, E15_42, E15_44, E15_45, E15_46, E15_49, E15_51, E15_51n, E15_52, E15_54, E15_55, E15_55n, E15_56, E15_58, E15_59, E15_60, E15_61, E15_63, E15_65, E15_67, E15_68, E15_70, E15_72, E15_75, E15_77, E15_77n, E15_79, E15_80, E15_83, E15_83n, E15_85, E15_87, E15_88, E15_89, E15_91, E15_93, E15_94, E15_95, E15_96, E15_98, E15_101, E15_103, E15_104, E15_105, E15_108, E15_110, E15_111, E15_112, E15_112n, E15_114, E15_115, E15_118, E15_118n, E15_120, E15_122, E15_123, E15_124, E15_125, E15_126, E15_128, E15_130, E15_132, E15_133, E15_134, E15_135, E15_139, E15_142, rfs, rfn, cs0, csi, csl, csr, csn, kti, ktl, ktr, ktn, ktv, ktf, true_and, and_true, and_self, ↓reduceIte, Nat.reduceAdd, Nat.reduceSub, Nat.reduceMul, Nat.reduceLT, Nat.reduceLeDiff, Nat.reduceEqDiff, true_or, or_true, false_or, or_false, not_true_eq_false, not_false_eq_true, reduceCtorEq, cmp_lt, cmp_gt, cmp_eq, Int32.reduceAdd, Int32.reduceSub, Int32.reduceMul, Int32.reduceLT, Int32.reduceToNatClampNeg, eq_self, ne_eq, Int64.reduceAdd, Int64.reduceSub, Int64.reduceMul, Int64.reduceLT, E, le.1, le.2, g1, g2, g3]
        exact h136 _ _ _
    rw [E15_15]
    by_cases g0 : L a (nI i).toNatClampNeg = 0
    · simp only [E15_0, E15_1, E15_3, E15_4, E15_6, E15_7, E15_9, E15_10, E15_12, E15_13, E15_17, E15_18, E15_19, E15_22, E15_24, E15_24n, E15_25, E15_26, E15_29, E15_31, E15_31n, E15_32, E15_33, E15_36, E15_37, E15_39, E15_40, E15_42, E15_44, E15_45, E15_46, E15_49, E15_51, E15_51n, E15_52, E15_54, E15_55, E15_55n, E15_56, E15_58, E15_59, E15_60, E15_61, E15_63, E15_65, E15_67, E15_68, E15_70, E15_72, E15_75, E15_77, E15_77n, E15_79, E15_80, E15_83, E15_83n, E15_85, E15_87, E15_88, E15_89, E15_91, E15_93, E15_94, E15_95, E15_98, E15_101, E15_103, E15_104, E15_105, E15_108, E15_110, E15_111, E15_112, E15_112n, E15_114, E15_115, E15_118, E15_118n, E15_120, E15_122, E15_123, E15_124, E15_125, E15_126, E15_128, E15_130, E15_132, E15_133, E15_134, E15_135, E15_139, E15_142, rfs, rfn, cs0, csi, csl, csr, csn, kti, ktl, ktr, ktn, ktv, ktf, true_and, and_true, and_self, ↓reduceIte, Nat.reduceAdd, Nat.reduceSub, Nat.reduceMul, Nat.reduceLT, Nat.reduceLeDiff, Nat.reduceEqDiff, true_or, or_true, false_or, or_false, not_true_eq_false, not_false_eq_true, reduceCtorEq, cmp_lt, cmp_gt, cmp_eq, Int32.reduceAdd, Int32.reduceSub, Int32.reduceMul, Int32.reduceLT, Int32.reduceToNatClampNeg, eq_self, ne_eq, Int64.reduceAdd, Int64.reduceSub, Int64.reduceMul, Int64.reduceLT, A, B, C, la.1, la.2, lb.2, lc.2, e1, e3, g0]
      exact h136 _ _ _
    by_cases g1 : nI i + xq < 0
    · simp only [E15_0, E15_1, E15_3, E15_4, E15_6, E15_7, E15_9, E15_10, E15_12, E15_13, E15_17, E15_18, E15_19, E15_22, E15_24, E15_24n, E15_25, E15_26, E15_29, E15_31, E15_31n, E15_32, E15_33, E15_36, E15_37, E15_39, E15_40, E15_42, E15_44, E15_45, E15_46, E15_49, E15_51, E15_51n, E15_52, E15_54, E15_55, E15_55n, E15_56, E15_58, E15_59, E15_60, E15_61, E15_63, E15_65, E15_67, E15_68, E15_70, E15_72, E15_75, E15_77, E15_77n, E15_79, E15_80, E15_83, E15_83n, E15_85, E15_87, E15_88, E15_89, E15_91, E15_93, E15_94, E15_95, E15_98, E15_101, E15_103, E15_104, E15_105, E15_108, E15_110, E15_111, E15_112, E15_112n, E15_114, E15_115, E15_118, E15_118n, E15_120, E15_122, E15_123, E15_124, E15_125, E15_126, E15_128, E15_130, E15_132, E15_133, E15_134, E15_135, E15_139, E15_142, rfs, rfn, cs0, csi, csl, csr, csn, kti, ktl, ktr, ktn, ktv, ktf, true_and, and_true, and_self, ↓reduceIte, Nat.reduceAdd, Nat.reduceSub, Nat.reduceMul, Nat.reduceLT, Nat.reduceLeDiff, Nat.reduceEqDiff, true_or, or_true, false_or, or_false, not_true_eq_false, not_false_eq_true, reduceCtorEq, cmp_lt, cmp_gt, cmp_eq, Int32.reduceAdd, Int32.reduceSub, Int32.reduceMul, Int32.reduceLT, Int32.reduceToNatClampNeg, eq_self, ne_eq, Int64.reduceAdd, Int64.reduceSub, Int64.reduceMul, Int64.reduceLT, A, B, C, la.1, la.2, lb.1, lb.2, lc.1, lc.2, e1, e3, g0, g1]
      exact h96 _ _ _
    by_cases g2 : nI i + xq < nI n
    · have e5 : inb (nI i + xq) n = True := inb_lt (by omega) g1 g2
      simp only [E15_0, E15_1, E15_3, E15_4, E15_6, E15_7, E15_9, E15_10, E15_12, E15_13, E15_17, E15_18, E15_19, E15_22, E15_24, E15_24n, E15_25, E15_26, E15_29, E15_31, E15_31n, E15_32, E15_33, E15_36, E15_37, E15_39, E15_40, E15_42, E15_44, E15_45, E15_46, E15_49, E15_51, E15_51n, E15_52, E15_54, E15_55, E15_55n, E15_56, E15_58, E15_59, E15_60, E15_61, E15_63, E15_65, E15_67, E15_68, E15_70, E15_72, E15_75, E15_77, E15_77n, E15_79, E15_80, E15_83, E15_83n, E15_85, E15_87, E15_88, E15_89, E15_91, E15_93, E15_94, E15_95, E15_98, E15_101, E15_103, E15_104, E15_105, E15_108, E15_110, E15_111, E15_112, E15_112n, E15_114, E15_115, E15_118, E15_118n, E15_120, E15_122, E15_123, E15_124, E15_125, E15_126, E15_128, E15_130, E15_132, E15_133, E15_134, E15_135, E15_139, E15_142, rfs, rfn, cs0, csi, csl, csr, csn, kti, ktl, ktr, ktn, ktv, ktf, true_and, and_true, and_self, ↓reduceIte, Nat.reduceAdd, Nat.reduceSub, Nat.reduceMul, Nat.reduceLT, Nat.reduceLeDiff, Nat.reduceEqDiff, true_or, or_true, false_or, or_false, not_true_eq_false, not_false_eq_true, reduceCtorEq, cmp_lt, cmp_gt, cmp_eq, Int32.reduceAdd, Int32.reduceSub, Int32.reduceMul, Int32.reduceLT, Int32.reduceToNatClampNeg, eq_self, ne_eq, Int64.reduceAdd, Int64.reduceSub, Int64.reduceMul, Int64.reduceLT, A, B, C, E, la.1, la.2, lb.1, lb.2, lc.1, lc.2, le.1, le.2, e1, e3, e5, g0, g1, g2]
      exact h96 _ _ _
    · simp only [E15_0, E15_1, E15_3, E15_4, E15_6, E15_7, E15_9, E15_10, E15_12, E15_13, E15_17, E15_18, E15_19, E15_22, E15_24, E15_24n, E15_25, E15_26, E15_29, E15_31, E15_31n, E15_32, E15_33, E15_36, E15_37, E15_39, E15_40, E15_42, E15_44, E15_45, E15_46, E15_49, E15_51, E15_51n, E15_52, E15_54, E15_55, E15_55n, E15_56, E15_58, E15_59, E15_60, E15_61, E15_63, E15_65, E15_67, E15_68, E15_70, E15_72, E15_75, E15_77, E15_77n, E15_79, E15_80, E15_83, E15_83n, E15_85, E15_87, E15_88, E15_89, E15_91, E15_93, E15_94, E15_95, E15_98, E15_101, E15_103, E15_104, E15_105, E15_108, E15_110, E15_111, E15_112, E15_112n, E15_114, E15_115, E15_118, E15_118n, E15_120, E15_122, E15_123, E15_124, E15_125, E15_126, E15_128, E15_130, E15_132, E15_133, E15_134, E15_135, E15_139, E15_142, rfs, rfn, cs0, csi, csl, csr, csn, kti, ktl, ktr, ktn, ktv, ktf, true_and, and_true, and_self, ↓reduceIte, Nat.reduceAdd, Nat.reduceSub, Nat.reduceMul, Nat.reduceLT, Nat.reduceLeDiff, Nat.reduceEqDiff, true_or, or_true, false_or, or_false, not_true_eq_false, not_false_eq_true, reduceCtorEq, cmp_lt, cmp_gt, cmp_eq, Int32.reduceAdd, Int32.reduceSub, Int32.reduceMul, Int32.reduceLT, Int32.reduceToNatClampNeg, eq_self, ne_eq, Int64.reduceAdd, Int64.reduceSub, Int64.reduceMul, Int64.reduceLT, A, B, C, E, la.1, la.2, lb.1, lb.2, lc.1, lc.2, le.1, le.2, e1, e3, g0, g1, g2]
      exact h96 _ _ _
theorem shH {L : mL} {x : Int32} (la : lon S a n) (lb : lon S b n) (lc : lon S c n) (le : lon S e n) (hn : n < 2 ^ 24) (hq : ∀ L, Q .null S I L R) : EvM (d + 1) 15 [.ref a, .ref b, .ref c, .int x, .ref e] S I L R Q := by
  have k := fun xq r => shH_lp (d := d) (x := x) (xq := xq) (r := r) la lb lc le hn hq n 0 L nv nv (by omega)
  rw [show nI 0 = 0 from rfl] at k
  simp only [M15, E15_0, E15_1, E15_3, E15_4, E15_6, E15_7, E15_9, E15_10, E15_12, E15_13, E15_17, E15_18, E15_19, E15_22, E15_24, E15_24n, E15_25, E15_26, E15_29, E15_31, E15_31n, E15_32, E15_33, E15_36, E15_37, E15_39, E15_40, E15_42, E15_44, E15_45, E15_46, E15_49, E15_51, E15_51n, E15_52, E15_54, E15_55, E15_55n, E15_56, E15_58, E15_59, E15_60, E15_61, E15_63, E15_65, E15_67, E15_68, E15_70, E15_72, E15_75, E15_77, E15_77n, E15_79, E15_80, E15_83, E15_83n, E15_85, E15_87, E15_88, E15_89, E15_91, E15_93, E15_94, E15_95, E15_96, E15_98, E15_101, E15_103, E15_104, E15_105, E15_108, E15_110, E15_111, E15_112, E15_112n, E15_114, E15_115, E15_118, E15_118n, E15_120, E15_122, E15_123, E15_124, E15_125, E15_126, E15_128, E15_130, E15_132, E15_133, E15_134, E15_135, E15_136, E15_139, E15_142, rfs, rfn, cs0, csi, csl, csr, csn, kti, ktl, ktr, ktn, ktv, ktf, true_and, and_true, and_self, ↓reduceIte, Nat.reduceAdd, Nat.reduceSub, Nat.reduceMul, Nat.reduceLT, Nat.reduceLeDiff, Nat.reduceEqDiff, true_or, or_true, false_or, or_false, not_true_eq_false, not_false_eq_true, reduceCtorEq, cmp_lt, cmp_gt, cmp_eq, Int32.reduceAdd, Int32.reduceSub, Int32.reduceMul, Int32.reduceLT, Int32.reduceToNatClampNeg, eq_self, ne_eq, Int64.reduceAdd, Int64.reduceSub, Int64.reduceMul, Int64.reduceLT]
  exact k _ _
end FH
