/-! the class's Gate: safety -/
def Gp (I J : mI) : Prop := (∀ a, a < 40 ∨ 52 < a → J a = I a) ∧ J 40 8 = I 40 8 ∧ J 40 9 = I 40 9
theorem Gp.rf {I : mI} : Gp I I := ⟨fun _ _ => rfl, rfl, rfl⟩
theorem Gp.tr {I J K : mI} (h : Gp I J) (g : Gp J K) : Gp I K := ⟨fun a q => (g.1 a q).trans (h.1 a q), g.2.1.trans h.2.1, g.2.2.trans h.2.2⟩
theorem Gp.up {I J : mI} {a : Nat} {x : Nat → Int32} (h : Gp I J) (h1 : 41 ≤ a) (h2 : a ≤ 52) : Gp I (va_up J a x) := ⟨fun b q => (uu_n _ _ (by omega)).trans (h.1 b q), by rw [uu_n _ _ (by omega)]; exact h.2.1, by rw [uu_n _ _ (by omega)]; exact h.2.2⟩
theorem Gp.pt {I J : mI} {a k : Nat} {x : Int32} (h : Gp I J) (h1 : 41 ≤ a) (h2 : a ≤ 52) : Gp I (put J a k x) := h.up h1 h2
theorem nI_m1 (n : Nat) : nI (n + 1) - 1 = nI n := nI_pred n
theorem nI_a1 (n : Nat) : nI n + (-1) = nI n - 1 := by
  rw [Int32.sub_eq_add_neg]
section GA
variable {d p f : Nat} {S : mS} {I : mI} {L : mL} {R : mR} {Q : mQ}
theorem laf_lp (hS : Pm S) (hR : Pr R) (hf : I 40 9 = nI f) (hq : ∀ v, Q (.int v) S I L R) : ∀ (N i : Nat) (v : Int32), i + N = 3 → Ev (d + 1) 27 4 [.ref 40, .int v, .int (nI i)] [] S I L R Q := by
  intro N
  induction N with
  | zero =>
    intro i v hi
    obtain rfl : i = 3 := by omega
    have e : (nI 3 < (3 : Int32)) = False := eq_false (by decide)
    rw [E27_4]
    by_cases g : nI 3 < nI f <;> simp only [E27_0, E27_1, E27_2, E27_3, E27_5, E27_6, E27_9, E27_12, E27_13, E27_14, E27_17, E27_18, E27_19, E27_22, E27_23, E27_24, E27_27, E27_28, E27_31, E27_34, E27_35, pk40 hS, pk46 hS, pl46 hS, pa46 hS, pi46 hS, pr40_5 hR, rfs, rfn, cs0, csi, csl, csr, csn, kti, ktl, ktr, ktn, ktv, ktf, true_and, and_true, and_self, ↓reduceIte, Nat.reduceAdd, Nat.reduceSub, Nat.reduceMul, Nat.reduceLT, Nat.reduceLeDiff, Nat.reduceEqDiff, true_or, or_true, false_or, or_false, not_true_eq_false, not_false_eq_true, reduceCtorEq, cmp_lt, cmp_gt, cmp_eq, Int32.reduceAdd, Int32.reduceSub, Int32.reduceMul, Int32.reduceLT, Int32.reduceToNatClampNeg, eq_self, ne_eq, Int64.reduceAdd, Int64.reduceSub, Int64.reduceMul, Int64.reduceLT, hf, g, e] <;> exact hq _
  | succ N ih =>
    intro i v hi
    have e1 : (nI i < (3 : Int32)) = True := eq_true (nI_lt (a := i) (b := 3) (by omega) (by decide))
    have e3 : inb (nI i) 3 = True := inb_nI (by omega) (by decide)
    rw [E27_4]
    by_cases g : nI i < nI f
    · simp only [E27_0, E27_1, E27_2, E27_3, E27_5, E27_6, E27_9, E27_12, E27_13, E27_14, E27_17, E27_18, E27_19, E27_22, E27_23, E27_24, E27_27, E27_28, E27_31, E27_34, E27_35, pk40 hS, pk46 hS, pl46 hS, pa46 hS, pi46 hS, pr40_5 hR, rfs, rfn, cs0, csi, csl, csr, csn, kti, ktl, ktr, ktn, ktv, ktf, true_and, and_true, and_self, ↓reduceIte, Nat.reduceAdd, Nat.reduceSub, Nat.reduceMul, Nat.reduceLT, Nat.reduceLeDiff, Nat.reduceEqDiff, true_or, or_true, false_or, or_false, not_true_eq_false, not_false_eq_true, reduceCtorEq, cmp_lt, cmp_gt, cmp_eq, Int32.reduceAdd, Int32.reduceSub, Int32.reduceMul, Int32.reduceLT, Int32.reduceToNatClampNeg, eq_self, ne_eq, Int64.reduceAdd, Int64.reduceSub, Int64.reduceMul, Int64.reduceLT, hf, g, e1, e3, nI_1]
      exact ih (i + 1) _ (by omega)
    · simp only [E27_0, E27_1, E27_2, E27_3, E27_5, E27_6, E27_9, E27_12, E27_13, E27_14, E27_17, E27_18, E27_19, E27_22, E27_23, E27_24, E27_27, E27_28, E27_31, E27_34, E27_35, pk40 hS, pk46 hS, pl46 hS, pa46 hS, pi46 hS, pr40_5 hR, rfs, rfn, cs0, csi, csl, csr, csn, kti, ktl, ktr, ktn, ktv, ktf, true_and, and_true, and_self, ↓reduceIte, Nat.reduceAdd, Nat.reduceSub, Nat.reduceMul, Nat.reduceLT, Nat.reduceLeDiff, Nat.reduceEqDiff, true_or, or_true, false_or, or_false, not_true_eq_false, not_false_eq_true, reduceCtorEq, cmp_lt, cmp_gt, cmp_eq, Int32.reduceAdd, Int32.reduceSub, Int32.reduceMul, Int32.reduceLT, Int32.reduceToNatClampNeg, eq_self, ne_eq, Int64.reduceAdd, Int64.reduceSub, Int64.reduceMul, Int64.reduceLT, hf, g]
      exact hq _
theorem laf (hS : Pm S) (hR : Pr R) (hf : I 40 9 = nI f) (hq : ∀ v, Q (.int v) S I L R) : EvM (d + 1) 27 [.ref 40] S I L R Q := by
  have k := laf_lp (d := d) hS hR hf hq 3 0 0 (by omega)
  rw [show nI 0 = 0 from rfl] at k
  simp only [M27, E27_0, E27_1, E27_2, E27_3, E27_5, E27_6, E27_9, E27_12, E27_13, E27_14, E27_17, E27_18, E27_19, E27_22, E27_23, E27_24, E27_27, E27_28, E27_31, E27_34, E27_35, rfs, rfn, cs0, csi, csl, csr, csn, kti, ktl, ktr, ktn, ktv, ktf, true_and, and_true, and_self, ↓reduceIte, Nat.reduceAdd, Nat.reduceSub, Nat.reduceMul, Nat.reduceLT, Nat.reduceLeDiff, Nat.reduceEqDiff, true_or, or_true, false_or, or_false, not_true_eq_false, not_false_eq_true, reduceCtorEq, cmp_lt, cmp_gt, cmp_eq, Int32.reduceAdd, Int32.reduceSub, Int32.reduceMul, Int32.reduceLT, Int32.reduceToNatClampNeg, eq_self, ne_eq, Int64.reduceAdd, Int64.reduceSub, Int64.reduceMul, Int64.reduceLT]
  exact k
theorem frf_lp (hS : Pm S) (hR : Pr R) (hf : I 40 9 = nI f) (hq : ∀ k, k < 3 → Q (.int (nI k)) S I L R) : ∀ (N i j : Nat), i + N = 3 → j < 3 → Ev (d + 1) 28 4 [.ref 40, .int (nI j), .int (nI i)] [] S I L R Q := by
  intro N
  induction N with
  | zero =>
    intro i j hi hj
    obtain rfl : i = 3 := by omega
    have e : (nI 3 < (3 : Int32)) = False := eq_false (by decide)
    rw [E28_4]
    by_cases g : nI 3 < nI f <;> simp only [E28_0, E28_1, E28_2, E28_3, E28_5, E28_6, E28_9, E28_12, E28_13, E28_14, E28_17, E28_18, E28_21, E28_22, E28_23, E28_24, E28_27, E28_28, E28_29, E28_32, E28_33, E28_34, E28_37, E28_40, E28_41, pk40 hS, pk46 hS, pl46 hS, pa46 hS, pi46 hS, pr40_5 hR, rfs, rfn, cs0, csi, csl, csr, csn, kti, ktl, ktr, ktn, ktv, ktf, true_and, and_true, and_self, ↓reduceIte, Nat.reduceAdd, Nat.reduceSub, Nat.reduceMul, Nat.reduceLT, Nat.reduceLeDiff, Nat.reduceEqDiff, true_or, or_true, false_or, or_false, not_true_eq_false, not_false_eq_true, reduceCtorEq, cmp_lt, cmp_gt, cmp_eq, Int32.reduceAdd, Int32.reduceSub, Int32.reduceMul, Int32.reduceLT, Int32.reduceToNatClampNeg, eq_self, ne_eq, Int64.reduceAdd, Int64.reduceSub, Int64.reduceMul, Int64.reduceLT, hf, g, e] <;> exact hq _ hj
  | succ N ih =>
    intro i j hi hj
    have e1 : (nI i < (3 : Int32)) = True := eq_true (nI_lt (a := i) (b := 3) (by omega) (by decide))
    have e3 : inb (nI i) 3 = True := inb_nI (by omega) (by decide)
    have e4 : inb (nI j) 3 = True := inb_nI (by omega) (by decide)
    rw [E28_4]
    by_cases g : nI i < nI f
    · by_cases g2 : I 46 (nI i).toNatClampNeg < I 46 (nI j).toNatClampNeg
      · simp only [E28_0, E28_1, E28_2, E28_3, E28_5, E28_6, E28_9, E28_12, E28_13, E28_14, E28_17, E28_18, E28_21, E28_22, E28_23, E28_24, E28_27, E28_28, E28_29, E28_32, E28_33, E28_34, E28_37, E28_40, E28_41, pk40 hS, pk46 hS, pl46 hS, pa46 hS, pi46 hS, pr40_5 hR, rfs, rfn, cs0, csi, csl, csr, csn, kti, ktl, ktr, ktn, ktv, ktf, true_and, and_true, and_self, ↓reduceIte, Nat.reduceAdd, Nat.reduceSub, Nat.reduceMul, Nat.reduceLT, Nat.reduceLeDiff, Nat.reduceEqDiff, true_or, or_true, false_or, or_false, not_true_eq_false, not_false_eq_true, reduceCtorEq, cmp_lt, cmp_gt, cmp_eq, Int32.reduceAdd, Int32.reduceSub, Int32.reduceMul, Int32.reduceLT, Int32.reduceToNatClampNeg, eq_self, ne_eq, Int64.reduceAdd, Int64.reduceSub, Int64.reduceMul, Int64.reduceLT, hf, g, g2, e1, e3, e4, nI_1]
        exact ih (i + 1) _ (by omega) (by omega)
      · simp only [E28_0, E28_1, E28_2, E28_3, E28_5, E28_6, E28_9, E28_12, E28_13, E28_14, E28_17, E28_18, E28_21, E28_22, E28_23, E28_24, E28_27, E28_28, E28_29, E28_32, E28_33, E28_34, E28_37, E28_40, E28_41, pk40 hS, pk46 hS, pl46 hS, pa46 hS, pi46 hS, pr40_5 hR, rfs, rfn, cs0, csi, csl, csr, csn, kti, ktl, ktr, ktn, ktv, ktf, true_and, and_true, and_self, ↓reduceIte, Nat.reduceAdd, Nat.reduceSub, Nat.reduceMul, Nat.reduceLT, Nat.reduceLeDiff, Nat.reduceEqDiff, true_or, or_true, false_or, or_false, not_true_eq_false, not_false_eq_true, reduceCtorEq, cmp_lt, cmp_gt, cmp_eq, Int32.reduceAdd, Int32.reduceSub, Int32.reduceMul, Int32.reduceLT, Int32.reduceToNatClampNeg, eq_self, ne_eq, Int64.reduceAdd, Int64.reduceSub, Int64.reduceMul, Int64.reduceLT, hf, g, g2, e1, e3, e4, nI_1]
        exact ih (i + 1) _ (by omega) hj
    · simp only [E28_0, E28_1, E28_2, E28_3, E28_5, E28_6, E28_9, E28_12, E28_13, E28_14, E28_17, E28_18, E28_21, E28_22, E28_23, E28_24, E28_27, E28_28, E28_29, E28_32, E28_33, E28_34, E28_37, E28_40, E28_41, pk40 hS, pk46 hS, pl46 hS, pa46 hS, pi46 hS, pr40_5 hR, rfs, rfn, cs0, csi, csl, csr, csn, kti, ktl, ktr, ktn, ktv, ktf, true_and, and_true, and_self, ↓reduceIte, Nat.reduceAdd, Nat.reduceSub, Nat.reduceMul, Nat.reduceLT, Nat.reduceLeDiff, Nat.reduceEqDiff, true_or, or_true, false_or, or_false, not_true_eq_false, not_false_eq_true, reduceCtorEq, cmp_lt, cmp_gt, cmp_eq, Int32.reduceAdd, Int32.reduceSub, Int32.reduceMul, Int32.reduceLT, Int32.reduceToNatClampNeg, eq_self, ne_eq, Int64.reduceAdd, Int64.reduceSub, Int64.reduceMul, Int64.reduceLT, hf, g]
      exact hq _ hj
theorem frf (hS : Pm S) (hR : Pr R) (hf : I 40 9 = nI f) (hq : ∀ k, k < 3 → Q (.int (nI k)) S I L R) : EvM (d + 1) 28 [.ref 40] S I L R Q := by
  have k := frf_lp (d := d) hS hR hf hq 2 1 0 (by omega) (by omega)
  rw [show nI 0 = 0 from rfl, show nI 1 = 1 from rfl] at k
  simp only [M28, E28_0, E28_1, E28_2, E28_3, E28_5, E28_6, E28_9, E28_12, E28_13, E28_14, E28_17, E28_18, E28_21, E28_22, E28_23, E28_24, E28_27, E28_28, E28_29, E28_32, E28_33, E28_34, E28_37, E28_40, E28_41, rfs, rfn, cs0, csi, csl, csr, csn, kti, ktl, ktr, ktn, ktv, ktf, true_and, and_true, and_self, ↓reduceIte, Nat.reduceAdd, Nat.reduceSub, Nat.reduceMul, Nat.reduceLT, Nat.reduceLeDiff, Nat.reduceEqDiff, true_or, or_true, false_or, or_false, not_true_eq_false, not_false_eq_true, reduceCtorEq, cmp_lt, cmp_gt, cmp_eq, Int32.reduceAdd, Int32.reduceSub, Int32.reduceMul, Int32.reduceLT, Int32.reduceToNatClampNeg, eq_self, ne_eq, Int64.reduceAdd, Int64.reduceSub, Int64.reduceMul, Int64.reduceLT]
  exact k
def rdB (I : mI) (i : Nat) (pl : Int32) : Bool := decide (I 42 i < 0 ∨ ¬ (pl >>> (I 42 i &&& 31)) &&& 1 = 0)
theorem rdy {i : Nat} {pl : Int32} (hS : Pm S) (hR : Pr R) (hi : i < 8) : EvM (d + 1) 25 [.ref 40, .int (nI i), .int pl] S I L R Q = Q (.int (bI (rdB I i pl))) S I L R := by
  have e : rdB I i pl = decide (I 42 i < 0 ∨ ¬ (pl >>> (I 42 i &&& 31)) &&& 1 = 0) := rfl
  have e3 : inb (nI i) 8 = True := inb_nI (by omega) (by decide)
  have e4 : (nI i).toNatClampNeg = i := nI_clamp (by omega)
  rw [e]
  by_cases h1 : I 42 i < 0 <;> by_cases h2 : (pl >>> (I 42 i &&& 31)) &&& 1 = 0 <;> simp only [M25, E25_0, E25_1, E25_4, E25_5, E25_6, E25_9, E25_10, E25_11, E25_14, E25_15, E25_16, E25_17, E25_18, E25_19, E25_22, E25_23, E25_26, E25_27, pk40 hS, pk42 hS, pl42 hS, pa42 hS, pi42 hS, pr40_1 hR, rfs, rfn, cs0, csi, csl, csr, csn, kti, ktl, ktr, ktn, ktv, ktf, true_and, and_true, and_self, ↓reduceIte, Nat.reduceAdd, Nat.reduceSub, Nat.reduceMul, Nat.reduceLT, Nat.reduceLeDiff, Nat.reduceEqDiff, true_or, or_true, false_or, or_false, not_true_eq_false, not_false_eq_true, reduceCtorEq, cmp_lt, cmp_gt, cmp_eq, Int32.reduceAdd, Int32.reduceSub, Int32.reduceMul, Int32.reduceLT, Int32.reduceToNatClampNeg, eq_self, ne_eq, Int64.reduceAdd, Int64.reduceSub, Int64.reduceMul, Int64.reduceLT, n1_0, e3, e4, h1, h2, decide_true, decide_false, bI_t, bI_f]
theorem ear {i : Nat} {w : Int32} (hS : Pm S) (hR : Pr R) (hi : i < 8) (hq : ∀ v, Q (.int v) S I L R) : EvM (d + 1) 26 [.ref 40, .int (nI i), .int w] S I L R Q := by
  have e3 : inb (nI i) 8 = True := inb_nI (by omega) (by decide)
  have e4 : (nI i).toNatClampNeg = i := nI_clamp (by omega)
  by_cases h1 : I 42 i < 0
  · simp only [M26, E26_0, E26_1, E26_4, E26_5, E26_6, E26_7, E26_8, E26_11, E26_12, E26_14, E26_17, E26_18, E26_19, E26_22, E26_23, E26_24, E26_27, E26_30, E26_31, pk40 hS, pk42 hS, pl42 hS, pa42 hS, pi42 hS, pk45 hS, pl45 hS, pa45 hS, pi45 hS, pr40_1 hR, pr40_4 hR, rfs, rfn, cs0, csi, csl, csr, csn, kti, ktl, ktr, ktn, ktv, ktf, true_and, and_true, and_self, ↓reduceIte, Nat.reduceAdd, Nat.reduceSub, Nat.reduceMul, Nat.reduceLT, Nat.reduceLeDiff, Nat.reduceEqDiff, true_or, or_true, false_or, or_false, not_true_eq_false, not_false_eq_true, reduceCtorEq, cmp_lt, cmp_gt, cmp_eq, Int32.reduceAdd, Int32.reduceSub, Int32.reduceMul, Int32.reduceLT, Int32.reduceToNatClampNeg, eq_self, ne_eq, Int64.reduceAdd, Int64.reduceSub, Int64.reduceMul, Int64.reduceLT, e3, e4, h1]
    exact hq _
  by_cases h2 : I 42 i < 8
  · have e5 : inb (I 42 i) 8 = True := inb_lt (n := 8) (by decide) h1 h2
    simp only [M26, E26_0, E26_1, E26_4, E26_5, E26_6, E26_7, E26_8, E26_11, E26_12, E26_14, E26_17, E26_18, E26_19, E26_22, E26_23, E26_24, E26_27, E26_30, E26_31, pk40 hS, pk42 hS, pl42 hS, pa42 hS, pi42 hS, pk45 hS, pl45 hS, pa45 hS, pi45 hS, pr40_1 hR, pr40_4 hR, rfs, rfn, cs0, csi, csl, csr, csn, kti, ktl, ktr, ktn, ktv, ktf, true_and, and_true, and_self, ↓reduceIte, Nat.reduceAdd, Nat.reduceSub, Nat.reduceMul, Nat.reduceLT, Nat.reduceLeDiff, Nat.reduceEqDiff, true_or, or_true, false_or, or_false, not_true_eq_false, not_false_eq_true, reduceCtorEq, cmp_lt, cmp_gt, cmp_eq, Int32.reduceAdd, Int32.reduceSub, Int32.reduceMul, Int32.reduceLT, Int32.reduceToNatClampNeg, eq_self, ne_eq, Int64.reduceAdd, Int64.reduceSub, Int64.reduceMul, Int64.reduceLT, e3, e4, e5, h1, h2]
    exact hq _
  · simp only [M26, E26_0, E26_1, E26_4, E26_5, E26_6, E26_7, E26_8, E26_11, E26_12, E26_14, E26_17, E26_18, E26_19, E26_22, E26_23, E26_24, E26_27, E26_30, E26_31, pk40 hS, pk42 hS, pl42 hS, pa42 hS, pi42 hS, pk45 hS, pl45 hS, pa45 hS, pi45 hS, pr40_1 hR, pr40_4 hR, rfs, rfn, cs0, csi, csl, csr, csn, kti, ktl, ktr, ktn, ktv, ktf, true_and, and_true, and_self, ↓reduceIte, Nat.reduceAdd, Nat.reduceSub, Nat.reduceMul, Nat.reduceLT, Nat.reduceLeDiff, Nat.reduceEqDiff, true_or, or_true, false_or, or_false, not_true_eq_false, not_false_eq_true, reduceCtorEq, cmp_lt, cmp_gt, cmp_eq, Int32.reduceAdd, Int32.reduceSub, Int32.reduceMul, Int32.reduceLT, Int32.reduceToNatClampNeg, eq_self, ne_eq, Int64.reduceAdd, Int64.reduceSub, Int64.reduceMul, Int64.reduceLT, e3, e4, h1, h2]
    exact hq _
theorem bo_l2 {pl rs sf : Int32} (hS : Pm S) (hR : Pr R) (hp8 : p ≤ 8) (hp : I 40 8 = nI p) (hq : ∀ v, Q (.int v) S I L R) : ∀ (N i : Nat) (x4 v : Int32), i + N = p → Ev (d + 2) 24 71 [.ref 40, .int pl, .int rs, .int sf, .int x4, .int v, .int (nI i)] [] S I L R Q := by
  intro N
  induction N with
  | zero =>
    intro i x4 v hi
    obtain rfl : i = p := by omega
    have e : (nI i < nI i) = False := eq_false (nI_nlt (Nat.le_refl _) (by omega))
    rw [E24_71]
    simp only [E24_0, E24_1, E24_3, E24_4, E24_8, E24_9, E24_12, E24_15, E24_17, E24_18, E24_21, E24_23, E24_24, E24_27, E24_29, E24_30, E24_31, E24_33, E24_36, E24_39, E24_40, E24_43, E24_44, E24_47, E24_49, E24_52, E24_54, E24_55, E24_58, E24_59, E24_60, E24_61, E24_62, E24_65, E24_66, E24_68, E24_69, E24_73, E24_74, E24_77, E24_80, E24_81, E24_83, E24_84, E24_85, E24_86, E24_89, E24_90, E24_92, E24_93, E24_96, E24_99, E24_101, E24_102, E24_104, E24_105, E24_108, E24_109, E24_112, E24_114, E24_115, E24_116, E24_119, E24_121, E24_124, E24_127, E24_129, pk40 hS, rfs, rfn, cs0, csi, csl, csr, csn, kti, ktl, ktr, ktn, ktv, ktf, true_and, and_true, and_self, ↓reduceIte, Nat.reduceAdd, Nat.reduceSub, Nat.reduceMul, Nat.reduceLT, Nat.reduceLeDiff, Nat.reduceEqDiff, true_or, or_true, false_or, or_false, not_true_eq_false, not_false_eq_true, reduceCtorEq, cmp_lt, cmp_gt, cmp_eq, Int32.reduceAdd, Int32.reduceSub, Int32.reduceMul, Int32.reduceLT, Int32.reduceToNatClampNeg, eq_self, ne_eq, Int64.reduceAdd, Int64.reduceSub, Int64.reduceMul, Int64.reduceLT, hp, e]
    exact hq _
  | succ N ih =>
    intro i x4 v hi
    have e1 : (nI i < nI p) = True := eq_true (nI_lt (by omega) (by omega))
    have e3 : inb (nI i) 8 = True := inb_nI (by omega) (by decide)
    have e4 : (nI i).toNatClampNeg = i := nI_clamp (by omega)
    have k1 := fun Q => rdy (d := d) (i := i) (pl := pl) (I := I) (L := L) (Q := Q) hS hR (by omega)
    rw [E24_71]
    by_cases g : (pl >>> (nI i &&& 31)) &&& 1 = 0
    · cases hb : rdB I i pl with
      | false =>
        simp only [E24_0, E24_1, E24_3, E24_4, E24_8, E24_9, E24_12, E24_15, E24_17, E24_18, E24_21, E24_23, E24_24, E24_27, E24_29, E24_30, E24_31, E24_33, E24_36, E24_39, E24_40, E24_43, E24_44, E24_47, E24_49, E24_52, E24_54, E24_55, E24_58, E24_59, E24_60, E24_61, E24_62, E24_65, E24_66, E24_68, E24_69, E24_73, E24_74, E24_77, E24_80, E24_81, E24_83, E24_84, E24_85, E24_86, E24_89, E24_90, E24_92, E24_93, E24_96, E24_99, E24_101, E24_102, E24_104, E24_105, E24_108, E24_109, E24_112, E24_114, E24_115, E24_116, E24_119, E24_121, E24_124, E24_127, E24_129, pk40 hS, rfs, rfn, cs0, csi, csl, csr, csn, kti, ktl, ktr, ktn, ktv, ktf, true_and, and_true, and_self, ↓reduceIte, Nat.reduceAdd, Nat.reduceSub, Nat.reduceMul, Nat.reduceLT, Nat.reduceLeDiff, Nat.reduceEqDiff, true_or, or_true, false_or, or_false, not_true_eq_false, not_false_eq_true, reduceCtorEq, cmp_lt, cmp_gt, cmp_eq, Int32.reduceAdd, Int32.reduceSub, Int32.reduceMul, Int32.reduceLT, Int32.reduceToNatClampNeg, eq_self, ne_eq, Int64.reduceAdd, Int64.reduceSub, Int64.reduceMul, Int64.reduceLT, hp, e1, g, k1, hb, bI_f, nI_1]
        exact ih (i + 1) _ _ (by omega)
      | true =>
        simp only [E24_0, E24_1, E24_3, E24_4, E24_8, E24_9, E24_12, E24_15, E24_17, E24_18, E24_21, E24_23, E24_24, E24_27, E24_29, E24_30, E24_31, E24_33, E24_36, E24_39, E24_40, E24_43, E24_44, E24_47, E24_49, E24_52, E24_54, E24_55, E24_58, E24_59, E24_60, E24_61, E24_62, E24_65, E24_66, E24_68, E24_69, E24_73, E24_74, E24_77, E24_80, E24_81, E24_83, E24_84, E24_85, E24_86, E24_89, E24_90, E24_92, E24_93, E24_96, E24_99, E24_101, E24_102, E24_104, E24_105, E24_108, E24_109, E24_112, E24_114, E24_115, E24_116, E24_119, E24_121, E24_124, E24_127, E24_129, pk40 hS, rfs, rfn, cs0, csi, csl, csr, csn, kti, ktl, ktr, ktn, ktv, ktf, true_and, and_true, and_self, ↓reduceIte, Nat.reduceAdd, Nat.reduceSub, Nat.reduceMul, Nat.reduceLT, Nat.reduceLeDiff, Nat.reduceEqDiff, true_or, or_true, false_or, or_false, not_true_eq_false, not_false_eq_true, reduceCtorEq, cmp_lt, cmp_gt, cmp_eq, Int32.reduceAdd, Int32.reduceSub, Int32.reduceMul, Int32.reduceLT, Int32.reduceToNatClampNeg, eq_self, ne_eq, Int64.reduceAdd, Int64.reduceSub, Int64.reduceMul, Int64.reduceLT, n1_0, hp, e1, g, k1, hb, bI_t]
        refine ear hS hR (by omega) (fun v => ?_)
        simp only [E24_0, E24_1, E24_3, E24_4, E24_8, E24_9, E24_12, E24_15, E24_17, E24_18, E24_21, E24_23, E24_24, E24_27, E24_29, E24_30, E24_31, E24_33, E24_36, E24_39, E24_40, E24_43, E24_44, E24_47, E24_49, E24_52, E24_54, E24_55, E24_58, E24_59, E24_60, E24_61, E24_62, E24_65, E24_66, E24_68, E24_69, E24_73, E24_74, E24_77, E24_80, E24_81, E24_83, E24_84, E24_85, E24_86, E24_89, E24_90, E24_92, E24_93, E24_96, E24_99, E24_101, E24_102, E24_104, E24_105, E24_108, E24_109, E24_112, E24_114, E24_115, E24_116, E24_119, E24_121, E24_124, E24_127, E24_129, pk40 hS, pk43 hS, pl43 hS, pa43 hS, pi43 hS, pr40_2 hR, rfs, rfn, cs0, csi, csl, csr, csn, kti, ktl, ktr, ktn, ktv, ktf, true_and, and_true, and_self, ↓reduceIte, Nat.reduceAdd, Nat.reduceSub, Nat.reduceMul, Nat.reduceLT, Nat.reduceLeDiff, Nat.reduceEqDiff, true_or, or_true, false_or, or_false, not_true_eq_false, not_false_eq_true, reduceCtorEq, cmp_lt, cmp_gt, cmp_eq, Int32.reduceAdd, Int32.reduceSub, Int32.reduceMul, Int32.reduceLT, Int32.reduceToNatClampNeg, eq_self, ne_eq, Int64.reduceAdd, Int64.reduceSub, Int64.reduceMul, Int64.reduceLT, e3, nI_1]
        exact ih (i + 1) _ _ (by omega)
    · simp only [E24_0, E24_1, E24_3, E24_4, E24_8, E24_9, E24_12, E24_15, E24_17, E24_18, E24_21, E24_23, E24_24, E24_27, E24_29, E24_30, E24_31, E24_33, E24_36, E24_39, E24_40, E24_43, E24_44, E24_47, E24_49, E24_52, E24_54, E24_55, E24_58, E24_59, E24_60, E24_61, E24_62, E24_65, E24_66, E24_68, E24_69, E24_73, E24_74, E24_77, E24_80, E24_81, E24_83, E24_84, E24_85, E24_86, E24_89, E24_90, E24_92, E24_93, E24_96, E24_99, E24_101, E24_102, E24_104, E24_105, E24_108, E24_109, E24_112, E24_114, E24_115, E24_116, E24_119, E24_121, E24_124, E24_127, E24_129, pk40 hS, rfs, rfn, cs0, csi, csl, csr, csn, kti, ktl, ktr, ktn, ktv, ktf, true_and, and_true, and_self, ↓reduceIte, Nat.reduceAdd, Nat.reduceSub, Nat.reduceMul, Nat.reduceLT, Nat.reduceLeDiff, Nat.reduceEqDiff, true_or, or_true, false_or, or_false, not_true_eq_false, not_false_eq_true, reduceCtorEq, cmp_lt, cmp_gt, cmp_eq, Int32.reduceAdd, Int32.reduceSub, Int32.reduceMul, Int32.reduceLT, Int32.reduceToNatClampNeg, eq_self, ne_eq, Int64.reduceAdd, Int64.reduceSub, Int64.reduceMul, Int64.reduceLT, hp, e1, g, nI_1]
      exact ih (i + 1) _ _ (by omega)
theorem bo_l1 {pl rs sf : Int32} (hS : Pm S) (hR : Pr R) (hp8 : p ≤ 8) (hp : I 40 8 = nI p) (f1 : 1 ≤ f) (f3 : f ≤ 3) (hf : I 40 9 = nI f) (hq : ∀ v, Q (.int v) S I L R) : ∀ (N i : Nat) (v : Int32) (x6 : Value), i + N = 3 → Ev (d + 2) 24 6 [.ref 40, .int pl, .int rs, .int sf, .int v, .int (nI i), x6] [] S I L R Q := by
  have c1 : (nI f < 1) = False := eq_false (nI_nlt (a := f) (b := 1) f1 (by omega))
  have c2 : (nI f = 0) = False := eq_false (fun z => by
    have := congrArg Int32.toNatClampNeg z
    rw [nI_clamp (by omega), show (0 : Int32).toNatClampNeg = 0 from rfl] at this
    omega)
  have fin : ∀ (v x5 : Int32) (x6 : Value), Ev (d + 2) 24 39 [.ref 40, .int pl, .int rs, .int sf, .int v, .int x5, x6] [] S I L R Q := by
    intro v x5 x6
    simp only [E24_0, E24_1, E24_3, E24_4, E24_8, E24_9, E24_12, E24_15, E24_17, E24_18, E24_21, E24_23, E24_24, E24_27, E24_29, E24_30, E24_31, E24_33, E24_36, E24_39, E24_40, E24_43, E24_44, E24_47, E24_49, E24_52, E24_54, E24_55, E24_58, E24_59, E24_60, E24_61, E24_62, E24_65, E24_66, E24_68, E24_69, E24_73, E24_74, E24_77, E24_80, E24_81, E24_83, E24_84, E24_85, E24_86, E24_89, E24_90, E24_92, E24_93, E24_96, E24_99, E24_101, E24_102, E24_104, E24_105, E24_108, E24_109, E24_112, E24_114, E24_115, E24_116, E24_119, E24_121, E24_124, E24_127, E24_129, pk40 hS, rfs, rfn, cs0, csi, csl, csr, csn, kti, ktl, ktr, ktn, ktv, ktf, true_and, and_true, and_self, ↓reduceIte, Nat.reduceAdd, Nat.reduceSub, Nat.reduceMul, Nat.reduceLT, Nat.reduceLeDiff, Nat.reduceEqDiff, true_or, or_true, false_or, or_false, not_true_eq_false, not_false_eq_true, reduceCtorEq, cmp_lt, cmp_gt, cmp_eq, Int32.reduceAdd, Int32.reduceSub, Int32.reduceMul, Int32.reduceLT, Int32.reduceToNatClampNeg, eq_self, ne_eq, Int64.reduceAdd, Int64.reduceSub, Int64.reduceMul, Int64.reduceLT, hf, c1, c2]
    have k := fun x4 v => bo_l2 (d := d) (pl := pl) (rs := rs) (sf := sf) hS hR hp8 hp hq p 0 x4 v (by omega)
    rw [show nI 0 = 0 from rfl] at k
    exact k _ _
  intro N
  induction N with
  | zero =>
    intro i v x6 hi
    obtain rfl : i = 3 := by omega
    have e : (nI 3 < (3 : Int32)) = False := eq_false (by decide)
    rw [E24_6]
    by_cases g : nI 3 < nI f <;> simp only [E24_0, E24_1, E24_3, E24_4, E24_8, E24_9, E24_12, E24_15, E24_17, E24_18, E24_21, E24_23, E24_24, E24_27, E24_29, E24_30, E24_31, E24_33, E24_36, E24_40, E24_43, E24_44, E24_47, E24_49, E24_52, E24_54, E24_55, E24_58, E24_59, E24_60, E24_61, E24_62, E24_65, E24_66, E24_68, E24_69, E24_73, E24_74, E24_77, E24_80, E24_81, E24_83, E24_84, E24_85, E24_86, E24_89, E24_90, E24_92, E24_93, E24_96, E24_99, E24_101, E24_102, E24_104, E24_105, E24_108, E24_109, E24_112, E24_114, E24_115, E24_116, E24_119, E24_121, E24_124, E24_127, E24_129, pk40 hS, rfs, rfn, cs0, csi, csl, csr, csn, kti, ktl, ktr, ktn, ktv, ktf, true_and, and_true, and_self, ↓reduceIte, Nat.reduceAdd, Nat.reduceSub, Nat.reduceMul, Nat.reduceLT, Nat.reduceLeDiff, Nat.reduceEqDiff, true_or, or_true, false_or, or_false, not_true_eq_false, not_false_eq_true, reduceCtorEq, cmp_lt, cmp_gt, cmp_eq, Int32.reduceAdd, Int32.reduceSub, Int32.reduceMul, Int32.reduceLT, Int32.reduceToNatClampNeg, eq_self, ne_eq, Int64.reduceAdd, Int64.reduceSub, Int64.reduceMul, Int64.reduceLT, hf, g, e] <;> exact fin _ _ _
  | succ N ih =>
    intro i v x6 hi
    have e1 : (nI i < (3 : Int32)) = True := eq_true (nI_lt (a := i) (b := 3) (by omega) (by decide))
    have e3 : inb (nI i) 3 = True := inb_nI (by omega) (by decide)
    rw [E24_6]
    by_cases g : nI i < nI f
    · simp only [E24_0, E24_1, E24_3, E24_4, E24_8, E24_9, E24_12, E24_15, E24_17, E24_18, E24_21, E24_23, E24_24, E24_27, E24_29, E24_30, E24_31, E24_33, E24_36, E24_40, E24_43, E24_44, E24_47, E24_49, E24_52, E24_54, E24_55, E24_58, E24_59, E24_60, E24_61, E24_62, E24_65, E24_66, E24_68, E24_69, E24_73, E24_74, E24_77, E24_80, E24_81, E24_83, E24_84, E24_85, E24_86, E24_89, E24_90, E24_92, E24_93, E24_96, E24_99, E24_101, E24_102, E24_104, E24_105, E24_108, E24_109, E24_112, E24_114, E24_115, E24_116, E24_119, E24_121, E24_124, E24_127, E24_129, pk40 hS, pk46 hS, pl46 hS, pa46 hS, pi46 hS, pr40_5 hR, rfs, rfn, cs0, csi, csl, csr, csn, kti, ktl, ktr, ktn, ktv, ktf, true_and, and_true, and_self, ↓reduceIte, Nat.reduceAdd, Nat.reduceSub, Nat.reduceMul, Nat.reduceLT, Nat.reduceLeDiff, Nat.reduceEqDiff, true_or, or_true, false_or, or_false, not_true_eq_false, not_false_eq_true, reduceCtorEq, cmp_lt, cmp_gt, cmp_eq, Int32.reduceAdd, Int32.reduceSub, Int32.reduceMul, Int32.reduceLT, Int32.reduceToNatClampNeg, eq_self, ne_eq, Int64.reduceAdd, Int64.reduceSub, Int64.reduceMul, Int64.reduceLT, hf, g, e1, e3, nI_1]
      exact ih (i + 1) _ _ (by omega)
    · simp only [E24_0, E24_1, E24_3, E24_4, E24_8, E24_9, E24_12, E24_15, E24_17, E24_18, E24_21, E24_23, E24_24, E24_27, E24_29, E24_30, E24_31, E24_33, E24_36, E24_40, E24_43, E24_44, E24_47, E24_49, E24_52, E24_54, E24_55, E24_58, E24_59, E24_60, E24_61, E24_62, E24_65, E24_66, E24_68, E24_69, E24_73, E24_74, E24_77, E24_80, E24_81, E24_83, E24_84, E24_85, E24_86, E24_89, E24_90, E24_92, E24_93, E24_96, E24_99, E24_101, E24_102, E24_104, E24_105, E24_108, E24_109, E24_112, E24_114, E24_115, E24_116, E24_119, E24_121, E24_124, E24_127, E24_129, pk40 hS, rfs, rfn, cs0, csi, csl, csr, csn, kti, ktl, ktr, ktn, ktv, ktf, true_and, and_true, and_self, ↓reduceIte, Nat.reduceAdd, Nat.reduceSub, Nat.reduceMul, Nat.reduceLT, Nat.reduceLeDiff, Nat.reduceEqDiff, true_or, or_true, false_or, or_false, not_true_eq_false, not_false_eq_true, reduceCtorEq, cmp_lt, cmp_gt, cmp_eq, Int32.reduceAdd, Int32.reduceSub, Int32.reduceMul, Int32.reduceLT, Int32.reduceToNatClampNeg, eq_self, ne_eq, Int64.reduceAdd, Int64.reduceSub, Int64.reduceMul, Int64.reduceLT, hf, g]
      exact fin _ _ _
theorem bnd {pl rs sf : Int32} (hS : Pm S) (hR : Pr R) (hp8 : p ≤ 8) (hp : I 40 8 = nI p) (f1 : 1 ≤ f) (f3 : f ≤ 3) (hf : I 40 9 = nI f) (hq : ∀ v, Q (.int v) S I L R) : EvM (d + 2) 24 [.ref 40, .int pl, .int rs, .int sf] S I L R Q := by
  have k := fun v => bo_l1 (d := d) (pl := pl) (rs := rs) (sf := sf) hS hR hp8 hp f1 f3 hf hq 3 0 v nv (by omega)
  rw [show nI 0 = 0 from rfl] at k
  simp only [M24, E24_0, E24_1, E24_3, E24_4, E24_8, E24_9, E24_12, E24_15, E24_17, E24_18, E24_21, E24_23, E24_24, E24_27, E24_29, E24_30, E24_31, E24_33, E24_36, E24_39, E24_40, E24_43, E24_44, E24_47, E24_49, E24_52, E24_54, E24_55, E24_58, E24_59, E24_60, E24_61, E24_62, E24_65, E24_66, E24_68, E24_69, E24_73, E24_74, E24_77, E24_80, E24_81, E24_83, E24_84, E24_85, E24_86, E24_89, E24_90, E24_92, E24_93, E24_96, E24_99, E24_101, E24_102, E24_104, E24_105, E24_108, E24_109, E24_112, E24_114, E24_115, E24_116, E24_119, E24_121, E24_124, E24_127, E24_129, rfs, rfn, cs0, csi, csl, csr, csn, kti, ktl, ktr, ktn, ktv, ktf, true_and, and_true, and_self, ↓reduceIte, Nat.reduceAdd, Nat.reduceSub, Nat.reduceMul, Nat.reduceLT, Nat.reduceLeDiff, Nat.reduceEqDiff, true_or, or_true, false_or, or_false, not_true_eq_false, not_false_eq_true, reduceCtorEq, cmp_lt, cmp_gt, cmp_eq, Int32.reduceAdd, Int32.reduceSub, Int32.reduceMul, Int32.reduceLT, Int32.reduceToNatClampNeg, eq_self, ne_eq, Int64.reduceAdd, Int64.reduceSub, Int64.reduceMul, Int64.reduceLT]
  exact k _
end GA
