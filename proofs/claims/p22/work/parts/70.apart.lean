/-! the class's calls: made; how far the TWELVE lie apart -/
def apL (I : mI) (f a g : Nat) : Nat → Nat → Int32 → Int32
  | 0, _, q => q
  | m + 1, c, q => if nI c < I 5 0 then apL I f a g m (c + 1) (q + mab (I 38 (f + c) - I a (g + c))) else q
section CA
variable {d a l : Nat} {S : mS} {I : mI} {L : mL} {R : mR} {Q : mQ}
theorem made_c {r c : Nat} {x y w : Int32} (hS : Pm S) (hR : Pr R) (hr : r ≤ 8) (hc : Rcs S I R 5) (her : I 5 6 = nI r) (hc5 : I 5 0 = nI c) (h5 : c ≤ 5) (hq : ∀ v J, Gu 26 I J → Q (.int v) S J L R) : EvM (d + 7) 120 [.ref 4, .int x, .int y, .int w] S I L R Q := by
  have hz := smi5 hS hR
  by_cases g1 : y &&& ((1 <<< (I 5 0 &&& 31) - 1) ^^^ -1) = 0
  · by_cases g2 : w &&& ((1 <<< (I 5 0 &&& 31) - 1) ^^^ -1) = 0
    · cases g3 : tbL (nI c) 5 0 x with
      | false =>
        simp only [M120, E120_0, E120_1, E120_2, E120_5, E120_8, E120_9, E120_10, E120_11, E120_13, E120_14, E120_16, E120_17, E120_18, E120_19, E120_22, E120_23, E120_25, E120_26, E120_27, E120_28, E120_31, E120_32, E120_35, E120_36, E120_39, E120_42, E120_43, E120_44, E120_45, E120_47, E120_48, E120_52, E120_53, E120_56, E120_59, E120_62, E120_63, E120_66, E120_68, E120_71, E120_71n, E120_73, E120_73n, E120_75, E120_75n, E120_78, E120_79, E120_82, E120_83, E120_86, E120_86n, E120_88, E120_89, E120_92, E120_93, E120_95, E120_96, E120_99, E120_100, E120_101, E120_102, E120_105, E120_108, E120_109, E120_111, E120_112, E120_115, E120_116, E120_117, E120_119, E120_122, E120_125, E120_127, pk4 hS, pk5 hS, pk38 hS, pl38 hS, pa38 hS, pi38 hS, pr4_0 hR, pr4_7 hR, pr4_8 hR, pr4_9 hR, rfs, rfn, cs0, csi, csl, csr, csn, kti, ktl, ktr, ktn, ktv, ktf, true_and, and_true, and_self, ↓reduceIte, Nat.reduceAdd, Nat.reduceSub, Nat.reduceMul, Nat.reduceLT, Nat.reduceLeDiff, Nat.reduceEqDiff, true_or, or_true, false_or, or_false, not_true_eq_false, not_false_eq_true, reduceCtorEq, cmp_lt, cmp_gt, cmp_eq, Int32.reduceAdd, Int32.reduceSub, Int32.reduceMul, Int32.reduceLT, Int32.reduceToNatClampNeg, eq_self, ne_eq, Int64.reduceAdd, Int64.reduceSub, Int64.reduceMul, Int64.reduceLT, n1_0, bI_t, bI_f, g1, g2, tlb (x := x) hz.1 hc5 h5, g3]
        exact hq _ _ Gu.rf
      | true =>
        have k := made_lp (d := d) (r := r) (a := x) (b := y) (c := w) (y := 1 <<< (I 5 0 &&& 31) - 1) hS hR hr hq hc her r 0 0 nv I (by omega) Gu.rf
        rw [show nI 0 = 0 from rfl] at k
        simp only [M120, E120_0, E120_1, E120_2, E120_5, E120_8, E120_9, E120_10, E120_11, E120_13, E120_14, E120_16, E120_17, E120_18, E120_19, E120_22, E120_23, E120_25, E120_26, E120_27, E120_28, E120_31, E120_32, E120_35, E120_36, E120_39, E120_42, E120_43, E120_44, E120_45, E120_47, E120_48, E120_52, E120_53, E120_56, E120_59, E120_62, E120_63, E120_66, E120_68, E120_71, E120_71n, E120_73, E120_73n, E120_75, E120_75n, E120_78, E120_79, E120_82, E120_83, E120_86, E120_86n, E120_88, E120_89, E120_92, E120_93, E120_95, E120_96, E120_99, E120_100, E120_101, E120_102, E120_105, E120_108, E120_109, E120_111, E120_112, E120_115, E120_116, E120_117, E120_119, E120_122, E120_125, E120_127, pk4 hS, pk5 hS, pk38 hS, pl38 hS, pa38 hS, pi38 hS, pr4_0 hR, pr4_7 hR, pr4_8 hR, pr4_9 hR, rfs, rfn, cs0, csi, csl, csr, csn, kti, ktl, ktr, ktn, ktv, ktf, true_and, and_true, and_self, ↓reduceIte, Nat.reduceAdd, Nat.reduceSub, Nat.reduceMul, Nat.reduceLT, Nat.reduceLeDiff, Nat.reduceEqDiff, true_or, or_true, false_or, or_false, not_true_eq_false, not_false_eq_true, reduceCtorEq, cmp_lt, cmp_gt, cmp_eq, Int32.reduceAdd, Int32.reduceSub, Int32.reduceMul, Int32.reduceLT, Int32.reduceToNatClampNeg, eq_self, ne_eq, Int64.reduceAdd, Int64.reduceSub, Int64.reduceMul, Int64.reduceLT, n1_0, bI_t, bI_f, g1, g2, tlb (x := x) hz.1 hc5 h5, g3]
        exact k
    · simp only [M120, E120_0, E120_1, E120_2, E120_5, E120_8, E120_9, E120_10, E120_11, E120_13, E120_14, E120_16, E120_17, E120_18, E120_19, E120_22, E120_23, E120_25, E120_26, E120_27, E120_28, E120_31, E120_32, E120_35, E120_36, E120_39, E120_42, E120_43, E120_44, E120_45, E120_47, E120_48, E120_52, E120_53, E120_56, E120_59, E120_62, E120_63, E120_66, E120_68, E120_71, E120_71n, E120_73, E120_73n, E120_75, E120_75n, E120_78, E120_79, E120_82, E120_83, E120_86, E120_86n, E120_88, E120_89, E120_92, E120_93, E120_95, E120_96, E120_99, E120_100, E120_101, E120_102, E120_105, E120_108, E120_109, E120_111, E120_112, E120_115, E120_116, E120_117, E120_119, E120_122, E120_125, E120_127, pk4 hS, pk5 hS, pk38 hS, pl38 hS, pa38 hS, pi38 hS, pr4_0 hR, pr4_7 hR, pr4_8 hR, pr4_9 hR, rfs, rfn, cs0, csi, csl, csr, csn, kti, ktl, ktr, ktn, ktv, ktf, true_and, and_true, and_self, ↓reduceIte, Nat.reduceAdd, Nat.reduceSub, Nat.reduceMul, Nat.reduceLT, Nat.reduceLeDiff, Nat.reduceEqDiff, true_or, or_true, false_or, or_false, not_true_eq_false, not_false_eq_true, reduceCtorEq, cmp_lt, cmp_gt, cmp_eq, Int32.reduceAdd, Int32.reduceSub, Int32.reduceMul, Int32.reduceLT, Int32.reduceToNatClampNeg, eq_self, ne_eq, Int64.reduceAdd, Int64.reduceSub, Int64.reduceMul, Int64.reduceLT, n1_0, bI_t, bI_f, g1, g2]
      exact hq _ _ Gu.rf
  · simp only [M120, E120_0, E120_1, E120_2, E120_5, E120_8, E120_9, E120_10, E120_11, E120_13, E120_14, E120_16, E120_17, E120_18, E120_19, E120_22, E120_23, E120_25, E120_26, E120_27, E120_28, E120_31, E120_32, E120_35, E120_36, E120_39, E120_42, E120_43, E120_44, E120_45, E120_47, E120_48, E120_52, E120_53, E120_56, E120_59, E120_62, E120_63, E120_66, E120_68, E120_71, E120_71n, E120_73, E120_73n, E120_75, E120_75n, E120_78, E120_79, E120_82, E120_83, E120_86, E120_86n, E120_88, E120_89, E120_92, E120_93, E120_95, E120_96, E120_99, E120_100, E120_101, E120_102, E120_105, E120_108, E120_109, E120_111, E120_112, E120_115, E120_116, E120_117, E120_119, E120_122, E120_125, E120_127, pk4 hS, pk5 hS, pk38 hS, pl38 hS, pa38 hS, pi38 hS, pr4_0 hR, pr4_7 hR, pr4_8 hR, pr4_9 hR, rfs, rfn, cs0, csi, csl, csr, csn, kti, ktl, ktr, ktn, ktv, ktf, true_and, and_true, and_self, ↓reduceIte, Nat.reduceAdd, Nat.reduceSub, Nat.reduceMul, Nat.reduceLT, Nat.reduceLeDiff, Nat.reduceEqDiff, true_or, or_true, false_or, or_false, not_true_eq_false, not_false_eq_true, reduceCtorEq, cmp_lt, cmp_gt, cmp_eq, Int32.reduceAdd, Int32.reduceSub, Int32.reduceMul, Int32.reduceLT, Int32.reduceToNatClampNeg, eq_self, ne_eq, Int64.reduceAdd, Int64.reduceSub, Int64.reduceMul, Int64.reduceLT, n1_0, bI_t, bI_f, g1]
    exact hq _ _ Gu.rf
theorem ap_lp {i j : Nat} {y1 y3 : Int32} (hS : Pm S) (hR : Pr R) (ha : ok S a 11) (hl : S.2.2.2 a = l) (hi : 5 * i + 5 ≤ 60) (hj : 5 * j + 5 ≤ l) (h60 : l ≤ 60) : ∀ (m c : Nat) (q : Int32), c + m = 5 → Ev (d + 1) 138 49 [.ref 4, .int y1, .ref a, .int y3, .int (nI (5 * i)), .int (nI (5 * j)), .int q, .int (nI c)] [] S I L R Q = Q (.int (apL I (5 * i) a (5 * j) m c q)) S I L R := by
  have hI : okI S a := ⟨ha.1, Or.inl ha.2⟩
  intro m
  induction m with
  | zero =>
    intro c q hc
    obtain rfl : c = 5 := by omega
    have e : (nI 5 < (5 : Int32)) = False := eq_false (by decide)
    rw [E138_49]
    by_cases g : nI 5 < I 5 0 <;> simp only [E138_0, E138_1, E138_2, E138_3, E138_5, E138_6, E138_7, E138_8, E138_10, E138_12, E138_15, E138_17, E138_18, E138_19, E138_20, E138_23, E138_24, E138_27, E138_29, E138_32, E138_34, E138_35, E138_36, E138_36n, E138_37, E138_38, E138_41, E138_42, E138_43, E138_44, E138_46, E138_47, E138_51, E138_52, E138_55, E138_58, E138_61, E138_63, E138_64, E138_67, E138_69, E138_70, E138_73, E138_75, E138_77, E138_78, E138_79, E138_79n, E138_80, E138_82, E138_84, E138_85, E138_86, E138_87, E138_90, E138_91, E138_93, E138_96, E138_99, E138_101, pk4 hS, pk5 hS, pk38 hS, pl38 hS, pa38 hS, pi38 hS, pr4_0 hR, pr4_7 hR, pr4_8 hR, pr4_9 hR, rfs, rfn, cs0, csi, csl, csr, csn, kti, ktl, ktr, ktn, ktv, ktf, true_and, and_true, and_self, ↓reduceIte, Nat.reduceAdd, Nat.reduceSub, Nat.reduceMul, Nat.reduceLT, Nat.reduceLeDiff, Nat.reduceEqDiff, true_or, or_true, false_or, or_false, not_true_eq_false, not_false_eq_true, reduceCtorEq, cmp_lt, cmp_gt, cmp_eq, Int32.reduceAdd, Int32.reduceSub, Int32.reduceMul, Int32.reduceLT, Int32.reduceToNatClampNeg, eq_self, ne_eq, Int64.reduceAdd, Int64.reduceSub, Int64.reduceMul, Int64.reduceLT, n1_0, bI_t, bI_f, e, g] <;> rfl
  | succ m ih =>
    intro c q hc
    have e1 : (nI c < (5 : Int32)) = True := eq_true (nI_lt (a := c) (b := 5) (by omega) (by decide))
    have e2 : nI (5 * i) + nI c = nI (5 * i + c) := nI_add _ _
    have e3 : nI (5 * j) + nI c = nI (5 * j + c) := nI_add _ _
    have i1 : inb (nI (5 * i + c)) 60 = True := inb_nI (by omega) (by decide)
    have i2 : inb (nI (5 * j + c)) l = True := inb_nI (by omega) (by omega)
    have e4 : (nI (5 * i + c)).toNatClampNeg = 5 * i + c := nI_clamp (by omega)
    have e5 : (nI (5 * j + c)).toNatClampNeg = 5 * j + c := nI_clamp (by omega)
    have em : ∀ x : Int32, (if 0 ≤ x then x else 0 - x) = mab x := fun _ => rfl
    rw [E138_49]
    unfold apL
    by_cases g : nI c < I 5 0
    · rw [if_pos g, ← ih (c + 1) _ (by omega)]
      simp only [E138_0, E138_1, E138_2, E138_3, E138_5, E138_6, E138_7, E138_8, E138_10, E138_12, E138_15, E138_17, E138_18, E138_19, E138_20, E138_23, E138_24, E138_27, E138_29, E138_32, E138_34, E138_35, E138_36, E138_36n, E138_37, E138_38, E138_41, E138_42, E138_43, E138_44, E138_46, E138_47, E138_51, E138_52, E138_55, E138_58, E138_61, E138_63, E138_64, E138_67, E138_69, E138_70, E138_73, E138_75, E138_77, E138_78, E138_79, E138_79n, E138_80, E138_82, E138_84, E138_85, E138_86, E138_87, E138_90, E138_91, E138_93, E138_96, E138_99, E138_101, pk4 hS, pk5 hS, pk38 hS, pl38 hS, pa38 hS, pi38 hS, pr4_0 hR, pr4_7 hR, pr4_8 hR, pr4_9 hR, rfs, rfn, cs0, csi, csl, csr, csn, kti, ktl, ktr, ktn, ktv, ktf, true_and, and_true, and_self, ↓reduceIte, Nat.reduceAdd, Nat.reduceSub, Nat.reduceMul, Nat.reduceLT, Nat.reduceLeDiff, Nat.reduceEqDiff, true_or, or_true, false_or, or_false, not_true_eq_false, not_false_eq_true, reduceCtorEq, cmp_lt, cmp_gt, cmp_eq, Int32.reduceAdd, Int32.reduceSub, Int32.reduceMul, Int32.reduceLT, Int32.reduceToNatClampNeg, eq_self, ne_eq, Int64.reduceAdd, Int64.reduceSub, Int64.reduceMul, Int64.reduceLT, n1_0, bI_t, bI_f, hI, hl, e1, e2, e3, e4, e5, i1, i2, em, g, nI_1]
    · rw [if_neg g]
      simp only [E138_0, E138_1, E138_2, E138_3, E138_5, E138_6, E138_7, E138_8, E138_10, E138_12, E138_15, E138_17, E138_18, E138_19, E138_20, E138_23, E138_24, E138_27, E138_29, E138_32, E138_34, E138_35, E138_36, E138_36n, E138_37, E138_38, E138_41, E138_42, E138_43, E138_44, E138_46, E138_47, E138_51, E138_52, E138_55, E138_58, E138_61, E138_63, E138_64, E138_67, E138_69, E138_70, E138_73, E138_75, E138_77, E138_78, E138_79, E138_79n, E138_80, E138_82, E138_84, E138_85, E138_86, E138_87, E138_90, E138_91, E138_93, E138_96, E138_99, E138_101, pk4 hS, pk5 hS, pk38 hS, pl38 hS, pa38 hS, pi38 hS, pr4_0 hR, pr4_7 hR, pr4_8 hR, pr4_9 hR, rfs, rfn, cs0, csi, csl, csr, csn, kti, ktl, ktr, ktn, ktv, ktf, true_and, and_true, and_self, ↓reduceIte, Nat.reduceAdd, Nat.reduceSub, Nat.reduceMul, Nat.reduceLT, Nat.reduceLeDiff, Nat.reduceEqDiff, true_or, or_true, false_or, or_false, not_true_eq_false, not_false_eq_true, reduceCtorEq, cmp_lt, cmp_gt, cmp_eq, Int32.reduceAdd, Int32.reduceSub, Int32.reduceMul, Int32.reduceLT, Int32.reduceToNatClampNeg, eq_self, ne_eq, Int64.reduceAdd, Int64.reduceSub, Int64.reduceMul, Int64.reduceLT, n1_0, bI_t, bI_f, g]
theorem apa {i j : Nat} (hS : Pm S) (hR : Pr R) (ha : ok S a 11) (hl : S.2.2.2 a = l) (hi : 5 * i + 5 ≤ 60) (hj : 5 * j + 5 ≤ l) (h60 : l ≤ 60) : EvM (d + 1) 138 [.ref 4, .int (nI i), .ref a, .int (nI j)] S I L R Q = Q (.int (apL I (5 * i) a (5 * j) 5 0 0)) S I L R := by
  have hA : okA S a := ⟨ha.1, by rw [ha.2]; decide⟩
  have e1 : nI i * 5 = nI (5 * i) := by rw [show (5 : Int32) = nI 5 from rfl, pk_mul, Nat.mul_comm]
  have e2 : nI j * 5 = nI (5 * j) := by rw [show (5 : Int32) = nI 5 from rfl, pk_mul, Nat.mul_comm]
  have e3 : (nI (5 * i) < 0) = False := eq_false (nI_pos (by omega))
  have e4 : (nI (5 * j) < 0) = False := eq_false (nI_pos (by omega))
  have e5 : nI (5 * i) + 5 = nI (5 * i + 5) := nI_add _ 5
  have e6 : nI (5 * j) + 5 = nI (5 * j + 5) := nI_add _ 5
  have e7 : (nI 60 < nI (5 * i + 5)) = False := eq_false (nI_nlt (by omega) (by omega))
  have e8 : (nI l < nI (5 * j + 5)) = False := eq_false (nI_nlt (by omega) (by omega))
  have k := ap_lp (d := d) (i := i) (j := j) (y1 := nI i) (y3 := nI j) (I := I) (L := L) (Q := Q) hS hR ha hl hi hj h60 5 0 0 (by omega)
  rw [show nI 0 = 0 from rfl] at k
  simp only [M138, E138_0, E138_1, E138_2, E138_3, E138_5, E138_6, E138_7, E138_8, E138_10, E138_12, E138_15, E138_17, E138_18, E138_19, E138_20, E138_23, E138_24, E138_27, E138_29, E138_32, E138_34, E138_35, E138_36, E138_36n, E138_37, E138_38, E138_41, E138_42, E138_43, E138_44, E138_46, E138_47, E138_51, E138_52, E138_55, E138_58, E138_61, E138_63, E138_64, E138_67, E138_69, E138_70, E138_73, E138_75, E138_77, E138_78, E138_79, E138_79n, E138_80, E138_82, E138_84, E138_85, E138_86, E138_87, E138_90, E138_91, E138_93, E138_96, E138_99, E138_101, pk4 hS, pk5 hS, pk38 hS, pl38 hS, pa38 hS, pi38 hS, pr4_0 hR, pr4_7 hR, pr4_8 hR, pr4_9 hR, rfs, rfn, cs0, csi, csl, csr, csn, kti, ktl, ktr, ktn, ktv, ktf, true_and, and_true, and_self, ↓reduceIte, Nat.reduceAdd, Nat.reduceSub, Nat.reduceMul, Nat.reduceLT, Nat.reduceLeDiff, Nat.reduceEqDiff, true_or, or_true, false_or, or_false, not_true_eq_false, not_false_eq_true, reduceCtorEq, cmp_lt, cmp_gt, cmp_eq, Int32.reduceAdd, Int32.reduceSub, Int32.reduceMul, Int32.reduceLT, Int32.reduceToNatClampNeg, eq_self, ne_eq, Int64.reduceAdd, Int64.reduceSub, Int64.reduceMul, Int64.reduceLT, n1_0, bI_t, bI_f, hA, hl, e1, e2, e3, e4, e5, e6, e7, e8]
  exact k
theorem ma_lp (hS : Pm S) (hR : Pr R) (ha : ok S a 11) (hl : S.2.2.2 a = l) (h5 : 5 ≤ l) (h60 : l ≤ 60) (hq : ∀ v, Q (.int v) S I L R) : ∀ (N i : Nat) (v : Int32), i + N = 12 → Ev (d + 2) 136 4 [.ref 4, .ref a, .int v, .int (nI i)] [] S I L R Q := by
  intro N
  induction N with
  | zero =>
    intro i v hi
    obtain rfl : i = 12 := by omega
    have e : (nI 12 < (12 : Int32)) = False := eq_false (by decide)
    rw [E136_4]
    simp only [E136_0, E136_1, E136_2, E136_3, E136_5, E136_7, E136_10, E136_11, E136_12, E136_13, E136_13n, E136_14, E136_15, E136_18, E136_21, E136_22, E136_25, E136_26, E136_27, E136_28, E136_31, E136_34, E136_35, pk4 hS, pk5 hS, pk38 hS, pl38 hS, pa38 hS, pi38 hS, pr4_0 hR, pr4_7 hR, pr4_8 hR, pr4_9 hR, rfs, rfn, cs0, csi, csl, csr, csn, kti, ktl, ktr, ktn, ktv, ktf, true_and, and_true, and_self, ↓reduceIte, Nat.reduceAdd, Nat.reduceSub, Nat.reduceMul, Nat.reduceLT, Nat.reduceLeDiff, Nat.reduceEqDiff, true_or, or_true, false_or, or_false, not_true_eq_false, not_false_eq_true, reduceCtorEq, cmp_lt, cmp_gt, cmp_eq, Int32.reduceAdd, Int32.reduceSub, Int32.reduceMul, Int32.reduceLT, Int32.reduceToNatClampNeg, eq_self, ne_eq, Int64.reduceAdd, Int64.reduceSub, Int64.reduceMul, Int64.reduceLT, n1_0, bI_t, bI_f, e]
    exact hq _
  | succ N ih =>
    intro i v hi
    have e1 : (nI i < (12 : Int32)) = True := eq_true (nI_lt (a := i) (b := 12) (by omega) (by decide))
    have k := fun Q => apa (d := d) (i := i) (j := 0) (I := I) (L := L) (Q := Q) hS hR ha hl (by omega) (by omega) h60
    rw [show nI 0 = 0 from rfl] at k
    rw [E136_4]
    by_cases g : apL I (5 * i) a (5 * 0) 5 0 0 = 0
    · simp only [E136_0, E136_1, E136_2, E136_3, E136_5, E136_7, E136_10, E136_11, E136_12, E136_13, E136_13n, E136_14, E136_15, E136_18, E136_21, E136_22, E136_25, E136_26, E136_27, E136_28, E136_31, E136_34, E136_35, pk4 hS, pk5 hS, pk38 hS, pl38 hS, pa38 hS, pi38 hS, pr4_0 hR, pr4_7 hR, pr4_8 hR, pr4_9 hR, rfs, rfn, cs0, csi, csl, csr, csn, kti, ktl, ktr, ktn, ktv, ktf, true_and, and_true, and_self, ↓reduceIte, Nat.reduceAdd, Nat.reduceSub, Nat.reduceMul, Nat.reduceLT, Nat.reduceLeDiff, Nat.reduceEqDiff, true_or, or_true, false_or, or_false, not_true_eq_false, not_false_eq_true, reduceCtorEq, cmp_lt, cmp_gt, cmp_eq, Int32.reduceAdd, Int32.reduceSub, Int32.reduceMul, Int32.reduceLT, Int32.reduceToNatClampNeg, eq_self, ne_eq, Int64.reduceAdd, Int64.reduceSub, Int64.reduceMul, Int64.reduceLT, n1_0, bI_t, bI_f, e1, k, g, nI_1]
      exact ih (i + 1) _ (by omega)
    · simp only [E136_0, E136_1, E136_2, E136_3, E136_5, E136_7, E136_10, E136_11, E136_12, E136_13, E136_13n, E136_14, E136_15, E136_18, E136_21, E136_22, E136_25, E136_26, E136_27, E136_28, E136_31, E136_34, E136_35, pk4 hS, pk5 hS, pk38 hS, pl38 hS, pa38 hS, pi38 hS, pr4_0 hR, pr4_7 hR, pr4_8 hR, pr4_9 hR, rfs, rfn, cs0, csi, csl, csr, csn, kti, ktl, ktr, ktn, ktv, ktf, true_and, and_true, and_self, ↓reduceIte, Nat.reduceAdd, Nat.reduceSub, Nat.reduceMul, Nat.reduceLT, Nat.reduceLeDiff, Nat.reduceEqDiff, true_or, or_true, false_or, or_false, not_true_eq_false, not_false_eq_true, reduceCtorEq, cmp_lt, cmp_gt, cmp_eq, Int32.reduceAdd, Int32.reduceSub, Int32.reduceMul, Int32.reduceLT, Int32.reduceToNatClampNeg, eq_self, ne_eq, Int64.reduceAdd, Int64.reduceSub, Int64.reduceMul, Int64.reduceLT, n1_0, bI_t, bI_f, e1, k, g, nI_1]
      exact ih (i + 1) _ (by omega)
theorem man (hS : Pm S) (hR : Pr R) (ha : ok S a 11) (hl : S.2.2.2 a = l) (h5 : 5 ≤ l) (h60 : l ≤ 60) (hq : ∀ v, Q (.int v) S I L R) : EvM (d + 2) 136 [.ref 4, .ref a] S I L R Q := by
  have k := ma_lp (d := d) hS hR ha hl h5 h60 hq 12 0 0 (by omega)
  rw [show nI 0 = 0 from rfl] at k
  simp only [M136, E136_0, E136_1, E136_2, E136_3, E136_5, E136_7, E136_10, E136_11, E136_12, E136_13, E136_13n, E136_14, E136_15, E136_18, E136_21, E136_22, E136_25, E136_26, E136_27, E136_28, E136_31, E136_34, E136_35, rfs, rfn, cs0, csi, csl, csr, csn, kti, ktl, ktr, ktn, ktv, ktf, true_and, and_true, and_self, ↓reduceIte, Nat.reduceAdd, Nat.reduceSub, Nat.reduceMul, Nat.reduceLT, Nat.reduceLeDiff, Nat.reduceEqDiff, true_or, or_true, false_or, or_false, not_true_eq_false, not_false_eq_true, reduceCtorEq, cmp_lt, cmp_gt, cmp_eq, Int32.reduceAdd, Int32.reduceSub, Int32.reduceMul, Int32.reduceLT, Int32.reduceToNatClampNeg, eq_self, ne_eq, Int64.reduceAdd, Int64.reduceSub, Int64.reduceMul, Int64.reduceLT]
  exact k
end CA
