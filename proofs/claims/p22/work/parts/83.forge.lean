/-! the class's Forge: HEATS, MOVES, whatever the longs are -/
theorem mxq : ∀ p, p < 5 → (if (0 : Int32) < nI p - 2 then nI p - 2 else 0) = nI (p - 2) := by decide
section FH
variable {d f c n p a e : Nat} {w : Nat → Nat} {S : mS} {I : mI} {R : mR} {Q : mQ}
theorem htH_lp (hS : FoS S R f c n) (hI : FoI I f c n w) (hc : c ≤ 5) (hn : n < 2 ^ 24) (hp : p < c) (la : lon S a n) (le : lon S e n) (hq : ∀ L, Q .null S I L R) : ∀ (m i : Nat) (L : mL), i + m = n → Ev (d + 2) 12 3 [.ref f, .ref a, .int (nI p), .ref e, .int (nI i)] [] S I L R Q := by
  obtain ⟨⟨o0, o1, o2⟩, ⟨r2, r3, r4, r5, r7, r8, r9⟩, ⟨m1, m2, m3⟩, -⟩ := hS
  obtain ⟨i0, i1, i2⟩ := hI
  have ip : inb (nI p) c = True := inb_nI hp (by omega)
  have ep : (nI p).toNatClampNeg = p := nI_clamp (by omega)
  have oI : okI S (f + 1) := ⟨o1.1, Or.inl o1.2⟩
  have R1 := matR m1
  have R3 := matR m3
  have q1 := (m1.2 p hp).1
  have l1 := (m1.2 p hp).2
  have q3 := (m3.2 p hp).1
  have l3 := (m3.2 p hp).2
  intro m
  induction m with
  | zero =>
    intro i L hi
    obtain rfl : i = n := by omega
    have e0 : (nI i < nI i) = False := eq_false (nI_nlt (Nat.le_refl i) (by omega))
    rw [E12_3]
    simp only [E12_0, E12_1, E12_5, E12_6, E12_9, E12_12, E12_12n, E12_13, E12_15, E12_15n, E12_16, E12_18, E12_19, E12_20, E12_23, E12_24, E12_25, E12_27, E12_28, E12_29, E12_30, E12_33, E12_34, E12_35, E12_37, E12_38, E12_41, E12_42, E12_43, E12_44, E12_47, E12_50, E12_50n, E12_51, E12_52, E12_55, E12_56, E12_57, E12_58, E12_61, E12_62, E12_63, E12_64, E12_67, E12_68, E12_69, E12_70, E12_70n, E12_71, E12_74, rfs, rfn, cs0, csi, csl, csr, csn, kti, ktl, ktr, ktn, ktv, ktf, true_and, and_true, and_self, ↓reduceIte, Nat.reduceAdd, Nat.reduceSub, Nat.reduceMul, Nat.reduceLT, Nat.reduceLeDiff, Nat.reduceEqDiff, true_or, or_true, false_or, or_false, not_true_eq_false, not_false_eq_true, reduceCtorEq, cmp_lt, cmp_gt, cmp_eq, Int32.reduceAdd, Int32.reduceSub, Int32.reduceMul, Int32.reduceLT, Int32.reduceToNatClampNeg, eq_self, ne_eq, Int64.reduceAdd, Int64.reduceSub, Int64.reduceMul, Int64.reduceLT, o0, o2, oI, r2, r3, r5, i1, R1, R3, m1.1.2, m3.1.2, ip, ep, q1, q3, e0]
    exact shH la l3 l1 le hn hq
  | succ m ih =>
    intro i L hi
    have e1 : (nI i < nI n) = True := eq_true (nI_lt (by omega) (by omega))
    have e3 : inb (nI i) n = True := inb_nI (by omega) (by omega)
    rw [E12_3]
    simp only [E12_0, E12_1, E12_5, E12_6, E12_9, E12_12, E12_12n, E12_13, E12_15, E12_15n, E12_16, E12_18, E12_19, E12_20, E12_23, E12_24, E12_25, E12_27, E12_28, E12_29, E12_30, E12_33, E12_34, E12_35, E12_37, E12_38, E12_41, E12_42, E12_43, E12_44, E12_47, E12_51, E12_52, E12_55, E12_56, E12_57, E12_58, E12_61, E12_62, E12_63, E12_64, E12_67, E12_68, E12_69, E12_70, E12_70n, E12_71, E12_74, rfs, rfn, cs0, csi, csl, csr, csn, kti, ktl, ktr, ktn, ktv, ktf, true_and, and_true, and_self, ↓reduceIte, Nat.reduceAdd, Nat.reduceSub, Nat.reduceMul, Nat.reduceLT, Nat.reduceLeDiff, Nat.reduceEqDiff, true_or, or_true, false_or, or_false, not_true_eq_false, not_false_eq_true, reduceCtorEq, cmp_lt, cmp_gt, cmp_eq, Int32.reduceAdd, Int32.reduceSub, Int32.reduceMul, Int32.reduceLT, Int32.reduceToNatClampNeg, eq_self, ne_eq, Int64.reduceAdd, Int64.reduceSub, Int64.reduceMul, Int64.reduceLT, o0, r3, r5, i1, R1, R3, m1.1.2, m3.1.2, ip, ep, q1, q3, la.1, la.2, le.1, le.2, l1.1, l1.2, l3.1, l3.2, e1, e3, nI_1]
    exact ih (i + 1) _ (by omega)
theorem htH {L : mL} (hS : FoS S R f c n) (hI : FoI I f c n w) (hc : c ≤ 5) (hn : n < 2 ^ 24) (hp : p < c) (la : lon S a n) (le : lon S e n) (hq : ∀ L, Q .null S I L R) : EvM (d + 2) 12 [.ref f, .ref a, .int (nI p), .ref e] S I L R Q := by
  have k := htH_lp (d := d) hS hI hc hn hp la le hq n 0 L (by omega)
  rw [show nI 0 = 0 from rfl] at k
  simp only [M12, E12_0, E12_1, E12_5, E12_6, E12_9, E12_12, E12_12n, E12_13, E12_15, E12_15n, E12_16, E12_18, E12_19, E12_20, E12_23, E12_24, E12_25, E12_27, E12_28, E12_29, E12_30, E12_33, E12_34, E12_35, E12_37, E12_38, E12_41, E12_42, E12_43, E12_44, E12_47, E12_50, E12_50n, E12_51, E12_52, E12_55, E12_56, E12_57, E12_58, E12_61, E12_62, E12_63, E12_64, E12_67, E12_68, E12_69, E12_70, E12_70n, E12_71, E12_74, rfs, rfn, cs0, csi, csl, csr, csn, kti, ktl, ktr, ktn, ktv, ktf, true_and, and_true, and_self, ↓reduceIte, Nat.reduceAdd, Nat.reduceSub, Nat.reduceMul, Nat.reduceLT, Nat.reduceLeDiff, Nat.reduceEqDiff, true_or, or_true, false_or, or_false, not_true_eq_false, not_false_eq_true, reduceCtorEq, cmp_lt, cmp_gt, cmp_eq, Int32.reduceAdd, Int32.reduceSub, Int32.reduceMul, Int32.reduceLT, Int32.reduceToNatClampNeg, eq_self, ne_eq, Int64.reduceAdd, Int64.reduceSub, Int64.reduceMul, Int64.reduceLT]
  exact k
theorem uhH_lp (hS : FoS S R f c n) (hI : FoI I f c n w) (hc : c ≤ 5) (hn : n < 2 ^ 24) (hp : p < c) (la : lon S a n) (le : lon S e n) (hq : ∀ L, Q .null S I L R) : ∀ (m i : Nat) (L : mL), i + m = n → Ev (d + 2) 13 3 [.ref f, .ref a, .int (nI p), .ref e, .int (nI i)] [] S I L R Q := by
  obtain ⟨⟨o0, o1, o2⟩, ⟨r2, r3, r4, r5, r7, r8, r9⟩, ⟨m1, m2, m3⟩, -⟩ := hS
  obtain ⟨i0, i1, i2⟩ := hI
  have ip : inb (nI p) c = True := inb_nI hp (by omega)
  have ep : (nI p).toNatClampNeg = p := nI_clamp (by omega)
  have oI : okI S (f + 1) := ⟨o1.1, Or.inl o1.2⟩
  have R1 := matR m1
  have R2 := matR m2
  have R3 := matR m3
  have q1 := (m1.2 p hp).1
  have l1 := (m1.2 p hp).2
  have q2 := (m2.2 p hp).1
  have l2 := (m2.2 p hp).2
  have q3 := (m3.2 p hp).1
  have l3 := (m3.2 p hp).2
  intro m
  induction m with
  | zero =>
    intro i L hi
    obtain rfl : i = n := by omega
    have e0 : (nI i < nI i) = False := eq_false (nI_nlt (Nat.le_refl i) (by omega))
    rw [E13_3]
    simp only [E13_0, E13_1, E13_5, E13_6, E13_9, E13_12, E13_12n, E13_13, E13_15, E13_15n, E13_16, E13_18, E13_19, E13_20, E13_23, E13_24, E13_25, E13_27, E13_28, E13_31, E13_32, E13_33, E13_34, E13_37, E13_40, E13_40n, E13_41, E13_42, E13_45, E13_46, E13_47, E13_48, E13_51, E13_52, E13_53, E13_54, E13_57, E13_58, E13_59, E13_59n, E13_60, E13_63, E13_63n, E13_64, E13_65, E13_68, E13_69, E13_70, E13_73, E13_74, rfs, rfn, cs0, csi, csl, csr, csn, kti, ktl, ktr, ktn, ktv, ktf, true_and, and_true, and_self, ↓reduceIte, Nat.reduceAdd, Nat.reduceSub, Nat.reduceMul, Nat.reduceLT, Nat.reduceLeDiff, Nat.reduceEqDiff, true_or, or_true, false_or, or_false, not_true_eq_false, not_false_eq_true, reduceCtorEq, cmp_lt, cmp_gt, cmp_eq, Int32.reduceAdd, Int32.reduceSub, Int32.reduceMul, Int32.reduceLT, Int32.reduceToNatClampNeg, eq_self, ne_eq, Int64.reduceAdd, Int64.reduceSub, Int64.reduceMul, Int64.reduceLT, o0, o2, oI, r2, r3, r4, r5, i1, R1, R2, R3, m1.1.2, m2.1.2, m3.1.2, ip, ep, q1, q2, q3, e0]
    refine shH la l2 l2 le hn (fun L => ?_)
    simp only [E13_0, E13_1, E13_5, E13_6, E13_9, E13_12, E13_12n, E13_13, E13_15, E13_15n, E13_16, E13_18, E13_19, E13_20, E13_23, E13_24, E13_25, E13_27, E13_28, E13_31, E13_32, E13_33, E13_34, E13_37, E13_40, E13_40n, E13_41, E13_42, E13_45, E13_46, E13_47, E13_48, E13_51, E13_52, E13_53, E13_54, E13_57, E13_58, E13_59, E13_59n, E13_60, E13_63, E13_63n, E13_64, E13_65, E13_68, E13_69, E13_70, E13_73, E13_74, rfs, rfn, cs0, csi, csl, csr, csn, kti, ktl, ktr, ktn, ktv, ktf, true_and, and_true, and_self, ↓reduceIte, Nat.reduceAdd, Nat.reduceSub, Nat.reduceMul, Nat.reduceLT, Nat.reduceLeDiff, Nat.reduceEqDiff, true_or, or_true, false_or, or_false, not_true_eq_false, not_false_eq_true, reduceCtorEq, cmp_lt, cmp_gt, cmp_eq, Int32.reduceAdd, Int32.reduceSub, Int32.reduceMul, Int32.reduceLT, Int32.reduceToNatClampNeg, eq_self, ne_eq, Int64.reduceAdd, Int64.reduceSub, Int64.reduceMul, Int64.reduceLT, o0, r5, R3, m3.1.2, ip, ep, q3]
    refine keH le l3 hn (fun v L => ?_)
    simp only [E13_0, E13_1, E13_5, E13_6, E13_9, E13_12, E13_12n, E13_13, E13_15, E13_15n, E13_16, E13_18, E13_19, E13_20, E13_23, E13_24, E13_25, E13_27, E13_28, E13_31, E13_32, E13_33, E13_34, E13_37, E13_40, E13_40n, E13_41, E13_42, E13_45, E13_46, E13_47, E13_48, E13_51, E13_52, E13_53, E13_54, E13_57, E13_58, E13_59, E13_59n, E13_60, E13_63, E13_63n, E13_64, E13_65, E13_68, E13_69, E13_70, E13_73, E13_74, rfs, rfn, cs0, csi, csl, csr, csn, kti, ktl, ktr, ktn, ktv, ktf, true_and, and_true, and_self, ↓reduceIte, Nat.reduceAdd, Nat.reduceSub, Nat.reduceMul, Nat.reduceLT, Nat.reduceLeDiff, Nat.reduceEqDiff, true_or, or_true, false_or, or_false, not_true_eq_false, not_false_eq_true, reduceCtorEq, cmp_lt, cmp_gt, cmp_eq, Int32.reduceAdd, Int32.reduceSub, Int32.reduceMul, Int32.reduceLT, Int32.reduceToNatClampNeg, eq_self, ne_eq, Int64.reduceAdd, Int64.reduceSub, Int64.reduceMul, Int64.reduceLT]
    exact hq _
  | succ m ih =>
    intro i L hi
    have e1 : (nI i < nI n) = True := eq_true (nI_lt (by omega) (by omega))
    have e3 : inb (nI i) n = True := inb_nI (by omega) (by omega)
    rw [E13_3]
    simp only [E13_0, E13_1, E13_5, E13_6, E13_9, E13_12, E13_12n, E13_13, E13_15, E13_15n, E13_16, E13_18, E13_19, E13_20, E13_23, E13_24, E13_25, E13_27, E13_28, E13_31, E13_32, E13_33, E13_34, E13_37, E13_41, E13_42, E13_45, E13_46, E13_47, E13_48, E13_51, E13_52, E13_53, E13_54, E13_57, E13_58, E13_59, E13_59n, E13_60, E13_63, E13_63n, E13_64, E13_65, E13_68, E13_69, E13_70, E13_73, E13_74, rfs, rfn, cs0, csi, csl, csr, csn, kti, ktl, ktr, ktn, ktv, ktf, true_and, and_true, and_self, ↓reduceIte, Nat.reduceAdd, Nat.reduceSub, Nat.reduceMul, Nat.reduceLT, Nat.reduceLeDiff, Nat.reduceEqDiff, true_or, or_true, false_or, or_false, not_true_eq_false, not_false_eq_true, reduceCtorEq, cmp_lt, cmp_gt, cmp_eq, Int32.reduceAdd, Int32.reduceSub, Int32.reduceMul, Int32.reduceLT, Int32.reduceToNatClampNeg, eq_self, ne_eq, Int64.reduceAdd, Int64.reduceSub, Int64.reduceMul, Int64.reduceLT, o0, r3, i1, R1, m1.1.2, ip, ep, q1, la.1, la.2, le.1, le.2, l1.1, l1.2, e1, e3, nI_1]
    exact ih (i + 1) _ (by omega)
theorem uhH {L : mL} (hS : FoS S R f c n) (hI : FoI I f c n w) (hc : c ≤ 5) (hn : n < 2 ^ 24) (hp : p < c) (la : lon S a n) (le : lon S e n) (hq : ∀ L, Q .null S I L R) : EvM (d + 2) 13 [.ref f, .ref a, .int (nI p), .ref e] S I L R Q := by
  have k := uhH_lp (d := d) hS hI hc hn hp la le hq n 0 L (by omega)
  rw [show nI 0 = 0 from rfl] at k
  simp only [M13, E13_0, E13_1, E13_5, E13_6, E13_9, E13_12, E13_12n, E13_13, E13_15, E13_15n, E13_16, E13_18, E13_19, E13_20, E13_23, E13_24, E13_25, E13_27, E13_28, E13_31, E13_32, E13_33, E13_34, E13_37, E13_40, E13_40n, E13_41, E13_42, E13_45, E13_46, E13_47, E13_48, E13_51, E13_52, E13_53, E13_54, E13_57, E13_58, E13_59, E13_59n, E13_60, E13_63, E13_63n, E13_64, E13_65, E13_68, E13_69, E13_70, E13_73, E13_74, rfs, rfn, cs0, csi, csl, csr, csn, kti, ktl, ktr, ktn, ktv, ktf, true_and, and_true, and_self, ↓reduceIte, Nat.reduceAdd, Nat.reduceSub, Nat.reduceMul, Nat.reduceLT, Nat.reduceLeDiff, Nat.reduceEqDiff, true_or, or_true, false_or, or_false, not_true_eq_false, not_false_eq_true, reduceCtorEq, cmp_lt, cmp_gt, cmp_eq, Int32.reduceAdd, Int32.reduceSub, Int32.reduceMul, Int32.reduceLT, Int32.reduceToNatClampNeg, eq_self, ne_eq, Int64.reduceAdd, Int64.reduceSub, Int64.reduceMul, Int64.reduceLT]
  exact k
theorem s3H {bl fv : Int32} {bv : Int32} (hS : FoS S R f c n) (hI : FoI I f c n w) (hn : n < 2 ^ 24) (le : lon S e n) (hq : ∀ (L : mL) (v : Int64) (x9 x10 : Value), Ev (d + 2) 14 215 [.ref f, .ref e, .int (nI p), .int bl, .int fv, .int bv, .long v, nv, .int (nI n), x9, x10] [] S I L R Q) : ∀ (m i : Nat) (L : mL) (v : Int64) (x9 x10 : Value), i + m = n → Ev (d + 2) 14 157 [.ref f, .ref e, .int (nI p), .int bl, .int fv, .int bv, .long v, nv, .int (nI i), x9, x10] [] S I L R Q := by
  obtain ⟨⟨o0, o1, o2⟩, ⟨r2, r3, r4, r5, r7, r8, r9⟩, -, ⟨l7, l8, l9⟩⟩ := hS
  obtain ⟨i0, i1, i2⟩ := hI
  intro m
  induction m with
  | zero =>
    intro i L v x9 x10 hi
    obtain rfl : i = n := by omega
    have e0 : (nI i < nI i) = False := eq_false (nI_nlt (Nat.le_refl i) (by omega))
    rw [E14_157]
    simp only [E14_159, E14_160, E14_163, rfs, rfn, cs0, csi, csl, csr, csn, kti, ktl, ktr, ktn, ktv, ktf, true_and, and_true, and_self, ↓reduceIte, Nat.reduceAdd, Nat.reduceSub, Nat.reduceMul, Nat.reduceLT, Nat.reduceLeDiff, Nat.reduceEqDiff, true_or, or_true, false_or, or_false, not_true_eq_false, not_false_eq_true, reduceCtorEq, cmp_lt, cmp_gt, cmp_eq, Int32.reduceAdd, Int32.reduceSub, Int32.reduceMul, Int32.reduceLT, Int32.reduceToNatClampNeg, eq_self, ne_eq, Int64.reduceAdd, Int64.reduceSub, Int64.reduceMul, Int64.reduceLT, o0, i1, e0]
    exact hq _ _ _ _
  | succ m ih =>
    intro i L v x9 x10 hi
    have e1 : (nI i < nI n) = True := eq_true (nI_lt (by omega) (by omega))
    have e3 : inb (nI i) n = True := inb_nI (by omega) (by omega)
    rw [E14_157]
    simp only [E14_0, E14_0n, E14_1, E14_2, E14_3, E14_6, E14_7, E14_8, E14_11, E14_14, E14_15, E14_17, E14_18, E14_22, E14_23, E14_26, E14_28, E14_31, E14_32, E14_35, E14_36, E14_39, E14_40, E14_41, E14_42, E14_43, E14_46, E14_50, E14_51, E14_52, E14_53, E14_56, E14_58, E14_59, E14_60, E14_61, E14_64, E14_67, E14_68, E14_71, E14_73, E14_74, E14_75, E14_78, E14_80, E14_81, E14_82, E14_83, E14_84, E14_86, E14_87, E14_90, E14_91, E14_94, E14_96, E14_97, E14_98, E14_101, E14_103, E14_104, E14_105, E14_106, E14_108, E14_109, E14_110, E14_113, E14_116, E14_117, E14_120, E14_121, E14_124, E14_126, E14_127, E14_128, E14_129, E14_130, E14_133, E14_135, E14_136, E14_138, E14_139, E14_142, E14_145, E14_148, E14_151, E14_152, E14_154, E14_155, E14_159, E14_160, E14_163, E14_166, E14_167, E14_170, E14_172, E14_173, E14_173n, E14_174, E14_176, E14_177, E14_180, E14_181, E14_182, E14_184, E14_185, E14_188, E14_190, E14_192, E14_193, E14_193n, E14_194, E14_196, E14_197, E14_198, E14_200, E14_201, E14_202, E14_204, E14_206, E14_207, E14_209, E14_212, E14_217, E14_218, E14_219, E14_222, E14_223, E14_226, E14_227, E14_229, E14_232, E14_235, rfs, rfn, cs0, csi, csl, csr, csn, kti, ktl, ktr, ktn, ktv, ktf, true_and, and_true, and_self, ↓reduceIte, Nat.reduceAdd, Nat.reduceSub, Nat.reduceMul, Nat.reduceLT, Nat.reduceLeDiff, Nat.reduceEqDiff, true_or, or_true, false_or, or_false, not_true_eq_false, not_false_eq_true, reduceCtorEq, cmp_lt, cmp_gt, cmp_eq, Int32.reduceAdd, Int32.reduceSub, Int32.reduceMul, Int32.reduceLT, Int32.reduceToNatClampNeg, eq_self, ne_eq, Int64.reduceAdd, Int64.reduceSub, Int64.reduceMul, Int64.reduceLT, o0, r7, r8, i1, l7.1, l7.2, l8.1, l8.2, le.1, le.2, e1, e3, nI_1]
    exact ih (i + 1) _ _ _ _ (by omega)
theorem s2H {bl fv bv : Int32} {y8 y9 y10 : Value} (hS : FoS S R f c n) (hI : FoI I f c n w) (hc : c ≤ 5) (hn : n < 2 ^ 24) (hq : ∀ (L : mL) (x6 x7 : Value), Ev (d + 2) 14 151 [.ref f, .ref e, .int (nI p), .int bl, .int fv, .int bv, x6, x7, y8, y9, y10] [] S I L R Q) : ∀ (m i : Nat) (L : mL) (x7 : Value), i + m = 6 → Ev (d + 2) 14 48 [.ref f, .ref e, .int (nI p), .int bl, .int fv, .int bv, .int (nI i), x7, y8, y9, y10] [] S I L R Q := by
  obtain ⟨⟨o0, o1, o2⟩, ⟨r2, r3, r4, r5, r7, r8, r9⟩, ⟨m1, m2, m3⟩, ⟨l7, l8, l9⟩⟩ := hS
  obtain ⟨i0, i1, i2⟩ := hI
  have oI : okI S (f + 1) := ⟨o1.1, Or.inl o1.2⟩
  have R1 := matR m1
  have R2 := matR m2
  intro m
  induction m with
  | zero =>
    intro i L x7 hi
    obtain rfl : i = 6 := by omega
    have e0 : (nI 7 < nI c) = False := eq_false (nI_nlt (by omega) (by omega))
    rw [E14_48]
    by_cases g : nI (p + 1) < nI 6
    · simp only [E14_50, E14_51, E14_52, E14_53, rfs, rfn, cs0, csi, csl, csr, csn, kti, ktl, ktr, ktn, ktv, ktf, true_and, and_true, and_self, ↓reduceIte, Nat.reduceAdd, Nat.reduceSub, Nat.reduceMul, Nat.reduceLT, Nat.reduceLeDiff, Nat.reduceEqDiff, true_or, or_true, false_or, or_false, not_true_eq_false, not_false_eq_true, reduceCtorEq, cmp_lt, cmp_gt, cmp_eq, Int32.reduceAdd, Int32.reduceSub, Int32.reduceMul, Int32.reduceLT, Int32.reduceToNatClampNeg, eq_self, ne_eq, Int64.reduceAdd, Int64.reduceSub, Int64.reduceMul, Int64.reduceLT, nI_1, g]
      exact hq _ _ _
    · simp only [E14_50, E14_51, E14_52, E14_53, E14_56, E14_58, E14_59, E14_60, E14_61, E14_64, rfs, rfn, cs0, csi, csl, csr, csn, kti, ktl, ktr, ktn, ktv, ktf, true_and, and_true, and_self, ↓reduceIte, Nat.reduceAdd, Nat.reduceSub, Nat.reduceMul, Nat.reduceLT, Nat.reduceLeDiff, Nat.reduceEqDiff, true_or, or_true, false_or, or_false, not_true_eq_false, not_false_eq_true, reduceCtorEq, cmp_lt, cmp_gt, cmp_eq, Int32.reduceAdd, Int32.reduceSub, Int32.reduceMul, Int32.reduceLT, Int32.reduceToNatClampNeg, eq_self, ne_eq, Int64.reduceAdd, Int64.reduceSub, Int64.reduceMul, Int64.reduceLT, g, o0, i0, nI_1, e0]
      exact hq _ _ _
  | succ m ih =>
    intro i L x7 hi
    rw [E14_48]
    by_cases g : nI (p + 1) < nI i
    · simp only [E14_50, E14_51, E14_52, E14_53, rfs, rfn, cs0, csi, csl, csr, csn, kti, ktl, ktr, ktn, ktv, ktf, true_and, and_true, and_self, ↓reduceIte, Nat.reduceAdd, Nat.reduceSub, Nat.reduceMul, Nat.reduceLT, Nat.reduceLeDiff, Nat.reduceEqDiff, true_or, or_true, false_or, or_false, not_true_eq_false, not_false_eq_true, reduceCtorEq, cmp_lt, cmp_gt, cmp_eq, Int32.reduceAdd, Int32.reduceSub, Int32.reduceMul, Int32.reduceLT, Int32.reduceToNatClampNeg, eq_self, ne_eq, Int64.reduceAdd, Int64.reduceSub, Int64.reduceMul, Int64.reduceLT, nI_1, g]
      exact hq _ _ _
    by_cases g2 : i + 1 < c
    · have e1 : (nI (i + 1) < nI c) = True := eq_true (nI_lt (by omega) (by omega))
      have j1 : inb (nI i) c = True := inb_nI (by omega) (by omega)
      have j2 : inb (nI (i + 1)) c = True := inb_nI (by omega) (by omega)
      have k1 : (nI i).toNatClampNeg = i := nI_clamp (by omega)
      have k2 : (nI (i + 1)).toNatClampNeg = i + 1 := nI_clamp (by omega)
      have a1 := m1.2 i (by omega)
      have a2 := m1.2 (i + 1) (by omega)
      have b1 := m2.2 i (by omega)
      have b2 := m2.2 (i + 1) (by omega)
      simp only [E14_0, E14_0n, E14_1, E14_2, E14_3, E14_6, E14_7, E14_8, E14_11, E14_14, E14_15, E14_17, E14_18, E14_22, E14_23, E14_26, E14_28, E14_31, E14_32, E14_35, E14_36, E14_39, E14_40, E14_41, E14_42, E14_43, E14_46, E14_50, E14_51, E14_52, E14_53, E14_56, E14_58, E14_59, E14_60, E14_61, E14_64, E14_67, E14_68, E14_71, E14_73, E14_74, E14_75, E14_78, E14_80, E14_81, E14_82, E14_83, E14_84, E14_86, E14_87, E14_90, E14_91, E14_94, E14_96, E14_97, E14_98, E14_101, E14_103, E14_104, E14_105, E14_106, E14_108, E14_109, E14_110, E14_113, E14_116, E14_117, E14_120, E14_121, E14_124, E14_126, E14_127, E14_128, E14_129, E14_130, E14_133, E14_135, E14_136, E14_138, E14_139, E14_142, E14_145, E14_148, E14_152, E14_154, E14_155, E14_159, E14_160, E14_163, E14_166, E14_167, E14_170, E14_172, E14_173, E14_173n, E14_174, E14_176, E14_177, E14_180, E14_181, E14_182, E14_184, E14_185, E14_188, E14_190, E14_192, E14_193, E14_193n, E14_194, E14_196, E14_197, E14_198, E14_200, E14_201, E14_202, E14_204, E14_206, E14_207, E14_209, E14_212, E14_215, E14_217, E14_218, E14_219, E14_222, E14_223, E14_226, E14_227, E14_229, E14_232, E14_235, rfs, rfn, cs0, csi, csl, csr, csn, kti, ktl, ktr, ktn, ktv, ktf, true_and, and_true, and_self, ↓reduceIte, Nat.reduceAdd, Nat.reduceSub, Nat.reduceMul, Nat.reduceLT, Nat.reduceLeDiff, Nat.reduceEqDiff, true_or, or_true, false_or, or_false, not_true_eq_false, not_false_eq_true, reduceCtorEq, cmp_lt, cmp_gt, cmp_eq, Int32.reduceAdd, Int32.reduceSub, Int32.reduceMul, Int32.reduceLT, Int32.reduceToNatClampNeg, eq_self, ne_eq, Int64.reduceAdd, Int64.reduceSub, Int64.reduceMul, Int64.reduceLT, g, o0, i0, nI_1, e1, r2, r3, r4, r7, r8, oI, o2, R1, R2, m1.1.2, m2.1.2, j1, j2, k1, k2, a1.1, a2.1, b1.1, b2.1]
      refine shH l7 a1.2 b2.2 l8 hn (fun L => ?_)
      simp only [E14_0, E14_0n, E14_1, E14_2, E14_3, E14_6, E14_7, E14_8, E14_11, E14_14, E14_15, E14_17, E14_18, E14_22, E14_23, E14_26, E14_28, E14_31, E14_32, E14_35, E14_36, E14_39, E14_40, E14_41, E14_42, E14_43, E14_46, E14_50, E14_51, E14_52, E14_53, E14_56, E14_58, E14_59, E14_60, E14_61, E14_64, E14_67, E14_68, E14_71, E14_73, E14_74, E14_75, E14_78, E14_80, E14_81, E14_82, E14_83, E14_84, E14_86, E14_87, E14_90, E14_91, E14_94, E14_96, E14_97, E14_98, E14_101, E14_103, E14_104, E14_105, E14_106, E14_108, E14_109, E14_110, E14_113, E14_116, E14_117, E14_120, E14_121, E14_124, E14_126, E14_127, E14_128, E14_129, E14_130, E14_133, E14_135, E14_136, E14_138, E14_139, E14_142, E14_145, E14_148, E14_152, E14_154, E14_155, E14_159, E14_160, E14_163, E14_166, E14_167, E14_170, E14_172, E14_173, E14_173n, E14_174, E14_176, E14_177, E14_180, E14_181, E14_182, E14_184, E14_185, E14_188, E14_190, E14_192, E14_193, E14_193n, E14_194, E14_196, E14_197, E14_198, E14_200, E14_201, E14_202, E14_204, E14_206, E14_207, E14_209, E14_212, E14_215, E14_217, E14_218, E14_219, E14_222, E14_223, E14_226, E14_227, E14_229, E14_232, E14_235, rfs, rfn, cs0, csi, csl, csr, csn, kti, ktl, ktr, ktn, ktv, ktf, true_and, and_true, and_self, ↓reduceIte, Nat.reduceAdd, Nat.reduceSub, Nat.reduceMul, Nat.reduceLT, Nat.reduceLeDiff, Nat.reduceEqDiff, true_or, or_true, false_or, or_false, not_true_eq_false, not_false_eq_true, reduceCtorEq, cmp_lt, cmp_gt, cmp_eq, Int32.reduceAdd, Int32.reduceSub, Int32.reduceMul, Int32.reduceLT, Int32.reduceToNatClampNeg, eq_self, ne_eq, Int64.reduceAdd, Int64.reduceSub, Int64.reduceMul, Int64.reduceLT, o0, nI_1, r3, r4, r7, r8, R1, R2, m1.1.2, m2.1.2, j1, j2, k1, k2, a2.1, b1.1]
      refine shH l7 a2.2 b1.2 l8 hn (fun L => ?_)
      exact ih (i + 1) _ _ (by omega)
    · have e1 : (nI (i + 1) < nI c) = False := eq_false (nI_nlt (by omega) (by omega))
      simp only [E14_50, E14_51, E14_52, E14_53, E14_56, E14_58, E14_59, E14_60, E14_61, E14_64, rfs, rfn, cs0, csi, csl, csr, csn, kti, ktl, ktr, ktn, ktv, ktf, true_and, and_true, and_self, ↓reduceIte, Nat.reduceAdd, Nat.reduceSub, Nat.reduceMul, Nat.reduceLT, Nat.reduceLeDiff, Nat.reduceEqDiff, true_or, or_true, false_or, or_false, not_true_eq_false, not_false_eq_true, reduceCtorEq, cmp_lt, cmp_gt, cmp_eq, Int32.reduceAdd, Int32.reduceSub, Int32.reduceMul, Int32.reduceLT, Int32.reduceToNatClampNeg, eq_self, ne_eq, Int64.reduceAdd, Int64.reduceSub, Int64.reduceMul, Int64.reduceLT, g, o0, i0, nI_1, e1]
      exact hq _ _ _
theorem s1H {bl : Int32} (hS : FoS S R f c n) (hI : FoI I f c n w) (hc : c ≤ 5) (hn : n < 2 ^ 24) (hp : p < c) (le : lon S e n) (hq : ∀ L, Q .null S I L R) : ∀ (N b : Nat) (L : mL) (fv : Int32) (x6 x7 x8 x9 x10 : Value), bl.toInt ≤ b + N → b < 2 ^ 31 → Ev (d + 2) 14 20 [.ref f, .ref e, .int (nI p), .int bl, .int fv, .int (nI b), x6, x7, x8, x9, x10] [] S I L R Q := by
  have o0 := hS.1.1
  have r8 := hS.2.1.2.2.2.2.2.1
  have l8 := hS.2.2.2.2.1
  have i0 := hI.1
  have fl := fun L Q => fillL (d := d) (v := 0) (I := I) (L := L) (R := R) (Q := Q) l8.1 l8.2 (by omega)
  have mx := mxq p (by omega)
  intro N
  induction N with
  | zero =>
    intro b L fv x6 x7 x8 x9 x10 h1 h2
    have e0 : (nI b < bl) = False := eq_false (fun z => by
      have q := Int32.lt_iff_toInt_lt.mp z
      rw [nI_toInt h2] at q
      omega)
    rw [E14_20]
    simp only [E14_22, E14_23, E14_235, rfs, rfn, cs0, csi, csl, csr, csn, kti, ktl, ktr, ktn, ktv, ktf, true_and, and_true, and_self, ↓reduceIte, Nat.reduceAdd, Nat.reduceSub, Nat.reduceMul, Nat.reduceLT, Nat.reduceLeDiff, Nat.reduceEqDiff, true_or, or_true, false_or, or_false, not_true_eq_false, not_false_eq_true, reduceCtorEq, cmp_lt, cmp_gt, cmp_eq, Int32.reduceAdd, Int32.reduceSub, Int32.reduceMul, Int32.reduceLT, Int32.reduceToNatClampNeg, eq_self, ne_eq, Int64.reduceAdd, Int64.reduceSub, Int64.reduceMul, Int64.reduceLT, e0]
    exact hq _
  | succ N ih =>
    intro b L fv x6 x7 x8 x9 x10 h1 h2
    rw [E14_20]
    by_cases g : nI b < bl
    · have hb : b + 1 < 2 ^ 31 := by
        have q := Int32.lt_iff_toInt_lt.mp g
        have q2 := Int32.toInt_lt bl
        rw [nI_toInt h2] at q
        omega
      by_cases g2 : fv = 0
      · simp only [E14_22, E14_23, E14_26, E14_28, E14_235, rfs, rfn, cs0, csi, csl, csr, csn, kti, ktl, ktr, ktn, ktv, ktf, true_and, and_true, and_self, ↓reduceIte, Nat.reduceAdd, Nat.reduceSub, Nat.reduceMul, Nat.reduceLT, Nat.reduceLeDiff, Nat.reduceEqDiff, true_or, or_true, false_or, or_false, not_true_eq_false, not_false_eq_true, reduceCtorEq, cmp_lt, cmp_gt, cmp_eq, Int32.reduceAdd, Int32.reduceSub, Int32.reduceMul, Int32.reduceLT, Int32.reduceToNatClampNeg, eq_self, ne_eq, Int64.reduceAdd, Int64.reduceSub, Int64.reduceMul, Int64.reduceLT, g, g2]
        exact hq _
      · have k := fun y8 y9 y10 x7 L => s2H (d := d) (p := p) (e := e) (bl := bl) (fv := fv) (bv := nI b) (y8 := y8) (y9 := y9) (y10 := y10) (Q := Q) hS hI hc hn (fun L x6 x7 => by
          simp only [E14_151, E14_152, E14_154, E14_155, rfs, rfn, cs0, csi, csl, csr, csn, kti, ktl, ktr, ktn, ktv, ktf, true_and, and_true, and_self, ↓reduceIte, Nat.reduceAdd, Nat.reduceSub, Nat.reduceMul, Nat.reduceLT, Nat.reduceLeDiff, Nat.reduceEqDiff, true_or, or_true, false_or, or_false, not_true_eq_false, not_false_eq_true, reduceCtorEq, cmp_lt, cmp_gt, cmp_eq, Int32.reduceAdd, Int32.reduceSub, Int32.reduceMul, Int32.reduceLT, Int32.reduceToNatClampNeg, eq_self, ne_eq, Int64.reduceAdd, Int64.reduceSub, Int64.reduceMul, Int64.reduceLT]
          have k3 := fun v x9 x10 => s3H (d := d) (p := p) (e := e) (bl := bl) (fv := fv) (bv := nI b) (Q := Q) hS hI hn le (fun L v x9 x10 => by
            by_cases g3 : v = 0
            · simp only [E14_0, E14_0n, E14_1, E14_2, E14_3, E14_6, E14_7, E14_8, E14_11, E14_14, E14_15, E14_17, E14_18, E14_22, E14_23, E14_26, E14_28, E14_31, E14_32, E14_35, E14_36, E14_39, E14_40, E14_41, E14_42, E14_43, E14_46, E14_50, E14_51, E14_52, E14_53, E14_56, E14_58, E14_59, E14_60, E14_61, E14_64, E14_67, E14_68, E14_71, E14_73, E14_74, E14_75, E14_78, E14_80, E14_81, E14_82, E14_83, E14_84, E14_86, E14_87, E14_90, E14_91, E14_94, E14_96, E14_97, E14_98, E14_101, E14_103, E14_104, E14_105, E14_106, E14_108, E14_109, E14_110, E14_113, E14_116, E14_117, E14_120, E14_121, E14_124, E14_126, E14_127, E14_128, E14_129, E14_130, E14_133, E14_135, E14_136, E14_138, E14_139, E14_142, E14_145, E14_148, E14_151, E14_152, E14_154, E14_155, E14_159, E14_160, E14_163, E14_166, E14_167, E14_170, E14_172, E14_173, E14_173n, E14_174, E14_176, E14_177, E14_180, E14_181, E14_182, E14_184, E14_185, E14_188, E14_190, E14_192, E14_193, E14_193n, E14_194, E14_196, E14_197, E14_198, E14_200, E14_201, E14_202, E14_204, E14_206, E14_207, E14_209, E14_212, E14_215, E14_217, E14_218, E14_219, E14_222, E14_223, E14_226, E14_227, E14_229, E14_232, E14_235, rfs, rfn, cs0, csi, csl, csr, csn, kti, ktl, ktr, ktn, ktv, ktf, true_and, and_true, and_self, ↓reduceIte, Nat.reduceAdd, Nat.reduceSub, Nat.reduceMul, Nat.reduceLT, Nat.reduceLeDiff, Nat.reduceEqDiff, true_or, or_true, false_or, or_false, not_true_eq_false, not_false_eq_true, reduceCtorEq, cmp_lt, cmp_gt, cmp_eq, Int32.reduceAdd, Int32.reduceSub, Int32.reduceMul, Int32.reduceLT, Int32.reduceToNatClampNeg, eq_self, ne_eq, Int64.reduceAdd, Int64.reduceSub, Int64.reduceMul, Int64.reduceLT, g3, nI_1]
              exact ih (b + 1) _ _ _ _ _ _ _ (by omega) hb
            · simp only [E14_0, E14_0n, E14_1, E14_2, E14_3, E14_6, E14_7, E14_8, E14_11, E14_14, E14_15, E14_17, E14_18, E14_22, E14_23, E14_26, E14_28, E14_31, E14_32, E14_35, E14_36, E14_39, E14_40, E14_41, E14_42, E14_43, E14_46, E14_50, E14_51, E14_52, E14_53, E14_56, E14_58, E14_59, E14_60, E14_61, E14_64, E14_67, E14_68, E14_71, E14_73, E14_74, E14_75, E14_78, E14_80, E14_81, E14_82, E14_83, E14_84, E14_86, E14_87, E14_90, E14_91, E14_94, E14_96, E14_97, E14_98, E14_101, E14_103, E14_104, E14_105, E14_106, E14_108, E14_109, E14_110, E14_113, E14_116, E14_117, E14_120, E14_121, E14_124, E14_126, E14_127, E14_128, E14_129, E14_130, E14_133, E14_135, E14_136, E14_138, E14_139, E14_142, E14_145, E14_148, E14_151, E14_152, E14_154, E14_155, E14_159, E14_160, E14_163, E14_166, E14_167, E14_170, E14_172, E14_173, E14_173n, E14_174, E14_176, E14_177, E14_180, E14_181, E14_182, E14_184, E14_185, E14_188, E14_190, E14_192, E14_193, E14_193n, E14_194, E14_196, E14_197, E14_198, E14_200, E14_201, E14_202, E14_204, E14_206, E14_207, E14_209, E14_212, E14_215, E14_217, E14_218, E14_219, E14_222, E14_223, E14_226, E14_227, E14_229, E14_232, E14_235, rfs, rfn, cs0, csi, csl, csr, csn, kti, ktl, ktr, ktn, ktv, ktf, true_and, and_true, and_self, ↓reduceIte, Nat.reduceAdd, Nat.reduceSub, Nat.reduceMul, Nat.reduceLT, Nat.reduceLeDiff, Nat.reduceEqDiff, true_or, or_true, false_or, or_false, not_true_eq_false, not_false_eq_true, reduceCtorEq, cmp_lt, cmp_gt, cmp_eq, Int32.reduceAdd, Int32.reduceSub, Int32.reduceMul, Int32.reduceLT, Int32.reduceToNatClampNeg, eq_self, ne_eq, Int64.reduceAdd, Int64.reduceSub, Int64.reduceMul, Int64.reduceLT, g3, nI_1]
              exact ih (b + 1) _ _ _ _ _ _ _ (by omega) hb) n 0 L v x9 x10 (by omega)
          rw [show nI 0 = 0 from rfl] at k3
          exact k3 _ _ _) (6 - (p - 2)) (p - 2) L x7 (by omega)
        simp only [E14_22, E14_23, E14_26, E14_28, E14_31, E14_32, E14_35, E14_36, E14_39, E14_40, E14_41, E14_42, E14_43, E14_46, rfs, rfn, cs0, csi, csl, csr, csn, kti, ktl, ktr, ktn, ktv, ktf, true_and, and_true, and_self, ↓reduceIte, Nat.reduceAdd, Nat.reduceSub, Nat.reduceMul, Nat.reduceLT, Nat.reduceLeDiff, Nat.reduceEqDiff, true_or, or_true, false_or, or_false, not_true_eq_false, not_false_eq_true, reduceCtorEq, cmp_lt, cmp_gt, cmp_eq, Int32.reduceAdd, Int32.reduceSub, Int32.reduceMul, Int32.reduceLT, Int32.reduceToNatClampNeg, eq_self, ne_eq, Int64.reduceAdd, Int64.reduceSub, Int64.reduceMul, Int64.reduceLT, g, g2, o0, r8, fl, mx, l8.1]
        exact k _ _ _ _ _
    · simp only [E14_22, E14_23, E14_235, rfs, rfn, cs0, csi, csl, csr, csn, kti, ktl, ktr, ktn, ktv, ktf, true_and, and_true, and_self, ↓reduceIte, Nat.reduceAdd, Nat.reduceSub, Nat.reduceMul, Nat.reduceLT, Nat.reduceLeDiff, Nat.reduceEqDiff, true_or, or_true, false_or, or_false, not_true_eq_false, not_false_eq_true, reduceCtorEq, cmp_lt, cmp_gt, cmp_eq, Int32.reduceAdd, Int32.reduceSub, Int32.reduceMul, Int32.reduceLT, Int32.reduceToNatClampNeg, eq_self, ne_eq, Int64.reduceAdd, Int64.reduceSub, Int64.reduceMul, Int64.reduceLT, g]
      exact hq _
theorem spH {L : mL} {bl : Int32} (hS : FoS S R f c n) (hI : FoI I f c n w) (hc : c ≤ 5) (hn : n < 2 ^ 24) (hp : p < c) (le : lon S e n) (hq : ∀ L, Q .null S I L R) : EvM (d + 2) 14 [.ref f, .ref e, .int (nI p), .int bl] S I L R Q := by
  have o0 := hS.1.1
  have r7 := hS.2.1.2.2.2.2.1
  have l7 := hS.2.2.2.1
  have i1 := hI.2.1
  have n2 : (nI n < 0) = False := eq_false (nI_pos (by omega))
  have n3 : (nI n).toNatClampNeg = n := nI_clamp (by omega)
  have k := fun fv L => s1H (d := d) (p := p) (e := e) (bl := bl) hS hI hc hn hp le hq bl.toInt.toNat 0 L fv nv nv nv nv nv (by omega) (by omega)
  rw [show nI 0 = 0 from rfl] at k
  simp only [M14, E14_0, E14_0n, E14_1, E14_2, E14_3, E14_6, E14_7, E14_8, E14_11, E14_14, E14_15, E14_17, E14_18, E14_22, E14_23, E14_26, E14_28, E14_31, E14_32, E14_35, E14_36, E14_39, E14_40, E14_41, E14_42, E14_43, E14_46, E14_50, E14_51, E14_52, E14_53, E14_56, E14_58, E14_59, E14_60, E14_61, E14_64, E14_67, E14_68, E14_71, E14_73, E14_74, E14_75, E14_78, E14_80, E14_81, E14_82, E14_83, E14_84, E14_86, E14_87, E14_90, E14_91, E14_94, E14_96, E14_97, E14_98, E14_101, E14_103, E14_104, E14_105, E14_106, E14_108, E14_109, E14_110, E14_113, E14_116, E14_117, E14_120, E14_121, E14_124, E14_126, E14_127, E14_128, E14_129, E14_130, E14_133, E14_135, E14_136, E14_138, E14_139, E14_142, E14_145, E14_148, E14_151, E14_152, E14_154, E14_155, E14_159, E14_160, E14_163, E14_166, E14_167, E14_170, E14_172, E14_173, E14_173n, E14_174, E14_176, E14_177, E14_180, E14_181, E14_182, E14_184, E14_185, E14_188, E14_190, E14_192, E14_193, E14_193n, E14_194, E14_196, E14_197, E14_198, E14_200, E14_201, E14_202, E14_204, E14_206, E14_207, E14_209, E14_212, E14_215, E14_217, E14_218, E14_219, E14_222, E14_223, E14_226, E14_227, E14_229, E14_232, E14_235, rfs, rfn, cs0, csi, csl, csr, csn, kti, ktl, ktr, ktn, ktv, ktf, true_and, and_true, and_self, ↓reduceIte, Nat.reduceAdd, Nat.reduceSub, Nat.reduceMul, Nat.reduceLT, Nat.reduceLeDiff, Nat.reduceEqDiff, true_or, or_true, false_or, or_false, not_true_eq_false, not_false_eq_true, reduceCtorEq, cmp_lt, cmp_gt, cmp_eq, Int32.reduceAdd, Int32.reduceSub, Int32.reduceMul, Int32.reduceLT, Int32.reduceToNatClampNeg, eq_self, ne_eq, Int64.reduceAdd, Int64.reduceSub, Int64.reduceMul, Int64.reduceLT, o0, r7, i1, l7.1, l7.2, le.1, le.2, n2, n3, Nat.zero_add, Nat.le_refl]
  exact k _ _
theorem foH {L : mL} {bl : Int32} (hS : FoS S R f c n) (hI : FoI I f c n w) (hc : c ≤ 5) (hn : n < 2 ^ 24) (hp : p < c) (la : lon S a n) (le : lon S e n) (hq : ∀ L, Q .null S I L R) : EvM (d + 3) 4 [.ref f, .ref a, .int (nI p), .int bl, .ref e] S I L R Q := by
  have o0 := hS.1.1
  simp only [M4, E4_0, E4_1, E4_1n, E4_2, E4_3, E4_3n, E4_5, E4_8, E4_9, E4_9n, E4_11, E4_12, E4_13, E4_16, rfs, rfn, cs0, csi, csl, csr, csn, kti, ktl, ktr, ktn, ktv, ktf, true_and, and_true, and_self, ↓reduceIte, Nat.reduceAdd, Nat.reduceSub, Nat.reduceMul, Nat.reduceLT, Nat.reduceLeDiff, Nat.reduceEqDiff, true_or, or_true, false_or, or_false, not_true_eq_false, not_false_eq_true, reduceCtorEq, cmp_lt, cmp_gt, cmp_eq, Int32.reduceAdd, Int32.reduceSub, Int32.reduceMul, Int32.reduceLT, Int32.reduceToNatClampNeg, eq_self, ne_eq, Int64.reduceAdd, Int64.reduceSub, Int64.reduceMul, Int64.reduceLT, o0]
  refine htH hS hI hc hn hp la le (fun L => ?_)
  simp only [E4_0, E4_1, E4_1n, E4_2, E4_3, E4_3n, E4_5, E4_8, E4_9, E4_9n, E4_11, E4_12, E4_13, E4_16, rfs, rfn, cs0, csi, csl, csr, csn, kti, ktl, ktr, ktn, ktv, ktf, true_and, and_true, and_self, ↓reduceIte, Nat.reduceAdd, Nat.reduceSub, Nat.reduceMul, Nat.reduceLT, Nat.reduceLeDiff, Nat.reduceEqDiff, true_or, or_true, false_or, or_false, not_true_eq_false, not_false_eq_true, reduceCtorEq, cmp_lt, cmp_gt, cmp_eq, Int32.reduceAdd, Int32.reduceSub, Int32.reduceMul, Int32.reduceLT, Int32.reduceToNatClampNeg, eq_self, ne_eq, Int64.reduceAdd, Int64.reduceSub, Int64.reduceMul, Int64.reduceLT, o0]
  exact spH hS hI hc hn hp le hq
theorem trH {L : mL} {bl : Int32} (hS : FoS S R f c n) (hI : FoI I f c n w) (hc : c ≤ 5) (hn : n < 2 ^ 24) (hp : p < c) (la : lon S a n) (le : lon S e n) (hq : ∀ L, Q .null S I L R) : EvM (d + 3) 5 [.ref f, .ref a, .int (nI p), .int bl, .ref e] S I L R Q := by
  have o0 := hS.1.1
  have r9 := hS.2.1.2.2.2.2.2.2
  have l9 := hS.2.2.2.2.2
  have i1 := hI.2.1
  have n2 : (nI n < 0) = False := eq_false (nI_pos (by omega))
  have n3 : (nI n).toNatClampNeg = n := nI_clamp (by omega)
  simp only [M5, E5_0, E5_0n, E5_1, E5_2, E5_3, E5_6, E5_7, E5_8, E5_11, E5_14, E5_15, E5_16, E5_19, E5_20, E5_21, E5_24, E5_25, E5_26, E5_29, E5_30, E5_30n, E5_32, E5_35, rfs, rfn, cs0, csi, csl, csr, csn, kti, ktl, ktr, ktn, ktv, ktf, true_and, and_true, and_self, ↓reduceIte, Nat.reduceAdd, Nat.reduceSub, Nat.reduceMul, Nat.reduceLT, Nat.reduceLeDiff, Nat.reduceEqDiff, true_or, or_true, false_or, or_false, not_true_eq_false, not_false_eq_true, reduceCtorEq, cmp_lt, cmp_gt, cmp_eq, Int32.reduceAdd, Int32.reduceSub, Int32.reduceMul, Int32.reduceLT, Int32.reduceToNatClampNeg, eq_self, ne_eq, Int64.reduceAdd, Int64.reduceSub, Int64.reduceMul, Int64.reduceLT, o0, r9, i1, l9.1, l9.2, la.1, la.2, n2, n3, Nat.zero_add, Nat.le_refl]
  refine spH hS hI hc hn hp l9 (fun L => ?_)
  simp only [E5_0, E5_0n, E5_1, E5_2, E5_3, E5_6, E5_7, E5_8, E5_11, E5_14, E5_15, E5_16, E5_19, E5_20, E5_21, E5_24, E5_25, E5_26, E5_29, E5_30, E5_30n, E5_32, E5_35, rfs, rfn, cs0, csi, csl, csr, csn, kti, ktl, ktr, ktn, ktv, ktf, true_and, and_true, and_self, ↓reduceIte, Nat.reduceAdd, Nat.reduceSub, Nat.reduceMul, Nat.reduceLT, Nat.reduceLeDiff, Nat.reduceEqDiff, true_or, or_true, false_or, or_false, not_true_eq_false, not_false_eq_true, reduceCtorEq, cmp_lt, cmp_gt, cmp_eq, Int32.reduceAdd, Int32.reduceSub, Int32.reduceMul, Int32.reduceLT, Int32.reduceToNatClampNeg, eq_self, ne_eq, Int64.reduceAdd, Int64.reduceSub, Int64.reduceMul, Int64.reduceLT, o0, r9]
  exact uhH hS hI hc hn hp l9 le hq
end FH
