/-! the Planner's maker, whole -/
section MK
variable {d P c n : Nat} {w : Nat → Nat} {S : mS} {I : mI} {L : mL} {R : mR} {Q : mQ}
def yW (c : Nat) : Nat := 12 + 10 + xW c + 4 * 8 + 22 + 22 * nW c + 4 * nW c + 7 + 7 * nW c + nW c
theorem nWlt {c : Nat} : nW c < 2 ^ 24 := by
  unfold nW
  split
  · decide
  · split <;> decide
theorem pinitM (hc : c = 3 ∨ c = 4 ∨ c = 5) (h1 : S.1 = P + 1) (hk : S.2.2.1 P = 3) (h : ∀ S' I' L' R', S'.1 = P + 54 + 3 * c → S'.2.1 ≤ S.2.1 + yW c → Ext S S' → PlS S' R' P c (nW c) → PlI I' P c (nW c) (wt c) → (∀ a, a < P → I' a = I a ∧ R' a = R a) → Q .null S' I' L' R') : EvM (d + 5) 32 [.ref P, .int (nI c)] S I L R Q := by
  have c5 : c ≤ 5 := by omega
  have z0 : (P < P + 1) = True := eq_true (by omega)
  have hn := nWlt (c := c)
  generalize hnn : nW c = n at *
  simp (maxSteps := 2000000) (disch := first | omega | simp only [kti, ktl, ktr, ktn, ktv, ktf]) only [M32, E32_0, E32_1, E32_4, E32_5, E32_7, E32_9, E32_12, E32_13, E32_15, E32_17, E32_20, E32_21, E32_22, E32_25, E32_26, E32_29, E32_32, E32_33, E32_34, E32_37, E32_38, E32_41, E32_44, E32_45, E32_48, E32_49, E32_50, E32_53, E32_56, E32_57, E32_58, E32_59, E32_62, E32_63, E32_64, E32_67, E32_68, E32_70, E32_73, E32_76, E32_77, E32_80, E32_81, E32_82, E32_85, E32_86, E32_88, E32_91, E32_94, E32_95, E32_98, E32_99, E32_100, E32_103, E32_104, E32_105, E32_108, E32_111, E32_112, E32_115, E32_116, E32_117, E32_120, E32_121, E32_122, E32_125, E32_128, E32_129, E32_131, E32_132, E32_135, E32_138, E32_142, E32_145, E32_146, E32_147, E32_150, E32_153, E32_155, E32_158, rfs, rfn, cs0, csi, csl, csr, csn, kti, ktl, ktr, ktn, ktv, ktf, true_and, and_true, and_self, ↓reduceIte, Nat.reduceAdd, Nat.reduceSub, Nat.reduceMul, Nat.reduceLT, Nat.reduceLeDiff, Nat.reduceEqDiff, true_or, or_true, false_or, or_false, not_true_eq_false, not_false_eq_true, reduceCtorEq, cmp_lt, cmp_gt, cmp_eq, Int32.reduceAdd, Int32.reduceSub, Int32.reduceMul, Int32.reduceLT, Int32.reduceToNatClampNeg, eq_self, ne_eq, Int64.reduceAdd, Int64.reduceSub, Int64.reduceMul, Int64.reduceLT, ni2, ni3, ni4, ni5, ni6, ni7, ni8, ni12, ni14, ni16, ni17, ni60, ni64, ni160, ni400, ni401, ni416, ni8060, ni16120, ni59049, nn1, nn2, nn3, nn4, nn5, nn6, nem1_1022, ne1022_m1, nem1_20, ne20_m1, ne1022_0, nem1_m1000, nem1000_m1, cn2, cn4, cn6, cn8, cn14, cnm, nem2_m1, nem2_0, nem2_1, nem2_2, nem2_3, nem2_4, nem2_5, nem2_6, nem2_7, nem2_8, nem2_9, nem1_m2, nem1_0, nem1_1, nem1_2, nem1_3, nem1_4, nem1_5, nem1_6, nem1_7, nem1_8, nem1_9, ne0_m2, ne0_m1, ne0_1, ne0_2, ne0_3, ne0_4, ne0_5, ne0_6, ne0_7, ne0_8, ne0_9, ne1_m2, ne1_m1, ne1_0, ne1_2, ne1_3, ne1_4, ne1_5, ne1_6, ne1_7, ne1_8, ne1_9, ne2_m2, ne2_m1, ne2_0, ne2_1, ne2_3, ne2_4, ne2_5, ne2_6, ne2_7, ne2_8, ne2_9, ne3_m2, ne3_m1, ne3_0, ne3_1, ne3_2, ne3_4, ne3_5, ne3_6, ne3_7, ne3_8, ne3_9, ne4_m2, ne4_m1, ne4_0, ne4_1, ne4_2, ne4_3, ne4_5, ne4_6, ne4_7, ne4_8, ne4_9, ne5_m2, ne5_m1, ne5_0, ne5_1, ne5_2, ne5_3, ne5_4, ne5_6, ne5_7, ne5_8, ne5_9, ne6_m2, ne6_m1, ne6_0, ne6_1, ne6_2, ne6_3, ne6_4, ne6_5, ne6_7, ne6_8, ne6_9, ne7_m2, ne7_m1, ne7_0, ne7_1, ne7_2, ne7_3, ne7_4, ne7_5, ne7_6, ne7_8, ne7_9, ne8_m2, ne8_m1, ne8_0, ne8_1, ne8_2, ne8_3, ne8_4, ne8_5, ne8_6, ne8_7, ne8_9, ne9_m2, ne9_m1, ne9_0, ne9_1, ne9_2, ne9_3, ne9_4, ne9_5, ne9_6, ne9_7, ne9_8, pt, ok_is, up_is, h1, hk, z0, Nat.add_assoc, lts, lta, ltn, ltz, nej, nej0, nej1]
  refine forgeM (d := d + 1) (f := P + 3) hc rfl (by simp (disch := omega) only [up_is, rfs, rfn, cs0, csi, csl, csr, csn, kti, ktl, ktr, ktn, ktv, ktf, true_and, and_true, and_self, ↓reduceIte, Nat.reduceAdd, Nat.reduceSub, Nat.reduceMul, Nat.reduceLT, Nat.reduceLeDiff, Nat.reduceEqDiff, true_or, or_true, false_or, or_false, not_true_eq_false, not_false_eq_true, reduceCtorEq, cmp_lt, cmp_gt, cmp_eq, Int32.reduceAdd, Int32.reduceSub, Int32.reduceMul, Int32.reduceLT, Int32.reduceToNatClampNeg, eq_self, ne_eq, Int64.reduceAdd, Int64.reduceSub, Int64.reduceMul, Int64.reduceLT, nej, nej0, nej1]) (fun S1 I1 L1 R1 a1 a2 a3 a4 a5 a6 => ?_)
  rw [hnn] at a4 a5
  obtain ⟨g, hg⟩ : ∃ g, g = P + 11 + 3 * c := ⟨_, rfl⟩
  have k1 : S1.1 = g := by omega
  have x1 : (P < g) = True := eq_true (by omega)
  have x2 : (P < g + 1) = True := eq_true (by omega)
  have x3 : (P = g) = False := eq_false (by omega)
  have kP : S1.2.2.1 P = 3 := by
    rw [(a3.2 P (by show P < P + 4; omega)).1]
    simp (disch := omega) only [↓uu_n]
    exact hk
  have z1 : Stg S I R P c n (wt c) S1 I1 (va_up R1 P (va_up (R1 P) 0 (some (P + 3)))) g := by
    have q7 := a6 P (by omega)
    have q1 := a6 (P + 1) (by omega)
    refine ⟨k1, ⟨by omega, fun a ha => ?_⟩, ⟨⟨by omega, kP⟩, ⟨⟨by omega, ?_⟩, ?_⟩, ⟨by omega, ?_⟩, ?_⟩, ⟨?_, ?_, ?_⟩, fun a ha => ⟨?_, ?_⟩, Ext.rf.fo (fun a h1 h2 => ?_) a4, a5, fun k => ?_⟩
    · have q := a3.2 a (by show a < P + 4; omega)
      simp (disch := omega) only [↓uu_n] at q
      exact q
    · rw [(a3.2 (P + 1) (by show P + 1 < P + 4; omega)).1]
      simp (disch := omega) only [up_is, rfs, rfn, cs0, csi, csl, csr, csn, kti, ktl, ktr, ktn, ktv, ktf, true_and, and_true, and_self, ↓reduceIte, Nat.reduceAdd, Nat.reduceSub, Nat.reduceMul, Nat.reduceLT, Nat.reduceLeDiff, Nat.reduceEqDiff, true_or, or_true, false_or, or_false, not_true_eq_false, not_false_eq_true, reduceCtorEq, cmp_lt, cmp_gt, cmp_eq, Int32.reduceAdd, Int32.reduceSub, Int32.reduceMul, Int32.reduceLT, Int32.reduceToNatClampNeg, eq_self, ne_eq, Int64.reduceAdd, Int64.reduceSub, Int64.reduceMul, Int64.reduceLT, nej]
    · rw [(a3.2 (P + 1) (by show P + 1 < P + 4; omega)).2]
      simp (disch := omega) only [up_is, rfs, rfn, cs0, csi, csl, csr, csn, kti, ktl, ktr, ktn, ktv, ktf, true_and, and_true, and_self, ↓reduceIte, Nat.reduceAdd, Nat.reduceSub, Nat.reduceMul, Nat.reduceLT, Nat.reduceLeDiff, Nat.reduceEqDiff, true_or, or_true, false_or, or_false, not_true_eq_false, not_false_eq_true, reduceCtorEq, cmp_lt, cmp_gt, cmp_eq, Int32.reduceAdd, Int32.reduceSub, Int32.reduceMul, Int32.reduceLT, Int32.reduceToNatClampNeg, eq_self, ne_eq, Int64.reduceAdd, Int64.reduceSub, Int64.reduceMul, Int64.reduceLT, nej]
    · rw [(a3.2 (P + 2) (by show P + 2 < P + 4; omega)).1]
      simp (disch := omega) only [up_is, rfs, rfn, cs0, csi, csl, csr, csn, kti, ktl, ktr, ktn, ktv, ktf, true_and, and_true, and_self, ↓reduceIte, Nat.reduceAdd, Nat.reduceSub, Nat.reduceMul, Nat.reduceLT, Nat.reduceLeDiff, Nat.reduceEqDiff, true_or, or_true, false_or, or_false, not_true_eq_false, not_false_eq_true, reduceCtorEq, cmp_lt, cmp_gt, cmp_eq, Int32.reduceAdd, Int32.reduceSub, Int32.reduceMul, Int32.reduceLT, Int32.reduceToNatClampNeg, eq_self, ne_eq, Int64.reduceAdd, Int64.reduceSub, Int64.reduceMul, Int64.reduceLT, nej]
    · rw [(a3.2 (P + 2) (by show P + 2 < P + 4; omega)).2]
      simp (disch := omega) only [up_is, rfs, rfn, cs0, csi, csl, csr, csn, kti, ktl, ktr, ktn, ktv, ktf, true_and, and_true, and_self, ↓reduceIte, Nat.reduceAdd, Nat.reduceSub, Nat.reduceMul, Nat.reduceLT, Nat.reduceLeDiff, Nat.reduceEqDiff, true_or, or_true, false_or, or_false, not_true_eq_false, not_false_eq_true, reduceCtorEq, cmp_lt, cmp_gt, cmp_eq, Int32.reduceAdd, Int32.reduceSub, Int32.reduceMul, Int32.reduceLT, Int32.reduceToNatClampNeg, eq_self, ne_eq, Int64.reduceAdd, Int64.reduceSub, Int64.reduceMul, Int64.reduceLT, nej]
    · rw [uu_s, uu_s]
    · rw [uu_s, uu_n _ _ (by decide), q7.2]
      simp (disch := omega) only [up_is, rfs, rfn, cs0, csi, csl, csr, csn, kti, ktl, ktr, ktn, ktv, ktf, true_and, and_true, and_self, ↓reduceIte, Nat.reduceAdd, Nat.reduceSub, Nat.reduceMul, Nat.reduceLT, Nat.reduceLeDiff, Nat.reduceEqDiff, true_or, or_true, false_or, or_false, not_true_eq_false, not_false_eq_true, reduceCtorEq, cmp_lt, cmp_gt, cmp_eq, Int32.reduceAdd, Int32.reduceSub, Int32.reduceMul, Int32.reduceLT, Int32.reduceToNatClampNeg, eq_self, ne_eq, Int64.reduceAdd, Int64.reduceSub, Int64.reduceMul, Int64.reduceLT, nej, nej0, nej1]
    · rw [uu_s, uu_n _ _ (by decide), q7.2]
      simp (disch := omega) only [up_is, rfs, rfn, cs0, csi, csl, csr, csn, kti, ktl, ktr, ktn, ktv, ktf, true_and, and_true, and_self, ↓reduceIte, Nat.reduceAdd, Nat.reduceSub, Nat.reduceMul, Nat.reduceLT, Nat.reduceLeDiff, Nat.reduceEqDiff, true_or, or_true, false_or, or_false, not_true_eq_false, not_false_eq_true, reduceCtorEq, cmp_lt, cmp_gt, cmp_eq, Int32.reduceAdd, Int32.reduceSub, Int32.reduceMul, Int32.reduceLT, Int32.reduceToNatClampNeg, eq_self, ne_eq, Int64.reduceAdd, Int64.reduceSub, Int64.reduceMul, Int64.reduceLT, nej, nej0, nej1]
    · rw [(a6 a (by omega)).1]
      simp (disch := omega) only [↓uu_n, ↓pt_n]
    · rw [uu_n _ _ (by omega), (a6 a (by omega)).2]
      simp (disch := omega) only [↓uu_n]
    · exact uu_n _ _ (by omega)
    · rw [q1.1]
      simp (disch := omega) only [↓uu_n, ↓pt_n, up_is, rfs, rfn, cs0, csi, csl, csr, csn, kti, ktl, ktr, ktn, ktv, ktf, true_and, and_true, and_self, ↓reduceIte, Nat.reduceAdd, Nat.reduceSub, Nat.reduceMul, Nat.reduceLT, Nat.reduceLeDiff, Nat.reduceEqDiff, true_or, or_true, false_or, or_false, not_true_eq_false, not_false_eq_true, reduceCtorEq, cmp_lt, cmp_gt, cmp_eq, Int32.reduceAdd, Int32.reduceSub, Int32.reduceMul, Int32.reduceLT, Int32.reduceToNatClampNeg, eq_self, ne_eq, Int64.reduceAdd, Int64.reduceSub, Int64.reduceMul, Int64.reduceLT, nej, nej0, nej1]
  simp only [E32_0, E32_1, E32_4, E32_5, E32_7, E32_9, E32_12, E32_13, E32_15, E32_17, E32_20, E32_21, E32_22, E32_25, E32_26, E32_29, E32_32, E32_33, E32_34, E32_37, E32_38, E32_41, E32_44, E32_45, E32_48, E32_49, E32_50, E32_53, E32_56, E32_57, E32_58, E32_59, E32_62, E32_63, E32_64, E32_67, E32_68, E32_70, E32_73, E32_76, E32_77, E32_80, E32_81, E32_82, E32_85, E32_86, E32_88, E32_91, E32_94, E32_95, E32_98, E32_99, E32_100, E32_103, E32_104, E32_105, E32_108, E32_111, E32_112, E32_115, E32_116, E32_117, E32_120, E32_121, E32_122, E32_125, E32_128, E32_129, E32_131, E32_132, E32_135, E32_138, E32_142, E32_145, E32_146, E32_147, E32_150, E32_153, E32_155, E32_158, rfs, rfn, cs0, csi, csl, csr, csn, kti, ktl, ktr, ktn, ktv, ktf, true_and, and_true, and_self, ↓reduceIte, Nat.reduceAdd, Nat.reduceSub, Nat.reduceMul, Nat.reduceLT, Nat.reduceLeDiff, Nat.reduceEqDiff, true_or, or_true, false_or, or_false, not_true_eq_false, not_false_eq_true, reduceCtorEq, cmp_lt, cmp_gt, cmp_eq, Int32.reduceAdd, Int32.reduceSub, Int32.reduceMul, Int32.reduceLT, Int32.reduceToNatClampNeg, eq_self, ne_eq, Int64.reduceAdd, Int64.reduceSub, Int64.reduceMul, Int64.reduceLT, ok_is, up_is, k1, kP, x1, x2, x3]
  refine stg_lv (d := d + 3) (g := g) (m := 7) z1 (by omega) (by omega) (by omega) hn (Or.inr rfl) (fun S2 I2 L2 R2 z2 u2 e2 v2 f2 => ?_)
  have k2 : S2.1 = g + 10 := z2.1
  have kP := z2.2.2.1.1.2
  have r0 := z2.2.2.2.1.1
  have x1 : (P < g + 10) = True := eq_true (by omega)
  have x2 : (P < g + 10 + 1) = True := eq_true (by omega)
  have x3 : (P = g + 10) = False := eq_false (by omega)
  simp only [E32_0, E32_1, E32_4, E32_5, E32_7, E32_9, E32_12, E32_13, E32_15, E32_17, E32_20, E32_21, E32_22, E32_25, E32_26, E32_29, E32_32, E32_33, E32_34, E32_37, E32_38, E32_41, E32_44, E32_45, E32_48, E32_49, E32_50, E32_53, E32_56, E32_57, E32_58, E32_59, E32_62, E32_63, E32_64, E32_67, E32_68, E32_70, E32_73, E32_76, E32_77, E32_80, E32_81, E32_82, E32_85, E32_86, E32_88, E32_91, E32_94, E32_95, E32_98, E32_99, E32_100, E32_103, E32_104, E32_105, E32_108, E32_111, E32_112, E32_115, E32_116, E32_117, E32_120, E32_121, E32_122, E32_125, E32_128, E32_129, E32_131, E32_132, E32_135, E32_138, E32_142, E32_145, E32_146, E32_147, E32_150, E32_153, E32_155, E32_158, rfs, rfn, cs0, csi, csl, csr, csn, kti, ktl, ktr, ktn, ktv, ktf, true_and, and_true, and_self, ↓reduceIte, Nat.reduceAdd, Nat.reduceSub, Nat.reduceMul, Nat.reduceLT, Nat.reduceLeDiff, Nat.reduceEqDiff, true_or, or_true, false_or, or_false, not_true_eq_false, not_false_eq_true, reduceCtorEq, cmp_lt, cmp_gt, cmp_eq, Int32.reduceAdd, Int32.reduceSub, Int32.reduceMul, Int32.reduceLT, Int32.reduceToNatClampNeg, eq_self, ne_eq, Int64.reduceAdd, Int64.reduceSub, Int64.reduceMul, Int64.reduceLT, ok_is, up_is, k2, kP, r0, x1, x2, x3]
  refine stg_lv (d := d + 3) (g := g + 10) (m := 7) (z2.prf (k := 1) (x := some (g)) (by decide) (by decide) (by decide)) (by omega) (by omega) (by omega) hn (Or.inl rfl) (fun S3 I3 L3 R3 z3 u3 e3 v3 f3 => ?_)
  have k3 : S3.1 = g + 20 := z3.1
  have kP := z3.2.2.1.1.2
  have r0 := z3.2.2.2.1.1
  have x1 : (P < g + 20) = True := eq_true (by omega)
  have x2 : (P < g + 20 + 1) = True := eq_true (by omega)
  have x3 : (P = g + 20) = False := eq_false (by omega)
  simp only [E32_0, E32_1, E32_4, E32_5, E32_7, E32_9, E32_12, E32_13, E32_15, E32_17, E32_20, E32_21, E32_22, E32_25, E32_26, E32_29, E32_32, E32_33, E32_34, E32_37, E32_38, E32_41, E32_44, E32_45, E32_48, E32_49, E32_50, E32_53, E32_56, E32_57, E32_58, E32_59, E32_62, E32_63, E32_64, E32_67, E32_68, E32_70, E32_73, E32_76, E32_77, E32_80, E32_81, E32_82, E32_85, E32_86, E32_88, E32_91, E32_94, E32_95, E32_98, E32_99, E32_100, E32_103, E32_104, E32_105, E32_108, E32_111, E32_112, E32_115, E32_116, E32_117, E32_120, E32_121, E32_122, E32_125, E32_128, E32_129, E32_131, E32_132, E32_135, E32_138, E32_142, E32_145, E32_146, E32_147, E32_150, E32_153, E32_155, E32_158, rfs, rfn, cs0, csi, csl, csr, csn, kti, ktl, ktr, ktn, ktv, ktf, true_and, and_true, and_self, ↓reduceIte, Nat.reduceAdd, Nat.reduceSub, Nat.reduceMul, Nat.reduceLT, Nat.reduceLeDiff, Nat.reduceEqDiff, true_or, or_true, false_or, or_false, not_true_eq_false, not_false_eq_true, reduceCtorEq, cmp_lt, cmp_gt, cmp_eq, Int32.reduceAdd, Int32.reduceSub, Int32.reduceMul, Int32.reduceLT, Int32.reduceToNatClampNeg, eq_self, ne_eq, Int64.reduceAdd, Int64.reduceSub, Int64.reduceMul, Int64.reduceLT, ok_is, up_is, k3, kP, r0, x1, x2, x3]
  refine stg_lv (d := d + 3) (g := g + 20) (m := 4) (z3.prf (k := 2) (x := some (g + 10)) (by decide) (by decide) (by decide)) (by omega) (by omega) (by omega) hn (Or.inr rfl) (fun S4 I4 L4 R4 z4 u4 e4 v4 f4 => ?_)
  have k4 : S4.1 = g + 27 := z4.1
  have kP := z4.2.2.1.1.2
  have r0 := z4.2.2.2.1.1
  have x1 : (P < g + 27) = True := eq_true (by omega)
  have x2 : (P < g + 27 + 1) = True := eq_true (by omega)
  have x3 : (P = g + 27) = False := eq_false (by omega)
  simp only [E32_0, E32_1, E32_4, E32_5, E32_7, E32_9, E32_12, E32_13, E32_15, E32_17, E32_20, E32_21, E32_22, E32_25, E32_26, E32_29, E32_32, E32_33, E32_34, E32_37, E32_38, E32_41, E32_44, E32_45, E32_48, E32_49, E32_50, E32_53, E32_56, E32_57, E32_58, E32_59, E32_62, E32_63, E32_64, E32_67, E32_68, E32_70, E32_73, E32_76, E32_77, E32_80, E32_81, E32_82, E32_85, E32_86, E32_88, E32_91, E32_94, E32_95, E32_98, E32_99, E32_100, E32_103, E32_104, E32_105, E32_108, E32_111, E32_112, E32_115, E32_116, E32_117, E32_120, E32_121, E32_122, E32_125, E32_128, E32_129, E32_131, E32_132, E32_135, E32_138, E32_142, E32_145, E32_146, E32_147, E32_150, E32_153, E32_155, E32_158, rfs, rfn, cs0, csi, csl, csr, csn, kti, ktl, ktr, ktn, ktv, ktf, true_and, and_true, and_self, ↓reduceIte, Nat.reduceAdd, Nat.reduceSub, Nat.reduceMul, Nat.reduceLT, Nat.reduceLeDiff, Nat.reduceEqDiff, true_or, or_true, false_or, or_false, not_true_eq_false, not_false_eq_true, reduceCtorEq, cmp_lt, cmp_gt, cmp_eq, Int32.reduceAdd, Int32.reduceSub, Int32.reduceMul, Int32.reduceLT, Int32.reduceToNatClampNeg, eq_self, ne_eq, Int64.reduceAdd, Int64.reduceSub, Int64.reduceMul, Int64.reduceLT, ok_is, up_is, k4, kP, r0, x1, x2, x3]
  refine stg_lv (d := d + 3) (g := g + 27) (m := 4) (z4.prf (k := 3) (x := some (g + 20)) (by decide) (by decide) (by decide)) (by omega) (by omega) (by omega) hn (Or.inl rfl) (fun S5 I5 L5 R5 z5 u5 e5 v5 f5 => ?_)
  have k5 : S5.1 = g + 34 := z5.1
  have kP := z5.2.2.1.1.2
  have r0 := z5.2.2.2.1.1
  have x1 : (P < g + 34) = True := eq_true (by omega)
  have x2 : (P < g + 34 + 1) = True := eq_true (by omega)
  have x3 : (P = g + 34) = False := eq_false (by omega)
  have oF := z5.2.2.2.2.2.1.1.1
  have iF := z5.2.2.2.2.2.2.1.2.1
  have n2 : (nI n < 0) = False := eq_false (nI_pos (by omega))
  have n3 : (nI n).toNatClampNeg = n := nI_clamp (by omega)
  have n4 : (n ≤ 67108864) = True := eq_true (by omega)
  have y1 : (P < g + 34 + (1 + 7)) = True := eq_true (by omega)
  have y2 : (P < g + 34 + (1 + 7) + 1) = True := eq_true (by omega)
  have y3 : (P = g + 34 + (1 + 7)) = False := eq_false (by omega)
  have y4 : (g + 34 < P) = False := eq_false (by omega)
  have y5 : (P + 3 = g + 34) = False := eq_false (by omega)
  have y6 : (g + 34 < P + 3) = False := eq_false (by omega)
  have y7 : (P + 3 < g + 34 + (1 + 7)) = True := eq_true (by omega)
  have oF1 := oF.1
  have oF2 := oF.2
  have oF3 : (P + 3 < g + 34) = True := eq_true (by omega)
  simp only [E32_0, E32_1, E32_4, E32_5, E32_7, E32_9, E32_12, E32_13, E32_15, E32_17, E32_20, E32_21, E32_22, E32_25, E32_26, E32_29, E32_32, E32_33, E32_34, E32_37, E32_38, E32_41, E32_44, E32_45, E32_48, E32_49, E32_50, E32_53, E32_56, E32_57, E32_58, E32_59, E32_62, E32_63, E32_64, E32_67, E32_68, E32_70, E32_73, E32_76, E32_77, E32_80, E32_81, E32_82, E32_85, E32_86, E32_88, E32_91, E32_94, E32_95, E32_98, E32_99, E32_100, E32_103, E32_104, E32_105, E32_108, E32_111, E32_112, E32_115, E32_116, E32_117, E32_120, E32_121, E32_122, E32_125, E32_128, E32_129, E32_131, E32_132, E32_135, E32_138, E32_142, E32_145, E32_146, E32_147, E32_150, E32_153, E32_155, E32_158, rfs, rfn, cs0, csi, csl, csr, csn, kti, ktl, ktr, ktn, ktv, ktf, true_and, and_true, and_self, ↓reduceIte, Nat.reduceAdd, Nat.reduceSub, Nat.reduceMul, Nat.reduceLT, Nat.reduceLeDiff, Nat.reduceEqDiff, true_or, or_true, false_or, or_false, not_true_eq_false, not_false_eq_true, reduceCtorEq, cmp_lt, cmp_gt, cmp_eq, Int32.reduceAdd, Int32.reduceSub, Int32.reduceMul, Int32.reduceLT, Int32.reduceToNatClampNeg, eq_self, ne_eq, Int64.reduceAdd, Int64.reduceSub, Int64.reduceMul, Int64.reduceLT, ni2, ni3, ni4, ni5, ni6, ni7, ni8, ni12, ni14, ni16, ni17, ni60, ni64, ni160, ni400, ni401, ni416, ni8060, ni16120, ni59049, nn1, nn2, nn3, nn4, nn5, nn6, nem1_1022, ne1022_m1, nem1_20, ne20_m1, ne1022_0, nem1_m1000, nem1000_m1, cn2, cn4, cn6, cn8, cn14, cnm, nem2_m1, nem2_0, nem2_1, nem2_2, nem2_3, nem2_4, nem2_5, nem2_6, nem2_7, nem2_8, nem2_9, nem1_m2, nem1_0, nem1_1, nem1_2, nem1_3, nem1_4, nem1_5, nem1_6, nem1_7, nem1_8, nem1_9, ne0_m2, ne0_m1, ne0_1, ne0_2, ne0_3, ne0_4, ne0_5, ne0_6, ne0_7, ne0_8, ne0_9, ne1_m2, ne1_m1, ne1_0, ne1_2, ne1_3, ne1_4, ne1_5, ne1_6, ne1_7, ne1_8, ne1_9, ne2_m2, ne2_m1, ne2_0, ne2_1, ne2_3, ne2_4, ne2_5, ne2_6, ne2_7, ne2_8, ne2_9, ne3_m2, ne3_m1, ne3_0, ne3_1, ne3_2, ne3_4, ne3_5, ne3_6, ne3_7, ne3_8, ne3_9, ne4_m2, ne4_m1, ne4_0, ne4_1, ne4_2, ne4_3, ne4_5, ne4_6, ne4_7, ne4_8, ne4_9, ne5_m2, ne5_m1, ne5_0, ne5_1, ne5_2, ne5_3, ne5_4, ne5_6, ne5_7, ne5_8, ne5_9, ne6_m2, ne6_m1, ne6_0, ne6_1, ne6_2, ne6_3, ne6_4, ne6_5, ne6_7, ne6_8, ne6_9, ne7_m2, ne7_m1, ne7_0, ne7_1, ne7_2, ne7_3, ne7_4, ne7_5, ne7_6, ne7_8, ne7_9, ne8_m2, ne8_m1, ne8_0, ne8_1, ne8_2, ne8_3, ne8_4, ne8_5, ne8_6, ne8_7, ne8_9, ne9_m2, ne9_m1, ne9_0, ne9_1, ne9_2, ne9_3, ne9_4, ne9_5, ne9_6, ne9_7, ne9_8, ok_is, up_is, mlt_is, k5, kP, r0, x1, x2, x3, oF2, oF3, iF, n2, n3, n4, y1, y2, y3, y4, y5, y6, y7, false_and]
  dsimp only at a2
  have hp1 : pL1 P c = g := hg.symm
  have c4 : ∀ a, a < g + 27 → ¬ a = P → R5 a = R4 a := fun a ha hne => (f5 a ha).2.trans (uu_n _ _ hne)
  have c3 : ∀ a, a < g + 20 → ¬ a = P → R4 a = R3 a := fun a ha hne => (f4 a ha).2.trans (uu_n _ _ hne)
  have c2 : ∀ a, a < g + 10 → ¬ a = P → R3 a = R2 a := fun a ha hne => (f3 a ha).2.trans (uu_n _ _ hne)
  have t1 : R5 P 1 = some g := by rw [(f5 P (by omega)).2, uu_s, uu_n _ _ (by decide), (f4 P (by omega)).2, uu_s, uu_n _ _ (by decide), (f3 P (by omega)).2, uu_s, uu_s]
  have t2 : R5 P 2 = some (g + 10) := by rw [(f5 P (by omega)).2, uu_s, uu_n _ _ (by decide), (f4 P (by omega)).2, uu_s, uu_s]
  have t3 : R5 P 3 = some (g + 20) := by rw [(f5 P (by omega)).2, uu_s, uu_s]
  obtain ⟨w1, w2, ⟨w3, ⟨w4, w5⟩, w6, w7⟩, ⟨w8, w9, w10⟩, w11, w12, w13, w14⟩ := z5
  have fin : ∀ (S' : mS) (I' : mI) (L' : mL) (R' : mR), S'.1 = g + 43 → S'.2.1 = S5.2.1 + (7 + 7 * n) + n → Ext S5 S' → (∀ a, a < g + 34 → I' a = I5 a) → (∀ a, a < g + 34 → ¬ a = P → R' a = R5 a) → (∀ k, ¬ k = 4 → ¬ k = 5 → ¬ k = 6 → R' P k = R5 P k) → R' P 4 = some (g + 27) → R' P 5 = some (g + 34) → R' P 6 = some (g + 42) → mat S' R' (g + 34) 7 n → lon S' (g + 42) n → Q .null S' I' L' R' := by
    intro S' I' L' R' b1 b2 E bI bR bP b4 b5 b6 bm bl
    refine h S' I' L' R' (by omega) ?_ (w2.tr E) ⟨⟨E.ok w3, ⟨E.ok w4, E.len w4.1 w5⟩, E.ok w6, E.len w6.1 w7⟩, ⟨?_, ?_, ?_, ?_, ?_, ?_, ?_, ?_, ?_⟩, E.fo (fun a q1 q2 => bR a (by omega) (by omega)) w12, ⟨?_, ?_, ?_, ?_⟩, ?_, ?_⟩ ⟨⟨?_, ?_, fun i hi => ?_⟩, fun k hk => ⟨0, by omega, ?_⟩⟩ (fun a ha => ⟨?_, ?_⟩)
    · unfold yW
      rw [hnn]
      omega
    · rw [bP _ (by decide) (by decide) (by decide)]; exact w8
    · rw [hp1, bP _ (by decide) (by decide) (by decide)]; exact t1
    · rw [hp1, bP _ (by decide) (by decide) (by decide)]; exact t2
    · rw [hp1, bP _ (by decide) (by decide) (by decide)]; exact t3
    · rw [hp1]; exact b4
    · rw [hp1]; exact b5
    · rw [hp1]; exact b6
    · rw [bP _ (by decide) (by decide) (by decide)]; exact w9
    · rw [bP _ (by decide) (by decide) (by decide)]; exact w10
    · rw [hp1]
      exact (e3.tr (e4.tr (e5.tr E))).lv (by rw [bR _ (by omega) (by omega), c4 _ (by omega) (by omega), c3 _ (by omega) (by omega), c2 _ (by omega) (by omega)]) (by rw [bR _ (by omega) (by omega), c4 _ (by omega) (by omega), c3 _ (by omega) (by omega), c2 _ (by omega) (by omega)]) v2
    · rw [hp1]
      exact (e4.tr (e5.tr E)).lv (by rw [bR _ (by omega) (by omega), c4 _ (by omega) (by omega), c3 _ (by omega) (by omega)]) (by rw [bR _ (by omega) (by omega), c4 _ (by omega) (by omega), c3 _ (by omega) (by omega)]) v3
    · rw [hp1]
      exact (e5.tr E).lv (by rw [bR _ (by omega) (by omega), c4 _ (by omega) (by omega)]) (by rw [bR _ (by omega) (by omega), c4 _ (by omega) (by omega)]) v4
    · rw [hp1]
      exact E.lv (by rw [bR _ (by omega) (by omega)]) (by rw [bR _ (by omega) (by omega)]) v5
    · rw [hp1]; exact bm
    · rw [hp1]; exact bl
    · rw [bI _ (by omega)]; exact w13.1
    · rw [bI _ (by omega)]; exact w13.2.1
    · rw [bI _ (by omega)]; exact w13.2.2 i hi
    · rw [bI _ (by omega)]; exact w14 k
    · rw [bI _ (by omega)]; exact (w11 a ha).1
    · rw [bR _ (by omega) (by omega)]; exact (w11 a ha).2
  refine fin _ _ _ _ rfl rfl ⟨by show S5.1 ≤ g + 34 + 8 + 1; omega, fun a ha => ⟨?_, ?_⟩⟩ (fun a ha => ?_) (fun a ha hne => ?_) (fun k h4 h5 h6 => ?_) ?_ ?_ ?_ ⟨⟨⟨?_, ?_⟩, ?_⟩, fun i hi => ⟨?_, ⟨?_, ?_⟩, ?_⟩⟩ ⟨⟨?_, ?_⟩, ?_⟩
  · rw [k5] at ha
    simp (disch := omega) only [↓uu_n, ↓mlt_l]
  · rw [k5] at ha
    simp (disch := omega) only [↓uu_n, ↓mlt_l]
  · simp (disch := omega) only [↓uu_n, ↓mlt_l]
  · simp (disch := omega) only [↓uu_n, ↓mlt_l]
  · rw [uu_s, uu_n _ _ h6, uu_n _ _ h5, uu_n _ _ h4]
  · rw [uu_s, uu_n _ _ (by decide), uu_n _ _ (by decide), uu_s]
  · rw [uu_s, uu_n _ _ (by decide), uu_s]
  · rw [uu_s, uu_s]
  · show g + 34 < g + 34 + 8 + 1
    omega
  · show va_up (mlt S5.2.2.1 (g + 34) 7 18 12) (g + 34 + 8) 12 (g + 34) = 18
    rw [uu_n _ _ (by omega), mlt_is, if_pos rfl]
  · show va_up (mlt S5.2.2.2 (g + 34) 7 7 n) (g + 34 + 8) n (g + 34) = 7
    rw [uu_n _ _ (by omega), mlt_is, if_pos rfl]
  · rw [uu_n _ _ (by omega), uu_n _ _ (by omega), uu_n _ _ (by omega), mlt_is, if_pos rfl, if_pos hi]
  · show g + 34 + 1 + i < g + 34 + 8 + 1
    omega
  · show va_up (mlt S5.2.2.1 (g + 34) 7 18 12) (g + 34 + 8) 12 (g + 34 + 1 + i) = 12
    rw [uu_n _ _ (by omega), mlt_is, if_neg (by omega), if_pos (by omega)]
  · show va_up (mlt S5.2.2.2 (g + 34) 7 7 n) (g + 34 + 8) n (g + 34 + 1 + i) = n
    rw [uu_n _ _ (by omega), mlt_is, if_neg (by omega), if_pos (by omega)]
  · show g + 42 < g + 34 + 8 + 1
    omega
  · exact uu_s _ _ _
  · exact uu_s _ _ _
end MK
