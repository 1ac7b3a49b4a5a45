/-! Smithy's maker, the class's call image -/
theorem us0_6 {u : Nat} : (u = u + 6) = False := eq_false (by omega)
theorem us6_0 {u : Nat} : (u + 6 = u) = False := eq_false (by omega)
theorem lts {u k : Nat} : (u < u + (k + 1)) = True := eq_true (by omega)
theorem ltt {u j k : Nat} (h : j < k) : (u + j < u + k) = True := eq_true (by omega)
theorem nej {u j k : Nat} (h : ¬ j = k) : (u + j = u + k) = False := eq_false (by omega)
theorem nej0 {u k : Nat} : (u = u + (k + 1)) = False := eq_false (by omega)
theorem nej1 {u k : Nat} : (u + (k + 1) = u) = False := eq_false (by omega)
section IM
variable {d : Nat} {S : mS} {I : mI} {L : mL} {R : mR} {Q : mQ}
theorem smn {z : Nat} (hz : S.2.2.1 z = 7) (h1 : S.1 = z + 1) (hq : ∀ S' I' L' R', S'.1 = z + 7 → S'.2.1 = S.2.1 + 39 → (∀ a, a < S.1 → S'.2.2.1 a = S.2.2.1 a ∧ S'.2.2.2 a = S.2.2.2 a) → SmS S' R' z → (∀ a, a < z → I' a = I a ∧ L' a = L a ∧ R' a = R a) → Q .null S' I' L' R') : EvM (d + 1) 93 [.ref z] S I L R Q := by
  have z0 : (z < z + 1) = True := eq_true (by omega)
  have i0 := ib0_5
  have i1 := ib1_5
  have i2 := ib2_5
  have i3 := ib3_5
  have i4 := ib4_5
  simp (disch := decide) only [M93, E93_0, E93_1, E93_4, E93_5, E93_6, E93_9, E93_10, E93_11, E93_13, E93_14, E93_15, E93_16, E93_17, E93_18, E93_19, E93_20, E93_21, E93_22, E93_23, E93_24, E93_25, E93_26, E93_27, E93_28, E93_29, E93_30, E93_31, E93_32, E93_33, E93_36, E93_37, E93_38, E93_40, E93_41, E93_42, E93_43, E93_44, E93_45, E93_46, E93_47, E93_48, E93_49, E93_50, E93_51, E93_52, E93_53, E93_54, E93_55, E93_56, E93_57, E93_58, E93_59, E93_60, E93_63, E93_64, E93_67, E93_70, E93_71, E93_72, E93_74, E93_75, E93_76, E93_77, E93_78, E93_79, E93_80, E93_81, E93_82, E93_83, E93_84, E93_85, E93_86, E93_87, E93_88, E93_89, E93_90, E93_91, E93_92, E93_94, E93_95, E93_98, E93_99, E93_101, E93_104, E93_107, E93_108, E93_109, E93_112, E93_113, E93_115, E93_117, E93_120, E93_121, E93_123, E93_125, E93_128, E93_129, E93_130, E93_133, rfs, rfn, cs0, csi, csl, csr, csn, kti, ktl, ktr, ktn, ktv, ktf, true_and, and_true, and_self, ↓reduceIte, Nat.reduceAdd, Nat.reduceSub, Nat.reduceMul, Nat.reduceLT, Nat.reduceLeDiff, Nat.reduceEqDiff, true_or, or_true, false_or, or_false, not_true_eq_false, not_false_eq_true, reduceCtorEq, cmp_lt, cmp_gt, cmp_eq, Int32.reduceAdd, Int32.reduceSub, Int32.reduceMul, Int32.reduceLT, Int32.reduceToNatClampNeg, eq_self, ne_eq, Int64.reduceAdd, Int64.reduceSub, Int64.reduceMul, Int64.reduceLT, ok_is, up_is, pt, h1, hz, Nat.add_assoc, lts, z0, ltt, nej, nej0, nej1, i0, i1, i2, i3, i4, show (5 : Int32).toNatClampNeg = 5 from rfl, show (8 : Int32).toNatClampNeg = 8 from rfl]
  refine hq _ _ _ _ ?_ ?_ (fun a ha => ⟨?_, ?_⟩) ?_ (fun a ha => ⟨?_, ?_, ?_⟩)
  · rfl
  · rfl
  · rw [h1] at ha
    simp (disch := omega) only [uu_n]
  · rw [h1] at ha
    simp (disch := omega) only [uu_n]
  · unfold SmS
    simp (disch := decide) only [rfs, rfn, cs0, csi, csl, csr, csn, kti, ktl, ktr, ktn, ktv, ktf, true_and, and_true, and_self, ↓reduceIte, Nat.reduceAdd, Nat.reduceSub, Nat.reduceMul, Nat.reduceLT, Nat.reduceLeDiff, Nat.reduceEqDiff, true_or, or_true, false_or, or_false, not_true_eq_false, not_false_eq_true, reduceCtorEq, cmp_lt, cmp_gt, cmp_eq, Int32.reduceAdd, Int32.reduceSub, Int32.reduceMul, Int32.reduceLT, Int32.reduceToNatClampNeg, eq_self, ne_eq, Int64.reduceAdd, Int64.reduceSub, Int64.reduceMul, Int64.reduceLT, ok_is, up_is, h1, hz, lts, z0, ltt, nej, nej0, nej1]
  · simp (disch := omega) only [pt_n, uu_n]
  · simp (disch := omega) only [uu_n]
  · simp (disch := omega) only [uu_n]
end IM
