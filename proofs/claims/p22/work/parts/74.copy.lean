/-! Smithy.copyFrom, whole -/
def cp8 (I : mI) (a b : Nat) : mI := va_up I b (va_cpy (I a) (I b) 0 0 8)
def cfA (I : mI) (z y : Nat) : mI := cpyF (put (cpyF (cpyF (put I z 0 (I y 0)) (y + 1) (z + 1)) (y + 2) (z + 2)) z 3 (cpyF (cpyF (put I z 0 (I y 0)) (y + 1) (z + 1)) (y + 2) (z + 2) y 3)) (y + 3) (z + 3)
def cfB (I : mI) (z y : Nat) : mI := put (cp8 (cp8 (put I z 6 (I y 6)) (y + 5) (z + 5)) (y + 6) (z + 6)) z 9 (cp8 (cp8 (put I z 6 (I y 6)) (y + 5) (z + 5)) (y + 6) (z + 6) y 9)
theorem rpR_0 {R : mR} {z y : Nat} : rpR R z y 0 = R := by
  unfold rpR
  apply up_ext
  funext k
  rw [if_neg (by omega)]
section CF
variable {d z y : Nat} {S : mS} {I : mI} {L : mL} {R : mR} {Q : mQ}
theorem cpf (hz : SmS S R z) (hy : SmS S R y) (hne : z + 6 < y ∨ y + 6 < z) (hrec : ∀ k q, k < 8 → R (y + 4) k = some q → ok S q 5) (hq : Q .null S (cfB (cfA I z y) z y) L (rpR R z y 8)) : EvM (d + 1) 95 [.ref z, .ref y] S I L R Q := by
  have c5 : ∀ (J : mI) (a b : Nat), va_up J b (va_cpy (J a) (J b) 0 0 5) = cpyF J a b := fun _ _ _ => rfl
  have c8 : ∀ (J : mI) (a b : Nat), va_up J b (va_cpy (J a) (J b) 0 0 8) = cp8 J a b := fun _ _ _ => rfl
  have rz : ∀ k, rpR R z y 8 z k = R z k := fun k => by
    unfold rpR
    rw [uu_n _ _ (by omega)]
  have ry : ∀ k, rpR R z y 8 y k = R y k := fun k => by
    unfold rpR
    rw [uu_n _ _ (by omega)]
  have z2 := hz.2.2.1
  have y2 := hy.2.2.1
  have z5 := hz.2.2.2.2.1
  have y5 := hy.2.2.2.2.1
  have z6 := hz.2.2.2.2.2.1
  have y6 := hy.2.2.2.2.2.1
  have k := cf_lp (d := d) (I := cfA I z y) (L := L) (Q := Q) hz hy hne hrec (fun x => by
    simp only [E95_84, E95_85, E95_86, E95_89, E95_92, E95_93, E95_96, E95_97, E95_98, E95_101, E95_102, E95_104, E95_107, E95_108, E95_111, E95_112, E95_113, E95_116, E95_117, E95_119, E95_122, E95_123, E95_124, E95_127, E95_130, rfs, rfn, cs0, csi, csl, csr, csn, kti, ktl, ktr, ktn, ktv, ktf, true_and, and_true, and_self, ↓reduceIte, Nat.reduceAdd, Nat.reduceSub, Nat.reduceMul, Nat.reduceLT, Nat.reduceLeDiff, Nat.reduceEqDiff, true_or, or_true, false_or, or_false, not_true_eq_false, not_false_eq_true, reduceCtorEq, cmp_lt, cmp_gt, cmp_eq, Int32.reduceAdd, Int32.reduceSub, Int32.reduceMul, Int32.reduceLT, Int32.reduceToNatClampNeg, eq_self, ne_eq, Int64.reduceAdd, Int64.reduceSub, Int64.reduceMul, Int64.reduceLT, pt, c8, sk0 hz, sk0 hy, rz, ry, z5.1, z5.2.1, z5.2.2, y5.1, y5.2.1, y5.2.2, z6.1, z6.2.1, z6.2.2, y6.1, y6.2.1, y6.2.2]
    exact hq) 8 0 (by omega)
  rw [rpR_0, show nI 0 = 0 from rfl] at k
  simp only [M95, E95_0, E95_1, E95_1n, E95_2, E95_5, E95_8, E95_8n, E95_9, E95_12, E95_13, E95_14, E95_17, E95_18, E95_19, E95_22, E95_22n, E95_23, E95_26, E95_27, E95_28, E95_31, E95_32, E95_33, E95_36, E95_37, E95_37n, E95_38, E95_41, E95_44, E95_44n, E95_45, E95_48, E95_49, E95_50, E95_53, E95_54, E95_55, E95_58, E95_59, E95_61, E95_63, E95_66, E95_67, E95_70, E95_71, E95_71n, E95_72, E95_75, E95_76, E95_77, E95_77n, E95_78, E95_81, E95_84, E95_85, E95_85n, E95_86, E95_89, E95_92, E95_92n, E95_93, E95_96, E95_97, E95_98, E95_101, E95_102, E95_104, E95_107, E95_107n, E95_108, E95_111, E95_112, E95_113, E95_116, E95_117, E95_119, E95_122, E95_123, E95_123n, E95_124, E95_127, E95_130, rfs, rfn, cs0, csi, csl, csr, csn, kti, ktl, ktr, ktn, ktv, ktf, true_and, and_true, and_self, ↓reduceIte, Nat.reduceAdd, Nat.reduceSub, Nat.reduceMul, Nat.reduceLT, Nat.reduceLeDiff, Nat.reduceEqDiff, true_or, or_true, false_or, or_false, not_true_eq_false, not_false_eq_true, reduceCtorEq, cmp_lt, cmp_gt, cmp_eq, Int32.reduceAdd, Int32.reduceSub, Int32.reduceMul, Int32.reduceLT, Int32.reduceToNatClampNeg, eq_self, ne_eq, Int64.reduceAdd, Int64.reduceSub, Int64.reduceMul, Int64.reduceLT, pt, c5, sk0 hz, sk0 hy, sk1 hz, sk1 hy, sl1 hz, sl1 hy, sr1 hz, sr1 hy, sk3 hz, sk3 hy, sl3 hz, sl3 hy, sr4 hz, sr4 hy, z2.1, z2.2.1, z2.2.2, y2.1, y2.2.1, y2.2.2]
  exact k
end CF
