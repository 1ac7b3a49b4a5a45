/-! Arrays.copyOf; a Recipe's maker -/
def cpR (f : Nat → Int32) (l n : Nat) : Nat → Int32 := if n = l then f else va_cpy f (fun _ => 0) 0 0 (if n < l then n else l)
def alS (S : mS) (n : Nat) : mS := (S.1 + 1, S.2.1 + n, va_up S.2.2.1 S.1 11, va_up S.2.2.2 S.1 n)
theorem alS_o {S : mS} {n a c : Nat} (h : ok S a c) : ok (alS S n) a c := ⟨Nat.lt_succ_of_lt h.1, (uu_n _ _ (Nat.ne_of_lt h.1)).trans h.2⟩
theorem alS_n {S : mS} {n a : Nat} (h : a < S.1) : (alS S n).2.2.2 a = S.2.2.2 a := uu_n _ _ (Nat.ne_of_lt h)
theorem alS_s {S : mS} {n : Nat} : ok (alS S n) S.1 11 := ⟨Nat.lt_succ_self _, uu_s _ _ _⟩
theorem alS_l {S : mS} {n : Nat} : (alS S n).2.2.2 S.1 = n := uu_s _ _ _
theorem alS_1 {S : mS} {n : Nat} : (alS S n).1 = S.1 + 1 := rfl
theorem alS_m {S : mS} {n : Nat} (h : Pm S) : Pm (alS S n) := ⟨Nat.le_succ_of_le h.1, fun a h1 h2 => by
  have q := h.2 a h1 h2
  have lt : a < S.1 := Nat.lt_of_lt_of_le h1 h.1
  exact ⟨(uu_n _ _ (Nat.ne_of_lt lt)).trans q.1, fun g => (alS_n lt).trans (q.2 g)⟩⟩
section CO
variable {d a l n : Nat} {S : mS} {I : mI} {L : mL} {R : mR} {Q : mQ}
theorem cop (ha : ok S a 11) (hl : S.2.2.2 a = l) (h1 : l < 2 ^ 24) (h2 : n < 2 ^ 24) : EvM (d + 1) 246 [.ref a, .int (nI n)] S I L R Q = Q (.ref S.1) (alS S n) (va_up I S.1 (cpR (I a) l n)) (va_up L S.1 (fun _ => 0)) (va_up R S.1 (fun _ => none)) := by
  have hA : okA S a := ⟨ha.1, by rw [ha.2]; decide⟩
  have hA' : okA (alS S n) a := ⟨(alS_o ha).1, by rw [(alS_o ha).2]; decide⟩
  have ne : ¬ a = S.1 := Nat.ne_of_lt ha.1
  have es : (S.1 + 1, S.2.1 + n, va_up S.2.2.1 S.1 11, va_up S.2.2.2 S.1 n) = alS S n := rfl
  have c1 : (nI n).toNatClampNeg = n := nI_clamp (by omega)
  have c2 : (nI n < 0) = False := eq_false (nI_pos (by omega))
  have c3 : (n ≤ 67108864) = True := eq_true (by omega)
  unfold cpR
  by_cases g : n = l
  · have e1 : (nI n = nI l) = True := eq_true (by rw [g])
    have es2 : (S.1 + 1, S.2.1 + l, va_up S.2.2.1 S.1 11, va_up S.2.2.2 S.1 l) = alS S n := by rw [g]; rfl
    simp only [M246, E246_0, E246_1, E246_2, E246_3, E246_6, E246_7, E246_10, E246_13, E246_13n, E246_14, E246_15, E246_17, E246_17n, E246_18, E246_19, E246_20, E246_20n, E246_21, E246_22, E246_23, E246_24, E246_25, E246_28, E246_31, E246_31n, E246_32, E246_32n, rfs, rfn, cs0, csi, csl, csr, csn, kti, ktl, ktr, ktn, ktv, ktf, true_and, and_true, and_self, ↓reduceIte, Nat.reduceAdd, Nat.reduceSub, Nat.reduceMul, Nat.reduceLT, Nat.reduceLeDiff, Nat.reduceEqDiff, true_or, or_true, false_or, or_false, not_true_eq_false, not_false_eq_true, reduceCtorEq, cmp_lt, cmp_gt, cmp_eq, Int32.reduceAdd, Int32.reduceSub, Int32.reduceMul, Int32.reduceLT, Int32.reduceToNatClampNeg, eq_self, ne_eq, Int64.reduceAdd, Int64.reduceSub, Int64.reduceMul, Int64.reduceLT, hA, hl, ha, e1, es2, alS_s, g]
  · have e1 : (nI n = nI l) = False := eq_false (fun z => g ((nI_eq (by omega) (by omega)).mp z))
    rw [if_neg g]
    by_cases g2 : n < l
    · have e2 : (nI n < nI l) = True := eq_true (nI_lt g2 (by omega))
      have c4 : (0 + n ≤ l) = True := eq_true (by omega)
      have c5 : (0 + n ≤ n) = True := eq_true (by omega)
      simp only [M246, E246_0, E246_1, E246_2, E246_3, E246_6, E246_7, E246_10, E246_13, E246_13n, E246_14, E246_15, E246_17, E246_17n, E246_18, E246_19, E246_20, E246_20n, E246_21, E246_22, E246_23, E246_24, E246_25, E246_28, E246_31, E246_31n, E246_32, E246_32n, rfs, rfn, cs0, csi, csl, csr, csn, kti, ktl, ktr, ktn, ktv, ktf, true_and, and_true, and_self, ↓reduceIte, Nat.reduceAdd, Nat.reduceSub, Nat.reduceMul, Nat.reduceLT, Nat.reduceLeDiff, Nat.reduceEqDiff, true_or, or_true, false_or, or_false, not_true_eq_false, not_false_eq_true, reduceCtorEq, cmp_lt, cmp_gt, cmp_eq, Int32.reduceAdd, Int32.reduceSub, Int32.reduceMul, Int32.reduceLT, Int32.reduceToNatClampNeg, eq_self, ne_eq, Int64.reduceAdd, Int64.reduceSub, Int64.reduceMul, Int64.reduceLT, hA, hl, ha, e1, e2, c1, c2, c3, es, hA', alS_o ha, alS_n ha.1, alS_s, alS_l, c4, c5, g2, uu_s, uu_n _ _ ne, uu_u]
    · have e2 : (nI n < nI l) = False := eq_false (nI_nlt (by omega) (by omega))
      have c6 : (nI l).toNatClampNeg = l := nI_clamp (by omega)
      have c7 : (nI l < 0) = False := eq_false (nI_pos (by omega))
      have c4 : (0 + l ≤ l) = True := eq_true (by omega)
      have c5 : (0 + l ≤ n) = True := eq_true (by omega)
      simp only [M246, E246_0, E246_1, E246_2, E246_3, E246_6, E246_7, E246_10, E246_13, E246_13n, E246_14, E246_15, E246_17, E246_17n, E246_18, E246_19, E246_20, E246_20n, E246_21, E246_22, E246_23, E246_24, E246_25, E246_28, E246_31, E246_31n, E246_32, E246_32n, rfs, rfn, cs0, csi, csl, csr, csn, kti, ktl, ktr, ktn, ktv, ktf, true_and, and_true, and_self, ↓reduceIte, Nat.reduceAdd, Nat.reduceSub, Nat.reduceMul, Nat.reduceLT, Nat.reduceLeDiff, Nat.reduceEqDiff, true_or, or_true, false_or, or_false, not_true_eq_false, not_false_eq_true, reduceCtorEq, cmp_lt, cmp_gt, cmp_eq, Int32.reduceAdd, Int32.reduceSub, Int32.reduceMul, Int32.reduceLT, Int32.reduceToNatClampNeg, eq_self, ne_eq, Int64.reduceAdd, Int64.reduceSub, Int64.reduceMul, Int64.reduceLT, hA, hl, ha, e1, e2, c1, c2, c3, c6, c7, es, hA', alS_o ha, alS_n ha.1, alS_s, alS_l, c4, c5, g2, uu_s, uu_n _ _ ne, uu_u]
end CO
