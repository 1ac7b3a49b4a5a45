/-! arrays filled and cleared -/
theorem up_ext {α : Type} {f : Nat → α} {a : Nat} {x : α} (h : x = f a) : va_up f a x = f := by
  funext b
  by_cases hb : b = a
  · rw [up_is, if_pos hb, h, hb]
  · rw [up_is, if_neg hb]
theorem up_up {α : Type} {f : Nat → α} {a : Nat} {x y : α} : va_up (va_up f a x) a y = va_up f a y := uu_u f a x y
theorem fillL_lp {d a n : Nat} {v : Int64} {S : mS} {I : mI} {R : mR} {Q : mQ} (ha : ok S a 12) (hn : S.2.2.2 a = n) (h31 : n < 2 ^ 31) : ∀ (m i : Nat) (L : mL), i + m = n → Ev (d + 1) 244 6 [.ref a, .long v, nv, .int (nI i), .int (nI n)] [] S I L R Q = Q .null S I (va_up L a (fun k => if i ≤ k ∧ k < n then v else L a k)) R := by
  intro m
  induction m with
  | zero =>
    intro i L hi
    obtain rfl : i = n := by omega
    have e : (nI i < nI i) = False := eq_false (nI_nlt (Nat.le_refl i) h31)
    simp only [E244_0, E244_1, E244_2, E244_3, E244_4, E244_6, E244_7, E244_9, E244_12, E244_13, E244_14, E244_15, E244_16, E244_19, E244_22, e, rfs, rfn, cs0, csi, csl, csr, csn, kti, ktl, ktr, ktn, ktv, ktf, true_and, and_true, and_self, ↓reduceIte, Nat.reduceAdd, Nat.reduceSub, Nat.reduceMul, Nat.reduceLT, Nat.reduceLeDiff, Nat.reduceEqDiff, true_or, or_true, false_or, or_false, not_true_eq_false, not_false_eq_true, reduceCtorEq, cmp_lt, cmp_gt, cmp_eq, Int32.reduceAdd, Int32.reduceSub, Int32.reduceMul, Int32.reduceLT, Int32.reduceToNatClampNeg, eq_self, ne_eq, Int64.reduceAdd, Int64.reduceSub, Int64.reduceMul, Int64.reduceLT]
    rw [up_ext]
    funext k
    rw [if_neg (by omega)]
  | succ m ih =>
    intro i L hi
    have e1 : (nI i < nI n) = True := eq_true (nI_lt (a := i) (b := n) (by omega) h31)
    have e3 : inb (nI i) n = True := inb_nI (by omega) h31
    have e4 : (nI i).toNatClampNeg = i := nI_clamp (by omega)
    rw [E244_6]
    simp only [E244_0, E244_1, E244_2, E244_3, E244_4, E244_7, E244_9, E244_12, E244_13, E244_14, E244_15, E244_16, E244_19, E244_22, e1, e3, e4, ha, hn, rfs, rfn, cs0, csi, csl, csr, csn, kti, ktl, ktr, ktn, ktv, ktf, true_and, and_true, and_self, ↓reduceIte, Nat.reduceAdd, Nat.reduceSub, Nat.reduceMul, Nat.reduceLT, Nat.reduceLeDiff, Nat.reduceEqDiff, true_or, or_true, false_or, or_false, not_true_eq_false, not_false_eq_true, reduceCtorEq, cmp_lt, cmp_gt, cmp_eq, Int32.reduceAdd, Int32.reduceSub, Int32.reduceMul, Int32.reduceLT, Int32.reduceToNatClampNeg, eq_self, ne_eq, Int64.reduceAdd, Int64.reduceSub, Int64.reduceMul, Int64.reduceLT, nI_1]
    rw [ih (i + 1) _ (by omega), up_up]
    congr 2
    funext k
    rw [up_is, if_pos rfl, up_is]
    by_cases h1 : k = i
    · subst h1
      rw [if_neg (by omega), if_pos rfl, if_pos (by omega)]
    · rw [if_neg h1]
      by_cases h2 : i + 1 ≤ k ∧ k < n
      · rw [if_pos h2, if_pos (by omega)]
      · rw [if_neg h2, if_neg (by omega)]
/-- Arrays.fill of longs -/
theorem fillL {d a n : Nat} {v : Int64} {S : mS} {I : mI} {L : mL} {R : mR} {Q : mQ} (ha : ok S a 12) (hn : S.2.2.2 a = n) (h31 : n < 2 ^ 31) : EvM (d + 1) 244 [.ref a, .long v] S I L R Q = Q .null S I (va_up L a (fun k => if k < n then v else L a k)) R := by
  have hA : okA S a := ⟨ha.1, by rw [ha.2]; decide⟩
  simp only [M244, E244_0, E244_1, E244_2, E244_3, E244_4, E244_7, E244_9, E244_12, E244_13, E244_14, E244_15, E244_16, E244_19, E244_22, hA, hn, rfs, rfn, cs0, csi, csl, csr, csn, kti, ktl, ktr, ktn, ktv, ktf, true_and, and_true, and_self, ↓reduceIte, Nat.reduceAdd, Nat.reduceSub, Nat.reduceMul, Nat.reduceLT, Nat.reduceLeDiff, Nat.reduceEqDiff, true_or, or_true, false_or, or_false, not_true_eq_false, not_false_eq_true, reduceCtorEq, cmp_lt, cmp_gt, cmp_eq, Int32.reduceAdd, Int32.reduceSub, Int32.reduceMul, Int32.reduceLT, Int32.reduceToNatClampNeg, eq_self, ne_eq, Int64.reduceAdd, Int64.reduceSub, Int64.reduceMul, Int64.reduceLT]
  have := fillL_lp (d := d) (I := I) (R := R) (Q := Q) (v := v) ha hn h31 n 0 L (by omega)
  rw [show nI 0 = 0 from rfl] at this
  rw [this]
  simp only [Nat.zero_le, true_and]
/-- the reference clears its levels -/
theorem clrL {d : Nat} {S : mS} {L : mL} {R : mR} {x1 x2 x3 x4 y6 y7 y8 : Value} {Q : mQ} (hS : Pm S) (hR : Pr R) (c4 : x4.category = 1) : ∀ (m i : Nat) (I : mI), i + m = 59049 → Ev (d + 1) 213 3 [.ref 54, x1, x2, x3, x4, .int (nI i), y6, y7, y8] [] S I L R Q = Ev (d + 1) 213 24 [.ref 54, x1, x2, x3, x4, .int (nI 59049), y6, y7, y8] [] S (va_up I 73 (fun k => if i ≤ k ∧ k < 59049 then 0 else I 73 k)) L R Q := by
  intro m
  induction m with
  | zero =>
    intro i I hi
    obtain rfl : i = 59049 := by omega
    have e : (nI 59049 < (59049 : Int32)) = False := eq_false (by decide)
    rw [E213_3]
    simp only [E213_5, E213_7, e, rfs, rfn, cs0, csi, csl, csr, csn, kti, ktl, ktr, ktn, ktv, ktf, true_and, and_true, and_self, ↓reduceIte, Nat.reduceAdd, Nat.reduceSub, Nat.reduceMul, Nat.reduceLT, Nat.reduceLeDiff, Nat.reduceEqDiff, true_or, or_true, false_or, or_false, not_true_eq_false, not_false_eq_true, reduceCtorEq, cmp_lt, cmp_gt, cmp_eq, Int32.reduceAdd, Int32.reduceSub, Int32.reduceMul, Int32.reduceLT, Int32.reduceToNatClampNeg, eq_self, ne_eq, Int64.reduceAdd, Int64.reduceSub, Int64.reduceMul, Int64.reduceLT]
    rw [up_ext]
    funext k
    rw [if_neg (by omega)]
  | succ m ih =>
    intro i I hi
    have e1 : (nI i < (59049 : Int32)) = True := eq_true (nI_lt (a := i) (b := 59049) (by omega) (by decide))
    have e3 : inb (nI i) 59049 = True := inb_nI (by omega) (by decide)
    have e4 : (nI i).toNatClampNeg = i := nI_clamp (by omega)
    rw [E213_3]
    simp only [E213_5, E213_7, E213_10, E213_11, E213_14, E213_16, E213_17, E213_18, E213_21, e1, e3, e4, c4, pk54 hS, pk73 hS, pl73 hS, pa73 hS, pi73 hS, pr54_51 hR, rfs, rfn, cs0, csi, csl, csr, csn, kti, ktl, ktr, ktn, ktv, ktf, true_and, and_true, and_self, ↓reduceIte, Nat.reduceAdd, Nat.reduceSub, Nat.reduceMul, Nat.reduceLT, Nat.reduceLeDiff, Nat.reduceEqDiff, true_or, or_true, false_or, or_false, not_true_eq_false, not_false_eq_true, reduceCtorEq, cmp_lt, cmp_gt, cmp_eq, Int32.reduceAdd, Int32.reduceSub, Int32.reduceMul, Int32.reduceLT, Int32.reduceToNatClampNeg, eq_self, ne_eq, Int64.reduceAdd, Int64.reduceSub, Int64.reduceMul, Int64.reduceLT, nI_1]
    rw [ih (i + 1) _ (by omega), up_up]
    congr 2
    funext k
    rw [up_is, if_pos rfl, up_is]
    by_cases h1 : k = i
    · subst h1
      rw [if_neg (by omega), if_pos rfl, if_pos (by omega)]
    · rw [if_neg h1]
      by_cases h2 : i + 1 ≤ k ∧ k < 59049
      · rw [if_pos h2, if_pos (by omega)]
      · rw [if_neg h2, if_neg (by omega)]
