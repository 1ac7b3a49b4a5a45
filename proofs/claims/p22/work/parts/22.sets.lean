/-! sets of rows: joined, one row alone, do they meet -/
theorem addA_lp {d a b n : Nat} {S : mS} {I : mI} {R : mR} {Q : mQ} (ha : ok S a 12) (hn : S.2.2.2 a = n) (hb : ok S b 12) (hm : S.2.2.2 b = n) (hab : a ≠ b) (h31 : n < 2 ^ 31) : ∀ (m i : Nat) (L : mL), i + m = n → Ev (d + 1) 6 2 [.ref a, .ref b, .int (nI i)] [] S I L R Q = Q .null S I (va_up L b (fun k => if i ≤ k ∧ k < n then L b k ||| L a k else L b k)) R := by
  have hA : okA S a := ⟨ha.1, by rw [ha.2]; decide⟩
  have hB : okA S b := ⟨hb.1, by rw [hb.2]; decide⟩
  intro m
  induction m with
  | zero =>
    intro i L hi
    obtain rfl : i = n := by omega
    have e : (nI i < nI i) = False := eq_false (nI_nlt (Nat.le_refl i) h31)
    rw [E6_2]
    simp only [E6_0, E6_1, E6_3, E6_4, E6_5, E6_8, E6_9, E6_9n, E6_10, E6_11, E6_14, E6_14n, E6_15, E6_16, E6_17, E6_18, E6_19, E6_20, E6_21, E6_22, E6_23, E6_26, E6_29, e, hA, hn, rfs, rfn, cs0, csi, csl, csr, csn, kti, ktl, ktr, ktn, ktv, ktf, true_and, and_true, and_self, ↓reduceIte, Nat.reduceAdd, Nat.reduceSub, Nat.reduceMul, Nat.reduceLT, Nat.reduceLeDiff, Nat.reduceEqDiff, true_or, or_true, false_or, or_false, not_true_eq_false, not_false_eq_true, reduceCtorEq, cmp_lt, cmp_gt, cmp_eq, Int32.reduceAdd, Int32.reduceSub, Int32.reduceMul, Int32.reduceLT, Int32.reduceToNatClampNeg, eq_self, ne_eq, Int64.reduceAdd, Int64.reduceSub, Int64.reduceMul, Int64.reduceLT]
    rw [up_ext]
    funext k
    rw [if_neg (by omega)]
  | succ m ih =>
    intro i L hi
    have e1 : (nI i < nI n) = True := eq_true (nI_lt (a := i) (b := n) (by omega) h31)
    have e3 : inb (nI i) n = True := inb_nI (by omega) h31
    have e4 : (nI i).toNatClampNeg = i := nI_clamp (by omega)
    rw [E6_2]
    simp only [E6_0, E6_1, E6_3, E6_4, E6_5, E6_8, E6_9, E6_9n, E6_10, E6_11, E6_14, E6_14n, E6_15, E6_16, E6_17, E6_18, E6_19, E6_20, E6_21, E6_22, E6_23, E6_26, E6_29, e1, e3, e4, ha, hn, hb, hm, hA, hB, rfs, rfn, cs0, csi, csl, csr, csn, kti, ktl, ktr, ktn, ktv, ktf, true_and, and_true, and_self, ↓reduceIte, Nat.reduceAdd, Nat.reduceSub, Nat.reduceMul, Nat.reduceLT, Nat.reduceLeDiff, Nat.reduceEqDiff, true_or, or_true, false_or, or_false, not_true_eq_false, not_false_eq_true, reduceCtorEq, cmp_lt, cmp_gt, cmp_eq, Int32.reduceAdd, Int32.reduceSub, Int32.reduceMul, Int32.reduceLT, Int32.reduceToNatClampNeg, eq_self, ne_eq, Int64.reduceAdd, Int64.reduceSub, Int64.reduceMul, Int64.reduceLT, nI_1]
    rw [ih (i + 1) _ (by omega), up_up]
    congr 2
    funext k
    rw [up_is, if_pos rfl, up_is, up_is, if_neg hab]
    by_cases h1 : k = i
    · subst h1
      rw [if_neg (by omega), if_pos rfl, if_pos (by omega)]
    · rw [if_neg h1]
      by_cases h2 : i + 1 ≤ k ∧ k < n
      · rw [if_pos h2, if_pos (by omega)]
      · rw [if_neg h2, if_neg (by omega)]
theorem addA {d a b n : Nat} {S : mS} {I : mI} {L : mL} {R : mR} {Q : mQ} (ha : ok S a 12) (hn : S.2.2.2 a = n) (hb : ok S b 12) (hm : S.2.2.2 b = n) (hab : a ≠ b) (h31 : n < 2 ^ 31) : EvM (d + 1) 6 [.ref a, .ref b] S I L R Q = Q .null S I (va_up L b (fun k => if k < n then L b k ||| L a k else L b k)) R := by
  simp only [M6, E6_0, E6_1, E6_3, E6_4, E6_5, E6_8, E6_9, E6_9n, E6_10, E6_11, E6_14, E6_14n, E6_15, E6_16, E6_17, E6_18, E6_19, E6_20, E6_21, E6_22, E6_23, E6_26, E6_29, rfs, rfn, cs0, csi, csl, csr, csn, kti, ktl, ktr, ktn, ktv, ktf, true_and, and_true, and_self, ↓reduceIte, Nat.reduceAdd, Nat.reduceSub, Nat.reduceMul, Nat.reduceLT, Nat.reduceLeDiff, Nat.reduceEqDiff, true_or, or_true, false_or, or_false, not_true_eq_false, not_false_eq_true, reduceCtorEq, cmp_lt, cmp_gt, cmp_eq, Int32.reduceAdd, Int32.reduceSub, Int32.reduceMul, Int32.reduceLT, Int32.reduceToNatClampNeg, eq_self, ne_eq, Int64.reduceAdd, Int64.reduceSub, Int64.reduceMul, Int64.reduceLT]
  have := addA_lp (d := d) (I := I) (R := R) (Q := Q) ha hn hb hm hab h31 n 0 L (by omega)
  rw [show nI 0 = 0 from rfl] at this
  rw [this]
  simp only [Nat.zero_le, true_and]
/-- one row alone -/
theorem setO {d a n r : Nat} {S : mS} {I : mI} {L : mL} {R : mR} {Q : mQ} (ha : ok S a 12) (hn : S.2.2.2 a = n) (h31 : n < 2 ^ 24) (hr : r < 64 * n) : EvM (d + 2) 11 [.ref a, .int (nI r)] S I L R Q = Q .null S I (va_up L a (va_up (fun k => if k < n then 0 else L a k) (r / 64) ((1 : Int64) <<< ((nI (r % 64)).toInt64 &&& 63)))) R := by
  have hA : okA S a := ⟨ha.1, by rw [ha.2]; decide⟩
  have e2 : nI r >>> ((6 : Int32) &&& 31) = nI (r / 64) := nI_shr6 (by omega)
  have e3 : (nI (r / 64) < nI n) = True := eq_true (nI_lt (a := r / 64) (b := n) (by omega) (by omega))
  have e4 : nI r &&& 63 = nI (r % 64) := by rw [pk_and (nI r) 6 (by decide), pk_tn (by omega)]
  have e5 : (nI (r / 64) < 0) = False := eq_false (nI_pos (by omega))
  have e8 : inb (nI (r / 64)) n = True := inb_nI (by omega) (by omega)
  have e9 : (nI (r / 64)).toNatClampNeg = r / 64 := nI_clamp (by omega)
  simp only [M11, E11_0, E11_1, E11_2, E11_5, E11_6, E11_8, E11_9, E11_10, E11_11, E11_14, E11_15, E11_16, E11_17, E11_20, E11_21, E11_22, E11_23, E11_24, E11_26, E11_27, E11_28, E11_29, fillL (d := d) ha hn (by omega), e2, e3, e4, e5, e8, e9, hA, ha, hn, rfs, rfn, cs0, csi, csl, csr, csn, kti, ktl, ktr, ktn, ktv, ktf, true_and, and_true, and_self, ↓reduceIte, Nat.reduceAdd, Nat.reduceSub, Nat.reduceMul, Nat.reduceLT, Nat.reduceLeDiff, Nat.reduceEqDiff, true_or, or_true, false_or, or_false, not_true_eq_false, not_false_eq_true, reduceCtorEq, cmp_lt, cmp_gt, cmp_eq, Int32.reduceAdd, Int32.reduceSub, Int32.reduceMul, Int32.reduceLT, Int32.reduceToNatClampNeg, eq_self, ne_eq, Int64.reduceAdd, Int64.reduceSub, Int64.reduceMul, Int64.reduceLT]
  rw [up_up, up_is, if_pos rfl]
theorem one_bit : ∀ s, s < 64 → ∀ i, i < 64 → ((1 : Int64) <<< ((nI s).toInt64 &&& 63)).toBitVec.getLsbD i = decide (i = s) := by decide +kernel
theorem setO_gb {n r : Nat} {g : Nat → Int64} (hr : r < 64 * n) {k : Nat} (hk : k < 64 * n) : gb (va_up (fun k => if k < n then 0 else g k) (r / 64) ((1 : Int64) <<< ((nI (r % 64)).toInt64 &&& 63))) k = decide (k = r) := by
  rw [gb_up]
  by_cases h : k / 64 = r / 64
  · rw [if_pos h, one_bit _ (by omega) _ (by omega), decide_eq_decide]
    omega
  · rw [if_neg h]
    have e : (fun k => if k < n then (0 : Int64) else g k) (k / 64) = 0 := if_pos (by omega)
    unfold gb
    rw [e, zero_bit]
    exact (decide_eq_false (by intro q; exact h (by rw [q]))).symm
