/-! group C: the class's call twelve, exactly -/
def twS (n k1 k2 k3 m i : Nat) (J : mI) : mI := va_up (finF (carF J 26 5 n k1 k2 k3 m (-1)).1 26 5) 38 (va_cpy (finF (carF J 26 5 n k1 k2 k3 m (-1)).1 26 5 27) (finF (carF J 26 5 n k1 k2 k3 m (-1)).1 26 5 38) 0 (5 * i) 5)
def twF (n k1 k2 k3 m : Nat) : Nat → Nat → mI → mI
  | 0, _, J => J
  | N + 1, i, J => twF n k1 k2 k3 m N (i + 1) (twS n k1 k2 k3 m i J)
def twH (n k1 k2 k3 m : Nat) (I : mI) (x y : Int32) : mI := put (put (twF n k1 k2 k3 m 12 0 (put (put I 26 9 x) 26 10 y)) 26 9 (-1)) 26 10 0
def maF (I : mI) (a : Nat) : Nat → Nat → Int32 → Int32
  | 0, _, v => v
  | N + 1, i, v => maF I a N (i + 1) (v + (if apL I (5 * i) a (5 * 0) 5 0 0 = 0 then 1 else 0))
def wiI (I : mI) (i : Nat) : Nat → Nat → Int32 → Int32
  | 0, _, v => v
  | N + 1, j, v => wiI I i N (j + 1) (if v < apL I (5 * i) 38 (5 * j) 5 0 0 then apL I (5 * i) 38 (5 * j) 5 0 0 else v)
def wiF (I : mI) : Nat → Nat → Int32 → Int32
  | 0, _, v => v
  | N + 1, i, v => wiF I N (i + 1) (wiI I i i 0 v)
theorem Gt.tw {n k1 k2 k3 m : Nat} {I : mI} : ∀ (N i : Nat) (J : mI), Gt I J → Gt I (twF n k1 k2 k3 m N i J)
  | 0, _, _, h => h
  | N + 1, i, J, h => Gt.tw N (i + 1) _ (fun a h1 h2 => by
    unfold twS
    rw [uu_n _ _ h2]
    exact (h.gu Gu.rf.ca) a h1 h2)
section CA
variable {d a l q n k1 k2 k3 m : Nat} {S : mS} {I : mI} {L : mL} {R : mR} {Q : mQ}
theorem mk_lpE {x y : Int32} (hS : Pm S) (hR : Pr R) (e2 : RecS S R q n k1 k2 k3 m) (h85 : 85 ≤ q) (h86 : 85 ≤ k2) (e3 : I q 0 = nI n) : ∀ (N i : Nat) (J : mI), i + N = 12 → Gt I J → Q .null S (put (put (twF n k1 k2 k3 m N i J) 26 9 (-1)) 26 10 0) L R → Ev (d + 7) 135 12 [.ref 4, .ref q, .int x, .int y, .int (nI i)] [] S J L R Q := by
  have hz := smi5 hS hR
  have t1 := run26 hS hR
  intro N
  induction N with
  | zero =>
    intro i J hi hg hq
    obtain rfl : i = 12 := by omega
    have e : (nI 12 < (12 : Int32)) = False := eq_false (by decide)
    rw [E135_12]
    simp only [E135_0, E135_1, E135_4, E135_5, E135_6, E135_9, E135_10, E135_14, E135_16, E135_19, E135_20, E135_23, E135_24, E135_27, E135_27n, E135_28, E135_29, E135_32, E135_33, E135_34, E135_37, E135_40, E135_41, E135_42, E135_45, E135_47, E135_48, E135_49, E135_50, E135_53, E135_56, E135_59, E135_60, E135_63, E135_64, E135_65, E135_68, pk4 hS, pk5 hS, pk27 hS, pl27 hS, pa27 hS, pi27 hS, pk38 hS, pl38 hS, pa38 hS, pi38 hS, pr4_0 hR, pr4_7 hR, pr4_8 hR, pr4_9 hR, pr26_1 hR, rfs, rfn, cs0, csi, csl, csr, csn, kti, ktl, ktr, ktn, ktv, ktf, true_and, and_true, and_self, ↓reduceIte, Nat.reduceAdd, Nat.reduceSub, Nat.reduceMul, Nat.reduceLT, Nat.reduceLeDiff, Nat.reduceEqDiff, true_or, or_true, false_or, or_false, not_true_eq_false, not_false_eq_true, reduceCtorEq, cmp_lt, cmp_gt, cmp_eq, Int32.reduceAdd, Int32.reduceSub, Int32.reduceMul, Int32.reduceLT, Int32.reduceToNatClampNeg, eq_self, ne_eq, Int64.reduceAdd, Int64.reduceSub, Int64.reduceMul, Int64.reduceLT, n1_0, bI_t, bI_f, e, t1.1, tkH t1]
    exact hq
  | succ N ih =>
    intro i J hi hg hq
    have e1 : (nI i < (12 : Int32)) = True := eq_true (nI_lt (a := i) (b := 12) (by omega) (by decide))
    have c1 := fun Q => car (d := d) (w := -1) (I := J) (L := L) (Q := Q) t1 hz e2 (Or.inr (by omega)) (Or.inr (by omega)) (by rw [hg q (Or.inr (by omega)) (by omega)]; exact e3)
    have e5 : nI i * 5 = nI (5 * i) := by rw [show (5 : Int32) = nI 5 from rfl, pk_mul, Nat.mul_comm]
    have e6 : (nI (5 * i) < 0) = False := eq_false (nI_pos (by omega))
    have e7 : (nI (5 * i)).toNatClampNeg = 5 * i := nI_clamp (by omega)
    have e8 : (5 * i + 5 ≤ 60) = True := eq_true (by omega)
    rw [E135_12]
    simp only [E135_0, E135_1, E135_4, E135_5, E135_6, E135_9, E135_10, E135_14, E135_16, E135_19, E135_20, E135_23, E135_24, E135_27, E135_27n, E135_28, E135_29, E135_32, E135_33, E135_34, E135_37, E135_40, E135_41, E135_42, E135_45, E135_47, E135_48, E135_49, E135_50, E135_53, E135_56, E135_59, E135_60, E135_63, E135_64, E135_65, E135_68, pk4 hS, pk5 hS, pk27 hS, pl27 hS, pa27 hS, pi27 hS, pk38 hS, pl38 hS, pa38 hS, pi38 hS, pr4_0 hR, pr4_7 hR, pr4_8 hR, pr4_9 hR, pr26_1 hR, rfs, rfn, cs0, csi, csl, csr, csn, kti, ktl, ktr, ktn, ktv, ktf, true_and, and_true, and_self, ↓reduceIte, Nat.reduceAdd, Nat.reduceSub, Nat.reduceMul, Nat.reduceLT, Nat.reduceLeDiff, Nat.reduceEqDiff, true_or, or_true, false_or, or_false, not_true_eq_false, not_false_eq_true, reduceCtorEq, cmp_lt, cmp_gt, cmp_eq, Int32.reduceAdd, Int32.reduceSub, Int32.reduceMul, Int32.reduceLT, Int32.reduceToNatClampNeg, eq_self, ne_eq, Int64.reduceAdd, Int64.reduceSub, Int64.reduceMul, Int64.reduceLT, n1_0, bI_t, bI_f, e1, t1.1, c1, e5, e6, e7, e8, nI_1]
    refine ih (i + 1) _ (by omega) (fun a h1 h2 => ?_) hq
    rw [uu_n _ _ h2]
    exact (hg.gu Gu.rf.ca) a h1 h2
theorem mkTE {x y : Int32} (hS : Pm S) (hR : Pr R) (e2 : RecS S R q n k1 k2 k3 m) (h85 : 85 ≤ q) (h86 : 85 ≤ k2) (e3 : I q 0 = nI n) (hq : Q .null S (twH n k1 k2 k3 m I x y) L R) : EvM (d + 7) 135 [.ref 4, .ref q, .int x, .int y] S I L R Q := by
  have t1 := run26 hS hR
  have k := mk_lpE (d := d) (I := I) (L := L) (Q := Q) (x := x) (y := y) hS hR e2 h85 h86 e3 12 0 (put (put I 26 9 x) 26 10 y) (by omega) (Gt.gu (fun _ _ _ => rfl) ((Gu.rf.pt (by omega) (by omega)).pt (by omega) (by omega))) hq
  rw [show nI 0 = 0 from rfl] at k
  simp only [M135, E135_0, E135_1, E135_4, E135_5, E135_6, E135_9, E135_10, E135_14, E135_16, E135_19, E135_20, E135_23, E135_24, E135_27, E135_27n, E135_28, E135_29, E135_32, E135_33, E135_34, E135_37, E135_40, E135_41, E135_42, E135_45, E135_47, E135_48, E135_49, E135_50, E135_53, E135_56, E135_59, E135_60, E135_63, E135_64, E135_65, E135_68, pk4 hS, pk5 hS, pk27 hS, pl27 hS, pa27 hS, pi27 hS, pk38 hS, pl38 hS, pa38 hS, pi38 hS, pr4_0 hR, pr4_7 hR, pr4_8 hR, pr4_9 hR, pr26_1 hR, rfs, rfn, cs0, csi, csl, csr, csn, kti, ktl, ktr, ktn, ktv, ktf, true_and, and_true, and_self, ↓reduceIte, Nat.reduceAdd, Nat.reduceSub, Nat.reduceMul, Nat.reduceLT, Nat.reduceLeDiff, Nat.reduceEqDiff, true_or, or_true, false_or, or_false, not_true_eq_false, not_false_eq_true, reduceCtorEq, cmp_lt, cmp_gt, cmp_eq, Int32.reduceAdd, Int32.reduceSub, Int32.reduceMul, Int32.reduceLT, Int32.reduceToNatClampNeg, eq_self, ne_eq, Int64.reduceAdd, Int64.reduceSub, Int64.reduceMul, Int64.reduceLT, n1_0, bI_t, bI_f, t1.1, tkH t1]
  exact k
theorem ma_lpE (hS : Pm S) (hR : Pr R) (ha : ok S a 11) (hl : S.2.2.2 a = l) (h5 : 5 ≤ l) (h60 : l ≤ 60) : ∀ (N i : Nat) (v : Int32), i + N = 12 → Q (.int (maF I a N i v)) S I L R → Ev (d + 2) 136 4 [.ref 4, .ref a, .int v, .int (nI i)] [] S I L R Q := by
  intro N
  induction N with
  | zero =>
    intro i v hi hq
    obtain rfl : i = 12 := by omega
    have e : (nI 12 < (12 : Int32)) = False := eq_false (by decide)
    rw [E136_4]
    simp only [E136_0, E136_1, E136_2, E136_3, E136_5, E136_7, E136_10, E136_11, E136_12, E136_13, E136_13n, E136_14, E136_15, E136_18, E136_21, E136_22, E136_25, E136_26, E136_27, E136_28, E136_31, E136_34, E136_35, pk4 hS, pk5 hS, pk38 hS, pl38 hS, pa38 hS, pi38 hS, pr4_0 hR, pr4_7 hR, pr4_8 hR, pr4_9 hR, rfs, rfn, cs0, csi, csl, csr, csn, kti, ktl, ktr, ktn, ktv, ktf, true_and, and_true, and_self, ↓reduceIte, Nat.reduceAdd, Nat.reduceSub, Nat.reduceMul, Nat.reduceLT, Nat.reduceLeDiff, Nat.reduceEqDiff, true_or, or_true, false_or, or_false, not_true_eq_false, not_false_eq_true, reduceCtorEq, cmp_lt, cmp_gt, cmp_eq, Int32.reduceAdd, Int32.reduceSub, Int32.reduceMul, Int32.reduceLT, Int32.reduceToNatClampNeg, eq_self, ne_eq, Int64.reduceAdd, Int64.reduceSub, Int64.reduceMul, Int64.reduceLT, n1_0, bI_t, bI_f, e]
    exact hq
  | succ N ih =>
    intro i v hi hq
    have e1 : (nI i < (12 : Int32)) = True := eq_true (nI_lt (a := i) (b := 12) (by omega) (by decide))
    have k := fun Q => apa (d := d) (i := i) (j := 0) (I := I) (L := L) (Q := Q) hS hR ha hl (by omega) (by omega) h60
    rw [show nI 0 = 0 from rfl] at k
    have em : maF I a (N + 1) i v = maF I a N (i + 1) (v + (if apL I (5 * i) a (5 * 0) 5 0 0 = 0 then 1 else 0)) := rfl
    rw [em] at hq
    rw [E136_4]
    by_cases g : apL I (5 * i) a (5 * 0) 5 0 0 = 0
    · rw [if_pos g] at hq
      simp only [E136_0, E136_1, E136_2, E136_3, E136_5, E136_7, E136_10, E136_11, E136_12, E136_13, E136_13n, E136_14, E136_15, E136_18, E136_21, E136_22, E136_25, E136_26, E136_27, E136_28, E136_31, E136_34, E136_35, pk4 hS, pk5 hS, pk38 hS, pl38 hS, pa38 hS, pi38 hS, pr4_0 hR, pr4_7 hR, pr4_8 hR, pr4_9 hR, rfs, rfn, cs0, csi, csl, csr, csn, kti, ktl, ktr, ktn, ktv, ktf, true_and, and_true, and_self, ↓reduceIte, Nat.reduceAdd, Nat.reduceSub, Nat.reduceMul, Nat.reduceLT, Nat.reduceLeDiff, Nat.reduceEqDiff, true_or, or_true, false_or, or_false, not_true_eq_false, not_false_eq_true, reduceCtorEq, cmp_lt, cmp_gt, cmp_eq, Int32.reduceAdd, Int32.reduceSub, Int32.reduceMul, Int32.reduceLT, Int32.reduceToNatClampNeg, eq_self, ne_eq, Int64.reduceAdd, Int64.reduceSub, Int64.reduceMul, Int64.reduceLT, n1_0, bI_t, bI_f, e1, k, g, nI_1]
      exact ih (i + 1) _ (by omega) hq
    · rw [if_neg g] at hq
      simp only [E136_0, E136_1, E136_2, E136_3, E136_5, E136_7, E136_10, E136_11, E136_12, E136_13, E136_13n, E136_14, E136_15, E136_18, E136_21, E136_22, E136_25, E136_26, E136_27, E136_28, E136_31, E136_34, E136_35, pk4 hS, pk5 hS, pk38 hS, pl38 hS, pa38 hS, pi38 hS, pr4_0 hR, pr4_7 hR, pr4_8 hR, pr4_9 hR, rfs, rfn, cs0, csi, csl, csr, csn, kti, ktl, ktr, ktn, ktv, ktf, true_and, and_true, and_self, ↓reduceIte, Nat.reduceAdd, Nat.reduceSub, Nat.reduceMul, Nat.reduceLT, Nat.reduceLeDiff, Nat.reduceEqDiff, true_or, or_true, false_or, or_false, not_true_eq_false, not_false_eq_true, reduceCtorEq, cmp_lt, cmp_gt, cmp_eq, Int32.reduceAdd, Int32.reduceSub, Int32.reduceMul, Int32.reduceLT, Int32.reduceToNatClampNeg, eq_self, ne_eq, Int64.reduceAdd, Int64.reduceSub, Int64.reduceMul, Int64.reduceLT, n1_0, bI_t, bI_f, e1, k, g, nI_1]
      exact ih (i + 1) _ (by omega) hq
theorem manE (hS : Pm S) (hR : Pr R) (ha : ok S a 11) (hl : S.2.2.2 a = l) (h5 : 5 ≤ l) (h60 : l ≤ 60) (hq : Q (.int (maF I a 12 0 0)) S I L R) : EvM (d + 2) 136 [.ref 4, .ref a] S I L R Q := by
  have k := ma_lpE (d := d) hS hR ha hl h5 h60 12 0 0 (by omega) hq
  rw [show nI 0 = 0 from rfl] at k
  simp only [M136, E136_0, E136_1, E136_2, E136_3, E136_5, E136_7, E136_10, E136_11, E136_12, E136_13, E136_13n, E136_14, E136_15, E136_18, E136_21, E136_22, E136_25, E136_26, E136_27, E136_28, E136_31, E136_34, E136_35, rfs, rfn, cs0, csi, csl, csr, csn, kti, ktl, ktr, ktn, ktv, ktf, true_and, and_true, and_self, ↓reduceIte, Nat.reduceAdd, Nat.reduceSub, Nat.reduceMul, Nat.reduceLT, Nat.reduceLeDiff, Nat.reduceEqDiff, true_or, or_true, false_or, or_false, not_true_eq_false, not_false_eq_true, reduceCtorEq, cmp_lt, cmp_gt, cmp_eq, Int32.reduceAdd, Int32.reduceSub, Int32.reduceMul, Int32.reduceLT, Int32.reduceToNatClampNeg, eq_self, ne_eq, Int64.reduceAdd, Int64.reduceSub, Int64.reduceMul, Int64.reduceLT]
  exact k
theorem wi_inE {i : Nat} (hS : Pm S) (hR : Pr R) (hi : i < 12) : ∀ (N j : Nat) (v : Int32), j + N = i → (∀ x, Ev (d + 2) 137 38 [.ref 4, .int (wiI I i N j v), .int (nI i), x] [] S I L R Q) → Ev (d + 2) 137 12 [.ref 4, .int v, .int (nI i), .int (nI j)] [] S I L R Q := by
  intro N
  induction N with
  | zero =>
    intro j v hj hq
    obtain rfl : j = i := by omega
    have e : (nI j < nI j) = False := eq_false (nI_nlt (Nat.le_refl _) (by omega))
    rw [E137_12]
    simp only [E137_13, E137_14, rfs, rfn, cs0, csi, csl, csr, csn, kti, ktl, ktr, ktn, ktv, ktf, true_and, and_true, and_self, ↓reduceIte, Nat.reduceAdd, Nat.reduceSub, Nat.reduceMul, Nat.reduceLT, Nat.reduceLeDiff, Nat.reduceEqDiff, true_or, or_true, false_or, or_false, not_true_eq_false, not_false_eq_true, reduceCtorEq, cmp_lt, cmp_gt, cmp_eq, Int32.reduceAdd, Int32.reduceSub, Int32.reduceMul, Int32.reduceLT, Int32.reduceToNatClampNeg, eq_self, ne_eq, Int64.reduceAdd, Int64.reduceSub, Int64.reduceMul, Int64.reduceLT, e]
    exact hq _
  | succ N ih =>
    intro j v hj hq
    have e1 : (nI j < nI i) = True := eq_true (nI_lt (by omega) (by omega))
    have k := fun Q => apa (d := d) (i := i) (j := j) (I := I) (L := L) (Q := Q) hS hR (of_eq_true (pk38 hS)) (pl38 hS) (by omega) (by omega) (by omega)
    rw [E137_12]
    simp only [E137_0, E137_1, E137_2, E137_3, E137_5, E137_7, E137_10, E137_11, E137_13, E137_14, E137_17, E137_18, E137_19, E137_20, E137_21, E137_24, E137_25, E137_28, E137_31, E137_32, E137_35, E137_41, E137_44, E137_45, pk4 hS, pk5 hS, pk27 hS, pl27 hS, pa27 hS, pi27 hS, pk38 hS, pl38 hS, pa38 hS, pi38 hS, pr4_0 hR, pr4_7 hR, pr4_8 hR, pr4_9 hR, pr26_1 hR, rfs, rfn, cs0, csi, csl, csr, csn, kti, ktl, ktr, ktn, ktv, ktf, true_and, and_true, and_self, ↓reduceIte, Nat.reduceAdd, Nat.reduceSub, Nat.reduceMul, Nat.reduceLT, Nat.reduceLeDiff, Nat.reduceEqDiff, true_or, or_true, false_or, or_false, not_true_eq_false, not_false_eq_true, reduceCtorEq, cmp_lt, cmp_gt, cmp_eq, Int32.reduceAdd, Int32.reduceSub, Int32.reduceMul, Int32.reduceLT, Int32.reduceToNatClampNeg, eq_self, ne_eq, Int64.reduceAdd, Int64.reduceSub, Int64.reduceMul, Int64.reduceLT, n1_0, bI_t, bI_f, e1, k, nI_1]
    exact ih (j + 1) _ (by omega) hq
theorem wi_lpE (hS : Pm S) (hR : Pr R) : ∀ (N i : Nat) (v : Int32) (x : Value), i + N = 12 → Q (.int (wiF I N i v)) S I L R → Ev (d + 2) 137 4 [.ref 4, .int v, .int (nI i), x] [] S I L R Q := by
  intro N
  induction N with
  | zero =>
    intro i v x hi hq
    obtain rfl : i = 12 := by omega
    have e : (nI 12 < (12 : Int32)) = False := eq_false (by decide)
    rw [E137_4]
    simp only [E137_5, E137_7, E137_44, E137_45, rfs, rfn, cs0, csi, csl, csr, csn, kti, ktl, ktr, ktn, ktv, ktf, true_and, and_true, and_self, ↓reduceIte, Nat.reduceAdd, Nat.reduceSub, Nat.reduceMul, Nat.reduceLT, Nat.reduceLeDiff, Nat.reduceEqDiff, true_or, or_true, false_or, or_false, not_true_eq_false, not_false_eq_true, reduceCtorEq, cmp_lt, cmp_gt, cmp_eq, Int32.reduceAdd, Int32.reduceSub, Int32.reduceMul, Int32.reduceLT, Int32.reduceToNatClampNeg, eq_self, ne_eq, Int64.reduceAdd, Int64.reduceSub, Int64.reduceMul, Int64.reduceLT, e]
    exact hq
  | succ N ih =>
    intro i v x hi hq
    have e1 : (nI i < (12 : Int32)) = True := eq_true (nI_lt (a := i) (b := 12) (by omega) (by decide))
    rw [E137_4]
    simp only [E137_5, E137_7, E137_10, E137_11, rfs, rfn, cs0, csi, csl, csr, csn, kti, ktl, ktr, ktn, ktv, ktf, true_and, and_true, and_self, ↓reduceIte, Nat.reduceAdd, Nat.reduceSub, Nat.reduceMul, Nat.reduceLT, Nat.reduceLeDiff, Nat.reduceEqDiff, true_or, or_true, false_or, or_false, not_true_eq_false, not_false_eq_true, reduceCtorEq, cmp_lt, cmp_gt, cmp_eq, Int32.reduceAdd, Int32.reduceSub, Int32.reduceMul, Int32.reduceLT, Int32.reduceToNatClampNeg, eq_self, ne_eq, Int64.reduceAdd, Int64.reduceSub, Int64.reduceMul, Int64.reduceLT, e1]
    have k := wi_inE (d := d) (i := i) (I := I) (L := L) (Q := Q) hS hR (by omega) i 0 v (by omega) (fun x => by
      simp only [E137_38, E137_41, rfs, rfn, cs0, csi, csl, csr, csn, kti, ktl, ktr, ktn, ktv, ktf, true_and, and_true, and_self, ↓reduceIte, Nat.reduceAdd, Nat.reduceSub, Nat.reduceMul, Nat.reduceLT, Nat.reduceLeDiff, Nat.reduceEqDiff, true_or, or_true, false_or, or_false, not_true_eq_false, not_false_eq_true, reduceCtorEq, cmp_lt, cmp_gt, cmp_eq, Int32.reduceAdd, Int32.reduceSub, Int32.reduceMul, Int32.reduceLT, Int32.reduceToNatClampNeg, eq_self, ne_eq, Int64.reduceAdd, Int64.reduceSub, Int64.reduceMul, Int64.reduceLT, nI_1]
      exact ih (i + 1) _ _ (by omega) hq)
    rw [show nI 0 = 0 from rfl] at k
    exact k
theorem widE (hS : Pm S) (hR : Pr R) (hq : Q (.int (wiF I 12 0 0)) S I L R) : EvM (d + 2) 137 [.ref 4] S I L R Q := by
  have k := wi_lpE (d := d) hS hR 12 0 0 nv (by omega) hq
  rw [show nI 0 = 0 from rfl] at k
  simp only [M137, E137_0, E137_1, E137_2, E137_3, E137_5, E137_7, E137_10, E137_11, E137_13, E137_14, E137_17, E137_18, E137_19, E137_20, E137_21, E137_24, E137_25, E137_28, E137_31, E137_32, E137_35, E137_38, E137_41, E137_44, E137_45, rfs, rfn, cs0, csi, csl, csr, csn, kti, ktl, ktr, ktn, ktv, ktf, true_and, and_true, and_self, ↓reduceIte, Nat.reduceAdd, Nat.reduceSub, Nat.reduceMul, Nat.reduceLT, Nat.reduceLeDiff, Nat.reduceEqDiff, true_or, or_true, false_or, or_false, not_true_eq_false, not_false_eq_true, reduceCtorEq, cmp_lt, cmp_gt, cmp_eq, Int32.reduceAdd, Int32.reduceSub, Int32.reduceMul, Int32.reduceLT, Int32.reduceToNatClampNeg, eq_self, ne_eq, Int64.reduceAdd, Int64.reduceSub, Int64.reduceMul, Int64.reduceLT]
  exact k
/-- what twelve asks of its numbers -/
def twB (x y w : Int32) : Prop := ¬ x < 0 ∧ ¬ 100 < x ∧ ¬ y < 0 ∧ ¬ 1000000 < y ∧ ¬ w < 0 ∧ ¬ 2 < w
def twV (n k1 k2 k3 m : Nat) (J : mI) (w : Int32) : Int32 := if w = 1 then wiF J 12 0 0 else if w = 0 then maF J 38 12 0 0 else maF (finF (carF J 26 5 n k1 k2 k3 m (-1)).1 26 5) 27 12 0 0
def twJ (n k1 k2 k3 m : Nat) (J : mI) (w : Int32) : mI := if w = 1 then J else if w = 0 then J else finF (carF J 26 5 n k1 k2 k3 m (-1)).1 26 5
theorem twelve_e {k x y w : Int32} (hS : Pm S) (hR : Pr R) (hc : Rcs S I R 5) (h0 : rcB I 5 k = false ∨ ¬ twB x y w → Q (.int (-1)) S I L R) (h1 : ∀ q n k1 k2 k3 m, rcB I 5 k = true → twB x y w → R 9 k.toNatClampNeg = some q → RecS S R q n k1 k2 k3 m → I q 0 = nI n → 85 ≤ q → Q (.int (twV n k1 k2 k3 m (twH n k1 k2 k3 m I x y) w)) S (twJ n k1 k2 k3 m (twH n k1 k2 k3 m I x y) w) L R) : EvM (d + 8) 121 [.ref 4, .int k, .int x, .int y, .int w] S I L R Q := by
  have hz := smi5 hS hR
  have t1 := run26 hS hR
  cases g : rcB I 5 k with
  | false =>
    simp only [M121, E121_0, E121_1, E121_4, E121_5, E121_8, E121_8n, E121_10, E121_10n, E121_12, E121_12n, E121_15, E121_16, E121_19, E121_20, E121_22, E121_25, E121_26, E121_29, E121_30, E121_32, E121_35, E121_37, E121_40, E121_42, E121_43, E121_46, E121_47, E121_48, E121_49, E121_49n, E121_51, E121_52, E121_53, E121_56, E121_58, E121_59, E121_62, E121_63, E121_66, E121_67, E121_69, E121_72, E121_73, E121_74, E121_77, E121_80, E121_81, E121_82, E121_85, E121_86, E121_89, E121_89n, E121_91, E121_92, E121_95, E121_96, E121_97, E121_98, E121_101, E121_104, E121_107, pk4 hS, pk5 hS, pk27 hS, pl27 hS, pa27 hS, pi27 hS, pk38 hS, pl38 hS, pa38 hS, pi38 hS, pr4_0 hR, pr4_7 hR, pr4_8 hR, pr4_9 hR, pr26_1 hR, rfs, rfn, cs0, csi, csl, csr, csn, kti, ktl, ktr, ktn, ktv, ktf, true_and, and_true, and_self, ↓reduceIte, Nat.reduceAdd, Nat.reduceSub, Nat.reduceMul, Nat.reduceLT, Nat.reduceLeDiff, Nat.reduceEqDiff, true_or, or_true, false_or, or_false, not_true_eq_false, not_false_eq_true, reduceCtorEq, cmp_lt, cmp_gt, cmp_eq, Int32.reduceAdd, Int32.reduceSub, Int32.reduceMul, Int32.reduceLT, Int32.reduceToNatClampNeg, eq_self, ne_eq, Int64.reduceAdd, Int64.reduceSub, Int64.reduceMul, Int64.reduceLT, n1_0, bI_t, bI_f, rat_no hz g]
    exact h0 (Or.inl g)
  | true =>
    obtain ⟨q, n, k1, k2, k3, m, e1, e2, e3, e4, e5, e6, e7⟩ := hc k g
    by_cases g1 : x < 0
    · simp only [M121, E121_0, E121_1, E121_4, E121_5, E121_8, E121_8n, E121_10, E121_10n, E121_12, E121_12n, E121_15, E121_16, E121_19, E121_20, E121_22, E121_25, E121_26, E121_29, E121_30, E121_32, E121_35, E121_37, E121_40, E121_42, E121_43, E121_46, E121_47, E121_48, E121_49, E121_49n, E121_51, E121_52, E121_53, E121_56, E121_58, E121_59, E121_62, E121_63, E121_66, E121_67, E121_69, E121_72, E121_73, E121_74, E121_77, E121_80, E121_81, E121_82, E121_85, E121_86, E121_89, E121_89n, E121_91, E121_92, E121_95, E121_96, E121_97, E121_98, E121_101, E121_104, E121_107, pk4 hS, pk5 hS, pk27 hS, pl27 hS, pa27 hS, pi27 hS, pk38 hS, pl38 hS, pa38 hS, pi38 hS, pr4_0 hR, pr4_7 hR, pr4_8 hR, pr4_9 hR, pr26_1 hR, rfs, rfn, cs0, csi, csl, csr, csn, kti, ktl, ktr, ktn, ktv, ktf, true_and, and_true, and_self, ↓reduceIte, Nat.reduceAdd, Nat.reduceSub, Nat.reduceMul, Nat.reduceLT, Nat.reduceLeDiff, Nat.reduceEqDiff, true_or, or_true, false_or, or_false, not_true_eq_false, not_false_eq_true, reduceCtorEq, cmp_lt, cmp_gt, cmp_eq, Int32.reduceAdd, Int32.reduceSub, Int32.reduceMul, Int32.reduceLT, Int32.reduceToNatClampNeg, eq_self, ne_eq, Int64.reduceAdd, Int64.reduceSub, Int64.reduceMul, Int64.reduceLT, n1_0, bI_t, bI_f, rat_yes hz g e1, g1]
      exact h0 (Or.inr (fun z => z.1 g1))
    by_cases g2 : 100 < x
    · simp only [M121, E121_0, E121_1, E121_4, E121_5, E121_8, E121_8n, E121_10, E121_10n, E121_12, E121_12n, E121_15, E121_16, E121_19, E121_20, E121_22, E121_25, E121_26, E121_29, E121_30, E121_32, E121_35, E121_37, E121_40, E121_42, E121_43, E121_46, E121_47, E121_48, E121_49, E121_49n, E121_51, E121_52, E121_53, E121_56, E121_58, E121_59, E121_62, E121_63, E121_66, E121_67, E121_69, E121_72, E121_73, E121_74, E121_77, E121_80, E121_81, E121_82, E121_85, E121_86, E121_89, E121_89n, E121_91, E121_92, E121_95, E121_96, E121_97, E121_98, E121_101, E121_104, E121_107, pk4 hS, pk5 hS, pk27 hS, pl27 hS, pa27 hS, pi27 hS, pk38 hS, pl38 hS, pa38 hS, pi38 hS, pr4_0 hR, pr4_7 hR, pr4_8 hR, pr4_9 hR, pr26_1 hR, rfs, rfn, cs0, csi, csl, csr, csn, kti, ktl, ktr, ktn, ktv, ktf, true_and, and_true, and_self, ↓reduceIte, Nat.reduceAdd, Nat.reduceSub, Nat.reduceMul, Nat.reduceLT, Nat.reduceLeDiff, Nat.reduceEqDiff, true_or, or_true, false_or, or_false, not_true_eq_false, not_false_eq_true, reduceCtorEq, cmp_lt, cmp_gt, cmp_eq, Int32.reduceAdd, Int32.reduceSub, Int32.reduceMul, Int32.reduceLT, Int32.reduceToNatClampNeg, eq_self, ne_eq, Int64.reduceAdd, Int64.reduceSub, Int64.reduceMul, Int64.reduceLT, n1_0, bI_t, bI_f, rat_yes hz g e1, g1, g2]
      exact h0 (Or.inr (fun z => z.2.1 g2))
    by_cases g3 : y < 0
    · simp only [M121, E121_0, E121_1, E121_4, E121_5, E121_8, E121_8n, E121_10, E121_10n, E121_12, E121_12n, E121_15, E121_16, E121_19, E121_20, E121_22, E121_25, E121_26, E121_29, E121_30, E121_32, E121_35, E121_37, E121_40, E121_42, E121_43, E121_46, E121_47, E121_48, E121_49, E121_49n, E121_51, E121_52, E121_53, E121_56, E121_58, E121_59, E121_62, E121_63, E121_66, E121_67, E121_69, E121_72, E121_73, E121_74, E121_77, E121_80, E121_81, E121_82, E121_85, E121_86, E121_89, E121_89n, E121_91, E121_92, E121_95, E121_96, E121_97, E121_98, E121_101, E121_104, E121_107, pk4 hS, pk5 hS, pk27 hS, pl27 hS, pa27 hS, pi27 hS, pk38 hS, pl38 hS, pa38 hS, pi38 hS, pr4_0 hR, pr4_7 hR, pr4_8 hR, pr4_9 hR, pr26_1 hR, rfs, rfn, cs0, csi, csl, csr, csn, kti, ktl, ktr, ktn, ktv, ktf, true_and, and_true, and_self, ↓reduceIte, Nat.reduceAdd, Nat.reduceSub, Nat.reduceMul, Nat.reduceLT, Nat.reduceLeDiff, Nat.reduceEqDiff, true_or, or_true, false_or, or_false, not_true_eq_false, not_false_eq_true, reduceCtorEq, cmp_lt, cmp_gt, cmp_eq, Int32.reduceAdd, Int32.reduceSub, Int32.reduceMul, Int32.reduceLT, Int32.reduceToNatClampNeg, eq_self, ne_eq, Int64.reduceAdd, Int64.reduceSub, Int64.reduceMul, Int64.reduceLT, n1_0, bI_t, bI_f, rat_yes hz g e1, g1, g2, g3]
      exact h0 (Or.inr (fun z => z.2.2.1 g3))
    by_cases g4 : 1000000 < y
    · simp only [M121, E121_0, E121_1, E121_4, E121_5, E121_8, E121_8n, E121_10, E121_10n, E121_12, E121_12n, E121_15, E121_16, E121_19, E121_20, E121_22, E121_25, E121_26, E121_29, E121_30, E121_32, E121_35, E121_37, E121_40, E121_42, E121_43, E121_46, E121_47, E121_48, E121_49, E121_49n, E121_51, E121_52, E121_53, E121_56, E121_58, E121_59, E121_62, E121_63, E121_66, E121_67, E121_69, E121_72, E121_73, E121_74, E121_77, E121_80, E121_81, E121_82, E121_85, E121_86, E121_89, E121_89n, E121_91, E121_92, E121_95, E121_96, E121_97, E121_98, E121_101, E121_104, E121_107, pk4 hS, pk5 hS, pk27 hS, pl27 hS, pa27 hS, pi27 hS, pk38 hS, pl38 hS, pa38 hS, pi38 hS, pr4_0 hR, pr4_7 hR, pr4_8 hR, pr4_9 hR, pr26_1 hR, rfs, rfn, cs0, csi, csl, csr, csn, kti, ktl, ktr, ktn, ktv, ktf, true_and, and_true, and_self, ↓reduceIte, Nat.reduceAdd, Nat.reduceSub, Nat.reduceMul, Nat.reduceLT, Nat.reduceLeDiff, Nat.reduceEqDiff, true_or, or_true, false_or, or_false, not_true_eq_false, not_false_eq_true, reduceCtorEq, cmp_lt, cmp_gt, cmp_eq, Int32.reduceAdd, Int32.reduceSub, Int32.reduceMul, Int32.reduceLT, Int32.reduceToNatClampNeg, eq_self, ne_eq, Int64.reduceAdd, Int64.reduceSub, Int64.reduceMul, Int64.reduceLT, n1_0, bI_t, bI_f, rat_yes hz g e1, g1, g2, g3, g4]
      exact h0 (Or.inr (fun z => z.2.2.2.1 g4))
    by_cases g5 : w < 0
    · simp only [M121, E121_0, E121_1, E121_4, E121_5, E121_8, E121_8n, E121_10, E121_10n, E121_12, E121_12n, E121_15, E121_16, E121_19, E121_20, E121_22, E121_25, E121_26, E121_29, E121_30, E121_32, E121_35, E121_37, E121_40, E121_42, E121_43, E121_46, E121_47, E121_48, E121_49, E121_49n, E121_51, E121_52, E121_53, E121_56, E121_58, E121_59, E121_62, E121_63, E121_66, E121_67, E121_69, E121_72, E121_73, E121_74, E121_77, E121_80, E121_81, E121_82, E121_85, E121_86, E121_89, E121_89n, E121_91, E121_92, E121_95, E121_96, E121_97, E121_98, E121_101, E121_104, E121_107, pk4 hS, pk5 hS, pk27 hS, pl27 hS, pa27 hS, pi27 hS, pk38 hS, pl38 hS, pa38 hS, pi38 hS, pr4_0 hR, pr4_7 hR, pr4_8 hR, pr4_9 hR, pr26_1 hR, rfs, rfn, cs0, csi, csl, csr, csn, kti, ktl, ktr, ktn, ktv, ktf, true_and, and_true, and_self, ↓reduceIte, Nat.reduceAdd, Nat.reduceSub, Nat.reduceMul, Nat.reduceLT, Nat.reduceLeDiff, Nat.reduceEqDiff, true_or, or_true, false_or, or_false, not_true_eq_false, not_false_eq_true, reduceCtorEq, cmp_lt, cmp_gt, cmp_eq, Int32.reduceAdd, Int32.reduceSub, Int32.reduceMul, Int32.reduceLT, Int32.reduceToNatClampNeg, eq_self, ne_eq, Int64.reduceAdd, Int64.reduceSub, Int64.reduceMul, Int64.reduceLT, n1_0, bI_t, bI_f, rat_yes hz g e1, g1, g2, g3, g4, g5]
      exact h0 (Or.inr (fun z => z.2.2.2.2.1 g5))
    by_cases g6 : 2 < w
    · simp only [M121, E121_0, E121_1, E121_4, E121_5, E121_8, E121_8n, E121_10, E121_10n, E121_12, E121_12n, E121_15, E121_16, E121_19, E121_20, E121_22, E121_25, E121_26, E121_29, E121_30, E121_32, E121_35, E121_37, E121_40, E121_42, E121_43, E121_46, E121_47, E121_48, E121_49, E121_49n, E121_51, E121_52, E121_53, E121_56, E121_58, E121_59, E121_62, E121_63, E121_66, E121_67, E121_69, E121_72, E121_73, E121_74, E121_77, E121_80, E121_81, E121_82, E121_85, E121_86, E121_89, E121_89n, E121_91, E121_92, E121_95, E121_96, E121_97, E121_98, E121_101, E121_104, E121_107, pk4 hS, pk5 hS, pk27 hS, pl27 hS, pa27 hS, pi27 hS, pk38 hS, pl38 hS, pa38 hS, pi38 hS, pr4_0 hR, pr4_7 hR, pr4_8 hR, pr4_9 hR, pr26_1 hR, rfs, rfn, cs0, csi, csl, csr, csn, kti, ktl, ktr, ktn, ktv, ktf, true_and, and_true, and_self, ↓reduceIte, Nat.reduceAdd, Nat.reduceSub, Nat.reduceMul, Nat.reduceLT, Nat.reduceLeDiff, Nat.reduceEqDiff, true_or, or_true, false_or, or_false, not_true_eq_false, not_false_eq_true, reduceCtorEq, cmp_lt, cmp_gt, cmp_eq, Int32.reduceAdd, Int32.reduceSub, Int32.reduceMul, Int32.reduceLT, Int32.reduceToNatClampNeg, eq_self, ne_eq, Int64.reduceAdd, Int64.reduceSub, Int64.reduceMul, Int64.reduceLT, n1_0, bI_t, bI_f, rat_yes hz g e1, g1, g2, g3, g4, g5, g6]
      exact h0 (Or.inr (fun z => z.2.2.2.2.2 g6))
    have fin := h1 q n k1 k2 k3 m g ⟨g1, g2, g3, g4, g5, g6⟩ e1 e2 e3 e4
    have hJ : Gt I (twH n k1 k2 k3 m I x y) := fun a h1 h2 => by
      unfold twH
      rw [pt_n (by omega), pt_n (by omega)]
      exact (Gt.tw 12 0 _ (Gt.gu (fun _ _ _ => rfl) ((Gu.rf.pt (by omega) (by omega)).pt (by omega) (by omega)))) a h1 h2
    simp only [M121, E121_0, E121_1, E121_4, E121_5, E121_8, E121_8n, E121_10, E121_10n, E121_12, E121_12n, E121_15, E121_16, E121_19, E121_20, E121_22, E121_25, E121_26, E121_29, E121_30, E121_32, E121_35, E121_37, E121_40, E121_42, E121_43, E121_46, E121_47, E121_48, E121_49, E121_49n, E121_51, E121_52, E121_53, E121_58, E121_59, E121_62, E121_63, E121_66, E121_67, E121_69, E121_72, E121_73, E121_74, E121_77, E121_80, E121_81, E121_82, E121_85, E121_86, E121_89, E121_89n, E121_91, E121_92, E121_95, E121_96, E121_97, E121_98, E121_101, E121_104, E121_107, pk4 hS, pk5 hS, pk27 hS, pl27 hS, pa27 hS, pi27 hS, pk38 hS, pl38 hS, pa38 hS, pi38 hS, pr4_0 hR, pr4_7 hR, pr4_8 hR, pr4_9 hR, pr26_1 hR, rfs, rfn, cs0, csi, csl, csr, csn, kti, ktl, ktr, ktn, ktv, ktf, true_and, and_true, and_self, ↓reduceIte, Nat.reduceAdd, Nat.reduceSub, Nat.reduceMul, Nat.reduceLT, Nat.reduceLeDiff, Nat.reduceEqDiff, true_or, or_true, false_or, or_false, not_true_eq_false, not_false_eq_true, reduceCtorEq, cmp_lt, cmp_gt, cmp_eq, Int32.reduceAdd, Int32.reduceSub, Int32.reduceMul, Int32.reduceLT, Int32.reduceToNatClampNeg, eq_self, ne_eq, Int64.reduceAdd, Int64.reduceSub, Int64.reduceMul, Int64.reduceLT, n1_0, bI_t, bI_f, rat_yes hz g e1, g1, g2, g3, g4, g5, g6]
    refine mkTE (d := d) hS hR e2 e4 e6 e3 ?_
    generalize twH n k1 k2 k3 m I x y = J at fin hJ ⊢
    unfold twV twJ at fin
    by_cases g7 : w = 1
    · rw [if_pos g7, if_pos g7] at fin
      simp only [E121_0, E121_1, E121_4, E121_5, E121_8, E121_8n, E121_10, E121_10n, E121_12, E121_12n, E121_15, E121_16, E121_19, E121_20, E121_22, E121_25, E121_26, E121_29, E121_30, E121_32, E121_35, E121_37, E121_40, E121_42, E121_43, E121_46, E121_47, E121_48, E121_49, E121_49n, E121_51, E121_52, E121_53, E121_56, E121_58, E121_59, E121_62, E121_63, E121_66, E121_67, E121_69, E121_72, E121_73, E121_74, E121_77, E121_80, E121_81, E121_82, E121_85, E121_86, E121_89, E121_89n, E121_91, E121_92, E121_95, E121_96, E121_97, E121_98, E121_101, E121_104, E121_107, pk4 hS, pk5 hS, pk27 hS, pl27 hS, pa27 hS, pi27 hS, pk38 hS, pl38 hS, pa38 hS, pi38 hS, pr4_0 hR, pr4_7 hR, pr4_8 hR, pr4_9 hR, pr26_1 hR, rfs, rfn, cs0, csi, csl, csr, csn, kti, ktl, ktr, ktn, ktv, ktf, true_and, and_true, and_self, ↓reduceIte, Nat.reduceAdd, Nat.reduceSub, Nat.reduceMul, Nat.reduceLT, Nat.reduceLeDiff, Nat.reduceEqDiff, true_or, or_true, false_or, or_false, not_true_eq_false, not_false_eq_true, reduceCtorEq, cmp_lt, cmp_gt, cmp_eq, Int32.reduceAdd, Int32.reduceSub, Int32.reduceMul, Int32.reduceLT, Int32.reduceToNatClampNeg, eq_self, ne_eq, Int64.reduceAdd, Int64.reduceSub, Int64.reduceMul, Int64.reduceLT, n1_0, bI_t, bI_f, g7]
      exact widE hS hR (by rw [E121_66]; exact fin)
    rw [if_neg g7, if_neg g7] at fin
    by_cases g8 : w = 0
    · rw [if_pos g8, if_pos g8] at fin
      simp only [E121_0, E121_1, E121_4, E121_5, E121_8, E121_8n, E121_10, E121_10n, E121_12, E121_12n, E121_15, E121_16, E121_19, E121_20, E121_22, E121_25, E121_26, E121_29, E121_30, E121_32, E121_35, E121_37, E121_40, E121_42, E121_43, E121_46, E121_47, E121_48, E121_49, E121_49n, E121_51, E121_52, E121_53, E121_56, E121_58, E121_59, E121_62, E121_63, E121_66, E121_67, E121_69, E121_72, E121_73, E121_74, E121_77, E121_80, E121_81, E121_82, E121_85, E121_86, E121_89, E121_89n, E121_91, E121_92, E121_95, E121_96, E121_97, E121_98, E121_101, E121_104, E121_107, pk4 hS, pk5 hS, pk27 hS, pl27 hS, pa27 hS, pi27 hS, pk38 hS, pl38 hS, pa38 hS, pi38 hS, pr4_0 hR, pr4_7 hR, pr4_8 hR, pr4_9 hR, pr26_1 hR, rfs, rfn, cs0, csi, csl, csr, csn, kti, ktl, ktr, ktn, ktv, ktf, true_and, and_true, and_self, ↓reduceIte, Nat.reduceAdd, Nat.reduceSub, Nat.reduceMul, Nat.reduceLT, Nat.reduceLeDiff, Nat.reduceEqDiff, true_or, or_true, false_or, or_false, not_true_eq_false, not_false_eq_true, reduceCtorEq, cmp_lt, cmp_gt, cmp_eq, Int32.reduceAdd, Int32.reduceSub, Int32.reduceMul, Int32.reduceLT, Int32.reduceToNatClampNeg, eq_self, ne_eq, Int64.reduceAdd, Int64.reduceSub, Int64.reduceMul, Int64.reduceLT, n1_0, bI_t, bI_f, g7, g8]
      first
      | exact manE hS hR (of_eq_true (pk38 hS)) (pl38 hS) (by decide) (by decide) (by rw [E121_80]; exact fin)
      | (simp only [show ((0 : Int32) = 1) = False by decide, E121_0, E121_1, E121_4, E121_5, E121_8, E121_8n, E121_10, E121_10n, E121_12, E121_12n, E121_15, E121_16, E121_19, E121_20, E121_22, E121_25, E121_26, E121_29, E121_30, E121_32, E121_35, E121_37, E121_40, E121_42, E121_43, E121_46, E121_47, E121_48, E121_49, E121_49n, E121_51, E121_52, E121_53, E121_56, E121_58, E121_59, E121_62, E121_63, E121_66, E121_67, E121_69, E121_72, E121_73, E121_74, E121_77, E121_80, E121_81, E121_82, E121_85, E121_86, E121_89, E121_89n, E121_91, E121_92, E121_95, E121_96, E121_97, E121_98, E121_101, E121_104, E121_107, pk4 hS, pk5 hS, pk27 hS, pl27 hS, pa27 hS, pi27 hS, pk38 hS, pl38 hS, pa38 hS, pi38 hS, pr4_0 hR, pr4_7 hR, pr4_8 hR, pr4_9 hR, pr26_1 hR, rfs, rfn, cs0, csi, csl, csr, csn, kti, ktl, ktr, ktn, ktv, ktf, true_and, and_true, and_self, ↓reduceIte, Nat.reduceAdd, Nat.reduceSub, Nat.reduceMul, Nat.reduceLT, Nat.reduceLeDiff, Nat.reduceEqDiff, true_or, or_true, false_or, or_false, not_true_eq_false, not_false_eq_true, reduceCtorEq, cmp_lt, cmp_gt, cmp_eq, Int32.reduceAdd, Int32.reduceSub, Int32.reduceMul, Int32.reduceLT, Int32.reduceToNatClampNeg, eq_self, ne_eq, Int64.reduceAdd, Int64.reduceSub, Int64.reduceMul, Int64.reduceLT, n1_0, bI_t, bI_f]; exact manE hS hR (of_eq_true (pk38 hS)) (pl38 hS) (by decide) (by decide) (by rw [E121_80]; exact fin))
    · rw [if_neg g8, if_neg g8] at fin
      have c1 := fun Q => car (d := d + 1) (w := -1) (I := J) (L := L) (Q := Q) t1 hz e2 (Or.inr (by omega)) (Or.inr (by omega)) (by rw [hJ q (Or.inr (by omega)) (by omega)]; exact e3)
      simp only [E121_0, E121_1, E121_4, E121_5, E121_8, E121_8n, E121_10, E121_10n, E121_12, E121_12n, E121_15, E121_16, E121_19, E121_20, E121_22, E121_25, E121_26, E121_29, E121_30, E121_32, E121_35, E121_37, E121_40, E121_42, E121_43, E121_46, E121_47, E121_48, E121_49, E121_49n, E121_51, E121_52, E121_53, E121_56, E121_58, E121_59, E121_62, E121_63, E121_66, E121_67, E121_69, E121_72, E121_73, E121_74, E121_77, E121_80, E121_81, E121_82, E121_85, E121_86, E121_89, E121_89n, E121_91, E121_92, E121_95, E121_96, E121_97, E121_98, E121_101, E121_104, E121_107, pk4 hS, pk5 hS, pk27 hS, pl27 hS, pa27 hS, pi27 hS, pk38 hS, pl38 hS, pa38 hS, pi38 hS, pr4_0 hR, pr4_7 hR, pr4_8 hR, pr4_9 hR, pr26_1 hR, rfs, rfn, cs0, csi, csl, csr, csn, kti, ktl, ktr, ktn, ktv, ktf, true_and, and_true, and_self, ↓reduceIte, Nat.reduceAdd, Nat.reduceSub, Nat.reduceMul, Nat.reduceLT, Nat.reduceLeDiff, Nat.reduceEqDiff, true_or, or_true, false_or, or_false, not_true_eq_false, not_false_eq_true, reduceCtorEq, cmp_lt, cmp_gt, cmp_eq, Int32.reduceAdd, Int32.reduceSub, Int32.reduceMul, Int32.reduceLT, Int32.reduceToNatClampNeg, eq_self, ne_eq, Int64.reduceAdd, Int64.reduceSub, Int64.reduceMul, Int64.reduceLT, n1_0, bI_t, bI_f, g7, g8, t1.1, c1]
      exact manE hS hR (of_eq_true (pk27 hS)) (pl27 hS) (by decide) (by decide) (by rw [E121_107]; exact fin)
end CA
