theorem law_e {d : Nat} {S : mS} (h0 : okA S 0) (hl : S.2.2.2 0 = 6) (h1 : S.1 ≤ 600004) (h2 : S.2.1 ≤ 7302250) (I : mI) (L : mL) (R : mR) : Ev (d + 20) 248 922 [.ref 0, .ref 4, .ref 54, .int 0] [] S I L R lawQ = True := by
  have e6 : nI 6 = 6 := rfl
  simp only [E248_922, E248_925, E248_18, E248_19, E248_20, E248_21, E248_23, E248_24, E248_928, E248_929, h0, hl, e6, rfs, rfn, cs0, csi, csl, csr, csn, kti, ktl, ktr, ktn, ktv, ktf, true_and, and_true, and_self, ↓reduceIte, Nat.reduceAdd, Nat.reduceSub, Nat.reduceMul, Nat.reduceLT, Nat.reduceLeDiff, Nat.reduceEqDiff, true_or, or_true, false_or, or_false, not_true_eq_false, not_false_eq_true, reduceCtorEq, cmp_lt, cmp_gt, cmp_eq, Int32.reduceAdd, Int32.reduceSub, Int32.reduceMul, Int32.reduceLT, Int32.reduceToNatClampNeg, eq_self, ne_eq, Int64.reduceAdd, Int64.reduceSub, Int64.reduceMul, Int64.reduceLT, lawQ]
  exact eq_true ⟨h1, h2⟩
@[congr] theorem ev_cg {d j pc pc' : Nat} {ls ls' st st' : List Value} {S S' : mS} {I I' : mI} {L L' : mL} {R R' : mR} {Q : mQ} (h1 : pc = pc') (h2 : ls = ls') (h3 : st = st') (h4 : S = S') (h5 : I = I') (h6 : L = L') (h7 : R = R') : Ev d j pc ls st S I L R Q = Ev d j pc' ls' st' S' I' L' R' Q := by
  subst h1 h2 h3 h4 h5 h6 h7
  rfl
@[congr] theorem evm_cg {d j : Nat} {as as' : List Value} {S S' : mS} {I I' : mI} {L L' : mL} {R R' : mR} {Q : mQ} (h3 : as = as') (h4 : S = S') (h5 : I = I') (h6 : L = L') (h7 : R = R') : EvM d j as S I L R Q = EvM d j as' S' I' L' R' Q := by
  subst h3 h4 h5 h6 h7
  rfl
