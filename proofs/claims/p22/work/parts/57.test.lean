/-! class Reader: tests -/
theorem evm_eq {d j : Nat} {as : List Value} {S S' : mS} {I I' : mI} {L L' : mL} {R R' : mR} {v : Value} (h : ∀ Q : mQ, Q v S' I' L' R' → EvM d j as S I L R Q) (Q : mQ) : EvM d j as S I L R Q = Q v S' I' L' R' := propext ⟨fun k => by
  obtain ⟨_, n, r, hr, hq⟩ := k
  obtain ⟨_, m, r2, hr2, hq2⟩ := h (fun v2 S2 I2 L2 R2 => (v2, S2, I2, L2, R2) = (v, S', I', L', R')) rfl
  have e := run_one hr hr2
  subst e
  obtain ⟨a, b, c, d, e⟩ := r
  cases hq2
  exact hq, h Q⟩
def notL : Nat → mI → Bool → mI × Bool
  | 0, I, t => (I, t)
  | n + 1, I, t => if seeB I (-7) = true then notL n (advF I) (!t) else (I, t)
def sgn (I : mI) : Int32 := if seeB I (-160) = true then -10 else if seeB I (-162) = true then -11 else -12
def sgt (I : mI) : Int32 := if seeB I (-160) = true then -160 else if seeB I (-162) = true then -162 else -161
def plainK (t s : mI → mI) (I : mI) : mI := if seeB I (-140) = true then (if entB I 40 = true then takF (decB (t (entF I 40))) (-141) else entF I 40) else emiF (s (takF (s I) (sgt (s I)))) (sgn (s I))
def plainG (t s : mI → mI) (I : mI) : mI := if (notL 400 I false).2 = true then emiF (plainK t s (notL 400 I false).1) (-7) else plainK t s (notL 400 I false).1
def andL (p : mI → mI) : Nat → mI → mI
  | 0, I => I
  | n + 1, I => if seeB I (-6) = true then andL p n (emiF (p (advF I)) (-13)) else I
def orK (p : mI → mI) (i : Nat) (I : mI) : mI := if 0 < nI i then emiF (andL p 400 (p I)) (-14) else andL p 400 (p I)
def orL (p : mI → mI) : Nat → Nat → mI → mI
  | 0, _, I => I
  | n + 1, i, I => if seeB (orK p i I) (-5) = true then orL p n (i + 1) (advF (orK p i I)) else put (orK p i I) 14 8 (orK p i I 14 8 + 0)
def testF (p : mI → mI) (I : mI) : mI := orL p 400 0 I
def plainF : Nat → mI → mI
  | 0 => plainG id (sumF (partF 0))
  | b + 1 => plainG (testF (plainF b)) (sumF (partF (b + 1)))
theorem notL_k : ∀ (n : Nat) (I : mI) (t : Bool), RdK I (notL n I t).1
  | 0, _, _ => RdK.rf
  | n + 1, I, t => by
    unfold notL
    split
    · exact RdK.rf.ad.tr (notL_k n _ _)
    · exact RdK.rf
theorem plainK_k {t s : mI → mI} (ht : ∀ I, RdK I (t I)) (hs : ∀ I, RdK I (s I)) (I : mI) : RdK I (plainK t s I) := by
  unfold plainK
  split
  · split
    · exact (RdK.rf.nest ht (by assumption)).ta
    · exact ent_no RdK.rf (Bool.eq_false_iff.mpr (by assumption))
  · exact ((hs I).ta.tr (hs _)).em
theorem plainG_k {t s : mI → mI} (ht : ∀ I, RdK I (t I)) (hs : ∀ I, RdK I (s I)) (I : mI) : RdK I (plainG t s I) := by
  unfold plainG
  split
  · exact ((notL_k _ _ _).tr (plainK_k ht hs _)).em
  · exact (notL_k _ _ _).tr (plainK_k ht hs _)
theorem andL_k {p : mI → mI} (hp : ∀ I, RdK I (p I)) : ∀ (n : Nat) (I : mI), RdK I (andL p n I)
  | 0, _ => RdK.rf
  | n + 1, I => by
    unfold andL
    split
    · exact (RdK.rf.ad.tr (hp _)).em.tr (andL_k hp n _)
    · exact RdK.rf
theorem orK_k {p : mI → mI} (hp : ∀ I, RdK I (p I)) (i : Nat) (I : mI) : RdK I (orK p i I) := by
  unfold orK
  split
  · exact ((hp I).tr (andL_k hp _ _)).em
  · exact (hp I).tr (andL_k hp _ _)
theorem orL_k {p : mI → mI} (hp : ∀ I, RdK I (p I)) : ∀ (n i : Nat) (I : mI), RdK I (orL p n i I)
  | 0, _, _ => RdK.rf
  | n + 1, i, I => by
    unfold orL
    split
    · exact (orK_k hp i I).ad.tr (orL_k hp n _ _)
    · exact (orK_k hp i I).pk (by decide) (by decide)
theorem testF_k {p : mI → mI} (hp : ∀ I, RdK I (p I)) (I : mI) : RdK I (testF p I) := orL_k hp _ _ _
theorem plainF_k : ∀ (b : Nat) (I : mI), RdK I (plainF b I)
  | 0, I => plainG_k (fun _ => RdK.rf) (sumF_k (partF_k 0)) I
  | b + 1, I => plainG_k (testF_k (plainF_k b)) (sumF_k (partF_k (b + 1))) I
section RD
variable {D : Nat} {S : mS} {R : mR}
theorem not_lp (hS : Pm S) (hR : Pr R) {L : mL} {Q : mQ} : ∀ (n i : Nat) (t : Bool) (I : mI), i + n = 400 → (∀ y : Value, Ev (D + 2) 56 46 [.ref 14, .int (bI (notL n I t).2), y] [] S (notL n I t).1 L R Q) → Ev (D + 2) 56 4 [.ref 14, .int (bI t), .int (nI i)] [] S I L R Q := by
  intro n
  induction n with
  | zero =>
    intro i t I hi hq
    obtain rfl : i = 400 := by omega
    have e : (nI 400 < (400 : Int32)) = False := eq_false (by decide)
    rw [E56_4]
    simp only [E56_0, E56_1, E56_2, E56_3, E56_5, E56_8, E56_11, E56_12, E56_14, E56_17, E56_20, E56_21, E56_22, E56_25, E56_26, E56_27, E56_30, E56_31, E56_34, E56_35, E56_38, E56_39, E56_40, E56_43, E56_47, E56_50, E56_53, E56_56, E56_57, E56_59, E56_62, E56_65, E56_66, E56_69, E56_70, E56_71, E56_74, E56_75, E56_76, E56_79, E56_80, E56_83, E56_86, E56_89, E56_90, E56_93, E56_94, E56_97, E56_100, E56_103, E56_105, E56_108, E56_109, E56_112, E56_115, E56_118, E56_120, E56_123, E56_125, E56_126, E56_127, E56_128, E56_130, E56_133, E56_136, E56_139, E56_140, E56_142, E56_145, E56_148, E56_151, E56_154, E56_157, E56_158, E56_161, E56_162, E56_163, E56_166, E56_167, E56_170, E56_171, E56_173, E56_176, pk14 hS, pk15 hS, pl15 hS, pa15 hS, pi15 hS, pk16 hS, pl16 hS, pa16 hS, pi16 hS, pk17 hS, pl17 hS, pa17 hS, pi17 hS, pk18 hS, pl18 hS, pa18 hS, pi18 hS, pk19 hS, pl19 hS, pa19 hS, pi19 hS, pr14_0 hR, pr14_2 hR, pr14_3 hR, pr14_6 hR, pr14_7 hR, rfs, rfn, cs0, csi, csl, csr, csn, kti, ktl, ktr, ktn, ktv, ktf, true_and, and_true, and_self, ↓reduceIte, Nat.reduceAdd, Nat.reduceSub, Nat.reduceMul, Nat.reduceLT, Nat.reduceLeDiff, Nat.reduceEqDiff, true_or, or_true, false_or, or_false, not_true_eq_false, not_false_eq_true, reduceCtorEq, cmp_lt, cmp_gt, cmp_eq, Int32.reduceAdd, Int32.reduceSub, Int32.reduceMul, Int32.reduceLT, Int32.reduceToNatClampNeg, eq_self, ne_eq, Int64.reduceAdd, Int64.reduceSub, Int64.reduceMul, Int64.reduceLT, n1_0, bI_t, bI_f, Bool.false_eq_true, pt, e]
    exact hq _
  | succ n ih =>
    intro i t I hi hq
    have e1 : (nI i < (400 : Int32)) = True := eq_true (nI_lt (a := i) (b := 400) (by omega) (by decide))
    have ea : put I 14 8 (I 14 8 + 1) = advF I := rfl
    unfold notL at hq
    rw [E56_4]
    cases g1 : seeB I (-7) with
    | true =>
      rw [if_pos g1] at hq
      have k := ih (i + 1) (!t) (advF I) (by omega) hq
      cases t with
      | true =>
        simp only [E56_0, E56_1, E56_2, E56_3, E56_5, E56_8, E56_11, E56_12, E56_14, E56_17, E56_20, E56_21, E56_22, E56_25, E56_26, E56_27, E56_30, E56_31, E56_34, E56_35, E56_38, E56_39, E56_40, E56_43, E56_47, E56_50, E56_53, E56_56, E56_57, E56_59, E56_62, E56_65, E56_66, E56_69, E56_70, E56_71, E56_74, E56_75, E56_76, E56_79, E56_80, E56_83, E56_86, E56_89, E56_90, E56_93, E56_94, E56_97, E56_100, E56_103, E56_105, E56_108, E56_109, E56_112, E56_115, E56_118, E56_120, E56_123, E56_125, E56_126, E56_127, E56_128, E56_130, E56_133, E56_136, E56_139, E56_140, E56_142, E56_145, E56_148, E56_151, E56_154, E56_157, E56_158, E56_161, E56_162, E56_163, E56_166, E56_167, E56_170, E56_171, E56_173, E56_176, pk14 hS, pk15 hS, pl15 hS, pa15 hS, pi15 hS, pk16 hS, pl16 hS, pa16 hS, pi16 hS, pk17 hS, pl17 hS, pa17 hS, pi17 hS, pk18 hS, pl18 hS, pa18 hS, pi18 hS, pk19 hS, pl19 hS, pa19 hS, pi19 hS, pr14_0 hR, pr14_2 hR, pr14_3 hR, pr14_6 hR, pr14_7 hR, rfs, rfn, cs0, csi, csl, csr, csn, kti, ktl, ktr, ktn, ktv, ktf, true_and, and_true, and_self, ↓reduceIte, Nat.reduceAdd, Nat.reduceSub, Nat.reduceMul, Nat.reduceLT, Nat.reduceLeDiff, Nat.reduceEqDiff, true_or, or_true, false_or, or_false, not_true_eq_false, not_false_eq_true, reduceCtorEq, cmp_lt, cmp_gt, cmp_eq, Int32.reduceAdd, Int32.reduceSub, Int32.reduceMul, Int32.reduceLT, Int32.reduceToNatClampNeg, eq_self, ne_eq, Int64.reduceAdd, Int64.reduceSub, Int64.reduceMul, Int64.reduceLT, n1_0, bI_t, bI_f, Bool.false_eq_true, pt, e1, see hS hR, g1, ea, nI_1]
        exact k
      | false =>
        simp only [E56_0, E56_1, E56_2, E56_3, E56_5, E56_8, E56_11, E56_12, E56_14, E56_17, E56_20, E56_21, E56_22, E56_25, E56_26, E56_27, E56_30, E56_31, E56_34, E56_35, E56_38, E56_39, E56_40, E56_43, E56_47, E56_50, E56_53, E56_56, E56_57, E56_59, E56_62, E56_65, E56_66, E56_69, E56_70, E56_71, E56_74, E56_75, E56_76, E56_79, E56_80, E56_83, E56_86, E56_89, E56_90, E56_93, E56_94, E56_97, E56_100, E56_103, E56_105, E56_108, E56_109, E56_112, E56_115, E56_118, E56_120, E56_123, E56_125, E56_126, E56_127, E56_128, E56_130, E56_133, E56_136, E56_139, E56_140, E56_142, E56_145, E56_148, E56_151, E56_154, E56_157, E56_158, E56_161, E56_162, E56_163, E56_166, E56_167, E56_170, E56_171, E56_173, E56_176, pk14 hS, pk15 hS, pl15 hS, pa15 hS, pi15 hS, pk16 hS, pl16 hS, pa16 hS, pi16 hS, pk17 hS, pl17 hS, pa17 hS, pi17 hS, pk18 hS, pl18 hS, pa18 hS, pi18 hS, pk19 hS, pl19 hS, pa19 hS, pi19 hS, pr14_0 hR, pr14_2 hR, pr14_3 hR, pr14_6 hR, pr14_7 hR, rfs, rfn, cs0, csi, csl, csr, csn, kti, ktl, ktr, ktn, ktv, ktf, true_and, and_true, and_self, ↓reduceIte, Nat.reduceAdd, Nat.reduceSub, Nat.reduceMul, Nat.reduceLT, Nat.reduceLeDiff, Nat.reduceEqDiff, true_or, or_true, false_or, or_false, not_true_eq_false, not_false_eq_true, reduceCtorEq, cmp_lt, cmp_gt, cmp_eq, Int32.reduceAdd, Int32.reduceSub, Int32.reduceMul, Int32.reduceLT, Int32.reduceToNatClampNeg, eq_self, ne_eq, Int64.reduceAdd, Int64.reduceSub, Int64.reduceMul, Int64.reduceLT, n1_0, bI_t, bI_f, Bool.false_eq_true, pt, e1, see hS hR, g1, ea, nI_1]
        exact k
    | false =>
      rw [if_neg (by rw [g1]; decide)] at hq
      simp only [E56_0, E56_1, E56_2, E56_3, E56_5, E56_8, E56_11, E56_12, E56_14, E56_17, E56_20, E56_21, E56_22, E56_25, E56_26, E56_27, E56_30, E56_31, E56_34, E56_35, E56_38, E56_39, E56_40, E56_43, E56_47, E56_50, E56_53, E56_56, E56_57, E56_59, E56_62, E56_65, E56_66, E56_69, E56_70, E56_71, E56_74, E56_75, E56_76, E56_79, E56_80, E56_83, E56_86, E56_89, E56_90, E56_93, E56_94, E56_97, E56_100, E56_103, E56_105, E56_108, E56_109, E56_112, E56_115, E56_118, E56_120, E56_123, E56_125, E56_126, E56_127, E56_128, E56_130, E56_133, E56_136, E56_139, E56_140, E56_142, E56_145, E56_148, E56_151, E56_154, E56_157, E56_158, E56_161, E56_162, E56_163, E56_166, E56_167, E56_170, E56_171, E56_173, E56_176, pk14 hS, pk15 hS, pl15 hS, pa15 hS, pi15 hS, pk16 hS, pl16 hS, pa16 hS, pi16 hS, pk17 hS, pl17 hS, pa17 hS, pi17 hS, pk18 hS, pl18 hS, pa18 hS, pi18 hS, pk19 hS, pl19 hS, pa19 hS, pi19 hS, pr14_0 hR, pr14_2 hR, pr14_3 hR, pr14_6 hR, pr14_7 hR, rfs, rfn, cs0, csi, csl, csr, csn, kti, ktl, ktr, ktn, ktv, ktf, true_and, and_true, and_self, ↓reduceIte, Nat.reduceAdd, Nat.reduceSub, Nat.reduceMul, Nat.reduceLT, Nat.reduceLeDiff, Nat.reduceEqDiff, true_or, or_true, false_or, or_false, not_true_eq_false, not_false_eq_true, reduceCtorEq, cmp_lt, cmp_gt, cmp_eq, Int32.reduceAdd, Int32.reduceSub, Int32.reduceMul, Int32.reduceLT, Int32.reduceToNatClampNeg, eq_self, ne_eq, Int64.reduceAdd, Int64.reduceSub, Int64.reduceMul, Int64.reduceLT, n1_0, bI_t, bI_f, Bool.false_eq_true, pt, e1, see hS hR, g1]
      exact hq _
theorem pla_k {t s : mI → mI} {x : Int32} (hS : Pm S) (hR : Pr R) (hk : ∀ I, RdK I (t I)) (hks : ∀ I, RdK I (s I)) (ht : x < 8 → ∀ (I : mI) (L : mL) (Q : mQ), Cl I → I 14 10 = x + 1 → EvM (D + 1) 55 [.ref 14] S I L R Q = Q .null S (t I) L R) (hs : ∀ (I : mI) (L : mL) (Q : mQ), Cl I → I 14 10 = x → EvM (D + 1) 57 [.ref 14] S I L R Q = Q .null S (s I) L R) {K : mI} {b : Bool} {y : Value} {L : mL} {Q : mQ} (hc : Cl K) (hx : K 14 10 = x) : Ev (D + 2) 56 46 [.ref 14, .int (bI b), y] [] S K L R Q = Q .null S (if b = true then emiF (plainK t s K) (-7) else plainK t s K) L R := by
  have last : ∀ (J : mI) (y : Value), J = plainK t s K → Ev (D + 2) 56 166 [.ref 14, .int (bI b), y] [] S J L R Q = Q .null S (if b = true then emiF (plainK t s K) (-7) else plainK t s K) L R := by
    intro J y hJ
    have m1 := emi (d := D) (L := L) (w := -7) (Q := fun v S I L R => Ev (D + 2) 56 176 [.ref 14, .int 1, y] [] S I L R Q) hS hR ((plainK_k hk hks K).2.2 hc)
    rw [hJ]
    cases b with
    | true =>
      simp only [E56_0, E56_1, E56_2, E56_3, E56_5, E56_8, E56_11, E56_12, E56_14, E56_17, E56_20, E56_21, E56_22, E56_25, E56_26, E56_27, E56_30, E56_31, E56_34, E56_35, E56_38, E56_39, E56_40, E56_43, E56_47, E56_50, E56_53, E56_56, E56_57, E56_59, E56_62, E56_65, E56_66, E56_69, E56_70, E56_71, E56_74, E56_75, E56_76, E56_79, E56_80, E56_83, E56_86, E56_89, E56_90, E56_93, E56_94, E56_97, E56_100, E56_103, E56_105, E56_108, E56_109, E56_112, E56_115, E56_118, E56_120, E56_123, E56_125, E56_126, E56_127, E56_128, E56_130, E56_133, E56_136, E56_139, E56_140, E56_142, E56_145, E56_148, E56_151, E56_154, E56_157, E56_158, E56_161, E56_162, E56_163, E56_166, E56_167, E56_170, E56_171, E56_173, pk14 hS, pk15 hS, pl15 hS, pa15 hS, pi15 hS, pk16 hS, pl16 hS, pa16 hS, pi16 hS, pk17 hS, pl17 hS, pa17 hS, pi17 hS, pk18 hS, pl18 hS, pa18 hS, pi18 hS, pk19 hS, pl19 hS, pa19 hS, pi19 hS, pr14_0 hR, pr14_2 hR, pr14_3 hR, pr14_6 hR, pr14_7 hR, rfs, rfn, cs0, csi, csl, csr, csn, kti, ktl, ktr, ktn, ktv, ktf, true_and, and_true, and_self, ↓reduceIte, Nat.reduceAdd, Nat.reduceSub, Nat.reduceMul, Nat.reduceLT, Nat.reduceLeDiff, Nat.reduceEqDiff, true_or, or_true, false_or, or_false, not_true_eq_false, not_false_eq_true, reduceCtorEq, cmp_lt, cmp_gt, cmp_eq, Int32.reduceAdd, Int32.reduceSub, Int32.reduceMul, Int32.reduceLT, Int32.reduceToNatClampNeg, eq_self, ne_eq, Int64.reduceAdd, Int64.reduceSub, Int64.reduceMul, Int64.reduceLT, n1_0, bI_t, bI_f, Bool.false_eq_true, pt, m1]
      simp only [E56_176, rfs, rfn, cs0, csi, csl, csr, csn, kti, ktl, ktr, ktn, ktv, ktf, true_and, and_true, and_self, ↓reduceIte, Nat.reduceAdd, Nat.reduceSub, Nat.reduceMul, Nat.reduceLT, Nat.reduceLeDiff, Nat.reduceEqDiff, true_or, or_true, false_or, or_false, not_true_eq_false, not_false_eq_true, reduceCtorEq, cmp_lt, cmp_gt, cmp_eq, Int32.reduceAdd, Int32.reduceSub, Int32.reduceMul, Int32.reduceLT, Int32.reduceToNatClampNeg, eq_self, ne_eq, Int64.reduceAdd, Int64.reduceSub, Int64.reduceMul, Int64.reduceLT]
    | false => simp only [E56_0, E56_1, E56_2, E56_3, E56_5, E56_8, E56_11, E56_12, E56_14, E56_17, E56_20, E56_21, E56_22, E56_25, E56_26, E56_27, E56_30, E56_31, E56_34, E56_35, E56_38, E56_39, E56_40, E56_43, E56_47, E56_50, E56_53, E56_56, E56_57, E56_59, E56_62, E56_65, E56_66, E56_69, E56_70, E56_71, E56_74, E56_75, E56_76, E56_79, E56_80, E56_83, E56_86, E56_89, E56_90, E56_93, E56_94, E56_97, E56_100, E56_103, E56_105, E56_108, E56_109, E56_112, E56_115, E56_118, E56_120, E56_123, E56_125, E56_126, E56_127, E56_128, E56_130, E56_133, E56_136, E56_139, E56_140, E56_142, E56_145, E56_148, E56_151, E56_154, E56_157, E56_158, E56_161, E56_162, E56_163, E56_166, E56_167, E56_170, E56_171, E56_173, E56_176, pk14 hS, pk15 hS, pl15 hS, pa15 hS, pi15 hS, pk16 hS, pl16 hS, pa16 hS, pi16 hS, pk17 hS, pl17 hS, pa17 hS, pi17 hS, pk18 hS, pl18 hS, pa18 hS, pi18 hS, pk19 hS, pl19 hS, pa19 hS, pi19 hS, pr14_0 hR, pr14_2 hR, pr14_3 hR, pr14_6 hR, pr14_7 hR, rfs, rfn, cs0, csi, csl, csr, csn, kti, ktl, ktr, ktn, ktv, ktf, true_and, and_true, and_self, ↓reduceIte, Nat.reduceAdd, Nat.reduceSub, Nat.reduceMul, Nat.reduceLT, Nat.reduceLeDiff, Nat.reduceEqDiff, true_or, or_true, false_or, or_false, not_true_eq_false, not_false_eq_true, reduceCtorEq, cmp_lt, cmp_gt, cmp_eq, Int32.reduceAdd, Int32.reduceSub, Int32.reduceMul, Int32.reduceLT, Int32.reduceToNatClampNeg, eq_self, ne_eq, Int64.reduceAdd, Int64.reduceSub, Int64.reduceMul, Int64.reduceLT, n1_0, bI_t, bI_f, Bool.false_eq_true, pt]
  have ed : ∀ J : mI, put J 14 10 (J 14 10 - 1) = decB J := fun _ => rfl
  cases g1 : seeB K (-140) with
  | true =>
    cases g2 : entB K 40 with
    | true =>
      have q := fun Q => ht (by rw [← hx]; exact (ent_is g2).2) (entF K 40) L Q (ent_cl g2 hc) (by rw [ent_br g2, hx])
      simp only [E56_0, E56_1, E56_2, E56_3, E56_5, E56_8, E56_11, E56_12, E56_14, E56_17, E56_20, E56_21, E56_22, E56_25, E56_26, E56_27, E56_30, E56_31, E56_34, E56_35, E56_38, E56_39, E56_40, E56_43, E56_46, E56_47, E56_50, E56_53, E56_56, E56_57, E56_59, E56_62, E56_65, E56_66, E56_69, E56_70, E56_71, E56_74, E56_75, E56_76, E56_79, E56_80, E56_83, E56_86, E56_89, E56_90, E56_93, E56_94, E56_97, E56_100, E56_103, E56_105, E56_108, E56_109, E56_112, E56_115, E56_118, E56_120, E56_123, E56_125, E56_126, E56_127, E56_128, E56_130, E56_133, E56_136, E56_139, E56_140, E56_142, E56_145, E56_148, E56_151, E56_154, E56_157, E56_158, E56_161, E56_162, E56_163, E56_167, E56_170, E56_171, E56_173, E56_176, pk14 hS, pk15 hS, pl15 hS, pa15 hS, pi15 hS, pk16 hS, pl16 hS, pa16 hS, pi16 hS, pk17 hS, pl17 hS, pa17 hS, pi17 hS, pk18 hS, pl18 hS, pa18 hS, pi18 hS, pk19 hS, pl19 hS, pa19 hS, pi19 hS, pr14_0 hR, pr14_2 hR, pr14_3 hR, pr14_6 hR, pr14_7 hR, rfs, rfn, cs0, csi, csl, csr, csn, kti, ktl, ktr, ktn, ktv, ktf, true_and, and_true, and_self, ↓reduceIte, Nat.reduceAdd, Nat.reduceSub, Nat.reduceMul, Nat.reduceLT, Nat.reduceLeDiff, Nat.reduceEqDiff, true_or, or_true, false_or, or_false, not_true_eq_false, not_false_eq_true, reduceCtorEq, cmp_lt, cmp_gt, cmp_eq, Int32.reduceAdd, Int32.reduceSub, Int32.reduceMul, Int32.reduceLT, Int32.reduceToNatClampNeg, eq_self, ne_eq, Int64.reduceAdd, Int64.reduceSub, Int64.reduceMul, Int64.reduceLT, n1_0, bI_t, bI_f, Bool.false_eq_true, pt, see hS hR, entR hS hR, tak hS hR, g1, g2, q, ed]
      exact last _ _ (by unfold plainK; rw [if_pos g1, if_pos g2])
    | false =>
      simp only [E56_0, E56_1, E56_2, E56_3, E56_5, E56_8, E56_11, E56_12, E56_14, E56_17, E56_20, E56_21, E56_22, E56_25, E56_26, E56_27, E56_30, E56_31, E56_34, E56_35, E56_38, E56_39, E56_40, E56_43, E56_46, E56_47, E56_50, E56_53, E56_56, E56_57, E56_59, E56_62, E56_65, E56_66, E56_69, E56_70, E56_71, E56_74, E56_75, E56_76, E56_79, E56_80, E56_83, E56_86, E56_89, E56_90, E56_93, E56_94, E56_97, E56_100, E56_103, E56_105, E56_108, E56_109, E56_112, E56_115, E56_118, E56_120, E56_123, E56_125, E56_126, E56_127, E56_128, E56_130, E56_133, E56_136, E56_139, E56_140, E56_142, E56_145, E56_148, E56_151, E56_154, E56_157, E56_158, E56_161, E56_162, E56_163, E56_167, E56_170, E56_171, E56_173, E56_176, pk14 hS, pk15 hS, pl15 hS, pa15 hS, pi15 hS, pk16 hS, pl16 hS, pa16 hS, pi16 hS, pk17 hS, pl17 hS, pa17 hS, pi17 hS, pk18 hS, pl18 hS, pa18 hS, pi18 hS, pk19 hS, pl19 hS, pa19 hS, pi19 hS, pr14_0 hR, pr14_2 hR, pr14_3 hR, pr14_6 hR, pr14_7 hR, rfs, rfn, cs0, csi, csl, csr, csn, kti, ktl, ktr, ktn, ktv, ktf, true_and, and_true, and_self, ↓reduceIte, Nat.reduceAdd, Nat.reduceSub, Nat.reduceMul, Nat.reduceLT, Nat.reduceLeDiff, Nat.reduceEqDiff, true_or, or_true, false_or, or_false, not_true_eq_false, not_false_eq_true, reduceCtorEq, cmp_lt, cmp_gt, cmp_eq, Int32.reduceAdd, Int32.reduceSub, Int32.reduceMul, Int32.reduceLT, Int32.reduceToNatClampNeg, eq_self, ne_eq, Int64.reduceAdd, Int64.reduceSub, Int64.reduceMul, Int64.reduceLT, n1_0, bI_t, bI_f, Bool.false_eq_true, pt, see hS hR, entR hS hR, g1, g2]
      exact last _ _ (by unfold plainK; rw [if_pos g1, if_neg (by rw [g2]; decide)])
  | false =>
    have q1 := fun Q => hs K L Q hc hx
    have k1 := hks K
    have k2 := fun w => k1.ta (w := w)
    have q2 := fun w Q => hs (takF (s K) w) L Q ((k2 w).2.2 hc) ((k2 w).2.1.trans hx)
    have k3 := fun w => (k2 w).tr (hks _)
    have m1 := fun w w' Q => emi (d := D) (L := L) (w := w') (Q := Q) hS hR ((k3 w).2.2 hc)
    have n1 : ((-11 : Int32) = -10) = False := by decide
    have n2 : ((-12 : Int32) = -10) = False := by decide
    have n3 : ((-12 : Int32) = -11) = False := by decide
    have fin : plainK t s K = emiF (s (takF (s K) (sgt (s K)))) (sgn (s K)) := by unfold plainK; rw [if_neg (by rw [g1]; decide)]
    cases g2 : seeB (s K) (-160) with
    | true =>
      have e1 : sgn (s K) = -10 := by unfold sgn; rw [if_pos g2]
      have e2 : sgt (s K) = -160 := by unfold sgt; rw [if_pos g2]
      simp only [E56_0, E56_1, E56_2, E56_3, E56_5, E56_8, E56_11, E56_12, E56_14, E56_17, E56_20, E56_21, E56_22, E56_25, E56_26, E56_27, E56_30, E56_31, E56_34, E56_35, E56_38, E56_39, E56_40, E56_43, E56_46, E56_47, E56_50, E56_53, E56_56, E56_57, E56_59, E56_62, E56_65, E56_66, E56_69, E56_70, E56_71, E56_74, E56_75, E56_76, E56_79, E56_80, E56_83, E56_86, E56_89, E56_90, E56_93, E56_94, E56_97, E56_100, E56_103, E56_105, E56_108, E56_109, E56_112, E56_115, E56_118, E56_120, E56_123, E56_125, E56_126, E56_127, E56_128, E56_130, E56_133, E56_136, E56_139, E56_140, E56_142, E56_145, E56_148, E56_151, E56_154, E56_157, E56_158, E56_161, E56_162, E56_163, E56_167, E56_170, E56_171, E56_173, E56_176, pk14 hS, pk15 hS, pl15 hS, pa15 hS, pi15 hS, pk16 hS, pl16 hS, pa16 hS, pi16 hS, pk17 hS, pl17 hS, pa17 hS, pi17 hS, pk18 hS, pl18 hS, pa18 hS, pi18 hS, pk19 hS, pl19 hS, pa19 hS, pi19 hS, pr14_0 hR, pr14_2 hR, pr14_3 hR, pr14_6 hR, pr14_7 hR, rfs, rfn, cs0, csi, csl, csr, csn, kti, ktl, ktr, ktn, ktv, ktf, true_and, and_true, and_self, ↓reduceIte, Nat.reduceAdd, Nat.reduceSub, Nat.reduceMul, Nat.reduceLT, Nat.reduceLeDiff, Nat.reduceEqDiff, true_or, or_true, false_or, or_false, not_true_eq_false, not_false_eq_true, reduceCtorEq, cmp_lt, cmp_gt, cmp_eq, Int32.reduceAdd, Int32.reduceSub, Int32.reduceMul, Int32.reduceLT, Int32.reduceToNatClampNeg, eq_self, ne_eq, Int64.reduceAdd, Int64.reduceSub, Int64.reduceMul, Int64.reduceLT, n1_0, bI_t, bI_f, Bool.false_eq_true, pt, see hS hR, g1, g2, q1, q2, tak hS hR, m1]
      exact last _ _ (by rw [fin, e1, e2])
    | false =>
      cases g3 : seeB (s K) (-162) with
      | true =>
        have e1 : sgn (s K) = -11 := by unfold sgn; rw [if_neg (by rw [g2]; decide), if_pos g3]
        have e2 : sgt (s K) = -162 := by unfold sgt; rw [if_neg (by rw [g2]; decide), if_pos g3]
        simp only [E56_0, E56_1, E56_2, E56_3, E56_5, E56_8, E56_11, E56_12, E56_14, E56_17, E56_20, E56_21, E56_22, E56_25, E56_26, E56_27, E56_30, E56_31, E56_34, E56_35, E56_38, E56_39, E56_40, E56_43, E56_46, E56_47, E56_50, E56_53, E56_56, E56_57, E56_59, E56_62, E56_65, E56_66, E56_69, E56_70, E56_71, E56_74, E56_75, E56_76, E56_79, E56_80, E56_83, E56_86, E56_89, E56_90, E56_93, E56_94, E56_97, E56_100, E56_103, E56_105, E56_108, E56_109, E56_112, E56_115, E56_118, E56_120, E56_123, E56_125, E56_126, E56_127, E56_128, E56_130, E56_133, E56_136, E56_139, E56_140, E56_142, E56_145, E56_148, E56_151, E56_154, E56_157, E56_158, E56_161, E56_162, E56_163, E56_167, E56_170, E56_171, E56_173, E56_176, pk14 hS, pk15 hS, pl15 hS, pa15 hS, pi15 hS, pk16 hS, pl16 hS, pa16 hS, pi16 hS, pk17 hS, pl17 hS, pa17 hS, pi17 hS, pk18 hS, pl18 hS, pa18 hS, pi18 hS, pk19 hS, pl19 hS, pa19 hS, pi19 hS, pr14_0 hR, pr14_2 hR, pr14_3 hR, pr14_6 hR, pr14_7 hR, rfs, rfn, cs0, csi, csl, csr, csn, kti, ktl, ktr, ktn, ktv, ktf, true_and, and_true, and_self, ↓reduceIte, Nat.reduceAdd, Nat.reduceSub, Nat.reduceMul, Nat.reduceLT, Nat.reduceLeDiff, Nat.reduceEqDiff, true_or, or_true, false_or, or_false, not_true_eq_false, not_false_eq_true, reduceCtorEq, cmp_lt, cmp_gt, cmp_eq, Int32.reduceAdd, Int32.reduceSub, Int32.reduceMul, Int32.reduceLT, Int32.reduceToNatClampNeg, eq_self, ne_eq, Int64.reduceAdd, Int64.reduceSub, Int64.reduceMul, Int64.reduceLT, n1_0, bI_t, bI_f, Bool.false_eq_true, pt, see hS hR, g1, g2, g3, n1, q1, q2, tak hS hR, m1]
        exact last _ _ (by rw [fin, e1, e2])
      | false =>
        have e1 : sgn (s K) = -12 := by unfold sgn; rw [if_neg (by rw [g2]; decide), if_neg (by rw [g3]; decide)]
        have e2 : sgt (s K) = -161 := by unfold sgt; rw [if_neg (by rw [g2]; decide), if_neg (by rw [g3]; decide)]
        simp only [E56_0, E56_1, E56_2, E56_3, E56_5, E56_8, E56_11, E56_12, E56_14, E56_17, E56_20, E56_21, E56_22, E56_25, E56_26, E56_27, E56_30, E56_31, E56_34, E56_35, E56_38, E56_39, E56_40, E56_43, E56_46, E56_47, E56_50, E56_53, E56_56, E56_57, E56_59, E56_62, E56_65, E56_66, E56_69, E56_70, E56_71, E56_74, E56_75, E56_76, E56_79, E56_80, E56_83, E56_86, E56_89, E56_90, E56_93, E56_94, E56_97, E56_100, E56_103, E56_105, E56_108, E56_109, E56_112, E56_115, E56_118, E56_120, E56_123, E56_125, E56_126, E56_127, E56_128, E56_130, E56_133, E56_136, E56_139, E56_140, E56_142, E56_145, E56_148, E56_151, E56_154, E56_157, E56_158, E56_161, E56_162, E56_163, E56_167, E56_170, E56_171, E56_173, E56_176, pk14 hS, pk15 hS, pl15 hS, pa15 hS, pi15 hS, pk16 hS, pl16 hS, pa16 hS, pi16 hS, pk17 hS, pl17 hS, pa17 hS, pi17 hS, pk18 hS, pl18 hS, pa18 hS, pi18 hS, pk19 hS, pl19 hS, pa19 hS, pi19 hS, pr14_0 hR, pr14_2 hR, pr14_3 hR, pr14_6 hR, pr14_7 hR, rfs, rfn, cs0, csi, csl, csr, csn, kti, ktl, ktr, ktn, ktv, ktf, true_and, and_true, and_self, ↓reduceIte, Nat.reduceAdd, Nat.reduceSub, Nat.reduceMul, Nat.reduceLT, Nat.reduceLeDiff, Nat.reduceEqDiff, true_or, or_true, false_or, or_false, not_true_eq_false, not_false_eq_true, reduceCtorEq, cmp_lt, cmp_gt, cmp_eq, Int32.reduceAdd, Int32.reduceSub, Int32.reduceMul, Int32.reduceLT, Int32.reduceToNatClampNeg, eq_self, ne_eq, Int64.reduceAdd, Int64.reduceSub, Int64.reduceMul, Int64.reduceLT, n1_0, bI_t, bI_f, Bool.false_eq_true, pt, see hS hR, g1, g2, g3, n2, n3, q1, q2, tak hS hR, m1]
        exact last _ _ (by rw [fin, e1, e2])
theorem pla_of {t s : mI → mI} {x : Int32} (hS : Pm S) (hR : Pr R) (hk : ∀ I, RdK I (t I)) (hks : ∀ I, RdK I (s I)) (ht : x < 8 → ∀ (I : mI) (L : mL) (Q : mQ), Cl I → I 14 10 = x + 1 → EvM (D + 1) 55 [.ref 14] S I L R Q = Q .null S (t I) L R) (hs : ∀ (I : mI) (L : mL) (Q : mQ), Cl I → I 14 10 = x → EvM (D + 1) 57 [.ref 14] S I L R Q = Q .null S (s I) L R) {I : mI} {L : mL} {Q : mQ} (hc : Cl I) (hx : I 14 10 = x) (hq : Q .null S (plainG t s I) L R) : EvM (D + 2) 56 [.ref 14] S I L R Q := by
  have nk := notL_k 400 I false
  have k := not_lp (D := D) (L := L) (Q := Q) hS hR 400 0 false I (by omega) (fun y => by
    rw [pla_k hS hR hk hks ht hs (nk.2.2 hc) (nk.2.1.trans hx)]
    exact hq)
  rw [show nI 0 = 0 from rfl, bI_f] at k
  simp only [M56, E56_0, E56_1, E56_2, E56_3, E56_5, E56_8, E56_11, E56_12, E56_14, E56_17, E56_20, E56_21, E56_22, E56_25, E56_26, E56_27, E56_30, E56_31, E56_34, E56_35, E56_38, E56_39, E56_40, E56_43, E56_46, E56_47, E56_50, E56_53, E56_56, E56_57, E56_59, E56_62, E56_65, E56_66, E56_69, E56_70, E56_71, E56_74, E56_75, E56_76, E56_79, E56_80, E56_83, E56_86, E56_89, E56_90, E56_93, E56_94, E56_97, E56_100, E56_103, E56_105, E56_108, E56_109, E56_112, E56_115, E56_118, E56_120, E56_123, E56_125, E56_126, E56_127, E56_128, E56_130, E56_133, E56_136, E56_139, E56_140, E56_142, E56_145, E56_148, E56_151, E56_154, E56_157, E56_158, E56_161, E56_162, E56_163, E56_166, E56_167, E56_170, E56_171, E56_173, E56_176, pk14 hS, pk15 hS, pl15 hS, pa15 hS, pi15 hS, pk16 hS, pl16 hS, pa16 hS, pi16 hS, pk17 hS, pl17 hS, pa17 hS, pi17 hS, pk18 hS, pl18 hS, pa18 hS, pi18 hS, pk19 hS, pl19 hS, pa19 hS, pi19 hS, pr14_0 hR, pr14_2 hR, pr14_3 hR, pr14_6 hR, pr14_7 hR, rfs, rfn, cs0, csi, csl, csr, csn, kti, ktl, ktr, ktn, ktv, ktf, true_and, and_true, and_self, ↓reduceIte, Nat.reduceAdd, Nat.reduceSub, Nat.reduceMul, Nat.reduceLT, Nat.reduceLeDiff, Nat.reduceEqDiff, true_or, or_true, false_or, or_false, not_true_eq_false, not_false_eq_true, reduceCtorEq, cmp_lt, cmp_gt, cmp_eq, Int32.reduceAdd, Int32.reduceSub, Int32.reduceMul, Int32.reduceLT, Int32.reduceToNatClampNeg, eq_self, ne_eq, Int64.reduceAdd, Int64.reduceSub, Int64.reduceMul, Int64.reduceLT, n1_0, bI_t, bI_f, Bool.false_eq_true, pt]
  exact k
theorem and_lp {p : mI → mI} {x : Int32} (hS : Pm S) (hR : Pr R) (hk : ∀ I, RdK I (p I)) (hp : ∀ (I : mI) (L : mL) (Q : mQ), Cl I → I 14 10 = x → Q .null S (p I) L R → EvM (D + 1) 56 [.ref 14] S I L R Q) {y1 y2 : Value} {L : mL} {Q : mQ} : ∀ (n i : Nat) (I : mI), i + n = 400 → Cl I → I 14 10 = x → (∀ y : Value, Ev (D + 2) 55 63 [.ref 14, y1, y2, y] [] S (andL p n I) L R Q) → y2.category = 1 → Ev (D + 2) 55 21 [.ref 14, y1, y2, .int (nI i)] [] S I L R Q := by
  intro n
  induction n with
  | zero =>
    intro i I hi hc hx hq hy
    obtain rfl : i = 400 := by omega
    have e : (nI 400 < (400 : Int32)) = False := eq_false (by decide)
    rw [E55_21]
    simp only [E55_22, E55_25, pk14 hS, pk15 hS, pl15 hS, pa15 hS, pi15 hS, pk16 hS, pl16 hS, pa16 hS, pi16 hS, pk17 hS, pl17 hS, pa17 hS, pi17 hS, pk18 hS, pl18 hS, pa18 hS, pi18 hS, pk19 hS, pl19 hS, pa19 hS, pi19 hS, pr14_0 hR, pr14_2 hR, pr14_3 hR, pr14_6 hR, pr14_7 hR, rfs, rfn, cs0, csi, csl, csr, csn, kti, ktl, ktr, ktn, ktv, ktf, true_and, and_true, and_self, ↓reduceIte, Nat.reduceAdd, Nat.reduceSub, Nat.reduceMul, Nat.reduceLT, Nat.reduceLeDiff, Nat.reduceEqDiff, true_or, or_true, false_or, or_false, not_true_eq_false, not_false_eq_true, reduceCtorEq, cmp_lt, cmp_gt, cmp_eq, Int32.reduceAdd, Int32.reduceSub, Int32.reduceMul, Int32.reduceLT, Int32.reduceToNatClampNeg, eq_self, ne_eq, Int64.reduceAdd, Int64.reduceSub, Int64.reduceMul, Int64.reduceLT, n1_0, bI_t, bI_f, Bool.false_eq_true, pt, e]
    exact hq _
  | succ n ih =>
    intro i I hi hc hx hq hy
    have e1 : (nI i < (400 : Int32)) = True := eq_true (nI_lt (a := i) (b := 400) (by omega) (by decide))
    have ea : put I 14 8 (I 14 8 + 1) = advF I := rfl
    have ka := (RdK.rf (I := I)).ad
    have kp := ka.tr (hk (advF I))
    unfold andL at hq
    rw [E55_21]
    cases g1 : seeB I (-6) with
    | true =>
      rw [if_pos g1] at hq
      simp only [E55_0, E55_1, E55_2, E55_3, E55_5, E55_8, E55_11, E55_12, E55_15, E55_16, E55_19, E55_20, E55_22, E55_25, E55_28, E55_29, E55_31, E55_34, E55_37, E55_38, E55_39, E55_42, E55_43, E55_44, E55_47, E55_48, E55_52, E55_54, E55_57, E55_60, E55_64, E55_67, E55_68, E55_70, E55_73, E55_74, E55_76, E55_79, E55_80, E55_81, E55_82, E55_85, E55_86, E55_89, E55_90, E55_93, E55_94, E55_95, E55_98, E55_101, E55_104, pk14 hS, pk15 hS, pl15 hS, pa15 hS, pi15 hS, pk16 hS, pl16 hS, pa16 hS, pi16 hS, pk17 hS, pl17 hS, pa17 hS, pi17 hS, pk18 hS, pl18 hS, pa18 hS, pi18 hS, pk19 hS, pl19 hS, pa19 hS, pi19 hS, pr14_0 hR, pr14_2 hR, pr14_3 hR, pr14_6 hR, pr14_7 hR, rfs, rfn, cs0, csi, csl, csr, csn, kti, ktl, ktr, ktn, ktv, ktf, true_and, and_true, and_self, ↓reduceIte, Nat.reduceAdd, Nat.reduceSub, Nat.reduceMul, Nat.reduceLT, Nat.reduceLeDiff, Nat.reduceEqDiff, true_or, or_true, false_or, or_false, not_true_eq_false, not_false_eq_true, reduceCtorEq, cmp_lt, cmp_gt, cmp_eq, Int32.reduceAdd, Int32.reduceSub, Int32.reduceMul, Int32.reduceLT, Int32.reduceToNatClampNeg, eq_self, ne_eq, Int64.reduceAdd, Int64.reduceSub, Int64.reduceMul, Int64.reduceLT, n1_0, bI_t, bI_f, Bool.false_eq_true, pt, e1, see hS hR, g1, ea]
      refine hp (advF I) L _ (ka.2.2 hc) (ka.2.1.trans hx) ?_
      simp only [E55_51, E55_52, E55_54, E55_57, E55_60, pk14 hS, pk15 hS, pl15 hS, pa15 hS, pi15 hS, pk16 hS, pl16 hS, pa16 hS, pi16 hS, pk17 hS, pl17 hS, pa17 hS, pi17 hS, pk18 hS, pl18 hS, pa18 hS, pi18 hS, pk19 hS, pl19 hS, pa19 hS, pi19 hS, pr14_0 hR, pr14_2 hR, pr14_3 hR, pr14_6 hR, pr14_7 hR, rfs, rfn, cs0, csi, csl, csr, csn, kti, ktl, ktr, ktn, ktv, ktf, true_and, and_true, and_self, ↓reduceIte, Nat.reduceAdd, Nat.reduceSub, Nat.reduceMul, Nat.reduceLT, Nat.reduceLeDiff, Nat.reduceEqDiff, true_or, or_true, false_or, or_false, not_true_eq_false, not_false_eq_true, reduceCtorEq, cmp_lt, cmp_gt, cmp_eq, Int32.reduceAdd, Int32.reduceSub, Int32.reduceMul, Int32.reduceLT, Int32.reduceToNatClampNeg, eq_self, ne_eq, Int64.reduceAdd, Int64.reduceSub, Int64.reduceMul, Int64.reduceLT, n1_0, bI_t, bI_f, Bool.false_eq_true, pt, emi hS hR (kp.2.2 hc), nI_1, hy]
      exact ih (i + 1) _ (by omega) (kp.em.2.2 hc) (kp.em.2.1.trans hx) hq hy
    | false =>
      rw [if_neg (by rw [g1]; decide)] at hq
      simp only [E55_0, E55_1, E55_2, E55_3, E55_5, E55_8, E55_11, E55_12, E55_15, E55_16, E55_19, E55_20, E55_22, E55_25, E55_28, E55_29, E55_31, E55_34, E55_37, E55_38, E55_39, E55_42, E55_43, E55_44, E55_47, E55_48, E55_51, E55_52, E55_54, E55_57, E55_60, E55_64, E55_67, E55_68, E55_70, E55_73, E55_74, E55_76, E55_79, E55_80, E55_81, E55_82, E55_85, E55_86, E55_89, E55_90, E55_93, E55_94, E55_95, E55_98, E55_101, E55_104, pk14 hS, pk15 hS, pl15 hS, pa15 hS, pi15 hS, pk16 hS, pl16 hS, pa16 hS, pi16 hS, pk17 hS, pl17 hS, pa17 hS, pi17 hS, pk18 hS, pl18 hS, pa18 hS, pi18 hS, pk19 hS, pl19 hS, pa19 hS, pi19 hS, pr14_0 hR, pr14_2 hR, pr14_3 hR, pr14_6 hR, pr14_7 hR, rfs, rfn, cs0, csi, csl, csr, csn, kti, ktl, ktr, ktn, ktv, ktf, true_and, and_true, and_self, ↓reduceIte, Nat.reduceAdd, Nat.reduceSub, Nat.reduceMul, Nat.reduceLT, Nat.reduceLeDiff, Nat.reduceEqDiff, true_or, or_true, false_or, or_false, not_true_eq_false, not_false_eq_true, reduceCtorEq, cmp_lt, cmp_gt, cmp_eq, Int32.reduceAdd, Int32.reduceSub, Int32.reduceMul, Int32.reduceLT, Int32.reduceToNatClampNeg, eq_self, ne_eq, Int64.reduceAdd, Int64.reduceSub, Int64.reduceMul, Int64.reduceLT, n1_0, bI_t, bI_f, Bool.false_eq_true, pt, e1, see hS hR, g1]
      exact hq _
theorem or_lp {p : mI → mI} {x : Int32} (hS : Pm S) (hR : Pr R) (hk : ∀ I, RdK I (p I)) (hp : ∀ (I : mI) (L : mL) (Q : mQ), Cl I → I 14 10 = x → Q .null S (p I) L R → EvM (D + 1) 56 [.ref 14] S I L R Q) {L : mL} {Q : mQ} : ∀ (n i : Nat) (y : Value) (I : mI), i + n = 400 → Cl I → I 14 10 = x → Q .null S (orL p n i I) L R → Ev (D + 2) 55 4 [.ref 14, .int 1, .int (nI i), y] [] S I L R Q := by
  intro n
  induction n with
  | zero =>
    intro i y I hi hc hx hq
    obtain rfl : i = 400 := by omega
    have e : (nI 400 < (400 : Int32)) = False := eq_false (by decide)
    rw [E55_4]
    simp only [E55_5, E55_8, E55_104, pk14 hS, pk15 hS, pl15 hS, pa15 hS, pi15 hS, pk16 hS, pl16 hS, pa16 hS, pi16 hS, pk17 hS, pl17 hS, pa17 hS, pi17 hS, pk18 hS, pl18 hS, pa18 hS, pi18 hS, pk19 hS, pl19 hS, pa19 hS, pi19 hS, pr14_0 hR, pr14_2 hR, pr14_3 hR, pr14_6 hR, pr14_7 hR, rfs, rfn, cs0, csi, csl, csr, csn, kti, ktl, ktr, ktn, ktv, ktf, true_and, and_true, and_self, ↓reduceIte, Nat.reduceAdd, Nat.reduceSub, Nat.reduceMul, Nat.reduceLT, Nat.reduceLeDiff, Nat.reduceEqDiff, true_or, or_true, false_or, or_false, not_true_eq_false, not_false_eq_true, reduceCtorEq, cmp_lt, cmp_gt, cmp_eq, Int32.reduceAdd, Int32.reduceSub, Int32.reduceMul, Int32.reduceLT, Int32.reduceToNatClampNeg, eq_self, ne_eq, Int64.reduceAdd, Int64.reduceSub, Int64.reduceMul, Int64.reduceLT, n1_0, bI_t, bI_f, Bool.false_eq_true, pt, e]
    exact hq
  | succ n ih =>
    intro i y I hi hc hx hq
    have e1 : (nI i < (400 : Int32)) = True := eq_true (nI_lt (a := i) (b := 400) (by omega) (by decide))
    have ko := orK_k hk i I
    have kq := (hk I).tr (andL_k hk 400 (p I))
    rw [E55_4]
    simp only [E55_5, E55_8, E55_11, E55_12, E55_15, E55_16, pk14 hS, pk15 hS, pl15 hS, pa15 hS, pi15 hS, pk16 hS, pl16 hS, pa16 hS, pi16 hS, pk17 hS, pl17 hS, pa17 hS, pi17 hS, pk18 hS, pl18 hS, pa18 hS, pi18 hS, pk19 hS, pl19 hS, pa19 hS, pi19 hS, pr14_0 hR, pr14_2 hR, pr14_3 hR, pr14_6 hR, pr14_7 hR, rfs, rfn, cs0, csi, csl, csr, csn, kti, ktl, ktr, ktn, ktv, ktf, true_and, and_true, and_self, ↓reduceIte, Nat.reduceAdd, Nat.reduceSub, Nat.reduceMul, Nat.reduceLT, Nat.reduceLeDiff, Nat.reduceEqDiff, true_or, or_true, false_or, or_false, not_true_eq_false, not_false_eq_true, reduceCtorEq, cmp_lt, cmp_gt, cmp_eq, Int32.reduceAdd, Int32.reduceSub, Int32.reduceMul, Int32.reduceLT, Int32.reduceToNatClampNeg, eq_self, ne_eq, Int64.reduceAdd, Int64.reduceSub, Int64.reduceMul, Int64.reduceLT, n1_0, bI_t, bI_f, Bool.false_eq_true, pt, e1]
    refine hp I L _ hc hx ?_
    simp only [E55_19, E55_20, pk14 hS, pk15 hS, pl15 hS, pa15 hS, pi15 hS, pk16 hS, pl16 hS, pa16 hS, pi16 hS, pk17 hS, pl17 hS, pa17 hS, pi17 hS, pk18 hS, pl18 hS, pa18 hS, pi18 hS, pk19 hS, pl19 hS, pa19 hS, pi19 hS, pr14_0 hR, pr14_2 hR, pr14_3 hR, pr14_6 hR, pr14_7 hR, rfs, rfn, cs0, csi, csl, csr, csn, kti, ktl, ktr, ktn, ktv, ktf, true_and, and_true, and_self, ↓reduceIte, Nat.reduceAdd, Nat.reduceSub, Nat.reduceMul, Nat.reduceLT, Nat.reduceLeDiff, Nat.reduceEqDiff, true_or, or_true, false_or, or_false, not_true_eq_false, not_false_eq_true, reduceCtorEq, cmp_lt, cmp_gt, cmp_eq, Int32.reduceAdd, Int32.reduceSub, Int32.reduceMul, Int32.reduceLT, Int32.reduceToNatClampNeg, eq_self, ne_eq, Int64.reduceAdd, Int64.reduceSub, Int64.reduceMul, Int64.reduceLT, n1_0, bI_t, bI_f, Bool.false_eq_true, pt]
    have k := and_lp (D := D) (y1 := .int 1) (y2 := .int (nI i)) (L := L) (Q := Q) hS hR hk hp 400 0 (p I) (by omega) ((hk I).2.2 hc) ((hk I).2.1.trans hx)
    rw [show nI 0 = 0 from rfl] at k
    refine k (fun y => ?_) rfl
    unfold orL at hq
    have go : ∀ K : mI, K = orK p i I → Ev (D + 2) 55 73 [.ref 14, .int 1, .int (nI i), y] [] S K L R Q := by
      intro K hK
      rw [← hK] at hq
      have ea : put K 14 8 (K 14 8 + 1) = advF K := rfl
      cases g1 : seeB K (-5) with
      | true =>
        rw [if_pos g1] at hq
        simp only [E55_73, E55_74, E55_76, E55_79, E55_80, E55_81, E55_82, E55_85, E55_86, E55_89, E55_90, E55_93, E55_94, E55_95, E55_98, E55_101, pk14 hS, pk15 hS, pl15 hS, pa15 hS, pi15 hS, pk16 hS, pl16 hS, pa16 hS, pi16 hS, pk17 hS, pl17 hS, pa17 hS, pi17 hS, pk18 hS, pl18 hS, pa18 hS, pi18 hS, pk19 hS, pl19 hS, pa19 hS, pi19 hS, pr14_0 hR, pr14_2 hR, pr14_3 hR, pr14_6 hR, pr14_7 hR, rfs, rfn, cs0, csi, csl, csr, csn, kti, ktl, ktr, ktn, ktv, ktf, true_and, and_true, and_self, ↓reduceIte, Nat.reduceAdd, Nat.reduceSub, Nat.reduceMul, Nat.reduceLT, Nat.reduceLeDiff, Nat.reduceEqDiff, true_or, or_true, false_or, or_false, not_true_eq_false, not_false_eq_true, reduceCtorEq, cmp_lt, cmp_gt, cmp_eq, Int32.reduceAdd, Int32.reduceSub, Int32.reduceMul, Int32.reduceLT, Int32.reduceToNatClampNeg, eq_self, ne_eq, Int64.reduceAdd, Int64.reduceSub, Int64.reduceMul, Int64.reduceLT, n1_0, bI_t, bI_f, Bool.false_eq_true, pt, see hS hR, g1, ea, nI_1]
        exact ih (i + 1) _ _ (by omega) (by rw [hK]; exact ko.ad.2.2 hc) (by rw [hK]; exact ko.ad.2.1.trans hx) hq
      | false =>
        rw [if_neg (by rw [g1]; decide)] at hq
        simp only [E55_73, E55_74, E55_76, E55_79, E55_80, E55_81, E55_82, E55_85, E55_86, E55_89, E55_90, E55_93, E55_94, E55_95, E55_98, E55_101, pk14 hS, pk15 hS, pl15 hS, pa15 hS, pi15 hS, pk16 hS, pl16 hS, pa16 hS, pi16 hS, pk17 hS, pl17 hS, pa17 hS, pi17 hS, pk18 hS, pl18 hS, pa18 hS, pi18 hS, pk19 hS, pl19 hS, pa19 hS, pi19 hS, pr14_0 hR, pr14_2 hR, pr14_3 hR, pr14_6 hR, pr14_7 hR, rfs, rfn, cs0, csi, csl, csr, csn, kti, ktl, ktr, ktn, ktv, ktf, true_and, and_true, and_self, ↓reduceIte, Nat.reduceAdd, Nat.reduceSub, Nat.reduceMul, Nat.reduceLT, Nat.reduceLeDiff, Nat.reduceEqDiff, true_or, or_true, false_or, or_false, not_true_eq_false, not_false_eq_true, reduceCtorEq, cmp_lt, cmp_gt, cmp_eq, Int32.reduceAdd, Int32.reduceSub, Int32.reduceMul, Int32.reduceLT, Int32.reduceToNatClampNeg, eq_self, ne_eq, Int64.reduceAdd, Int64.reduceSub, Int64.reduceMul, Int64.reduceLT, n1_0, bI_t, bI_f, Bool.false_eq_true, pt, see hS hR, g1, nI_1]
        rw [E55_4]
        by_cases g : nI (i + 1) < (400 : Int32) <;> simp only [E55_5, E55_8, E55_11, E55_12, E55_104, pk14 hS, pk15 hS, pl15 hS, pa15 hS, pi15 hS, pk16 hS, pl16 hS, pa16 hS, pi16 hS, pk17 hS, pl17 hS, pa17 hS, pi17 hS, pk18 hS, pl18 hS, pa18 hS, pi18 hS, pk19 hS, pl19 hS, pa19 hS, pi19 hS, pr14_0 hR, pr14_2 hR, pr14_3 hR, pr14_6 hR, pr14_7 hR, rfs, rfn, cs0, csi, csl, csr, csn, kti, ktl, ktr, ktn, ktv, ktf, true_and, and_true, and_self, ↓reduceIte, Nat.reduceAdd, Nat.reduceSub, Nat.reduceMul, Nat.reduceLT, Nat.reduceLeDiff, Nat.reduceEqDiff, true_or, or_true, false_or, or_false, not_true_eq_false, not_false_eq_true, reduceCtorEq, cmp_lt, cmp_gt, cmp_eq, Int32.reduceAdd, Int32.reduceSub, Int32.reduceMul, Int32.reduceLT, Int32.reduceToNatClampNeg, eq_self, ne_eq, Int64.reduceAdd, Int64.reduceSub, Int64.reduceMul, Int64.reduceLT, n1_0, bI_t, bI_f, Bool.false_eq_true, pt, g] <;> exact hq
    by_cases g : 0 < nI i
    · simp only [E55_63, E55_64, E55_67, E55_68, E55_70, pk14 hS, pk15 hS, pl15 hS, pa15 hS, pi15 hS, pk16 hS, pl16 hS, pa16 hS, pi16 hS, pk17 hS, pl17 hS, pa17 hS, pi17 hS, pk18 hS, pl18 hS, pa18 hS, pi18 hS, pk19 hS, pl19 hS, pa19 hS, pi19 hS, pr14_0 hR, pr14_2 hR, pr14_3 hR, pr14_6 hR, pr14_7 hR, rfs, rfn, cs0, csi, csl, csr, csn, kti, ktl, ktr, ktn, ktv, ktf, true_and, and_true, and_self, ↓reduceIte, Nat.reduceAdd, Nat.reduceSub, Nat.reduceMul, Nat.reduceLT, Nat.reduceLeDiff, Nat.reduceEqDiff, true_or, or_true, false_or, or_false, not_true_eq_false, not_false_eq_true, reduceCtorEq, cmp_lt, cmp_gt, cmp_eq, Int32.reduceAdd, Int32.reduceSub, Int32.reduceMul, Int32.reduceLT, Int32.reduceToNatClampNeg, eq_self, ne_eq, Int64.reduceAdd, Int64.reduceSub, Int64.reduceMul, Int64.reduceLT, n1_0, bI_t, bI_f, Bool.false_eq_true, pt, g, emi hS hR (kq.2.2 hc)]
      exact go _ (by unfold orK; rw [if_pos g])
    · simp only [E55_63, E55_64, pk14 hS, pk15 hS, pl15 hS, pa15 hS, pi15 hS, pk16 hS, pl16 hS, pa16 hS, pi16 hS, pk17 hS, pl17 hS, pa17 hS, pi17 hS, pk18 hS, pl18 hS, pa18 hS, pi18 hS, pk19 hS, pl19 hS, pa19 hS, pi19 hS, pr14_0 hR, pr14_2 hR, pr14_3 hR, pr14_6 hR, pr14_7 hR, rfs, rfn, cs0, csi, csl, csr, csn, kti, ktl, ktr, ktn, ktv, ktf, true_and, and_true, and_self, ↓reduceIte, Nat.reduceAdd, Nat.reduceSub, Nat.reduceMul, Nat.reduceLT, Nat.reduceLeDiff, Nat.reduceEqDiff, true_or, or_true, false_or, or_false, not_true_eq_false, not_false_eq_true, reduceCtorEq, cmp_lt, cmp_gt, cmp_eq, Int32.reduceAdd, Int32.reduceSub, Int32.reduceMul, Int32.reduceLT, Int32.reduceToNatClampNeg, eq_self, ne_eq, Int64.reduceAdd, Int64.reduceSub, Int64.reduceMul, Int64.reduceLT, n1_0, bI_t, bI_f, Bool.false_eq_true, pt, g]
      exact go _ (by unfold orK; rw [if_neg g])
theorem tes_of {p : mI → mI} {x : Int32} (hS : Pm S) (hR : Pr R) (hk : ∀ I, RdK I (p I)) (hp : ∀ (I : mI) (L : mL) (Q : mQ), Cl I → I 14 10 = x → Q .null S (p I) L R → EvM (D + 1) 56 [.ref 14] S I L R Q) {I : mI} {L : mL} {Q : mQ} (hc : Cl I) (hx : I 14 10 = x) (hq : Q .null S (testF p I) L R) : EvM (D + 2) 55 [.ref 14] S I L R Q := by
  have k := or_lp (D := D) (L := L) (Q := Q) hS hR hk hp 400 0 nv I (by omega) hc hx hq
  rw [show nI 0 = 0 from rfl] at k
  simp only [M55, E55_0, E55_1, E55_2, E55_3, E55_5, E55_8, E55_11, E55_12, E55_15, E55_16, E55_19, E55_20, E55_22, E55_25, E55_28, E55_29, E55_31, E55_34, E55_37, E55_38, E55_39, E55_42, E55_43, E55_44, E55_47, E55_48, E55_51, E55_52, E55_54, E55_57, E55_60, E55_63, E55_64, E55_67, E55_68, E55_70, E55_73, E55_74, E55_76, E55_79, E55_80, E55_81, E55_82, E55_85, E55_86, E55_89, E55_90, E55_93, E55_94, E55_95, E55_98, E55_101, E55_104, pk14 hS, pk15 hS, pl15 hS, pa15 hS, pi15 hS, pk16 hS, pl16 hS, pa16 hS, pi16 hS, pk17 hS, pl17 hS, pa17 hS, pi17 hS, pk18 hS, pl18 hS, pa18 hS, pi18 hS, pk19 hS, pl19 hS, pa19 hS, pi19 hS, pr14_0 hR, pr14_2 hR, pr14_3 hR, pr14_6 hR, pr14_7 hR, rfs, rfn, cs0, csi, csl, csr, csn, kti, ktl, ktr, ktn, ktv, ktf, true_and, and_true, and_self, ↓reduceIte, Nat.reduceAdd, Nat.reduceSub, Nat.reduceMul, Nat.reduceLT, Nat.reduceLeDiff, Nat.reduceEqDiff, true_or, or_true, false_or, or_false, not_true_eq_false, not_false_eq_true, reduceCtorEq, cmp_lt, cmp_gt, cmp_eq, Int32.reduceAdd, Int32.reduceSub, Int32.reduceMul, Int32.reduceLT, Int32.reduceToNatClampNeg, eq_self, ne_eq, Int64.reduceAdd, Int64.reduceSub, Int64.reduceMul, Int64.reduceLT, n1_0, bI_t, bI_f, Bool.false_eq_true, pt]
  exact k
/-- readPlain, b brackets more may be opened -/
theorem pla (hS : Pm S) (hR : Pr R) : ∀ (b : Nat) (I : mI) (L : mL) (Q : mQ), b ≤ 8 → Cl I → I 14 10 = nI (8 - b) → Q .null S (plainF b I) L R → EvM (D + 2 * b + 4) 56 [.ref 14] S I L R Q
  | 0, I, L, Q, _, hc, hx, hq => pla_of (D := D + 2) hS hR (fun _ => RdK.rf) (sumF_k (partF_k 0)) (fun lt => absurd lt (by decide)) (fun J L Q hc hx => sum (D := D) (b := 0) hS hR (by omega) hc hx) hc hx hq
  | b + 1, I, L, Q, hb, hc, hx, hq => by
    have k := pla_of (D := D + 2 * b + 4) (I := I) (L := L) (Q := Q) hS hR (testF_k (plainF_k b)) (sumF_k (partF_k (b + 1))) (fun _ J L Q hc hx => evm_eq (fun Q h => tes_of (D := D + 2 * b + 3) hS hR (plainF_k b) (fun I L Q hc hx h => pla hS hR b I L Q (by omega) hc (by rw [hx, nI_1, show 8 - (b + 1) + 1 = 8 - b by omega]) h) hc hx h) Q) (fun J L Q hc hx => by
      have q := sum (D := D) (b := b + 1) (I := J) (L := L) (Q := Q) hS hR hb hc hx
      rw [show D + 2 * (b + 1) + 3 = D + 2 * b + 4 + 1 by omega] at q
      exact q) hc hx hq
    rw [show D + 2 * (b + 1) + 4 = D + 2 * b + 4 + 2 by omega]
    exact k
/-- readTest -/
theorem tes {b : Nat} {I : mI} {L : mL} {Q : mQ} (hS : Pm S) (hR : Pr R) (hb : b ≤ 8) (hc : Cl I) (hx : I 14 10 = nI (8 - b)) : EvM (D + 2 * b + 5) 55 [.ref 14] S I L R Q = Q .null S (testF (plainF b) I) L R := evm_eq (fun Q h => tes_of (D := D + 2 * b + 3) hS hR (plainF_k b) (fun I L Q hc hx h => pla hS hR b I L Q hb hc hx h) hc hx h) Q
end RD
