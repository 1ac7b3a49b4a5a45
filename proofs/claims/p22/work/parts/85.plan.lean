/-! the class's Planner: safety, whatever the longs are. P: the Planner, all of it behind it -/
def pL1 (P c : Nat) : Nat := P + 11 + 3 * c
def PlS (S : mS) (R : mR) (P c n : Nat) : Prop := (ok S P 3 ∧ (ok S (P + 1) 11 ∧ S.2.2.2 (P + 1) = 6) ∧ ok S (P + 2) 11 ∧ S.2.2.2 (P + 2) = 6) ∧ (R P 0 = some (P + 3) ∧ R P 1 = some (pL1 P c) ∧ R P 2 = some (pL1 P c + 10) ∧ R P 3 = some (pL1 P c + 20) ∧ R P 4 = some (pL1 P c + 27) ∧ R P 5 = some (pL1 P c + 34) ∧ R P 6 = some (pL1 P c + 42) ∧ R P 7 = some (P + 1) ∧ R P 8 = some (P + 2)) ∧ FoS S R (P + 3) c n ∧ (LvS S R (pL1 P c) (P + 3) (pL1 P c + 1) 7 n ∧ LvS S R (pL1 P c + 10) (P + 3) (pL1 P c + 11) 7 n ∧ LvS S R (pL1 P c + 20) (P + 3) (pL1 P c + 21) 4 n ∧ LvS S R (pL1 P c + 27) (P + 3) (pL1 P c + 28) 4 n) ∧ mat S R (pL1 P c + 34) 7 n ∧ lon S (pL1 P c + 42) n
def PlI (I : mI) (P c n : Nat) (w : Nat → Nat) : Prop := FoI I (P + 3) c n w ∧ ∀ k, k < 6 → ∃ i, i < c ∧ I (P + 1) k = nI i
/-- nothing but the Planner's own has changed -/
def Pv (P c : Nat) (I J : mI) : Prop := ∀ a, a < P ∨ P + 54 + 3 * c ≤ a → J a = I a
theorem Pv.rf {P c : Nat} {I : mI} : Pv P c I I := fun _ _ => rfl
theorem Pv.tr {P c : Nat} {I J K : mI} (h : Pv P c I J) (g : Pv P c J K) : Pv P c I K := fun a q => (g a q).trans (h a q)
theorem Pv.one {P c l : Nat} {I J : mI} (h : ∀ b, ¬ b = l → J b = I b) (h1 : P ≤ l) (h2 : l < P + 54 + 3 * c) : Pv P c I J := fun a q => h a (by omega)
theorem PlI.one {P c n l : Nat} {w : Nat → Nat} {I J : mI} (q : PlI I P c n w) (h : ∀ b, ¬ b = l → J b = I b) (h1 : P + 4 < l ∨ l = P ∨ l = P + 2) : PlI J P c n w := by
  refine ⟨⟨?_, ?_, fun i hi => ?_⟩, fun k hk => ?_⟩
  · rw [h _ (by omega)]; exact q.1.1
  · rw [h _ (by omega)]; exact q.1.2.1
  · rw [h _ (by omega)]; exact q.1.2.2 i hi
  · rw [h _ (by omega)]; exact q.2 k hk
theorem PlI.tg {P c n : Nat} {w : Nat → Nat} {I : mI} {x : Int32} (q : PlI I P c n w) : PlI (put I (P + 3) 6 x) P c n w := by
  refine ⟨⟨?_, ?_, fun i hi => ?_⟩, fun k hk => ?_⟩
  · rw [pt_f (by decide)]; exact q.1.1
  · rw [pt_f (by decide)]; exact q.1.2.1
  · rw [pt_n (by omega)]; exact q.1.2.2 i hi
  · rw [pt_n (by omega)]; exact q.2 k hk
section PH
variable {d P c n f z a : Nat} {w : Nat → Nat} {S : mS} {I : mI} {L : mL} {R : mR} {Q : mQ}
theorem nuH_lp (hS : FoS S R f c n) (hI : FoI I f c n w) (hc : c ≤ 5) (oa : okI S a) (la : S.2.2.2 a = 5) (hq : ∀ v, Q (.int v) S I L R) : ∀ (N i : Nat) (v : Int32), i + N = c → Ev (d + 1) 1 4 [.ref f, .ref a, .int v, .int (nI i)] [] S I L R Q := by
  have o0 := hS.1.1
  have o1 : okI S (f + 1) := ⟨hS.1.2.1.1, Or.inl hS.1.2.1.2⟩
  have o2 := hS.1.2.2
  have r2 := hS.2.1.1
  have i0 := hI.1
  have A : okA S a := ⟨oa.1, by rcases oa.2 with h | h <;> rw [h] <;> decide⟩
  intro N
  induction N with
  | zero =>
    intro i v hi
    obtain rfl : i = c := by omega
    have e : (nI i < nI i) = False := eq_false (nI_nlt (Nat.le_refl _) (by omega))
    rw [E1_4]
    simp only [E1_0, E1_1, E1_2, E1_3, E1_5, E1_6, E1_9, E1_12, E1_13, E1_13n, E1_14, E1_15, E1_18, E1_19, E1_19n, E1_20, E1_21, E1_22, E1_23, E1_24, E1_25, E1_28, E1_29, E1_30, E1_31, E1_32, E1_33, E1_36, E1_39, E1_40, rfs, rfn, cs0, csi, csl, csr, csn, kti, ktl, ktr, ktn, ktv, ktf, true_and, and_true, and_self, ↓reduceIte, Nat.reduceAdd, Nat.reduceSub, Nat.reduceMul, Nat.reduceLT, Nat.reduceLeDiff, Nat.reduceEqDiff, true_or, or_true, false_or, or_false, not_true_eq_false, not_false_eq_true, reduceCtorEq, cmp_lt, cmp_gt, cmp_eq, Int32.reduceAdd, Int32.reduceSub, Int32.reduceMul, Int32.reduceLT, Int32.reduceToNatClampNeg, eq_self, ne_eq, Int64.reduceAdd, Int64.reduceSub, Int64.reduceMul, Int64.reduceLT, o0, i0, e]
    exact hq _
  | succ N ih =>
    intro i v hi
    have e1 : (nI i < nI c) = True := eq_true (nI_lt (by omega) (by omega))
    have e2 : (nI i < nI 5) = True := eq_true (nI_lt (by omega) (by omega))
    have j1 : inb (nI i) c = True := inb_nI (by omega) (by omega)
    have j2 : inb (nI i) 5 = True := inb_nI (by omega) (by omega)
    rw [E1_4]
    simp only [E1_0, E1_1, E1_2, E1_3, E1_5, E1_6, E1_9, E1_12, E1_13, E1_13n, E1_14, E1_15, E1_18, E1_19, E1_19n, E1_20, E1_21, E1_22, E1_23, E1_24, E1_25, E1_28, E1_29, E1_30, E1_31, E1_32, E1_33, E1_36, E1_39, E1_40, rfs, rfn, cs0, csi, csl, csr, csn, kti, ktl, ktr, ktn, ktv, ktf, true_and, and_true, and_self, ↓reduceIte, Nat.reduceAdd, Nat.reduceSub, Nat.reduceMul, Nat.reduceLT, Nat.reduceLeDiff, Nat.reduceEqDiff, true_or, or_true, false_or, or_false, not_true_eq_false, not_false_eq_true, reduceCtorEq, cmp_lt, cmp_gt, cmp_eq, Int32.reduceAdd, Int32.reduceSub, Int32.reduceMul, Int32.reduceLT, Int32.reduceToNatClampNeg, eq_self, ne_eq, Int64.reduceAdd, Int64.reduceSub, Int64.reduceMul, Int64.reduceLT, o0, o1, o2, r2, i0, A, oa, la, e1, e2, j1, j2, nI_1]
    exact ih (i + 1) _ (by omega)
theorem nuH (hS : FoS S R f c n) (hI : FoI I f c n w) (hc : c ≤ 5) (oa : okI S a) (la : S.2.2.2 a = 5) (hq : ∀ v, Q (.int v) S I L R) : EvM (d + 1) 1 [.ref f, .ref a] S I L R Q := by
  have k := nuH_lp (d := d) hS hI hc oa la hq c 0 0 (by omega)
  rw [show nI 0 = 0 from rfl] at k
  simp only [M1, E1_0, E1_1, E1_2, E1_3, E1_5, E1_6, E1_9, E1_12, E1_13, E1_13n, E1_14, E1_15, E1_18, E1_19, E1_19n, E1_20, E1_21, E1_22, E1_23, E1_24, E1_25, E1_28, E1_29, E1_30, E1_31, E1_32, E1_33, E1_36, E1_39, E1_40, rfs, rfn, cs0, csi, csl, csr, csn, kti, ktl, ktr, ktn, ktv, ktf, true_and, and_true, and_self, ↓reduceIte, Nat.reduceAdd, Nat.reduceSub, Nat.reduceMul, Nat.reduceLT, Nat.reduceLeDiff, Nat.reduceEqDiff, true_or, or_true, false_or, or_false, not_true_eq_false, not_false_eq_true, reduceCtorEq, cmp_lt, cmp_gt, cmp_eq, Int32.reduceAdd, Int32.reduceSub, Int32.reduceMul, Int32.reduceLT, Int32.reduceToNatClampNeg, eq_self, ne_eq, Int64.reduceAdd, Int64.reduceSub, Int64.reduceMul, Int64.reduceLT]
  exact k
theorem tgH {nu : Int32} (hS : FoS S R f c n) (hI : FoI I f c n w) (hw : wOk w c) (hc : c ≤ 5) (hn : n < 2 ^ 24) (h0 : ∀ L, Q .null S I L R) (h1 : ∀ L, Q .null S (put I f 6 nu) L R) : EvM (d + 3) 3 [.ref f, .int nu] S I L R Q := by
  by_cases g : I f 6 = nu
  · have g' : (I f 6 = nu) = True := eq_true g
    have o0 := hS.1.1
    simp only [M3, E3_0, E3_1, E3_4, E3_5, E3_8, rfs, rfn, cs0, csi, csl, csr, csn, kti, ktl, ktr, ktn, ktv, ktf, true_and, and_true, and_self, ↓reduceIte, Nat.reduceAdd, Nat.reduceSub, Nat.reduceMul, Nat.reduceLT, Nat.reduceLeDiff, Nat.reduceEqDiff, true_or, or_true, false_or, or_false, not_true_eq_false, not_false_eq_true, reduceCtorEq, cmp_lt, cmp_gt, cmp_eq, Int32.reduceAdd, Int32.reduceSub, Int32.reduceMul, Int32.reduceLT, Int32.reduceToNatClampNeg, eq_self, ne_eq, Int64.reduceAdd, Int64.reduceSub, Int64.reduceMul, Int64.reduceLT, o0, g']
    exact h0 _
  · exact tkA hS hI hw hc hn g (fun L' _ _ => h1 L')
theorem aaH (hP : PlS S R P c n) (hI : PlI I P c n w) (hw : wOk w c) (hc : c ≤ 5) (hn : n < 2 ^ 24) (hz : SmS S R z) (hzP : z + 6 < P ∨ P + 54 + 3 * c ≤ z) (hq : ∀ J L, PlI J P c n w → Pv P c I J → Q .null S J L R) : EvM (d + 4) 38 [.ref P, .ref z] S I L R Q := by
  obtain ⟨⟨o0, -, -⟩, ⟨r0, r1, r2, -⟩, hF, ⟨v1, v2, -, -⟩, -⟩ := hP
  have oF := hF.1.1
  have w1 := v1.1.1
  have w2 := v2.1.1
  have z2 := hz.2.2.1
  have si2 : okI S (z + 2) := ⟨z2.1.1, Or.inl z2.1.2⟩
  have go : ∀ (I1 : mI) (L : mL), PlI I1 P c n w → Pv P c I I1 → Ev (d + 4) 38 11 [.ref P, .ref z] [] S I1 L R Q := by
    intro I1 L hI1 g1
    simp only [E38_0, E38_1, E38_4, E38_4n, E38_5, E38_8, E38_11, E38_12, E38_15, E38_16, E38_19, E38_19n, E38_20, E38_23, E38_26, E38_26n, E38_27, E38_30, E38_30n, E38_31, E38_34, E38_35, E38_36, E38_39, E38_40, E38_43, E38_44, E38_47, E38_47n, E38_48, E38_51, E38_54, E38_54n, E38_55, E38_58, E38_58n, E38_59, E38_62, E38_63, E38_64, E38_67, rfs, rfn, cs0, csi, csl, csr, csn, kti, ktl, ktr, ktn, ktv, ktf, true_and, and_true, and_self, ↓reduceIte, Nat.reduceAdd, Nat.reduceSub, Nat.reduceMul, Nat.reduceLT, Nat.reduceLeDiff, Nat.reduceEqDiff, true_or, or_true, false_or, or_false, not_true_eq_false, not_false_eq_true, reduceCtorEq, cmp_lt, cmp_gt, cmp_eq, Int32.reduceAdd, Int32.reduceSub, Int32.reduceMul, Int32.reduceLT, Int32.reduceToNatClampNeg, eq_self, ne_eq, Int64.reduceAdd, Int64.reduceSub, Int64.reduceMul, Int64.reduceLT, o0, oF, w1, w2, r0, r1, sk0 hz, sr1 hz]
    refine nuH hF hI1.1 hc (of_eq_true (si1 hz)) (sl1 hz) (fun x => ?_)
    simp only [E38_0, E38_1, E38_4, E38_4n, E38_5, E38_8, E38_11, E38_12, E38_15, E38_16, E38_19, E38_19n, E38_20, E38_23, E38_26, E38_26n, E38_27, E38_30, E38_30n, E38_31, E38_34, E38_35, E38_36, E38_39, E38_40, E38_43, E38_44, E38_47, E38_47n, E38_48, E38_51, E38_54, E38_54n, E38_55, E38_58, E38_58n, E38_59, E38_62, E38_63, E38_64, E38_67, rfs, rfn, cs0, csi, csl, csr, csn, kti, ktl, ktr, ktn, ktv, ktf, true_and, and_true, and_self, ↓reduceIte, Nat.reduceAdd, Nat.reduceSub, Nat.reduceMul, Nat.reduceLT, Nat.reduceLeDiff, Nat.reduceEqDiff, true_or, or_true, false_or, or_false, not_true_eq_false, not_false_eq_true, reduceCtorEq, cmp_lt, cmp_gt, cmp_eq, Int32.reduceAdd, Int32.reduceSub, Int32.reduceMul, Int32.reduceLT, Int32.reduceToNatClampNeg, eq_self, ne_eq, Int64.reduceAdd, Int64.reduceSub, Int64.reduceMul, Int64.reduceLT, o0, oF, w1, w2, r0, r1, sk0 hz, sr4 hz, si3 hz, sl3 hz, ib0_5]
    refine aiH (m := 6) v1 hn (by omega) (fun I2 L2 h2 => ?_)
    have hI2 := hI1.one h2 (Or.inl (by unfold pL1; omega))
    have g2 := g1.tr (Pv.one (c := c) (P := P) h2 (by unfold pL1; omega) (by unfold pL1; omega))
    simp only [E38_0, E38_1, E38_4, E38_4n, E38_5, E38_8, E38_11, E38_12, E38_15, E38_16, E38_19, E38_19n, E38_20, E38_23, E38_26, E38_26n, E38_27, E38_30, E38_30n, E38_31, E38_34, E38_35, E38_36, E38_39, E38_40, E38_43, E38_44, E38_47, E38_47n, E38_48, E38_51, E38_54, E38_54n, E38_55, E38_58, E38_58n, E38_59, E38_62, E38_63, E38_64, E38_67, rfs, rfn, cs0, csi, csl, csr, csn, kti, ktl, ktr, ktn, ktv, ktf, true_and, and_true, and_self, ↓reduceIte, Nat.reduceAdd, Nat.reduceSub, Nat.reduceMul, Nat.reduceLT, Nat.reduceLeDiff, Nat.reduceEqDiff, true_or, or_true, false_or, or_false, not_true_eq_false, not_false_eq_true, reduceCtorEq, cmp_lt, cmp_gt, cmp_eq, Int32.reduceAdd, Int32.reduceSub, Int32.reduceMul, Int32.reduceLT, Int32.reduceToNatClampNeg, eq_self, ne_eq, Int64.reduceAdd, Int64.reduceSub, Int64.reduceMul, Int64.reduceLT, o0, oF, w1, w2, r0, r2, sk0 hz, z2.2.2]
    refine nuH hF hI2.1 hc si2 z2.2.1 (fun x => ?_)
    simp only [E38_0, E38_1, E38_4, E38_4n, E38_5, E38_8, E38_11, E38_12, E38_15, E38_16, E38_19, E38_19n, E38_20, E38_23, E38_26, E38_26n, E38_27, E38_30, E38_30n, E38_31, E38_34, E38_35, E38_36, E38_39, E38_40, E38_43, E38_44, E38_47, E38_47n, E38_48, E38_51, E38_54, E38_54n, E38_55, E38_58, E38_58n, E38_59, E38_62, E38_63, E38_64, E38_67, rfs, rfn, cs0, csi, csl, csr, csn, kti, ktl, ktr, ktn, ktv, ktf, true_and, and_true, and_self, ↓reduceIte, Nat.reduceAdd, Nat.reduceSub, Nat.reduceMul, Nat.reduceLT, Nat.reduceLeDiff, Nat.reduceEqDiff, true_or, or_true, false_or, or_false, not_true_eq_false, not_false_eq_true, reduceCtorEq, cmp_lt, cmp_gt, cmp_eq, Int32.reduceAdd, Int32.reduceSub, Int32.reduceMul, Int32.reduceLT, Int32.reduceToNatClampNeg, eq_self, ne_eq, Int64.reduceAdd, Int64.reduceSub, Int64.reduceMul, Int64.reduceLT, o0, oF, w1, w2, r0, r2, sk0 hz, sr4 hz, si3 hz, sl3 hz, ib0_5]
    refine aiH (m := 6) v2 hn (by omega) (fun I3 L3 h3 => ?_)
    try simp only [E38_0, E38_1, E38_4, E38_4n, E38_5, E38_8, E38_11, E38_12, E38_15, E38_16, E38_19, E38_19n, E38_20, E38_23, E38_26, E38_26n, E38_27, E38_30, E38_30n, E38_31, E38_34, E38_35, E38_36, E38_39, E38_40, E38_43, E38_44, E38_47, E38_47n, E38_48, E38_51, E38_54, E38_54n, E38_55, E38_58, E38_58n, E38_59, E38_62, E38_63, E38_64, E38_67, rfs, rfn, cs0, csi, csl, csr, csn, kti, ktl, ktr, ktn, ktv, ktf, true_and, and_true, and_self, ↓reduceIte, Nat.reduceAdd, Nat.reduceSub, Nat.reduceMul, Nat.reduceLT, Nat.reduceLeDiff, Nat.reduceEqDiff, true_or, or_true, false_or, or_false, not_true_eq_false, not_false_eq_true, reduceCtorEq, cmp_lt, cmp_gt, cmp_eq, Int32.reduceAdd, Int32.reduceSub, Int32.reduceMul, Int32.reduceLT, Int32.reduceToNatClampNeg, eq_self, ne_eq, Int64.reduceAdd, Int64.reduceSub, Int64.reduceMul, Int64.reduceLT]
    exact hq _ _ (hI2.one h3 (Or.inl (by unfold pL1; omega))) (g2.tr (Pv.one h3 (by unfold pL1; omega) (by unfold pL1; omega)))
  simp only [M38, E38_0, E38_1, E38_4, E38_5, E38_8, rfs, rfn, cs0, csi, csl, csr, csn, kti, ktl, ktr, ktn, ktv, ktf, true_and, and_true, and_self, ↓reduceIte, Nat.reduceAdd, Nat.reduceSub, Nat.reduceMul, Nat.reduceLT, Nat.reduceLeDiff, Nat.reduceEqDiff, true_or, or_true, false_or, or_false, not_true_eq_false, not_false_eq_true, reduceCtorEq, cmp_lt, cmp_gt, cmp_eq, Int32.reduceAdd, Int32.reduceSub, Int32.reduceMul, Int32.reduceLT, Int32.reduceToNatClampNeg, eq_self, ne_eq, Int64.reduceAdd, Int64.reduceSub, Int64.reduceMul, Int64.reduceLT, o0, oF, r0, sk0 hz]
  refine tgH hF hI.1 hw hc hn (fun L => ?_) (fun L => ?_)
  · exact go I L hI Pv.rf
  · exact go _ L hI.tg (fun a q => pt_n (by omega))
theorem feH_lp {l1 l2 g1 g2 m1 m2 : Nat} {lo : Int32} (v1 : LvS S R l1 f g1 (m1 + 1) n) (v2 : LvS S R l2 f g2 (m2 + 1) n) (hS : FoS S R f c n) (hc : c ≤ 5) (hn : n < 2 ^ 24) (hm1 : m1 < 100) (hm2 : m2 < 100) (a1 : ¬ l1 = f) (a2 : ¬ l1 = f + 1) (b1 : ¬ l2 = f) (b2 : ¬ l2 = f + 1) (hq : ∀ v J L, (∀ b, ¬ b = l1 → ¬ b = l2 → J b = I b) → Q (.int v) S J L R) : ∀ (N i : Nat) (J : mI) (L : mL), i + N = 7 ∨ (N = 0 ∧ 7 ≤ i ∧ i < 2 ^ 31) → FoI J f c n w → (∀ b, ¬ b = l1 → ¬ b = l2 → J b = I b) → Ev (d + 5) 40 8 [.ref l1, .ref l2, .int lo, .int (nI i)] [] S J L R Q := by
  have q1 := v1.2.1
  have q2 := v2.2.1
  have n2 : ((2 : Int32) = 0) = False := eq_false (by decide)
  have fo : ∀ {J J' : mI} {l : Nat}, FoI J f c n w → ¬ l = f → ¬ l = f + 1 → (∀ b, ¬ b = l → J' b = J b) → FoI J' f c n w := fun hJ h1 h2 h => ⟨by rw [h _ (fun z => h1 z.symm)]; exact hJ.1, by rw [h _ (fun z => h1 z.symm)]; exact hJ.2.1, fun i hi => by rw [h _ (fun z => h2 z.symm)]; exact hJ.2.2 i hi⟩
  intro N
  induction N with
  | zero =>
    intro i J L hi hJ hg
    have e : ((6 : Int32) < nI i) = True := eq_true (nI_lt (a := 6) (b := i) (by omega) (by omega))
    rw [E40_8]
    simp only [E40_0, E40_1, E40_4, E40_5, E40_6, E40_7, E40_9, E40_11, E40_14, E40_15, E40_16, E40_17, E40_18, E40_21, E40_21n, E40_22, E40_23, E40_24, E40_25, E40_26, E40_27, E40_30, E40_33, E40_36, E40_37, E40_38, E40_41, E40_44, E40_45, rfs, rfn, cs0, csi, csl, csr, csn, kti, ktl, ktr, ktn, ktv, ktf, true_and, and_true, and_self, ↓reduceIte, Nat.reduceAdd, Nat.reduceSub, Nat.reduceMul, Nat.reduceLT, Nat.reduceLeDiff, Nat.reduceEqDiff, true_or, or_true, false_or, or_false, not_true_eq_false, not_false_eq_true, reduceCtorEq, cmp_lt, cmp_gt, cmp_eq, Int32.reduceAdd, Int32.reduceSub, Int32.reduceMul, Int32.reduceLT, Int32.reduceToNatClampNeg, eq_self, ne_eq, Int64.reduceAdd, Int64.reduceSub, Int64.reduceMul, Int64.reduceLT, e]
    exact hq _ _ _ hg
  | succ N ih =>
    intro i J L hi hJ hg
    have e : ((6 : Int32) < nI i) = False := eq_false (nI_nlt (a := 6) (b := i) (by omega) (by omega))
    rw [E40_8]
    simp only [E40_0, E40_1, E40_4, E40_5, E40_6, E40_7, E40_9, E40_11, E40_14, E40_15, E40_16, E40_17, E40_18, E40_21, E40_21n, E40_22, E40_23, E40_24, E40_25, E40_26, E40_27, E40_30, E40_33, E40_36, E40_37, E40_38, E40_41, E40_44, E40_45, rfs, rfn, cs0, csi, csl, csr, csn, kti, ktl, ktr, ktn, ktv, ktf, true_and, and_true, and_self, ↓reduceIte, Nat.reduceAdd, Nat.reduceSub, Nat.reduceMul, Nat.reduceLT, Nat.reduceLeDiff, Nat.reduceEqDiff, true_or, or_true, false_or, or_false, not_true_eq_false, not_false_eq_true, reduceCtorEq, cmp_lt, cmp_gt, cmp_eq, Int32.reduceAdd, Int32.reduceSub, Int32.reduceMul, Int32.reduceLT, Int32.reduceToNatClampNeg, eq_self, ne_eq, Int64.reduceAdd, Int64.reduceSub, Int64.reduceMul, Int64.reduceLT, e, n2, v1.1.1]
    refine atH v1 hS hJ hc hn hm1 a1 a2 (fun k1 J1 L1 hk1 h1 => ?_)
    have hJ1 := fo hJ a1 a2 h1
    simp only [E40_0, E40_1, E40_4, E40_5, E40_6, E40_7, E40_9, E40_11, E40_14, E40_15, E40_16, E40_17, E40_18, E40_21, E40_21n, E40_22, E40_23, E40_24, E40_25, E40_26, E40_27, E40_30, E40_33, E40_36, E40_37, E40_38, E40_41, E40_44, E40_45, rfs, rfn, cs0, csi, csl, csr, csn, kti, ktl, ktr, ktn, ktv, ktf, true_and, and_true, and_self, ↓reduceIte, Nat.reduceAdd, Nat.reduceSub, Nat.reduceMul, Nat.reduceLT, Nat.reduceLeDiff, Nat.reduceEqDiff, true_or, or_true, false_or, or_false, not_true_eq_false, not_false_eq_true, reduceCtorEq, cmp_lt, cmp_gt, cmp_eq, Int32.reduceAdd, Int32.reduceSub, Int32.reduceMul, Int32.reduceLT, Int32.reduceToNatClampNeg, eq_self, ne_eq, Int64.reduceAdd, Int64.reduceSub, Int64.reduceMul, Int64.reduceLT, n2, v2.1.1]
    refine atH v2 hS hJ1 hc hn hm2 b1 b2 (fun k2 J2 L2 hk2 h2 => ?_)
    have hJ2 := fo hJ1 b1 b2 h2
    have hg2 : ∀ b, ¬ b = l1 → ¬ b = l2 → J2 b = I b := fun b x y => (h2 b y).trans ((h1 b x).trans (hg b x y))
    refine meH (q1.2 k1 (by omega)).2 (q2.2 k2 (by omega)).2 hn (fun v => ?_)
    cases v with
    | false =>
      simp only [E40_0, E40_1, E40_4, E40_5, E40_6, E40_7, E40_9, E40_11, E40_14, E40_15, E40_16, E40_17, E40_18, E40_21, E40_21n, E40_22, E40_23, E40_24, E40_25, E40_26, E40_27, E40_30, E40_33, E40_36, E40_37, E40_38, E40_41, E40_44, E40_45, rfs, rfn, cs0, csi, csl, csr, csn, kti, ktl, ktr, ktn, ktv, ktf, true_and, and_true, and_self, ↓reduceIte, Nat.reduceAdd, Nat.reduceSub, Nat.reduceMul, Nat.reduceLT, Nat.reduceLeDiff, Nat.reduceEqDiff, true_or, or_true, false_or, or_false, not_true_eq_false, not_false_eq_true, reduceCtorEq, cmp_lt, cmp_gt, cmp_eq, Int32.reduceAdd, Int32.reduceSub, Int32.reduceMul, Int32.reduceLT, Int32.reduceToNatClampNeg, eq_self, ne_eq, Int64.reduceAdd, Int64.reduceSub, Int64.reduceMul, Int64.reduceLT, bI_f, nI_1]
      exact ih (i + 1) J2 L2 (Or.inl (by omega)) hJ2 hg2
    | true =>
      simp only [E40_0, E40_1, E40_4, E40_5, E40_6, E40_7, E40_9, E40_11, E40_14, E40_15, E40_16, E40_17, E40_18, E40_21, E40_21n, E40_22, E40_23, E40_24, E40_25, E40_26, E40_27, E40_30, E40_33, E40_36, E40_37, E40_38, E40_41, E40_44, E40_45, rfs, rfn, cs0, csi, csl, csr, csn, kti, ktl, ktr, ktn, ktv, ktf, true_and, and_true, and_self, ↓reduceIte, Nat.reduceAdd, Nat.reduceSub, Nat.reduceMul, Nat.reduceLT, Nat.reduceLeDiff, Nat.reduceEqDiff, true_or, or_true, false_or, or_false, not_true_eq_false, not_false_eq_true, reduceCtorEq, cmp_lt, cmp_gt, cmp_eq, Int32.reduceAdd, Int32.reduceSub, Int32.reduceMul, Int32.reduceLT, Int32.reduceToNatClampNeg, eq_self, ne_eq, Int64.reduceAdd, Int64.reduceSub, Int64.reduceMul, Int64.reduceLT, bI_t, n1_0]
      exact hq _ _ _ hg2
theorem feH {l1 l2 g1 g2 m1 m2 : Nat} {lo : Int32} (v1 : LvS S R l1 f g1 (m1 + 1) n) (v2 : LvS S R l2 f g2 (m2 + 1) n) (hS : FoS S R f c n) (hI : FoI I f c n w) (hc : c ≤ 5) (hn : n < 2 ^ 24) (hm1 : m1 < 100) (hm2 : m2 < 100) (a1 : ¬ l1 = f) (a2 : ¬ l1 = f + 1) (b1 : ¬ l2 = f) (b2 : ¬ l2 = f + 1) (hq : ∀ v J L, (∀ b, ¬ b = l1 → ¬ b = l2 → J b = I b) → Q (.int v) S J L R) : EvM (d + 5) 40 [.ref l1, .ref l2, .int lo] S I L R Q := by
  by_cases g : lo < 0
  · simp only [M40, E40_0, E40_1, E40_4, E40_5, E40_6, E40_7, E40_9, E40_11, E40_14, E40_15, E40_16, E40_17, E40_18, E40_21, E40_21n, E40_22, E40_23, E40_24, E40_25, E40_26, E40_27, E40_30, E40_33, E40_36, E40_37, E40_38, E40_41, E40_44, E40_45, rfs, rfn, cs0, csi, csl, csr, csn, kti, ktl, ktr, ktn, ktv, ktf, true_and, and_true, and_self, ↓reduceIte, Nat.reduceAdd, Nat.reduceSub, Nat.reduceMul, Nat.reduceLT, Nat.reduceLeDiff, Nat.reduceEqDiff, true_or, or_true, false_or, or_false, not_true_eq_false, not_false_eq_true, reduceCtorEq, cmp_lt, cmp_gt, cmp_eq, Int32.reduceAdd, Int32.reduceSub, Int32.reduceMul, Int32.reduceLT, Int32.reduceToNatClampNeg, eq_self, ne_eq, Int64.reduceAdd, Int64.reduceSub, Int64.reduceMul, Int64.reduceLT, g]
    exact hq _ _ _ (fun _ _ _ => rfl)
  · simp only [M40, E40_0, E40_1, E40_4, E40_5, E40_6, E40_7, E40_9, E40_11, E40_14, E40_15, E40_16, E40_17, E40_18, E40_21, E40_21n, E40_22, E40_23, E40_24, E40_25, E40_26, E40_27, E40_30, E40_33, E40_36, E40_37, E40_38, E40_41, E40_44, E40_45, rfs, rfn, cs0, csi, csl, csr, csn, kti, ktl, ktr, ktn, ktv, ktf, true_and, and_true, and_self, ↓reduceIte, Nat.reduceAdd, Nat.reduceSub, Nat.reduceMul, Nat.reduceLT, Nat.reduceLeDiff, Nat.reduceEqDiff, true_or, or_true, false_or, or_false, not_true_eq_false, not_false_eq_true, reduceCtorEq, cmp_lt, cmp_gt, cmp_eq, Int32.reduceAdd, Int32.reduceSub, Int32.reduceMul, Int32.reduceLT, Int32.reduceToNatClampNeg, eq_self, ne_eq, Int64.reduceAdd, Int64.reduceSub, Int64.reduceMul, Int64.reduceLT, g]
    have z1 : ¬ lo.toInt < 0 := fun z => g (Int32.lt_iff_toInt_lt.mpr z)
    have z3 := Int32.toInt_lt lo
    have e : lo = nI lo.toInt.toNat := ti_nI (z := lo.toInt) rfl (by omega) (by omega)
    have k := feH_lp (d := d) (lo := lo) (w := w) (Q := Q) v1 v2 hS hc hn hm1 hm2 a1 a2 b1 b2 hq (7 - lo.toInt.toNat) lo.toInt.toNat I L (by omega) hI (fun _ _ _ => rfl)
    rw [← e] at k
    exact k
end PH
