/-! group G (p25): soonest of the class, what it keeps; both answer alike -/
def GtC (mm nd : Nat → Nat) (p : Nat) (I : mI) : Prop := ∀ f, 1 ≤ f → f ≤ 3 → I 47 f = 0 ∨ ∀ Rr, FBr mm nd p f Rr → I 47 f = nI (lst mm nd f Rr) ∧ ∀ i, i < p → I (49 + f) i = nI ((rnl mm nd Rr (gs0 f)).2 i)
section GI
variable {d p f t : Nat} {S S1 : mS} {I I1 J : mI} {L : mL} {R R1 : mR} {Q : mQ} {mm nd : Nat → Nat}
theorem GtC.cg (h : GtC mm nd p I) (e : ∀ a, 47 ≤ a → a ≤ 52 → J a = I a) : GtC mm nd p J := fun f h1 h2 => by
  rw [e 47 (by decide) (by decide), e (49 + f) (by omega) (by omega)]
  exact h f h1 h2
theorem GtC.z (e : ∀ k, k < 4 → J 47 k = 0) : GtC mm nd p J := fun f _ h2 => Or.inl (e f (by omega))
theorem lst_b (hp8 : p ≤ 8) (hf : 0 < f) (hm : ∀ i, i < p → mm i ≤ 200) {r : List Nat} (hv : Vdr nd p r) : lst mm nd f r ≤ 1600 := (Nod.mk' (rem := []) hp8 hf hm (by rw [List.append_nil]; exact hv.1) hv.2).mx
def WhC (w : Int32) (q : Nat) : Prop := w = nI q
theorem tolE {w : Int32} (hS : Pm S) (hR : Pr R) (f1 : 1 ≤ f) (f3 : f ≤ 3) (h : PcR mm nd p I) (hg : GtC mm nd p I) (hw : w = -1 ∨ ∃ q, q < p ∧ w = nI q) (hq : ∀ v J, (∀ c, c < 40 ∨ 52 < c → J c = I c) → GtC mm nd p J → (∀ Rr, FBr mm nd p f Rr → (w = -1 ∧ v = nI (lst mm nd f Rr)) ∨ ∃ q, q < p ∧ w = nI q ∧ v = nI ((rnl mm nd Rr (gs0 f)).2 q)) → Q (.int v) S J L R) : EvM (d + 13) 20 [.ref 40, .ref 5, .int (nI f), .int w] S I L R Q := by
  obtain ⟨p8, hp, hm⟩ := id h
  obtain ⟨c1, c2, c3⟩ := cho hS hR f3
  have c4 : okI S (49 + f) := ⟨c2.1, Or.inl c2.2⟩
  have i3 : inb (nI f) 4 = True := inb_nI (by omega) (by decide)
  have i4 : (nI f).toNatClampNeg = f := nI_clamp (by omega)
  have e1 : (nI f < 1) = False := eq_false (nI_nlt (a := f) (b := 1) f1 (by omega))
  have e2 : ((3 : Int32) < nI f) = False := eq_false (nI_nlt (a := 3) (b := f) f3 (by omega))
  have g : w < 8 := by
    rcases hw with rfl | ⟨q, q1, rfl⟩
    · decide
    · exact nI_lt (a := q) (b := 8) (by omega) (by decide)
  have fin : ∀ J, (∀ c, c < 40 ∨ 52 < c → J c = I c) → GtC mm nd p J → (∀ Rr, FBr mm nd p f Rr → J 47 f = nI (lst mm nd f Rr) ∧ ∀ i, i < p → J (49 + f) i = nI ((rnl mm nd Rr (gs0 f)).2 i)) → Ev (d + 13) 20 33 [.ref 40, .ref 5, .int (nI f), .int w] [] S J L R Q := fun J hJ hG hv => by
    rcases hw with rfl | ⟨q, q1, rfl⟩
    · have g2 : ((-1 : Int32) < 0) = True := eq_true (by decide)
      simp only [E20_0, E20_1, E20_2, E20_5, E20_6, E20_7, E20_10, E20_11, E20_13, E20_16, E20_17, E20_18, E20_19, E20_22, E20_23, E20_24, E20_27, E20_28, E20_28n, E20_29, E20_30, E20_33, E20_34, E20_37, E20_38, E20_41, E20_42, E20_43, E20_46, E20_47, E20_50, E20_51, E20_52, E20_53, E20_54, pk40 hS, pk47 hS, pl47 hS, pa47 hS, pi47 hS, pr40_6 hR, rfs, rfn, cs0, csi, csl, csr, csn, kti, ktl, ktr, ktn, ktv, ktf, true_and, and_true, and_self, ↓reduceIte, Nat.reduceAdd, Nat.reduceSub, Nat.reduceMul, Nat.reduceLT, Nat.reduceLeDiff, Nat.reduceEqDiff, true_or, or_true, false_or, or_false, not_true_eq_false, not_false_eq_true, reduceCtorEq, cmp_lt, cmp_gt, cmp_eq, Int32.reduceAdd, Int32.reduceSub, Int32.reduceMul, Int32.reduceLT, Int32.reduceToNatClampNeg, eq_self, ne_eq, Int64.reduceAdd, Int64.reduceSub, Int64.reduceMul, Int64.reduceLT, i3, i4, g2]
      exact hq _ _ hJ hG (fun Rr hf => Or.inl ⟨rfl, (hv Rr hf).1⟩)
    · have g2 : (nI q < 0) = False := eq_false (nI_pos (by omega))
      have e5 : inb (nI q) 8 = True := inb_nI (by omega) (by decide)
      have e6 : (nI q).toNatClampNeg = q := nI_clamp (by omega)
      simp only [E20_0, E20_1, E20_2, E20_5, E20_6, E20_7, E20_10, E20_11, E20_13, E20_16, E20_17, E20_18, E20_19, E20_22, E20_23, E20_24, E20_27, E20_28, E20_28n, E20_29, E20_30, E20_33, E20_34, E20_37, E20_38, E20_41, E20_42, E20_43, E20_46, E20_47, E20_50, E20_51, E20_52, E20_53, E20_54, pk40 hS, pk48 hS, pl48 hS, pa48 hS, pq48 hS, pr40_7 hR, rfs, rfn, cs0, csi, csl, csr, csn, kti, ktl, ktr, ktn, ktv, ktf, true_and, and_true, and_self, ↓reduceIte, Nat.reduceAdd, Nat.reduceSub, Nat.reduceMul, Nat.reduceLT, Nat.reduceLeDiff, Nat.reduceEqDiff, true_or, or_true, false_or, or_false, not_true_eq_false, not_false_eq_true, reduceCtorEq, cmp_lt, cmp_gt, cmp_eq, Int32.reduceAdd, Int32.reduceSub, Int32.reduceMul, Int32.reduceLT, Int32.reduceToNatClampNeg, eq_self, ne_eq, Int64.reduceAdd, Int64.reduceSub, Int64.reduceMul, Int64.reduceLT, i3, i4, g2, c1, c2, c3, c4, e5, e6]
      exact hq _ _ hJ hG (fun Rr hf => Or.inr ⟨q, q1, rfl, (hv Rr hf).2 q q1⟩)
  by_cases g3 : I 47 f = 0
  · simp only [M20, E20_0, E20_1, E20_2, E20_5, E20_6, E20_7, E20_10, E20_11, E20_13, E20_16, E20_17, E20_18, E20_19, E20_22, E20_23, E20_24, E20_27, E20_28, E20_28n, E20_29, E20_30, E20_34, E20_37, E20_38, E20_41, E20_42, E20_43, E20_46, E20_47, E20_50, E20_51, E20_52, E20_53, E20_54, pk40 hS, pk47 hS, pl47 hS, pa47 hS, pi47 hS, pr40_6 hR, rfs, rfn, cs0, csi, csl, csr, csn, kti, ktl, ktr, ktn, ktv, ktf, true_and, and_true, and_self, ↓reduceIte, Nat.reduceAdd, Nat.reduceSub, Nat.reduceMul, Nat.reduceLT, Nat.reduceLeDiff, Nat.reduceEqDiff, true_or, or_true, false_or, or_false, not_true_eq_false, not_false_eq_true, reduceCtorEq, cmp_lt, cmp_gt, cmp_eq, Int32.reduceAdd, Int32.reduceSub, Int32.reduceMul, Int32.reduceLT, Int32.reduceToNatClampNeg, eq_self, ne_eq, Int64.reduceAdd, Int64.reduceSub, Int64.reduceMul, Int64.reduceLT, e1, e2, g, g3, i3, i4]
    refine seaE hS hR f1 f3 h (fun J D' a1 a2 a3 a4 a5 => ?_)
    have hv : ∀ Rr, FBr mm nd p f Rr → J 47 f = nI (lst mm nd f Rr) ∧ ∀ i, i < p → J (49 + f) i = nI ((rnl mm nd Rr (gs0 f)).2 i) := fun Rr hf => by
      have lb := lst_b (mm := mm) p8 (show 0 < f by omega) (fun i hi => (hm i hi).2.2.2.1) hf.1
      obtain ⟨k1, k2⟩ := a5.2 Rr trivial hf (show lst mm nd f Rr < 1000000 by omega)
      refine ⟨by rw [a4, k1]; rfl, k2⟩
    refine fin J a1 (fun f' h1 h2 => ?_) hv
    by_cases e : f' = f
    · rw [e]; exact Or.inr hv
    · rw [a2 f' e, a3 (49 + f') (by omega) (by omega) (by omega)]
      exact hg f' h1 h2
  · simp only [M20, E20_0, E20_1, E20_2, E20_5, E20_6, E20_7, E20_10, E20_11, E20_13, E20_16, E20_17, E20_18, E20_19, E20_22, E20_23, E20_24, E20_27, E20_28, E20_28n, E20_29, E20_30, E20_34, E20_37, E20_38, E20_41, E20_42, E20_43, E20_46, E20_47, E20_50, E20_51, E20_52, E20_53, E20_54, pk40 hS, pk47 hS, pl47 hS, pa47 hS, pi47 hS, pr40_6 hR, rfs, rfn, cs0, csi, csl, csr, csn, kti, ktl, ktr, ktn, ktv, ktf, true_and, and_true, and_self, ↓reduceIte, Nat.reduceAdd, Nat.reduceSub, Nat.reduceMul, Nat.reduceLT, Nat.reduceLeDiff, Nat.reduceEqDiff, true_or, or_true, false_or, or_false, not_true_eq_false, not_false_eq_true, reduceCtorEq, cmp_lt, cmp_gt, cmp_eq, Int32.reduceAdd, Int32.reduceSub, Int32.reduceMul, Int32.reduceLT, Int32.reduceToNatClampNeg, eq_self, ne_eq, Int64.reduceAdd, Int64.reduceSub, Int64.reduceMul, Int64.reduceLT, e1, e2, g, g3, i3, i4]
    exact fin I (fun _ _ => rfl) hg ((hg f f1 f3).resolve_left g3)
/-- soonest of the class -/
theorem soonC {x w : Int32} (hS : Pm S) (hR : Pr R) (h : PcR mm nd p I) (hg : GtC mm nd p I) (hq : ∀ v J, (∀ c, c < 40 ∨ 52 < c → J c = I c) → GtC mm nd p J → ((x < 1 ∨ 3 < x ∨ w < -1 ∨ ¬ w < nI p ∨ p = 0) ∧ v = -1) ∨ (¬ p = 0 ∧ ∃ f, 1 ≤ f ∧ f ≤ 3 ∧ x = nI f ∧ ¬ w < -1 ∧ w < nI p ∧ ∀ Rr, FBr mm nd p f Rr → (w = -1 ∧ v = nI (lst mm nd f Rr)) ∨ ∃ q, q < p ∧ w = nI q ∧ v = nI ((rnl mm nd Rr (gs0 f)).2 q)) → Q (.int v) S J L R) : EvM (d + 14) 123 [.ref 4, .int x, .int w] S I L R Q := by
  obtain ⟨hp8, hp, hm⟩ := id h
  have no : (x < 1 ∨ 3 < x ∨ w < -1 ∨ ¬ w < nI p ∨ p = 0) → Q (.int (-1)) S I L R := fun z => hq _ _ (fun _ _ => rfl) hg (Or.inl ⟨z, rfl⟩)
  by_cases g1 : x < 1
  · simp only [M123, E123_0, E123_1, E123_2, E123_5, E123_6, E123_7, E123_10, E123_11, E123_12, E123_15, E123_16, E123_17, E123_20, E123_23, E123_26, E123_27, E123_30, E123_33, E123_36, E123_37, E123_38, E123_39, E123_42, E123_43, E123_46, E123_47, E123_48, E123_51, pk4 hS, pk5 hS, pr4_0 hR, rfs, rfn, cs0, csi, csl, csr, csn, kti, ktl, ktr, ktn, ktv, ktf, true_and, and_true, and_self, ↓reduceIte, Nat.reduceAdd, Nat.reduceSub, Nat.reduceMul, Nat.reduceLT, Nat.reduceLeDiff, Nat.reduceEqDiff, true_or, or_true, false_or, or_false, not_true_eq_false, not_false_eq_true, reduceCtorEq, cmp_lt, cmp_gt, cmp_eq, Int32.reduceAdd, Int32.reduceSub, Int32.reduceMul, Int32.reduceLT, Int32.reduceToNatClampNeg, eq_self, ne_eq, Int64.reduceAdd, Int64.reduceSub, Int64.reduceMul, Int64.reduceLT, g1]
    exact no (Or.inl g1)
  by_cases g2 : 3 < x
  · simp only [M123, E123_0, E123_1, E123_2, E123_5, E123_6, E123_7, E123_10, E123_11, E123_12, E123_15, E123_16, E123_17, E123_20, E123_23, E123_26, E123_27, E123_30, E123_33, E123_36, E123_37, E123_38, E123_39, E123_42, E123_43, E123_46, E123_47, E123_48, E123_51, pk4 hS, pk5 hS, pr4_0 hR, rfs, rfn, cs0, csi, csl, csr, csn, kti, ktl, ktr, ktn, ktv, ktf, true_and, and_true, and_self, ↓reduceIte, Nat.reduceAdd, Nat.reduceSub, Nat.reduceMul, Nat.reduceLT, Nat.reduceLeDiff, Nat.reduceEqDiff, true_or, or_true, false_or, or_false, not_true_eq_false, not_false_eq_true, reduceCtorEq, cmp_lt, cmp_gt, cmp_eq, Int32.reduceAdd, Int32.reduceSub, Int32.reduceMul, Int32.reduceLT, Int32.reduceToNatClampNeg, eq_self, ne_eq, Int64.reduceAdd, Int64.reduceSub, Int64.reduceMul, Int64.reduceLT, g1, g2]
    exact no (Or.inr (Or.inl g2))
  obtain ⟨f, hf, rfl⟩ := lt_nI (s := x) (n := 4) (by decide) (fun z => g1 (by
    have a := Int32.lt_iff_toInt_lt.mp z
    exact Int32.lt_iff_toInt_lt.mpr (by rw [show (0 : Int32).toInt = 0 from rfl] at a; rw [show (1 : Int32).toInt = 1 from rfl]; omega))) (Int32.lt_iff_toInt_lt.mpr (by
    have a : ¬ (3 : Int32).toInt < x.toInt := fun z => g2 (Int32.lt_iff_toInt_lt.mpr z)
    rw [show (3 : Int32).toInt = 3 from rfl] at a
    rw [show (nI 4).toInt = 4 from rfl]
    omega))
  have f1 : 1 ≤ f := Classical.byContradiction fun z => g1 (by
    obtain rfl : f = 0 := by omega
    decide)
  by_cases g3 : w < -1
  · simp only [M123, E123_0, E123_1, E123_2, E123_5, E123_6, E123_7, E123_10, E123_11, E123_12, E123_15, E123_16, E123_17, E123_20, E123_23, E123_26, E123_27, E123_30, E123_33, E123_36, E123_37, E123_38, E123_39, E123_42, E123_43, E123_46, E123_47, E123_48, E123_51, pk4 hS, pk5 hS, pr4_0 hR, rfs, rfn, cs0, csi, csl, csr, csn, kti, ktl, ktr, ktn, ktv, ktf, true_and, and_true, and_self, ↓reduceIte, Nat.reduceAdd, Nat.reduceSub, Nat.reduceMul, Nat.reduceLT, Nat.reduceLeDiff, Nat.reduceEqDiff, true_or, or_true, false_or, or_false, not_true_eq_false, not_false_eq_true, reduceCtorEq, cmp_lt, cmp_gt, cmp_eq, Int32.reduceAdd, Int32.reduceSub, Int32.reduceMul, Int32.reduceLT, Int32.reduceToNatClampNeg, eq_self, ne_eq, Int64.reduceAdd, Int64.reduceSub, Int64.reduceMul, Int64.reduceLT, g1, g2, g3]
    exact no (Or.inr (Or.inr (Or.inl g3)))
  by_cases g4 : w < nI p
  · by_cases g5 : p = 0
    · have g5' : (nI p = 0) = True := by rw [g5]; exact eq_true rfl
      have g4' : (w < nI p) = True := eq_true g4
      simp only [M123, E123_0, E123_1, E123_2, E123_5, E123_6, E123_7, E123_10, E123_11, E123_12, E123_15, E123_16, E123_17, E123_20, E123_23, E123_26, E123_27, E123_30, E123_33, E123_36, E123_37, E123_38, E123_39, E123_42, E123_43, E123_46, E123_47, E123_48, E123_51, pk4 hS, pk5 hS, pr4_0 hR, rfs, rfn, cs0, csi, csl, csr, csn, kti, ktl, ktr, ktn, ktv, ktf, true_and, and_true, and_self, ↓reduceIte, Nat.reduceAdd, Nat.reduceSub, Nat.reduceMul, Nat.reduceLT, Nat.reduceLeDiff, Nat.reduceEqDiff, true_or, or_true, false_or, or_false, not_true_eq_false, not_false_eq_true, reduceCtorEq, cmp_lt, cmp_gt, cmp_eq, Int32.reduceAdd, Int32.reduceSub, Int32.reduceMul, Int32.reduceLT, Int32.reduceToNatClampNeg, eq_self, ne_eq, Int64.reduceAdd, Int64.reduceSub, Int64.reduceMul, Int64.reduceLT, g1, g2, g3, hp, g4', g5']
      exact no (Or.inr (Or.inr (Or.inr (Or.inr g5))))
    · have g5' : (nI p = 0) = False := eq_false (nI_ne0 (by omega) (by omega))
      have hw : w = -1 ∨ ∃ q, q < p ∧ w = nI q := by
        have a1 : ¬ w.toInt < (-1 : Int32).toInt := fun z => g3 (Int32.lt_iff_toInt_lt.mpr z)
        rw [show (-1 : Int32).toInt = -1 from rfl] at a1
        have a2 := Int32.lt_iff_toInt_lt.mp g4
        rw [nI_toInt (by omega)] at a2
        by_cases e : w.toInt = -1
        · exact Or.inl (Int32.toInt_inj.mp e)
        · exact Or.inr ⟨w.toInt.toNat, by omega, ti_nI (z := w.toInt) rfl (by omega) (by omega)⟩
      simp only [M123, E123_0, E123_1, E123_2, E123_5, E123_6, E123_7, E123_10, E123_11, E123_12, E123_15, E123_16, E123_17, E123_20, E123_23, E123_26, E123_27, E123_30, E123_33, E123_36, E123_37, E123_38, E123_39, E123_42, E123_43, E123_46, E123_47, E123_48, E123_51, pk4 hS, pk5 hS, pk40 hS, pr4_0 hR, pr4_11 hR, rfs, rfn, cs0, csi, csl, csr, csn, kti, ktl, ktr, ktn, ktv, ktf, true_and, and_true, and_self, ↓reduceIte, Nat.reduceAdd, Nat.reduceSub, Nat.reduceMul, Nat.reduceLT, Nat.reduceLeDiff, Nat.reduceEqDiff, true_or, or_true, false_or, or_false, not_true_eq_false, not_false_eq_true, reduceCtorEq, cmp_lt, cmp_gt, cmp_eq, Int32.reduceAdd, Int32.reduceSub, Int32.reduceMul, Int32.reduceLT, Int32.reduceToNatClampNeg, eq_self, ne_eq, Int64.reduceAdd, Int64.reduceSub, Int64.reduceMul, Int64.reduceLT, g1, g2, g3, hp, g4, g5']
      refine tolE hS hR f1 (by omega) h hg hw (fun v J hJ hG hv => ?_)
      simp only [E123_0, E123_1, E123_2, E123_5, E123_6, E123_7, E123_10, E123_11, E123_12, E123_15, E123_16, E123_17, E123_20, E123_23, E123_26, E123_27, E123_30, E123_33, E123_36, E123_37, E123_38, E123_39, E123_42, E123_43, E123_46, E123_47, E123_48, E123_51, rfs, rfn, cs0, csi, csl, csr, csn, kti, ktl, ktr, ktn, ktv, ktf, true_and, and_true, and_self, ↓reduceIte, Nat.reduceAdd, Nat.reduceSub, Nat.reduceMul, Nat.reduceLT, Nat.reduceLeDiff, Nat.reduceEqDiff, true_or, or_true, false_or, or_false, not_true_eq_false, not_false_eq_true, reduceCtorEq, cmp_lt, cmp_gt, cmp_eq, Int32.reduceAdd, Int32.reduceSub, Int32.reduceMul, Int32.reduceLT, Int32.reduceToNatClampNeg, eq_self, ne_eq, Int64.reduceAdd, Int64.reduceSub, Int64.reduceMul, Int64.reduceLT]
      exact hq _ _ hJ hG (Or.inr ⟨g5, f, f1, by omega, rfl, g3, g4, hv⟩)
  · simp only [M123, E123_0, E123_1, E123_2, E123_5, E123_6, E123_7, E123_10, E123_11, E123_12, E123_15, E123_16, E123_17, E123_20, E123_23, E123_26, E123_27, E123_30, E123_33, E123_36, E123_37, E123_38, E123_39, E123_42, E123_43, E123_46, E123_47, E123_48, E123_51, pk4 hS, pk5 hS, pr4_0 hR, rfs, rfn, cs0, csi, csl, csr, csn, kti, ktl, ktr, ktn, ktv, ktf, true_and, and_true, and_self, ↓reduceIte, Nat.reduceAdd, Nat.reduceSub, Nat.reduceMul, Nat.reduceLT, Nat.reduceLeDiff, Nat.reduceEqDiff, true_or, or_true, false_or, or_false, not_true_eq_false, not_false_eq_true, reduceCtorEq, cmp_lt, cmp_gt, cmp_eq, Int32.reduceAdd, Int32.reduceSub, Int32.reduceMul, Int32.reduceLT, Int32.reduceToNatClampNeg, eq_self, ne_eq, Int64.reduceAdd, Int64.reduceSub, Int64.reduceMul, Int64.reduceLT, g1, g2, g3, hp, g4]
    exact no (Or.inr (Or.inr (Or.inr (Or.inl g4))))
/-- PIECES by the reference's row -/
def mmR (ρ : Nat → Int32) (i : Nat) : Nat := (ρ (40 + 2 * i)).toNatClampNeg
def ndR (ρ : Nat → Int32) (i : Nat) : Nat := if ρ (41 + 2 * i) = -1 then 0 else (ρ (41 + 2 * i)).toNatClampNeg + 1
def pcR (ρ : Nat → Int32) : Nat := (ρ 2).toNatClampNeg
def GtR (I : mI) : Prop := GtC (mmR (I 56)) (ndR (I 56)) (pcR (I 56)) I
theorem RwP.pr (h : RwP (I 56)) : PrM (mmR (I 56)) (ndR (I 56)) (pcR (I 56)) I := by
  obtain ⟨n, n8, en, hp⟩ := h
  have e : pcR (I 56) = n := by unfold pcR; rw [en]; exact nI_clamp (by omega)
  rw [e]
  refine ⟨n8, en, fun p hp' => ?_⟩
  obtain ⟨h1, m, m1, m2, m3⟩ := hp p hp'
  have em : mmR (I 56) p = m := by unfold mmR; rw [m3]; exact nI_clamp (by omega)
  rw [em, show 40 + 2 * p + 1 = 41 + 2 * p by omega]
  refine ⟨m3, ?_, m1, m2, ?_⟩
  · unfold ndR
    rcases h1 with z | ⟨q, q1, z⟩
    · rw [z]; rfl
    · have nc : ¬ nI q = -1 := fun y => nI_pos (n := q) (by omega) (by rw [y]; decide)
      rw [z, if_neg nc, nI_clamp (by omega), if_neg (Nat.succ_ne_zero q), Nat.add_sub_cancel]
  · unfold ndR
    rcases h1 with z | ⟨q, q1, z⟩
    · rw [if_pos z]; exact Nat.zero_le _
    · have nc : ¬ nI q = -1 := fun y => nI_pos (n := q) (by omega) (by rw [y]; decide)
      rw [z, if_neg nc, nI_clamp (by omega)]
      omega
theorem rnl_cg {mm' nd' : Nat → Nat} (he : ∀ i, i < p → mm' i = mm i ∧ nd' i = nd i) (hl : ∀ i, i < p → nd i ≤ i) : ∀ (r : List Nat) (s : gSt), (∀ x, x ∈ r → x < p) → rnl mm' nd' r s = rnl mm nd r s
  | [], _, _ => rfl
  | x :: r, s, h => by
    have hx := h x (List.mem_cons_self ..)
    obtain ⟨e1, e2⟩ := he x hx
    have e3 : ned mm' nd' s.2 x = ned mm nd s.2 x := by
      unfold ned
      rw [e2]
      by_cases z : nd x = 0
      · rw [if_pos z, if_pos z]
      · have := hl x hx
        rw [if_neg z, if_neg z, (he (nd x - 1) (by omega)).1]
    have e4 : gpl mm' nd' x s = gpl mm nd x s := by
      unfold gpl
      rw [e3, e1]
    show rnl mm' nd' r (gpl mm' nd' x s) = rnl mm nd r (gpl mm nd x s)
    rw [e4]
    exact rnl_cg he hl r _ (fun y hy => h y (List.mem_cons_of_mem _ hy))
theorem okr_cg2 {nd' : Nat → Nat} (he : ∀ i, i < p → nd' i = nd i) : ∀ (r : List Nat) (σ : List Nat), (∀ x, x ∈ r → x < p) → (Okr nd' σ r ↔ Okr nd σ r)
  | [], _, _ => Iff.rfl
  | x :: r, σ, h => by
    show (Rdy nd' σ x ∧ Okr nd' (x :: σ) r) ↔ (Rdy nd σ x ∧ Okr nd (x :: σ) r)
    unfold Rdy
    rw [he x (h x (List.mem_cons_self ..)), okr_cg2 he r (x :: σ) (fun y hy => h y (List.mem_cons_of_mem _ hy))]
theorem vdr_cg {nd' : Nat → Nat} (he : ∀ i, i < p → nd' i = nd i) {r : List Nat} : Vdr nd' p r ↔ Vdr nd p r := by
  unfold Vdr
  constructor
  · exact fun h => ⟨h.1, (okr_cg2 he r [] (fun x hx => List.mem_range.mp (h.1.mem_iff.mp hx))).mp h.2⟩
  · exact fun h => ⟨h.1, (okr_cg2 he r [] (fun x hx => List.mem_range.mp (h.1.mem_iff.mp hx))).mpr h.2⟩
theorem GtC.mn {mm' nd' : Nat → Nat} (he : ∀ i, i < p → mm' i = mm i ∧ nd' i = nd i) (hl : ∀ i, i < p → nd i ≤ i) (h : GtC mm nd p I) : GtC mm' nd' p I := fun f h1 h2 => by
  have hn : ∀ i, i < p → nd' i = nd i := fun i hi => (he i hi).2
  have er : ∀ r, Vdr nd p r → rnl mm' nd' r (gs0 f) = rnl mm nd r (gs0 f) := fun r hr => rnl_cg he hl r _ (fun x hx => (vdr_lt hr).mp hx)
  have el : ∀ r, Vdr nd p r → lst mm' nd' f r = lst mm nd f r := fun r hr => by unfold lst; rw [er r hr]
  rcases h f h1 h2 with z | z
  · exact Or.inl z
  · refine Or.inr (fun Rr hf => ?_)
    have hv : Vdr nd p Rr := (vdr_cg hn).mp hf.1
    have hf' : FBr mm nd p f Rr := ⟨hv, fun r hr => by
      have := hf.2.1 r ((vdr_cg hn).mpr hr)
      rw [el Rr hv, el r hr] at this
      exact this, fun r hr hlt => by
      have := hf.2.2 r ((vdr_cg hn).mpr hr) hlt
      rw [el Rr hv, el r hr] at this
      exact this⟩
    rw [el Rr hv, er Rr hv]
    exact z Rr hf'
/-- rows that are alike at 2 and at 40 to 59 -/
theorem mmR_cg {ρ σ : Nat → Int32} (e2 : σ 2 = ρ 2) (e : ∀ k, 40 ≤ k → k < 60 → σ k = ρ k) (hp : pcR ρ ≤ 8) (hl : ∀ i, i < pcR ρ → ndR ρ i ≤ i) (h : GtC (mmR ρ) (ndR ρ) (pcR ρ) I) : GtC (mmR σ) (ndR σ) (pcR σ) I := by
  have ep : pcR σ = pcR ρ := by unfold pcR; rw [e2]
  rw [ep]
  exact h.mn (fun i hi => ⟨by unfold mmR; rw [e _ (by omega) (by omega)], by unfold ndR; rw [e _ (by omega) (by omega)]⟩) hl
end GI
