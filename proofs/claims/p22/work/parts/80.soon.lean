/-! the class's calls soonest, image -/
def Gs (I J : mI) : Prop := ∀ a, a < 40 ∨ 52 < a → J a = I a
section GA
variable {d p f : Nat} {S : mS} {I : mI} {L : mL} {R : mR} {Q : mQ}
theorem sea_lp (hS : Pm S) (hR : Pr R) (hp8 : p ≤ 8) (f1 : 1 ≤ f) (f3 : f ≤ 3) (hp : I 40 8 = nI p) (hf : I 40 9 = nI f) (hq : ∀ J, Gp I J → Q .null S J L R) : ∀ (N i : Nat) (v : Int32), i + N = p → Ev (d + 12) 21 61 [.ref 40, .ref 5, .int (nI f), .int v, .int (nI i)] [] S I L R Q := by
  have i3 : inb (nI f) 4 = True := inb_nI (by omega) (by decide)
  intro N
  induction N with
  | zero =>
    intro i v hi
    obtain rfl : i = p := by omega
    have e : (nI i < nI i) = False := eq_false (nI_nlt (Nat.le_refl _) (by omega))
    rw [E21_61]
    simp only [E21_0, E21_1, E21_3, E21_3n, E21_4, E21_7, E21_10, E21_13, E21_14, E21_15, E21_18, E21_18n, E21_19, E21_22, E21_23, E21_24, E21_27, E21_28, E21_30, E21_33, E21_33n, E21_34, E21_37, E21_38, E21_39, E21_42, E21_43, E21_45, E21_48, E21_49, E21_52, E21_53, E21_56, E21_57, E21_58, E21_59, E21_63, E21_64, E21_67, E21_70, E21_71, E21_72, E21_75, E21_77, E21_78, E21_79, E21_80, E21_83, E21_86, E21_87, E21_90, E21_91, E21_94, E21_95, E21_97, E21_98, E21_99, E21_100, E21_101, E21_102, E21_103, E21_104, E21_107, pk40 hS, rfs, rfn, cs0, csi, csl, csr, csn, kti, ktl, ktr, ktn, ktv, ktf, true_and, and_true, and_self, ↓reduceIte, Nat.reduceAdd, Nat.reduceSub, Nat.reduceMul, Nat.reduceLT, Nat.reduceLeDiff, Nat.reduceEqDiff, true_or, or_true, false_or, or_false, not_true_eq_false, not_false_eq_true, reduceCtorEq, cmp_lt, cmp_gt, cmp_eq, Int32.reduceAdd, Int32.reduceSub, Int32.reduceMul, Int32.reduceLT, Int32.reduceToNatClampNeg, eq_self, ne_eq, Int64.reduceAdd, Int64.reduceSub, Int64.reduceMul, Int64.reduceLT, hp, e]
    refine mea hS hR hp8 hp (fun J hJ => ?_)
    simp only [E21_0, E21_1, E21_3, E21_3n, E21_4, E21_7, E21_10, E21_13, E21_14, E21_15, E21_18, E21_18n, E21_19, E21_22, E21_23, E21_24, E21_27, E21_28, E21_30, E21_33, E21_33n, E21_34, E21_37, E21_38, E21_39, E21_42, E21_43, E21_45, E21_48, E21_49, E21_52, E21_53, E21_56, E21_57, E21_58, E21_59, E21_63, E21_64, E21_67, E21_70, E21_71, E21_72, E21_75, E21_77, E21_78, E21_79, E21_80, E21_83, E21_86, E21_87, E21_90, E21_91, E21_94, E21_95, E21_97, E21_98, E21_99, E21_100, E21_101, E21_102, E21_103, E21_104, E21_107, pk40 hS, pk47 hS, pl47 hS, pa47 hS, pi47 hS, pr40_6 hR, rfs, rfn, cs0, csi, csl, csr, csn, kti, ktl, ktr, ktn, ktv, ktf, true_and, and_true, and_self, ↓reduceIte, Nat.reduceAdd, Nat.reduceSub, Nat.reduceMul, Nat.reduceLT, Nat.reduceLeDiff, Nat.reduceEqDiff, true_or, or_true, false_or, or_false, not_true_eq_false, not_false_eq_true, reduceCtorEq, cmp_lt, cmp_gt, cmp_eq, Int32.reduceAdd, Int32.reduceSub, Int32.reduceMul, Int32.reduceLT, Int32.reduceToNatClampNeg, eq_self, ne_eq, Int64.reduceAdd, Int64.reduceSub, Int64.reduceMul, Int64.reduceLT, pt, i3]
    have g := hJ.pt (a := 47) (k := (nI f).toNatClampNeg) (x := 1000000) (by omega) (by omega)
    have k := fun rs b bf Q' h1 h2 h3 => plGt (d := d) (p := i) (f := f) (S := S) (L := L) (R := R) hS hR hp8 f1 f3 8 0 (put J 47 (nI f).toNatClampNeg 1000000) 0 rs b bf Q' (by omega) h1 h2 h3
    rw [show nI 0 = 0 from rfl] at k
    refine k _ _ _ _ (g.2.1.trans hp) (g.2.2.trans hf) (fun J' hJ' => ?_)
    exact hq _ (g.tr hJ')
  | succ N ih =>
    intro i v hi
    have e1 : (nI i < nI p) = True := eq_true (nI_lt (by omega) (by omega))
    have e3 : inb (nI i) 8 = True := inb_nI (by omega) (by decide)
    rw [E21_61]
    simp only [E21_0, E21_1, E21_3, E21_3n, E21_4, E21_7, E21_10, E21_13, E21_14, E21_15, E21_18, E21_18n, E21_19, E21_22, E21_23, E21_24, E21_27, E21_28, E21_30, E21_33, E21_33n, E21_34, E21_37, E21_38, E21_39, E21_42, E21_43, E21_45, E21_48, E21_49, E21_52, E21_53, E21_56, E21_57, E21_58, E21_59, E21_63, E21_64, E21_67, E21_70, E21_71, E21_72, E21_75, E21_77, E21_78, E21_79, E21_80, E21_83, E21_86, E21_87, E21_90, E21_91, E21_94, E21_95, E21_97, E21_98, E21_99, E21_100, E21_101, E21_102, E21_103, E21_104, E21_107, pk40 hS, pk41 hS, pl41 hS, pa41 hS, pi41 hS, pr40_0 hR, rfs, rfn, cs0, csi, csl, csr, csn, kti, ktl, ktr, ktn, ktv, ktf, true_and, and_true, and_self, ↓reduceIte, Nat.reduceAdd, Nat.reduceSub, Nat.reduceMul, Nat.reduceLT, Nat.reduceLeDiff, Nat.reduceEqDiff, true_or, or_true, false_or, or_false, not_true_eq_false, not_false_eq_true, reduceCtorEq, cmp_lt, cmp_gt, cmp_eq, Int32.reduceAdd, Int32.reduceSub, Int32.reduceMul, Int32.reduceLT, Int32.reduceToNatClampNeg, eq_self, ne_eq, Int64.reduceAdd, Int64.reduceSub, Int64.reduceMul, Int64.reduceLT, hp, e1, e3, nI_1]
    exact ih (i + 1) _ (by omega)
theorem sea (hS : Pm S) (hR : Pr R) (hp8 : p ≤ 8) (f1 : 1 ≤ f) (f3 : f ≤ 3) (hp : I 5 9 = nI p) (hq : ∀ J, Gs I J → Q .null S J L R) : EvM (d + 12) 21 [.ref 40, .ref 5, .int (nI f)] S I L R Q := by
  have c8 : ∀ (J : mI) (a b : Nat), va_up J b (va_cpy (J a) (J b) 0 0 8) = cp8 J a b := fun _ _ _ => rfl
  have fl := fun I Q => fillI (d := d + 10) (v := 0) (I := I) (L := L) (R := R) (Q := Q) (of_eq_true (pk46 hS)) (pl46 hS) (by decide)
  have em : (if nI p < (8 : Int32) then nI p else 8) = nI p := by
    by_cases g : p < 8
    · have e : nI p < (8 : Int32) := nI_lt (a := p) (b := 8) g (by decide)
      rw [if_pos e]
    · obtain rfl : p = 8 := by omega
      rfl
  have em2 : (if (8 : Int32) < nI p then (8 : Int32) else nI p) = nI p := if_neg (nI_nlt (a := 8) (b := p) hp8 (by decide))
  simp only [M21, E21_0, E21_1, E21_3, E21_3n, E21_4, E21_7, E21_10, E21_13, E21_14, E21_15, E21_18, E21_18n, E21_19, E21_22, E21_23, E21_24, E21_27, E21_28, E21_30, E21_33, E21_33n, E21_34, E21_37, E21_38, E21_39, E21_42, E21_43, E21_45, E21_48, E21_49, E21_52, E21_53, E21_56, E21_57, E21_58, E21_59, E21_63, E21_64, E21_67, E21_70, E21_71, E21_72, E21_75, E21_77, E21_78, E21_79, E21_80, E21_83, E21_86, E21_87, E21_90, E21_91, E21_94, E21_95, E21_97, E21_98, E21_99, E21_100, E21_101, E21_102, E21_103, E21_104, E21_107, pk5 hS, pk10 hS, pl10 hS, pa10 hS, pi10 hS, pk11 hS, pl11 hS, pa11 hS, pi11 hS, pk40 hS, pk41 hS, pl41 hS, pa41 hS, pi41 hS, pk42 hS, pl42 hS, pa42 hS, pi42 hS, pk46 hS, pl46 hS, pa46 hS, pi46 hS, pr5_7 hR, pr5_8 hR, pr40_0 hR, pr40_1 hR, pr40_5 hR, rfs, rfn, cs0, csi, csl, csr, csn, kti, ktl, ktr, ktn, ktv, ktf, true_and, and_true, and_self, ↓reduceIte, Nat.reduceAdd, Nat.reduceSub, Nat.reduceMul, Nat.reduceLT, Nat.reduceLeDiff, Nat.reduceEqDiff, true_or, or_true, false_or, or_false, not_true_eq_false, not_false_eq_true, reduceCtorEq, cmp_lt, cmp_gt, cmp_eq, Int32.reduceAdd, Int32.reduceSub, Int32.reduceMul, Int32.reduceLT, Int32.reduceToNatClampNeg, eq_self, ne_eq, Int64.reduceAdd, Int64.reduceSub, Int64.reduceMul, Int64.reduceLT, pt, c8, fl, hp, em, em2, show (8 : Int32).toNatClampNeg = 8 from rfl]
  have h40 : ∀ k, filF (cp8 (cp8 (put (put I 40 8 (nI p)) 40 9 (nI f)) 10 41) 11 42) 46 3 0 40 k = put (put I 40 8 (nI p)) 40 9 (nI f) 40 k := fun k => by
    unfold filF cp8
    rw [uu_n _ _ (by decide), uu_n _ _ (by decide), uu_n _ _ (by decide)]
  have q := fun v => sea_lp (d := d) (p := p) (f := f) (I := filF (cp8 (cp8 (put (put I 40 8 (nI p)) 40 9 (nI f)) 10 41) 11 42) 46 3 0) (L := L) (Q := Q) hS hR hp8 f1 f3 (by rw [h40, pt_f (by decide), pt_s]) (by rw [h40, pt_s]) (fun J hJ => hq J (fun a ha => by
    rw [hJ.1 a ha]
    unfold filF cp8
    rw [uu_n _ _ (by omega), uu_n _ _ (by omega), uu_n _ _ (by omega), pt_n (by omega), pt_n (by omega)])) p 0 v (by omega)
  rw [show nI 0 = 0 from rfl] at q
  exact q _
theorem tol {w : Int32} (hS : Pm S) (hR : Pr R) (hp8 : p ≤ 8) (f1 : 1 ≤ f) (f3 : f ≤ 3) (hp : I 5 9 = nI p) (hq : ∀ v J, Gs I J → Q (.int v) S J L R) : EvM (d + 13) 20 [.ref 40, .ref 5, .int (nI f), .int w] S I L R Q := by
  obtain ⟨c1, c2, c3⟩ := cho hS hR f3
  have c4 : okI S (49 + f) := ⟨c2.1, Or.inl c2.2⟩
  have i3 : inb (nI f) 4 = True := inb_nI (by omega) (by decide)
  have i4 : (nI f).toNatClampNeg = f := nI_clamp (by omega)
  have e1 : (nI f < 1) = False := eq_false (nI_nlt (a := f) (b := 1) f1 (by omega))
  have e2 : ((3 : Int32) < nI f) = False := eq_false (nI_nlt (a := 3) (b := f) f3 (by omega))
  by_cases g : w < 8
  · have fin : ∀ J, Gs I J → Ev (d + 13) 20 33 [.ref 40, .ref 5, .int (nI f), .int w] [] S J L R Q := fun J hJ => by
      by_cases g2 : w < 0
      · simp only [E20_0, E20_1, E20_2, E20_5, E20_6, E20_7, E20_10, E20_11, E20_13, E20_16, E20_17, E20_18, E20_19, E20_22, E20_23, E20_24, E20_27, E20_28, E20_28n, E20_29, E20_30, E20_33, E20_34, E20_37, E20_38, E20_41, E20_42, E20_43, E20_46, E20_47, E20_50, E20_51, E20_52, E20_53, E20_54, pk40 hS, pk47 hS, pl47 hS, pa47 hS, pi47 hS, pr40_6 hR, rfs, rfn, cs0, csi, csl, csr, csn, kti, ktl, ktr, ktn, ktv, ktf, true_and, and_true, and_self, ↓reduceIte, Nat.reduceAdd, Nat.reduceSub, Nat.reduceMul, Nat.reduceLT, Nat.reduceLeDiff, Nat.reduceEqDiff, true_or, or_true, false_or, or_false, not_true_eq_false, not_false_eq_true, reduceCtorEq, cmp_lt, cmp_gt, cmp_eq, Int32.reduceAdd, Int32.reduceSub, Int32.reduceMul, Int32.reduceLT, Int32.reduceToNatClampNeg, eq_self, ne_eq, Int64.reduceAdd, Int64.reduceSub, Int64.reduceMul, Int64.reduceLT, i3, g2]
        exact hq _ _ hJ
      · have e5 : inb w 8 = True := inb_lt (n := 8) (by decide) g2 g
        simp only [E20_0, E20_1, E20_2, E20_5, E20_6, E20_7, E20_10, E20_11, E20_13, E20_16, E20_17, E20_18, E20_19, E20_22, E20_23, E20_24, E20_27, E20_28, E20_28n, E20_29, E20_30, E20_33, E20_34, E20_37, E20_38, E20_41, E20_42, E20_43, E20_46, E20_47, E20_50, E20_51, E20_52, E20_53, E20_54, pk40 hS, pk48 hS, pl48 hS, pa48 hS, pq48 hS, pr40_7 hR, rfs, rfn, cs0, csi, csl, csr, csn, kti, ktl, ktr, ktn, ktv, ktf, true_and, and_true, and_self, ↓reduceIte, Nat.reduceAdd, Nat.reduceSub, Nat.reduceMul, Nat.reduceLT, Nat.reduceLeDiff, Nat.reduceEqDiff, true_or, or_true, false_or, or_false, not_true_eq_false, not_false_eq_true, reduceCtorEq, cmp_lt, cmp_gt, cmp_eq, Int32.reduceAdd, Int32.reduceSub, Int32.reduceMul, Int32.reduceLT, Int32.reduceToNatClampNeg, eq_self, ne_eq, Int64.reduceAdd, Int64.reduceSub, Int64.reduceMul, Int64.reduceLT, i3, i4, g2, c1, c2, c3, c4, e5]
        exact hq _ _ hJ
    by_cases g3 : I 47 f = 0
    · simp only [M20, E20_0, E20_1, E20_2, E20_5, E20_6, E20_7, E20_10, E20_11, E20_13, E20_16, E20_17, E20_18, E20_19, E20_22, E20_23, E20_24, E20_27, E20_28, E20_28n, E20_29, E20_30, E20_34, E20_37, E20_38, E20_41, E20_42, E20_43, E20_46, E20_47, E20_50, E20_51, E20_52, E20_53, E20_54, pk40 hS, pk47 hS, pl47 hS, pa47 hS, pi47 hS, pr40_6 hR, rfs, rfn, cs0, csi, csl, csr, csn, kti, ktl, ktr, ktn, ktv, ktf, true_and, and_true, and_self, ↓reduceIte, Nat.reduceAdd, Nat.reduceSub, Nat.reduceMul, Nat.reduceLT, Nat.reduceLeDiff, Nat.reduceEqDiff, true_or, or_true, false_or, or_false, not_true_eq_false, not_false_eq_true, reduceCtorEq, cmp_lt, cmp_gt, cmp_eq, Int32.reduceAdd, Int32.reduceSub, Int32.reduceMul, Int32.reduceLT, Int32.reduceToNatClampNeg, eq_self, ne_eq, Int64.reduceAdd, Int64.reduceSub, Int64.reduceMul, Int64.reduceLT, e1, e2, g, g3, i3, i4]
      refine sea hS hR hp8 f1 f3 hp (fun J hJ => ?_)
      exact fin J hJ
    · simp only [M20, E20_0, E20_1, E20_2, E20_5, E20_6, E20_7, E20_10, E20_11, E20_13, E20_16, E20_17, E20_18, E20_19, E20_22, E20_23, E20_24, E20_27, E20_28, E20_28n, E20_29, E20_30, E20_34, E20_37, E20_38, E20_41, E20_42, E20_43, E20_46, E20_47, E20_50, E20_51, E20_52, E20_53, E20_54, pk40 hS, pk47 hS, pl47 hS, pa47 hS, pi47 hS, pr40_6 hR, rfs, rfn, cs0, csi, csl, csr, csn, kti, ktl, ktr, ktn, ktv, ktf, true_and, and_true, and_self, ↓reduceIte, Nat.reduceAdd, Nat.reduceSub, Nat.reduceMul, Nat.reduceLT, Nat.reduceLeDiff, Nat.reduceEqDiff, true_or, or_true, false_or, or_false, not_true_eq_false, not_false_eq_true, reduceCtorEq, cmp_lt, cmp_gt, cmp_eq, Int32.reduceAdd, Int32.reduceSub, Int32.reduceMul, Int32.reduceLT, Int32.reduceToNatClampNeg, eq_self, ne_eq, Int64.reduceAdd, Int64.reduceSub, Int64.reduceMul, Int64.reduceLT, e1, e2, g, g3, i3, i4]
      exact fin I (fun _ _ => rfl)
  · simp only [M20, E20_0, E20_1, E20_2, E20_5, E20_6, E20_7, E20_10, E20_11, E20_13, E20_16, E20_17, E20_18, E20_19, E20_22, E20_23, E20_24, E20_27, E20_28, E20_28n, E20_29, E20_30, E20_33, E20_34, E20_37, E20_38, E20_41, E20_42, E20_43, E20_46, E20_47, E20_50, E20_51, E20_52, E20_53, E20_54, pk40 hS, pk47 hS, pl47 hS, pa47 hS, pi47 hS, pr40_6 hR, rfs, rfn, cs0, csi, csl, csr, csn, kti, ktl, ktr, ktn, ktv, ktf, true_and, and_true, and_self, ↓reduceIte, Nat.reduceAdd, Nat.reduceSub, Nat.reduceMul, Nat.reduceLT, Nat.reduceLeDiff, Nat.reduceEqDiff, true_or, or_true, false_or, or_false, not_true_eq_false, not_false_eq_true, reduceCtorEq, cmp_lt, cmp_gt, cmp_eq, Int32.reduceAdd, Int32.reduceSub, Int32.reduceMul, Int32.reduceLT, Int32.reduceToNatClampNeg, eq_self, ne_eq, Int64.reduceAdd, Int64.reduceSub, Int64.reduceMul, Int64.reduceLT, e1, e2, g]
    exact hq _ _ (fun _ _ => rfl)
theorem soonest_c {x w : Int32} (hS : Pm S) (hR : Pr R) (hp8 : p ≤ 8) (hp : I 5 9 = nI p) (hq : ∀ v J, Gs I J → Q (.int v) S J L R) : EvM (d + 14) 123 [.ref 4, .int x, .int w] S I L R Q := by
  have no : Q (.int (-1)) S I L R := hq _ _ (fun _ _ => rfl)
  by_cases g1 : x < 1
  · simp only [M123, E123_0, E123_1, E123_2, E123_5, E123_6, E123_7, E123_10, E123_11, E123_12, E123_15, E123_16, E123_17, E123_20, E123_23, E123_26, E123_27, E123_30, E123_33, E123_36, E123_37, E123_38, E123_39, E123_42, E123_43, E123_46, E123_47, E123_48, E123_51, pk4 hS, pk5 hS, pr4_0 hR, rfs, rfn, cs0, csi, csl, csr, csn, kti, ktl, ktr, ktn, ktv, ktf, true_and, and_true, and_self, ↓reduceIte, Nat.reduceAdd, Nat.reduceSub, Nat.reduceMul, Nat.reduceLT, Nat.reduceLeDiff, Nat.reduceEqDiff, true_or, or_true, false_or, or_false, not_true_eq_false, not_false_eq_true, reduceCtorEq, cmp_lt, cmp_gt, cmp_eq, Int32.reduceAdd, Int32.reduceSub, Int32.reduceMul, Int32.reduceLT, Int32.reduceToNatClampNeg, eq_self, ne_eq, Int64.reduceAdd, Int64.reduceSub, Int64.reduceMul, Int64.reduceLT, g1]
    exact no
  by_cases g2 : 3 < x
  · simp only [M123, E123_0, E123_1, E123_2, E123_5, E123_6, E123_7, E123_10, E123_11, E123_12, E123_15, E123_16, E123_17, E123_20, E123_23, E123_26, E123_27, E123_30, E123_33, E123_36, E123_37, E123_38, E123_39, E123_42, E123_43, E123_46, E123_47, E123_48, E123_51, pk4 hS, pk5 hS, pr4_0 hR, rfs, rfn, cs0, csi, csl, csr, csn, kti, ktl, ktr, ktn, ktv, ktf, true_and, and_true, and_self, ↓reduceIte, Nat.reduceAdd, Nat.reduceSub, Nat.reduceMul, Nat.reduceLT, Nat.reduceLeDiff, Nat.reduceEqDiff, true_or, or_true, false_or, or_false, not_true_eq_false, not_false_eq_true, reduceCtorEq, cmp_lt, cmp_gt, cmp_eq, Int32.reduceAdd, Int32.reduceSub, Int32.reduceMul, Int32.reduceLT, Int32.reduceToNatClampNeg, eq_self, ne_eq, Int64.reduceAdd, Int64.reduceSub, Int64.reduceMul, Int64.reduceLT, g1, g2]
    exact no
  obtain ⟨f, hf, rfl⟩ := lt_nI (s := x) (n := 4) (by decide) (fun z => g1 (by
    have a := Int32.lt_iff_toInt_lt.mp z
    exact Int32.lt_iff_toInt_lt.mpr (by rw [show (0 : Int32).toInt = 0 from rfl] at a; rw [show (1 : Int32).toInt = 1 from rfl]; omega))) (Int32.lt_iff_toInt_lt.mpr (by
    have a : ¬ (3 : Int32).toInt < x.toInt := fun z => g2 (Int32.lt_iff_toInt_lt.mpr z)
    rw [show (3 : Int32).toInt = 3 from rfl] at a
    rw [show (nI 4).toInt = 4 from rfl]
    omega))
  have f1 : 1 ≤ f := Classical.byContradiction fun z => g1 (by
    obtain rfl : f = 0 := by omega
    decide)
  by_cases g3 : w < -1
  · simp only [M123, E123_0, E123_1, E123_2, E123_5, E123_6, E123_7, E123_10, E123_11, E123_12, E123_15, E123_16, E123_17, E123_20, E123_23, E123_26, E123_27, E123_30, E123_33, E123_36, E123_37, E123_38, E123_39, E123_42, E123_43, E123_46, E123_47, E123_48, E123_51, pk4 hS, pk5 hS, pr4_0 hR, rfs, rfn, cs0, csi, csl, csr, csn, kti, ktl, ktr, ktn, ktv, ktf, true_and, and_true, and_self, ↓reduceIte, Nat.reduceAdd, Nat.reduceSub, Nat.reduceMul, Nat.reduceLT, Nat.reduceLeDiff, Nat.reduceEqDiff, true_or, or_true, false_or, or_false, not_true_eq_false, not_false_eq_true, reduceCtorEq, cmp_lt, cmp_gt, cmp_eq, Int32.reduceAdd, Int32.reduceSub, Int32.reduceMul, Int32.reduceLT, Int32.reduceToNatClampNeg, eq_self, ne_eq, Int64.reduceAdd, Int64.reduceSub, Int64.reduceMul, Int64.reduceLT, g1, g2, g3]
    exact no
  by_cases g4 : w < nI p
  · by_cases g5 : nI p = 0
    · have g5' : (nI p = 0) = True := eq_true g5
      have g4' : (w < nI p) = True := eq_true g4
      simp only [M123, E123_0, E123_1, E123_2, E123_5, E123_6, E123_7, E123_10, E123_11, E123_12, E123_15, E123_16, E123_17, E123_20, E123_23, E123_26, E123_27, E123_30, E123_33, E123_36, E123_37, E123_38, E123_39, E123_42, E123_43, E123_46, E123_47, E123_48, E123_51, pk4 hS, pk5 hS, pr4_0 hR, rfs, rfn, cs0, csi, csl, csr, csn, kti, ktl, ktr, ktn, ktv, ktf, true_and, and_true, and_self, ↓reduceIte, Nat.reduceAdd, Nat.reduceSub, Nat.reduceMul, Nat.reduceLT, Nat.reduceLeDiff, Nat.reduceEqDiff, true_or, or_true, false_or, or_false, not_true_eq_false, not_false_eq_true, reduceCtorEq, cmp_lt, cmp_gt, cmp_eq, Int32.reduceAdd, Int32.reduceSub, Int32.reduceMul, Int32.reduceLT, Int32.reduceToNatClampNeg, eq_self, ne_eq, Int64.reduceAdd, Int64.reduceSub, Int64.reduceMul, Int64.reduceLT, g1, g2, g3, hp, g4', g5']
      exact no
    · simp only [M123, E123_0, E123_1, E123_2, E123_5, E123_6, E123_7, E123_10, E123_11, E123_12, E123_15, E123_16, E123_17, E123_20, E123_23, E123_26, E123_27, E123_30, E123_33, E123_36, E123_37, E123_38, E123_39, E123_42, E123_43, E123_46, E123_47, E123_48, E123_51, pk4 hS, pk5 hS, pk40 hS, pr4_0 hR, pr4_11 hR, rfs, rfn, cs0, csi, csl, csr, csn, kti, ktl, ktr, ktn, ktv, ktf, true_and, and_true, and_self, ↓reduceIte, Nat.reduceAdd, Nat.reduceSub, Nat.reduceMul, Nat.reduceLT, Nat.reduceLeDiff, Nat.reduceEqDiff, true_or, or_true, false_or, or_false, not_true_eq_false, not_false_eq_true, reduceCtorEq, cmp_lt, cmp_gt, cmp_eq, Int32.reduceAdd, Int32.reduceSub, Int32.reduceMul, Int32.reduceLT, Int32.reduceToNatClampNeg, eq_self, ne_eq, Int64.reduceAdd, Int64.reduceSub, Int64.reduceMul, Int64.reduceLT, g1, g2, g3, hp, g4, g5]
      refine tol hS hR hp8 f1 (by omega) hp (fun v J hJ => ?_)
      simp only [E123_0, E123_1, E123_2, E123_5, E123_6, E123_7, E123_10, E123_11, E123_12, E123_15, E123_16, E123_17, E123_20, E123_23, E123_26, E123_27, E123_30, E123_33, E123_36, E123_37, E123_38, E123_39, E123_42, E123_43, E123_46, E123_47, E123_48, E123_51, rfs, rfn, cs0, csi, csl, csr, csn, kti, ktl, ktr, ktn, ktv, ktf, true_and, and_true, and_self, ↓reduceIte, Nat.reduceAdd, Nat.reduceSub, Nat.reduceMul, Nat.reduceLT, Nat.reduceLeDiff, Nat.reduceEqDiff, true_or, or_true, false_or, or_false, not_true_eq_false, not_false_eq_true, reduceCtorEq, cmp_lt, cmp_gt, cmp_eq, Int32.reduceAdd, Int32.reduceSub, Int32.reduceMul, Int32.reduceLT, Int32.reduceToNatClampNeg, eq_self, ne_eq, Int64.reduceAdd, Int64.reduceSub, Int64.reduceMul, Int64.reduceLT]
      exact hq _ _ hJ
  · simp only [M123, E123_0, E123_1, E123_2, E123_5, E123_6, E123_7, E123_10, E123_11, E123_12, E123_15, E123_16, E123_17, E123_20, E123_23, E123_26, E123_27, E123_30, E123_33, E123_36, E123_37, E123_38, E123_39, E123_42, E123_43, E123_46, E123_47, E123_48, E123_51, pk4 hS, pk5 hS, pr4_0 hR, rfs, rfn, cs0, csi, csl, csr, csn, kti, ktl, ktr, ktn, ktv, ktf, true_and, and_true, and_self, ↓reduceIte, Nat.reduceAdd, Nat.reduceSub, Nat.reduceMul, Nat.reduceLT, Nat.reduceLeDiff, Nat.reduceEqDiff, true_or, or_true, false_or, or_false, not_true_eq_false, not_false_eq_true, reduceCtorEq, cmp_lt, cmp_gt, cmp_eq, Int32.reduceAdd, Int32.reduceSub, Int32.reduceMul, Int32.reduceLT, Int32.reduceToNatClampNeg, eq_self, ne_eq, Int64.reduceAdd, Int64.reduceSub, Int64.reduceMul, Int64.reduceLT, g1, g2, g3, hp, g4]
    exact no
end GA
