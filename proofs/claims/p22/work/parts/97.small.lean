/-! the reference's small calls, more of them -/
theorem InvM.tap {I J : mI} {t m : Nat} (h : InvM I t) (e6 : J 56 = I 56) (e7 : J 57 = I 57) (e8 : J 58 = I 58) (e2 : J 72 = I 72) (es : J 77 = I 77) (f1 : J 54 7 = nI m) (hm : m ≤ 400) (f2 : J 54 45 = I 54 45) (f3 : J 54 56 = I 54 56) (f4 : J 54 60 = I 54 60) : InvM J t := by
  unfold InvM PlM Stm
  rw [e6, e7, e8, e2, es, f1, f2, f3, f4]
  exact ⟨h.1, h.2.1, ⟨m, hm, rfl⟩, h.2.2.2.1, h.2.2.2.2.1, h.2.2.2.2.2⟩
section SN
variable {d t : Nat} {S : mS} {I : mI} {L : mL} {R : mR} {Q : mQ}
theorem mi_lp {k : Nat} (hS : Pm S) (hR : Pr R) (hk : k < 2) : ∀ (n i : Nat) (I : mI), i + n = 8060 → (∀ I' : mI, (∀ a, ¬ a = 57 → I' a = I a) → (∀ m, (m < 8060 * k + i ∨ 8060 * k + 8060 ≤ m) → I' 57 m = I 57 m) → (∀ j, i ≤ j → j < 8060 → I' 57 (8060 * k + j) = I 56 j) → Ev (d + 1) 142 54 [.ref 54, .int (nI k), .int (nI 8060)] [] S I' L R Q) → Ev (d + 1) 142 23 [.ref 54, .int (nI k), .int (nI i)] [] S I L R Q := by
  intro n
  induction n with
  | zero =>
    intro i I hi h
    obtain rfl : i = 8060 := by omega
    have e : (nI 8060 < (8060 : Int32)) = False := eq_false (by decide)
    simp only [E142_23, E142_24, E142_27, e, rfs, rfn, cs0, csi, csl, csr, csn, kti, ktl, ktr, ktn, ktv, ktf, true_and, and_true, and_self, ↓reduceIte, Nat.reduceAdd, Nat.reduceSub, Nat.reduceMul, Nat.reduceLT, Nat.reduceLeDiff, Nat.reduceEqDiff, true_or, or_true, false_or, or_false, not_true_eq_false, not_false_eq_true, reduceCtorEq, cmp_lt, cmp_gt, cmp_eq, Int32.reduceAdd, Int32.reduceSub, Int32.reduceMul, Int32.reduceLT, Int32.reduceToNatClampNeg, eq_self, ne_eq, Int64.reduceAdd, Int64.reduceSub, Int64.reduceMul, Int64.reduceLT]
    exact h I (fun _ _ => rfl) (fun _ _ => rfl) (fun j h1 h2 => absurd h2 (by omega))
  | succ n ih =>
    intro i I hi h
    have e1 : (nI i < (8060 : Int32)) = True := eq_true (nI_lt (a := i) (b := 8060) (by omega) (by decide))
    have e2 : (8060 : Int32) * nI k + nI i = nI (8060 * k + i) := by
      rw [show (8060 : Int32) = nI 8060 from rfl, pk_mul, nI_add]
    have e3 : inb (nI i) 8060 = True := inb_nI (by omega) (by decide)
    have hk2 : 8060 * k + i < 16120 := by omega
    have e4 : inb (nI (8060 * k + i)) 16120 = True := inb_nI hk2 (by decide)
    have e5 : (nI i).toNatClampNeg = i := nI_clamp (by omega)
    have e6 : (nI (8060 * k + i)).toNatClampNeg = 8060 * k + i := nI_clamp (by omega)
    rw [E142_23]
    simp only [E142_0, E142_1, E142_2, E142_5, E142_6, E142_7, E142_8, E142_9, E142_12, E142_15, E142_16, E142_17, E142_20, E142_21, E142_22, E142_24, E142_27, E142_30, E142_31, E142_34, E142_37, E142_38, E142_39, E142_40, E142_41, E142_42, E142_45, E142_46, E142_47, E142_48, E142_51, E142_55, E142_58, E142_59, E142_60, E142_61, E142_62, E142_63, E142_66, e1, e2, e3, e4, e5, e6, pk54 hS, pk56 hS, pl56 hS, pa56 hS, pi56 hS, pk57 hS, pl57 hS, pa57 hS, pi57 hS, pk58 hS, pl58 hS, pa58 hS, pr54_3 hR, pr54_4 hR, pr54_5 hR, rfs, rfn, cs0, csi, csl, csr, csn, kti, ktl, ktr, ktn, ktv, ktf, true_and, and_true, and_self, ↓reduceIte, Nat.reduceAdd, Nat.reduceSub, Nat.reduceMul, Nat.reduceLT, Nat.reduceLeDiff, Nat.reduceEqDiff, true_or, or_true, false_or, or_false, not_true_eq_false, not_false_eq_true, reduceCtorEq, cmp_lt, cmp_gt, cmp_eq, Int32.reduceAdd, Int32.reduceSub, Int32.reduceMul, Int32.reduceLT, Int32.reduceToNatClampNeg, eq_self, ne_eq, Int64.reduceAdd, Int64.reduceSub, Int64.reduceMul, Int64.reduceLT, nI_1, pt]
    refine ih (i + 1) _ (by omega) (fun I' h1 h2 h3 => h I' (fun a ha => by rw [h1 a ha, pt_n ha]) (fun m hm => ?_) (fun j j1 j2 => ?_))
    · rw [h2 m (by omega), pt_f (by omega)]
    · by_cases g : j = i
      · subst g
        rw [h2 _ (by omega), pt_s]
      · rw [h3 j (by omega) j2, pt_m (by decide)]
theorem m_image {k : Int32} (hS : Pm S) (hR : Pr R) (h : InvM I t) (hq : ∀ J L', InvM J t → OutM I J → ((inB k.toInt64 0 1 = false ∧ RlN I J) ∨ (inB k.toInt64 0 1 = true ∧ J 56 = I 56 ∧ (∀ m, (m < 8060 * k.toNatClampNeg ∨ 8060 * k.toNatClampNeg + 8060 ≤ m) → J 57 m = I 57 m) ∧ (∀ m, m < 8060 → J 57 (8060 * k.toNatClampNeg + m) = I 56 m) ∧ J 58 k.toNatClampNeg = 1 ∧ (∀ j, ¬ j = k.toNatClampNeg → J 58 j = I 58 j) ∧ J 59 = I 59 ∧ J 54 7 = I 54 7 ∧ J 54 12 = I 54 12)) → Q (.int (if inB k.toInt64 0 1 then 0 else -1)) S J L' R) : EvM (d + 2) 142 [.ref 54, .int k] S I L R Q := by
  have e1 : (1 : Int32) = 0 ↔ False := by decide
  cases g : inB k.toInt64 0 1
  · rw [g] at hq
    simp only [M142, E142_0, E142_1, E142_2, E142_5, E142_6, E142_7, E142_8, E142_9, E142_12, E142_15, E142_16, E142_17, E142_20, E142_21, E142_22, E142_24, E142_27, E142_30, E142_31, E142_34, E142_37, E142_38, E142_39, E142_40, E142_41, E142_42, E142_45, E142_46, E142_47, E142_48, E142_51, E142_54, E142_55, E142_58, E142_59, E142_60, E142_61, E142_62, E142_63, E142_66, inn, g, bI_f, tel1 hS hR, pk54 hS, rfs, rfn, cs0, csi, csl, csr, csn, kti, ktl, ktr, ktn, ktv, ktf, true_and, and_true, and_self, ↓reduceIte, Nat.reduceAdd, Nat.reduceSub, Nat.reduceMul, Nat.reduceLT, Nat.reduceLeDiff, Nat.reduceEqDiff, true_or, or_true, false_or, or_false, not_true_eq_false, not_false_eq_true, reduceCtorEq, cmp_lt, cmp_gt, cmp_eq, Int32.reduceAdd, Int32.reduceSub, Int32.reduceMul, Int32.reduceLT, Int32.reduceToNatClampNeg, eq_self, ne_eq, Int64.reduceAdd, Int64.reduceSub, Int64.reduceMul, Int64.reduceLT, pt]
    exact hq _ _ h.p0.tel (by repeat (first | exact OutM.rf | apply telF_o | refine OutM.pt ?_ (by decide) (by decide))) (Or.inl ⟨rfl, (by repeat (first | exact RlN.rf | apply RlN.tel | refine RlN.p4 ?_ (by decide) | refine RlN.pa ?_ (by decide)))⟩)
  · rw [g] at hq
    obtain ⟨c, c1, c2, rfl⟩ := inN (a := 0) (b := 1) g rfl rfl (by decide)
    have e3 : inb (nI c) 2 = True := inb_nI (by omega) (by decide)
    have e4 : (nI c).toNatClampNeg = c := nI_clamp (by omega)
    simp only [M142, E142_0, E142_1, E142_2, E142_5, E142_6, E142_7, E142_8, E142_9, E142_12, E142_15, E142_16, E142_17, E142_20, E142_21, E142_22, E142_24, E142_27, E142_30, E142_31, E142_34, E142_37, E142_38, E142_39, E142_40, E142_41, E142_42, E142_45, E142_46, E142_47, E142_48, E142_51, E142_55, E142_58, E142_59, E142_60, E142_61, E142_62, E142_63, E142_66, inn, g, bI_t, pk54 hS, rfs, rfn, cs0, csi, csl, csr, csn, kti, ktl, ktr, ktn, ktv, ktf, true_and, and_true, and_self, ↓reduceIte, Nat.reduceAdd, Nat.reduceSub, Nat.reduceMul, Nat.reduceLT, Nat.reduceLeDiff, Nat.reduceEqDiff, true_or, or_true, false_or, or_false, not_true_eq_false, not_false_eq_true, reduceCtorEq, cmp_lt, cmp_gt, cmp_eq, Int32.reduceAdd, Int32.reduceSub, Int32.reduceMul, Int32.reduceLT, Int32.reduceToNatClampNeg, eq_self, ne_eq, Int64.reduceAdd, Int64.reduceSub, Int64.reduceMul, Int64.reduceLT, pt, e1]
    refine mi_lp (d := d + 1) hS hR (k := c) (by omega) 8060 0 _ rfl (fun I' h1 h2 h3 => ?_)
    simp only [M142, E142_0, E142_1, E142_2, E142_5, E142_6, E142_7, E142_8, E142_9, E142_12, E142_15, E142_16, E142_17, E142_20, E142_21, E142_22, E142_24, E142_27, E142_30, E142_31, E142_34, E142_37, E142_38, E142_39, E142_40, E142_41, E142_42, E142_45, E142_46, E142_47, E142_48, E142_51, E142_54, E142_55, E142_58, E142_59, E142_60, E142_61, E142_62, E142_63, E142_66, pk54 hS, pk58 hS, pl58 hS, pa58 hS, pr54_5 hR, tel0 hS hR, rfs, rfn, cs0, csi, csl, csr, csn, kti, ktl, ktr, ktn, ktv, ktf, true_and, and_true, and_self, ↓reduceIte, Nat.reduceAdd, Nat.reduceSub, Nat.reduceMul, Nat.reduceLT, Nat.reduceLeDiff, Nat.reduceEqDiff, true_or, or_true, false_or, or_false, not_true_eq_false, not_false_eq_true, reduceCtorEq, cmp_lt, cmp_gt, cmp_eq, Int32.reduceAdd, Int32.reduceSub, Int32.reduceMul, Int32.reduceLT, Int32.reduceToNatClampNeg, eq_self, ne_eq, Int64.reduceAdd, Int64.reduceSub, Int64.reduceMul, Int64.reduceLT, pt, e3, e4]
    refine hq _ _ (InvM.tel ?_) ?_ (Or.inr ⟨rfl, ?_⟩)
    · have f : ∀ a, ¬ a = 57 → ¬ a = 58 → ¬ a = 54 → put I' 58 c 1 a = I a := fun a a1 a2 a3 => by rw [pt_n a2, h1 a a1, pt_n a3]
      have f4 : ∀ k, ¬ k = 0 → put I' 58 c 1 54 k = I 54 k := fun k hk => by rw [pt_m (by decide), h1 54 (by decide), pt_f hk]
      have i8 : I' 58 = I 58 := by rw [h1 58 (by decide), pt_n (by decide)]
      have i6 : I' 56 = I 56 := by rw [h1 56 (by decide), pt_n (by decide)]
      unfold InvM PlM Stm
      rw [f 56 (by decide) (by decide) (by decide), f 72 (by decide) (by decide) (by decide), f 77 (by decide) (by decide) (by decide), f4 7 (by decide), f4 45 (by decide), f4 56 (by decide), f4 60 (by decide), pt_n (show ¬ 57 = 58 by decide)]
      refine ⟨h.1, fun b hb z => ?_, h.2.2.1, h.2.2.2.1, h.2.2.2.2.1, h.2.2.2.2.2⟩
      by_cases q : b = c
      · subst q
        exact h.1.cg (fun k hk => by rw [h3 k (by omega) hk, pt_m (by decide)])
      · rw [pt_f q, i8] at z
        exact (h.2.1 b hb z).cg (fun k hk => by rw [h2 _ (by omega), pt_m (by decide)])
    · exact telF_o (fun a ha => by rw [pt_n (by omega), h1 a (by omega), pt_n (by omega)])
    · rw [e4]
      have nt : ∀ a, ¬ a = 54 → ¬ a = 55 → telF (put I' 58 c 1) 0 a = put I' 58 c 1 a := fun a a1 a2 => telF_n a1 a2
      rw [nt 56 (by decide) (by decide), nt 57 (by decide) (by decide), nt 58 (by decide) (by decide), nt 59 (by decide) (by decide), telF_f (by decide)]
      refine ⟨by rw [pt_n (by decide), h1 56 (by decide), pt_n (by decide)], fun m hm => by rw [pt_n (by decide), h2 m (by omega), pt_n (by decide)], fun m hm => by rw [pt_n (by decide), h3 m (by omega) hm, pt_n (by decide)], pt_s, fun j hj => by rw [pt_f hj, h1 58 (by decide), pt_n (by decide)], by rw [pt_n (by decide), h1 59 (by decide), pt_n (by decide)], by rw [pt_m (by decide), h1 54 (by decide), pt_f (by decide)], by rw [telF_f (by decide), pt_m (by decide), h1 54 (by decide), pt_f (by decide)]⟩
theorem mb_lp {k : Nat} (hS : Pm S) (hR : Pr R) (hk : k < 2) : ∀ (n i : Nat) (I : mI), i + n = 8060 → (∀ I' : mI, (∀ a, ¬ a = 56 → I' a = I a) → (∀ m, m < i → I' 56 m = I 56 m) → (∀ j, i ≤ j → j < 8060 → I' 56 j = I 57 (8060 * k + j)) → Ev (d + 1) 143 70 [.ref 54, .int (nI k), .int (nI 8060)] [] S I' L R Q) → Ev (d + 1) 143 39 [.ref 54, .int (nI k), .int (nI i)] [] S I L R Q := by
  intro n
  induction n with
  | zero =>
    intro i I hi h
    obtain rfl : i = 8060 := by omega
    have e : (nI 8060 < (8060 : Int32)) = False := eq_false (by decide)
    simp only [E143_39, E143_40, E143_43, e, rfs, rfn, cs0, csi, csl, csr, csn, kti, ktl, ktr, ktn, ktv, ktf, true_and, and_true, and_self, ↓reduceIte, Nat.reduceAdd, Nat.reduceSub, Nat.reduceMul, Nat.reduceLT, Nat.reduceLeDiff, Nat.reduceEqDiff, true_or, or_true, false_or, or_false, not_true_eq_false, not_false_eq_true, reduceCtorEq, cmp_lt, cmp_gt, cmp_eq, Int32.reduceAdd, Int32.reduceSub, Int32.reduceMul, Int32.reduceLT, Int32.reduceToNatClampNeg, eq_self, ne_eq, Int64.reduceAdd, Int64.reduceSub, Int64.reduceMul, Int64.reduceLT]
    exact h I (fun _ _ => rfl) (fun _ _ => rfl) (fun j h1 h2 => absurd h2 (by omega))
  | succ n ih =>
    intro i I hi h
    have e1 : (nI i < (8060 : Int32)) = True := eq_true (nI_lt (a := i) (b := 8060) (by omega) (by decide))
    have e2 : (8060 : Int32) * nI k + nI i = nI (8060 * k + i) := by
      rw [show (8060 : Int32) = nI 8060 from rfl, pk_mul, nI_add]
    have e3 : inb (nI i) 8060 = True := inb_nI (by omega) (by decide)
    have hk2 : 8060 * k + i < 16120 := by omega
    have e4 : inb (nI (8060 * k + i)) 16120 = True := inb_nI hk2 (by decide)
    have e5 : (nI i).toNatClampNeg = i := nI_clamp (by omega)
    have e6 : (nI (8060 * k + i)).toNatClampNeg = 8060 * k + i := nI_clamp (by omega)
    rw [E143_39]
    simp only [E143_0, E143_1, E143_2, E143_5, E143_6, E143_7, E143_8, E143_9, E143_12, E143_15, E143_16, E143_17, E143_20, E143_21, E143_22, E143_25, E143_26, E143_27, E143_30, E143_31, E143_33, E143_36, E143_37, E143_38, E143_40, E143_43, E143_46, E143_47, E143_50, E143_51, E143_52, E143_55, E143_58, E143_59, E143_60, E143_61, E143_62, E143_63, E143_64, E143_67, E143_71, E143_74, E143_75, E143_76, E143_79, e1, e2, e3, e4, e5, e6, pk54 hS, pk56 hS, pl56 hS, pa56 hS, pi56 hS, pk57 hS, pl57 hS, pa57 hS, pi57 hS, pk58 hS, pl58 hS, pa58 hS, pr54_3 hR, pr54_4 hR, pr54_5 hR, rfs, rfn, cs0, csi, csl, csr, csn, kti, ktl, ktr, ktn, ktv, ktf, true_and, and_true, and_self, ↓reduceIte, Nat.reduceAdd, Nat.reduceSub, Nat.reduceMul, Nat.reduceLT, Nat.reduceLeDiff, Nat.reduceEqDiff, true_or, or_true, false_or, or_false, not_true_eq_false, not_false_eq_true, reduceCtorEq, cmp_lt, cmp_gt, cmp_eq, Int32.reduceAdd, Int32.reduceSub, Int32.reduceMul, Int32.reduceLT, Int32.reduceToNatClampNeg, eq_self, ne_eq, Int64.reduceAdd, Int64.reduceSub, Int64.reduceMul, Int64.reduceLT, nI_1, pt]
    refine ih (i + 1) _ (by omega) (fun I' h1 h2 h3 => h I' (fun a ha => by rw [h1 a ha, pt_n ha]) (fun m hm => ?_) (fun j j1 j2 => ?_))
    · rw [h2 m (by omega), pt_f (by omega)]
    · by_cases g : j = i
      · subst g
        rw [h2 _ (by omega), pt_s]
      · rw [h3 j (by omega) j2, pt_m (by decide)]
theorem m_back {k : Int32} (hS : Pm S) (hR : Pr R) (h : InvM I t) (hq : ∀ v J L', InvM J t → OutM I J → ((inB k.toInt64 0 1 = false ∧ v = -1 ∧ RlN I J) ∨ (inB k.toInt64 0 1 = true ∧ I 58 k.toNatClampNeg = 0 ∧ v = -2 ∧ RlN I J) ∨ (inB k.toInt64 0 1 = true ∧ ¬ I 58 k.toNatClampNeg = 0 ∧ v = 0 ∧ RlW I J (fun m => I 57 (8060 * k.toNatClampNeg + m)))) → Q (.int v) S J L' R) : EvM (d + 2) 143 [.ref 54, .int k] S I L R Q := by
  have e1 : (1 : Int32) = 0 ↔ False := by decide
  cases g : inB k.toInt64 0 1
  · simp only [M143, E143_0, E143_1, E143_2, E143_5, E143_6, E143_7, E143_8, E143_9, E143_12, E143_15, E143_16, E143_17, E143_20, E143_21, E143_22, E143_25, E143_26, E143_27, E143_30, E143_31, E143_33, E143_36, E143_37, E143_38, E143_40, E143_43, E143_46, E143_47, E143_50, E143_51, E143_52, E143_55, E143_58, E143_59, E143_60, E143_61, E143_62, E143_63, E143_64, E143_67, E143_70, E143_71, E143_74, E143_75, E143_76, E143_79, inn, g, bI_f, tel1 hS hR, pk54 hS, rfs, rfn, cs0, csi, csl, csr, csn, kti, ktl, ktr, ktn, ktv, ktf, true_and, and_true, and_self, ↓reduceIte, Nat.reduceAdd, Nat.reduceSub, Nat.reduceMul, Nat.reduceLT, Nat.reduceLeDiff, Nat.reduceEqDiff, true_or, or_true, false_or, or_false, not_true_eq_false, not_false_eq_true, reduceCtorEq, cmp_lt, cmp_gt, cmp_eq, Int32.reduceAdd, Int32.reduceSub, Int32.reduceMul, Int32.reduceLT, Int32.reduceToNatClampNeg, eq_self, ne_eq, Int64.reduceAdd, Int64.reduceSub, Int64.reduceMul, Int64.reduceLT, pt]
    exact hq _ _ _ h.p0.tel (by repeat (first | exact OutM.rf | apply telF_o | refine OutM.pt ?_ (by decide) (by decide))) (Or.inl ⟨g, rfl, (by repeat (first | exact RlN.rf | apply RlN.tel | refine RlN.p4 ?_ (by decide) | refine RlN.pa ?_ (by decide)))⟩)
  · obtain ⟨c, c1, c2, rfl⟩ := inN (a := 0) (b := 1) g rfl rfl (by decide)
    have e3 : inb (nI c) 2 = True := inb_nI (by omega) (by decide)
    have e4 : (nI c).toNatClampNeg = c := nI_clamp (by omega)
    by_cases g2 : I 58 c = 0
    · simp only [M143, E143_0, E143_1, E143_2, E143_5, E143_6, E143_7, E143_8, E143_9, E143_12, E143_15, E143_16, E143_17, E143_20, E143_21, E143_22, E143_25, E143_26, E143_27, E143_30, E143_31, E143_33, E143_36, E143_37, E143_38, E143_40, E143_43, E143_46, E143_47, E143_50, E143_51, E143_52, E143_55, E143_58, E143_59, E143_60, E143_61, E143_62, E143_63, E143_64, E143_67, E143_70, E143_71, E143_74, E143_75, E143_76, E143_79, inn, g, bI_t, tel2 hS hR, pk54 hS, pk58 hS, pl58 hS, pa58 hS, pr54_5 hR, rfs, rfn, cs0, csi, csl, csr, csn, kti, ktl, ktr, ktn, ktv, ktf, true_and, and_true, and_self, ↓reduceIte, Nat.reduceAdd, Nat.reduceSub, Nat.reduceMul, Nat.reduceLT, Nat.reduceLeDiff, Nat.reduceEqDiff, true_or, or_true, false_or, or_false, not_true_eq_false, not_false_eq_true, reduceCtorEq, cmp_lt, cmp_gt, cmp_eq, Int32.reduceAdd, Int32.reduceSub, Int32.reduceMul, Int32.reduceLT, Int32.reduceToNatClampNeg, eq_self, ne_eq, Int64.reduceAdd, Int64.reduceSub, Int64.reduceMul, Int64.reduceLT, pt, pt_m, e1, e3, e4, g2]
      exact hq _ _ _ h.p0.tel (by repeat (first | exact OutM.rf | apply telF_o | refine OutM.pt ?_ (by decide) (by decide))) (Or.inr (Or.inl ⟨g, by rw [e4]; exact g2, rfl, (by repeat (first | exact RlN.rf | apply RlN.tel | refine RlN.p4 ?_ (by decide) | refine RlN.pa ?_ (by decide)))⟩))
    · simp only [M143, E143_0, E143_1, E143_2, E143_5, E143_6, E143_7, E143_8, E143_9, E143_12, E143_15, E143_16, E143_17, E143_20, E143_21, E143_22, E143_25, E143_26, E143_27, E143_30, E143_31, E143_33, E143_36, E143_37, E143_38, E143_40, E143_43, E143_46, E143_47, E143_50, E143_51, E143_52, E143_55, E143_58, E143_59, E143_60, E143_61, E143_62, E143_63, E143_64, E143_67, E143_71, E143_74, E143_75, E143_76, E143_79, inn, g, bI_t, pk54 hS, pk58 hS, pl58 hS, pa58 hS, pr54_5 hR, rfs, rfn, cs0, csi, csl, csr, csn, kti, ktl, ktr, ktn, ktv, ktf, true_and, and_true, and_self, ↓reduceIte, Nat.reduceAdd, Nat.reduceSub, Nat.reduceMul, Nat.reduceLT, Nat.reduceLeDiff, Nat.reduceEqDiff, true_or, or_true, false_or, or_false, not_true_eq_false, not_false_eq_true, reduceCtorEq, cmp_lt, cmp_gt, cmp_eq, Int32.reduceAdd, Int32.reduceSub, Int32.reduceMul, Int32.reduceLT, Int32.reduceToNatClampNeg, eq_self, ne_eq, Int64.reduceAdd, Int64.reduceSub, Int64.reduceMul, Int64.reduceLT, pt, pt_m, e1, e3, e4, g2]
      refine mb_lp (d := d + 1) hS hR (k := c) (by omega) 8060 0 _ rfl (fun I' h1 h2 h3 => ?_)
      simp only [M143, E143_0, E143_1, E143_2, E143_5, E143_6, E143_7, E143_8, E143_9, E143_12, E143_15, E143_16, E143_17, E143_20, E143_21, E143_22, E143_25, E143_26, E143_27, E143_30, E143_31, E143_33, E143_36, E143_37, E143_38, E143_40, E143_43, E143_46, E143_47, E143_50, E143_51, E143_52, E143_55, E143_58, E143_59, E143_60, E143_61, E143_62, E143_63, E143_64, E143_67, E143_70, E143_71, E143_74, E143_75, E143_76, E143_79, cgt hS, pk54 hS, tel0 hS hR, rfs, rfn, cs0, csi, csl, csr, csn, kti, ktl, ktr, ktn, ktv, ktf, true_and, and_true, and_self, ↓reduceIte, Nat.reduceAdd, Nat.reduceSub, Nat.reduceMul, Nat.reduceLT, Nat.reduceLeDiff, Nat.reduceEqDiff, true_or, or_true, false_or, or_false, not_true_eq_false, not_false_eq_true, reduceCtorEq, cmp_lt, cmp_gt, cmp_eq, Int32.reduceAdd, Int32.reduceSub, Int32.reduceMul, Int32.reduceLT, Int32.reduceToNatClampNeg, eq_self, ne_eq, Int64.reduceAdd, Int64.reduceSub, Int64.reduceMul, Int64.reduceLT]
      have f : ∀ a, ¬ a = 56 → ¬ a = 54 → put (put I' 54 59 (-1)) 54 60 (-2) a = I a := fun a a1 a3 => by rw [pt_n a3, pt_n a3, h1 a a1, pt_n a3]
      have f4 : ∀ k, ¬ k = 0 → ¬ k = 59 → ¬ k = 60 → put (put I' 54 59 (-1)) 54 60 (-2) 54 k = I 54 k := fun k hk k2 k3 => by rw [pt_f k3, pt_f k2, h1 54 (by decide), pt_f hk]
      refine hq _ _ _ (InvM.tel (h.row ?_ (f _ (by decide) (by decide)) (f _ (by decide) (by decide)) (f _ (by decide) (by decide)) (f4 _ (by decide) (by decide) (by decide)) (f4 _ (by decide) (by decide) (by decide)) (f4 _ (by decide) (by decide) (by decide)) pt_s)) (telF_o (fun a ha => f a (by omega) (by omega))) (Or.inr (Or.inr ⟨g, by rw [e4]; exact g2, rfl, RlW.fg ⟨fun m m1 => ?_, ?_, ?_, ?_, ?_, ?_⟩⟩))
      · rw [pt_n (by decide), pt_n (by decide)]
        exact (h.2.1 c (by omega) g2).cg (fun k hk => by rw [h3 k (by omega) hk, pt_m (by decide)])
      · rw [e4, h3 m (by omega) (by omega), pt_m (by decide)]
      · rw [h1 57 (by decide), pt_n (by decide)]
      · rw [h1 58 (by decide), pt_n (by decide)]
      · rw [h1 59 (by decide), pt_n (by decide)]
      · rw [h1 54 (by decide), pt_f (by decide)]
      · rw [h1 54 (by decide), pt_f (by decide)]
theorem m_status (hS : Pm S) (hR : Pr R) (h : InvM I t) (hq : ∀ v J L', InvM J t → OutM I J → RlN I J → Q (.int v) S J L' R) : EvM (d + 1) 229 [.ref 54] S I L R Q := by
  simp only [M229, E229_0, E229_1, E229_2, E229_5, E229_6, E229_9, pk54 hS, rfs, rfn, cs0, csi, csl, csr, csn, kti, ktl, ktr, ktn, ktv, ktf, true_and, and_true, and_self, ↓reduceIte, Nat.reduceAdd, Nat.reduceSub, Nat.reduceMul, Nat.reduceLT, Nat.reduceLeDiff, Nat.reduceEqDiff, true_or, or_true, false_or, or_false, not_true_eq_false, not_false_eq_true, reduceCtorEq, cmp_lt, cmp_gt, cmp_eq, Int32.reduceAdd, Int32.reduceSub, Int32.reduceMul, Int32.reduceLT, Int32.reduceToNatClampNeg, eq_self, ne_eq, Int64.reduceAdd, Int64.reduceSub, Int64.reduceMul, Int64.reduceLT, pt]
  exact hq _ _ _ h.p0 (by repeat (first | exact OutM.rf | apply telF_o | refine OutM.pt ?_ (by decide) (by decide))) (by repeat (first | exact RlN.rf | apply RlN.tel | refine RlN.p4 ?_ (by decide) | refine RlN.pa ?_ (by decide)))
theorem m_fault (hS : Pm S) (hR : Pr R) (h : InvM I t) (hq : ∀ v J L', InvM J t → OutM I J → RlN I J ∧ v = I 54 12 → Q (.int v) S J L' R) : EvM (d + 1) 165 [.ref 54] S I L R Q := by
  simp only [M165, E165_0, E165_1, E165_2, E165_5, E165_6, E165_9, pk54 hS, rfs, rfn, cs0, csi, csl, csr, csn, kti, ktl, ktr, ktn, ktv, ktf, true_and, and_true, and_self, ↓reduceIte, Nat.reduceAdd, Nat.reduceSub, Nat.reduceMul, Nat.reduceLT, Nat.reduceLeDiff, Nat.reduceEqDiff, true_or, or_true, false_or, or_false, not_true_eq_false, not_false_eq_true, reduceCtorEq, cmp_lt, cmp_gt, cmp_eq, Int32.reduceAdd, Int32.reduceSub, Int32.reduceMul, Int32.reduceLT, Int32.reduceToNatClampNeg, eq_self, ne_eq, Int64.reduceAdd, Int64.reduceSub, Int64.reduceMul, Int64.reduceLT, pt]
  exact hq _ _ _ h.p0 (by repeat (first | exact OutM.rf | apply telF_o | refine OutM.pt ?_ (by decide) (by decide))) ⟨(by repeat (first | exact RlN.rf | apply RlN.tel | refine RlN.p4 ?_ (by decide) | refine RlN.pa ?_ (by decide))), by rw [pt_f (by decide)]⟩
theorem m_steps {r : Int32} (hS : Pm S) (hR : Pr R) (h : InvM I t) (hq : ∀ v J L', InvM J t → OutM I J → RlN I J ∧ ((inB r.toInt64 0 ((I 56 1).toInt64 - 1) = false ∧ v = -1) ∨ (inB r.toInt64 0 ((I 56 1).toInt64 - 1) = true ∧ v = I 56 (60 + 1000 * r.toNatClampNeg))) → Q (.int v) S J L' R) : EvM (d + 3) 182 [.ref 54, .int r] S I L R Q := by
  have e1 : (1 : Int32) = 0 ↔ False := by decide
  obtain ⟨w, w1, e, _⟩ := h.1.2.2.2.2
  cases g : inB r.toInt64 0 ((I 56 1).toInt64 - 1)
  · simp only [M182, E182_0, E182_1, E182_2, E182_5, E182_6, E182_7, E182_10, E182_13, E182_14, E182_17, E182_19, E182_22, E182_23, E182_24, E182_25, E182_26, E182_29, E182_30, isr hS hR, pt_m, g, bI_f, pk54 hS, rfs, rfn, cs0, csi, csl, csr, csn, kti, ktl, ktr, ktn, ktv, ktf, true_and, and_true, and_self, ↓reduceIte, Nat.reduceAdd, Nat.reduceSub, Nat.reduceMul, Nat.reduceLT, Nat.reduceLeDiff, Nat.reduceEqDiff, true_or, or_true, false_or, or_false, not_true_eq_false, not_false_eq_true, reduceCtorEq, cmp_lt, cmp_gt, cmp_eq, Int32.reduceAdd, Int32.reduceSub, Int32.reduceMul, Int32.reduceLT, Int32.reduceToNatClampNeg, eq_self, ne_eq, Int64.reduceAdd, Int64.reduceSub, Int64.reduceMul, Int64.reduceLT, pt]
    exact hq _ _ _ h.p0 (by repeat (first | exact OutM.rf | apply telF_o | refine OutM.pt ?_ (by decide) (by decide))) ⟨(by repeat (first | exact RlN.rf | apply RlN.tel | refine RlN.p4 ?_ (by decide) | refine RlN.pa ?_ (by decide))), Or.inl ⟨g, rfl⟩⟩
  · have g' := g
    rw [e] at g'
    obtain ⟨i, i1, rfl⟩ := inC (by omega) g'
    have e2 : (60 : Int32) + 1000 * nI i = nI (60 + 1000 * i) := by
      rw [show (1000 : Int32) = nI 1000 from rfl, show (60 : Int32) = nI 60 from rfl, pk_mul, nI_add]
    have f3 : inb (nI (60 + 1000 * i)) 8060 = True := inb_nI (by omega) (by decide)
    have f4 : (nI (60 + 1000 * i)).toNatClampNeg = 60 + 1000 * i := nI_clamp (by omega)
    simp only [M182, E182_0, E182_1, E182_2, E182_5, E182_6, E182_7, E182_10, E182_13, E182_14, E182_17, E182_19, E182_22, E182_23, E182_24, E182_25, E182_26, E182_29, E182_30, isr hS hR, pt_m, g, bI_t, pk54 hS, pk56 hS, pl56 hS, pa56 hS, pi56 hS, pr54_3 hR, rfs, rfn, cs0, csi, csl, csr, csn, kti, ktl, ktr, ktn, ktv, ktf, true_and, and_true, and_self, ↓reduceIte, Nat.reduceAdd, Nat.reduceSub, Nat.reduceMul, Nat.reduceLT, Nat.reduceLeDiff, Nat.reduceEqDiff, true_or, or_true, false_or, or_false, not_true_eq_false, not_false_eq_true, reduceCtorEq, cmp_lt, cmp_gt, cmp_eq, Int32.reduceAdd, Int32.reduceSub, Int32.reduceMul, Int32.reduceLT, Int32.reduceToNatClampNeg, eq_self, ne_eq, Int64.reduceAdd, Int64.reduceSub, Int64.reduceMul, Int64.reduceLT, pt, e1, e2, f3, f4]
    exact hq _ _ _ h.p0 (by repeat (first | exact OutM.rf | apply telF_o | refine OutM.pt ?_ (by decide) (by decide))) ⟨(by repeat (first | exact RlN.rf | apply RlN.tel | refine RlN.p4 ?_ (by decide) | refine RlN.pa ?_ (by decide))), Or.inr ⟨g, by rw [nI_clamp (by omega)]⟩⟩
theorem m_end {n : Int32} (hS : Pm S) (hR : Pr R) (h : InvM I t) (hq : ∀ v J L', InvM J t → OutM I J → (((n < 0 ∨ I 54 7 < n) ∧ v = -1 ∧ RlN I J) ∨ (¬ (n < 0 ∨ I 54 7 < n) ∧ v = n ∧ J 54 7 = n ∧ J 56 = I 56 ∧ J 57 = I 57 ∧ J 58 = I 58 ∧ J 59 = I 59 ∧ J 54 12 = I 54 12)) → Q (.int v) S J L' R) : EvM (d + 1) 155 [.ref 54, .int n] S I L R Q := by
  obtain ⟨w, w1, e⟩ := h.2.2.1
  by_cases g : n < 0
  · simp only [M155, E155_0, E155_1, E155_2, E155_5, E155_6, E155_9, E155_10, E155_11, E155_14, E155_17, E155_18, E155_19, E155_20, E155_21, E155_24, E155_25, pk54 hS, rfs, rfn, cs0, csi, csl, csr, csn, kti, ktl, ktr, ktn, ktv, ktf, true_and, and_true, and_self, ↓reduceIte, Nat.reduceAdd, Nat.reduceSub, Nat.reduceMul, Nat.reduceLT, Nat.reduceLeDiff, Nat.reduceEqDiff, true_or, or_true, false_or, or_false, not_true_eq_false, not_false_eq_true, reduceCtorEq, cmp_lt, cmp_gt, cmp_eq, Int32.reduceAdd, Int32.reduceSub, Int32.reduceMul, Int32.reduceLT, Int32.reduceToNatClampNeg, eq_self, ne_eq, Int64.reduceAdd, Int64.reduceSub, Int64.reduceMul, Int64.reduceLT, pt, g]
    exact hq _ _ _ h.p0 (by repeat (first | exact OutM.rf | apply telF_o | refine OutM.pt ?_ (by decide) (by decide))) (Or.inl ⟨Or.inl g, rfl, (by repeat (first | exact RlN.rf | apply RlN.tel | refine RlN.p4 ?_ (by decide) | refine RlN.pa ?_ (by decide)))⟩)
  · by_cases g2 : nI w < n
    · simp only [M155, E155_0, E155_1, E155_2, E155_5, E155_6, E155_9, E155_10, E155_11, E155_14, E155_17, E155_18, E155_19, E155_20, E155_21, E155_24, E155_25, pk54 hS, rfs, rfn, cs0, csi, csl, csr, csn, kti, ktl, ktr, ktn, ktv, ktf, true_and, and_true, and_self, ↓reduceIte, Nat.reduceAdd, Nat.reduceSub, Nat.reduceMul, Nat.reduceLT, Nat.reduceLeDiff, Nat.reduceEqDiff, true_or, or_true, false_or, or_false, not_true_eq_false, not_false_eq_true, reduceCtorEq, cmp_lt, cmp_gt, cmp_eq, Int32.reduceAdd, Int32.reduceSub, Int32.reduceMul, Int32.reduceLT, Int32.reduceToNatClampNeg, eq_self, ne_eq, Int64.reduceAdd, Int64.reduceSub, Int64.reduceMul, Int64.reduceLT, pt, pt_f, g, g2, e]
      exact hq _ _ _ h.p0 (by repeat (first | exact OutM.rf | apply telF_o | refine OutM.pt ?_ (by decide) (by decide))) (Or.inl ⟨Or.inr (by rw [e]; exact g2), rfl, (by repeat (first | exact RlN.rf | apply RlN.tel | refine RlN.p4 ?_ (by decide) | refine RlN.pa ?_ (by decide)))⟩)
    · simp only [M155, E155_0, E155_1, E155_2, E155_5, E155_6, E155_9, E155_10, E155_11, E155_14, E155_17, E155_18, E155_19, E155_20, E155_21, E155_24, E155_25, pk54 hS, rfs, rfn, cs0, csi, csl, csr, csn, kti, ktl, ktr, ktn, ktv, ktf, true_and, and_true, and_self, ↓reduceIte, Nat.reduceAdd, Nat.reduceSub, Nat.reduceMul, Nat.reduceLT, Nat.reduceLeDiff, Nat.reduceEqDiff, true_or, or_true, false_or, or_false, not_true_eq_false, not_false_eq_true, reduceCtorEq, cmp_lt, cmp_gt, cmp_eq, Int32.reduceAdd, Int32.reduceSub, Int32.reduceMul, Int32.reduceLT, Int32.reduceToNatClampNeg, eq_self, ne_eq, Int64.reduceAdd, Int64.reduceSub, Int64.reduceMul, Int64.reduceLT, pt, pt_f, g, g2, e]
      refine hq _ _ _ ?_ (by repeat (first | exact OutM.rf | apply telF_o | refine OutM.pt ?_ (by decide) (by decide))) (Or.inr ⟨fun z => z.elim g (fun z => g2 (by rw [e] at z; exact z)), rfl, pt_s, (by simp (disch := omega) only [pt_n, pt_m, pt_f, pt_s]), (by simp (disch := omega) only [pt_n, pt_m, pt_f, pt_s]), (by simp (disch := omega) only [pt_n, pt_m, pt_f, pt_s]), (by simp (disch := omega) only [pt_n, pt_m, pt_f, pt_s]), (by simp (disch := omega) only [pt_n, pt_m, pt_f, pt_s])⟩)
      have g' : ¬ n.toInt < 0 := by rw [Int32.lt_iff_toInt_lt] at g; exact g
      have g2' : ¬ (w : Int) < n.toInt := by rw [Int32.lt_iff_toInt_lt, nI_toInt (by omega)] at g2; exact g2
      obtain ⟨m, m1, rfl⟩ : ∃ m, m ≤ w ∧ n = nI m := ⟨n.toInt.toNat, by omega, ti_nI (z := n.toInt) rfl (by omega) (by omega)⟩
      exact h.tap (m := m) (by simp (disch := omega) only [pt_n, pt_m, pt_f, pt_s]) (by simp (disch := omega) only [pt_n, pt_m, pt_f, pt_s]) (by simp (disch := omega) only [pt_n, pt_m, pt_f, pt_s]) (by simp (disch := omega) only [pt_n, pt_m, pt_f, pt_s]) (by simp (disch := omega) only [pt_n, pt_m, pt_f, pt_s]) pt_s (by omega) (by simp (disch := omega) only [pt_n, pt_m, pt_f, pt_s]) (by simp (disch := omega) only [pt_n, pt_m, pt_f, pt_s]) (by simp (disch := omega) only [pt_n, pt_m, pt_f, pt_s])
end SN
