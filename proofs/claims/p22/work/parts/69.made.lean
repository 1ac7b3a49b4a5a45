/-! the class's calls: change, made -/
theorem Rcs.gu {S : mS} {I J : mI} {R : mR} {u : Nat} (h : Rcs S I R 5) (g : Gu u I J) (h1 : 5 < u) (h2 : u + 5 < 85) : Rcs S J R 5 := by
  have e5 : J 5 = I 5 := g 5 (Or.inl h1)
  have e : ∀ k, rcB J 5 k = rcB I 5 k := fun k => by unfold rcB; rw [e5]
  intro k hk
  obtain ⟨q, n, k1, k2, k3, m, e1, e2, e3, e4⟩ := h k (by rw [← e]; exact hk)
  exact ⟨q, n, k1, k2, k3, m, e1, e2, by rw [g q (Or.inr (by omega))]; exact e3, e4⟩
section CA
variable {d : Nat} {S : mS} {I : mI} {L : mL} {R : mR} {Q : mQ}
def cgJ (I : mI) (n k1 k2 k3 m : Nat) : mI := finF (carF I 32 5 n k1 k2 k3 m (-1)).1 32 5
def cgK (I : mI) (n k1 k2 k3 m : Nat) (i : Int32) : mI := finF (carF (cgJ I n k1 k2 k3 m) 26 5 n k1 k2 k3 m i).1 26 5
theorem change_c {k i : Int32} (hS : Pm S) (hR : Pr R) (hc : Rcs S I R 5) (h0 : Q (.int (-1)) S I L R) (h1 : ∀ q n k1 k2 k3 m, rcB I 5 k = true → R 9 k.toNatClampNeg = some q → RecS S R q n k1 k2 k3 m → I q 0 = nI n → ¬ i < 0 → i < nI n - 1 → Q (.int (bI (likF (cgK I n k1 k2 k3 m i) 26 32))) S (cgK I n k1 k2 k3 m i) L R) : EvM (d + 7) 119 [.ref 4, .int k, .int i] S I L R Q := by
  have hz := smi5 hS hR
  have t1 := run26 hS hR
  have t2 := run32 hS hR
  cases g : rcB I 5 k with
  | false =>
    simp only [M119, E119_0, E119_1, E119_4, E119_5, E119_8, E119_8n, E119_9, E119_9n, E119_10, E119_10n, E119_13, E119_14, E119_17, E119_18, E119_18n, E119_19, E119_22, E119_23, E119_24, E119_27, E119_28, E119_29, E119_30, E119_33, E119_34, E119_37, E119_37n, E119_38, E119_39, E119_42, E119_43, E119_44, E119_47, E119_48, E119_51, E119_51n, E119_52, E119_53, E119_56, E119_57, E119_58, E119_61, E119_62, E119_65, E119_68, E119_71, E119_72, E119_75, E119_76, pk4 hS, pk5 hS, pr4_0 hR, pr4_7 hR, pr4_8 hR, rfs, rfn, cs0, csi, csl, csr, csn, kti, ktl, ktr, ktn, ktv, ktf, true_and, and_true, and_self, ↓reduceIte, Nat.reduceAdd, Nat.reduceSub, Nat.reduceMul, Nat.reduceLT, Nat.reduceLeDiff, Nat.reduceEqDiff, true_or, or_true, false_or, or_false, not_true_eq_false, not_false_eq_true, reduceCtorEq, cmp_lt, cmp_gt, cmp_eq, Int32.reduceAdd, Int32.reduceSub, Int32.reduceMul, Int32.reduceLT, Int32.reduceToNatClampNeg, eq_self, ne_eq, Int64.reduceAdd, Int64.reduceSub, Int64.reduceMul, Int64.reduceLT, n1_0, bI_t, bI_f, rat_no hz g]
    exact h0
  | true =>
    obtain ⟨q, n, k1, k2, k3, m, e1, e2, e3, e4, e5, e6, e7⟩ := hc k g
    by_cases g1 : i < 0
    · simp only [M119, E119_0, E119_1, E119_4, E119_5, E119_8, E119_8n, E119_9, E119_9n, E119_10, E119_10n, E119_13, E119_14, E119_17, E119_18, E119_18n, E119_19, E119_22, E119_23, E119_24, E119_27, E119_28, E119_29, E119_30, E119_33, E119_34, E119_37, E119_37n, E119_38, E119_39, E119_42, E119_43, E119_44, E119_47, E119_48, E119_51, E119_51n, E119_52, E119_53, E119_56, E119_57, E119_58, E119_61, E119_62, E119_65, E119_68, E119_71, E119_72, E119_75, E119_76, pk4 hS, pk5 hS, pr4_0 hR, pr4_7 hR, pr4_8 hR, rfs, rfn, cs0, csi, csl, csr, csn, kti, ktl, ktr, ktn, ktv, ktf, true_and, and_true, and_self, ↓reduceIte, Nat.reduceAdd, Nat.reduceSub, Nat.reduceMul, Nat.reduceLT, Nat.reduceLeDiff, Nat.reduceEqDiff, true_or, or_true, false_or, or_false, not_true_eq_false, not_false_eq_true, reduceCtorEq, cmp_lt, cmp_gt, cmp_eq, Int32.reduceAdd, Int32.reduceSub, Int32.reduceMul, Int32.reduceLT, Int32.reduceToNatClampNeg, eq_self, ne_eq, Int64.reduceAdd, Int64.reduceSub, Int64.reduceMul, Int64.reduceLT, n1_0, bI_t, bI_f, rat_yes hz g e1, g1]
      exact h0
    by_cases g2 : i < nI n - 1
    · have c1 := fun Q => car (d := d) (w := -1) (I := I) (L := L) (Q := Q) t2 hz e2 (Or.inr (by omega)) (Or.inr (by omega)) e3
      have eq : cgJ I n k1 k2 k3 m q 0 = nI n := by
        have f := (Gu.rf (u := 32) (I := I)).ca (z := 5) (n := n) (k1 := k1) (k2 := k2) (k3 := k3) (m := m) (w := -1) q (Or.inr (by omega))
        show finF _ 32 5 q 0 = _
        rw [f]
        exact e3
      have c2 := fun Q => car (d := d) (w := i) (I := cgJ I n k1 k2 k3 m) (L := L) (Q := Q) t1 hz e2 (Or.inr (by omega)) (Or.inr (by omega)) eq
      have x1 : finF (carF I 32 5 n k1 k2 k3 m (-1)).1 32 5 = cgJ I n k1 k2 k3 m := rfl
      have x2 : finF (carF (cgJ I n k1 k2 k3 m) 26 5 n k1 k2 k3 m i).1 26 5 = cgK I n k1 k2 k3 m i := rfl
      have fin := h1 q n k1 k2 k3 m g e1 e2 e3 g1 g2
      cases b : likF (cgK I n k1 k2 k3 m i) 26 32 with
      | true =>
        rw [b] at fin
        simp only [M119, E119_0, E119_1, E119_4, E119_5, E119_8, E119_8n, E119_9, E119_9n, E119_10, E119_10n, E119_13, E119_14, E119_17, E119_18, E119_18n, E119_19, E119_22, E119_23, E119_24, E119_27, E119_28, E119_29, E119_30, E119_33, E119_34, E119_37, E119_37n, E119_38, E119_39, E119_42, E119_43, E119_44, E119_47, E119_48, E119_51, E119_51n, E119_52, E119_53, E119_56, E119_57, E119_58, E119_61, E119_62, E119_65, E119_68, E119_71, E119_72, E119_75, E119_76, pk4 hS, pk5 hS, pr4_0 hR, pr4_7 hR, pr4_8 hR, rfs, rfn, cs0, csi, csl, csr, csn, kti, ktl, ktr, ktn, ktv, ktf, true_and, and_true, and_self, ↓reduceIte, Nat.reduceAdd, Nat.reduceSub, Nat.reduceMul, Nat.reduceLT, Nat.reduceLeDiff, Nat.reduceEqDiff, true_or, or_true, false_or, or_false, not_true_eq_false, not_false_eq_true, reduceCtorEq, cmp_lt, cmp_gt, cmp_eq, Int32.reduceAdd, Int32.reduceSub, Int32.reduceMul, Int32.reduceLT, Int32.reduceToNatClampNeg, eq_self, ne_eq, Int64.reduceAdd, Int64.reduceSub, Int64.reduceMul, Int64.reduceLT, n1_0, bI_t, bI_f, rat_yes hz g e1, qk0 e2, e3, g1, g2, t1.1, t2.1, c1, x1, c2, x2, lik t1 t2, b]
        exact fin
      | false =>
        rw [b] at fin
        simp only [M119, E119_0, E119_1, E119_4, E119_5, E119_8, E119_8n, E119_9, E119_9n, E119_10, E119_10n, E119_13, E119_14, E119_17, E119_18, E119_18n, E119_19, E119_22, E119_23, E119_24, E119_27, E119_28, E119_29, E119_30, E119_33, E119_34, E119_37, E119_37n, E119_38, E119_39, E119_42, E119_43, E119_44, E119_47, E119_48, E119_51, E119_51n, E119_52, E119_53, E119_56, E119_57, E119_58, E119_61, E119_62, E119_65, E119_68, E119_71, E119_72, E119_75, E119_76, pk4 hS, pk5 hS, pr4_0 hR, pr4_7 hR, pr4_8 hR, rfs, rfn, cs0, csi, csl, csr, csn, kti, ktl, ktr, ktn, ktv, ktf, true_and, and_true, and_self, ↓reduceIte, Nat.reduceAdd, Nat.reduceSub, Nat.reduceMul, Nat.reduceLT, Nat.reduceLeDiff, Nat.reduceEqDiff, true_or, or_true, false_or, or_false, not_true_eq_false, not_false_eq_true, reduceCtorEq, cmp_lt, cmp_gt, cmp_eq, Int32.reduceAdd, Int32.reduceSub, Int32.reduceMul, Int32.reduceLT, Int32.reduceToNatClampNeg, eq_self, ne_eq, Int64.reduceAdd, Int64.reduceSub, Int64.reduceMul, Int64.reduceLT, n1_0, bI_t, bI_f, rat_yes hz g e1, qk0 e2, e3, g1, g2, t1.1, t2.1, c1, x1, c2, x2, lik t1 t2, b]
        exact fin
    · simp only [M119, E119_0, E119_1, E119_4, E119_5, E119_8, E119_8n, E119_9, E119_9n, E119_10, E119_10n, E119_13, E119_14, E119_17, E119_18, E119_18n, E119_19, E119_22, E119_23, E119_24, E119_27, E119_28, E119_29, E119_30, E119_33, E119_34, E119_37, E119_37n, E119_38, E119_39, E119_42, E119_43, E119_44, E119_47, E119_48, E119_51, E119_51n, E119_52, E119_53, E119_56, E119_57, E119_58, E119_61, E119_62, E119_65, E119_68, E119_71, E119_72, E119_75, E119_76, pk4 hS, pk5 hS, pr4_0 hR, pr4_7 hR, pr4_8 hR, rfs, rfn, cs0, csi, csl, csr, csn, kti, ktl, ktr, ktn, ktv, ktf, true_and, and_true, and_self, ↓reduceIte, Nat.reduceAdd, Nat.reduceSub, Nat.reduceMul, Nat.reduceLT, Nat.reduceLeDiff, Nat.reduceEqDiff, true_or, or_true, false_or, or_false, not_true_eq_false, not_false_eq_true, reduceCtorEq, cmp_lt, cmp_gt, cmp_eq, Int32.reduceAdd, Int32.reduceSub, Int32.reduceMul, Int32.reduceLT, Int32.reduceToNatClampNeg, eq_self, ne_eq, Int64.reduceAdd, Int64.reduceSub, Int64.reduceMul, Int64.reduceLT, n1_0, bI_t, bI_f, rat_yes hz g e1, qk0 e2, e3, g1, g2]
      exact h0
theorem made_lp {r : Nat} {a b c y : Int32} (hS : Pm S) (hR : Pr R) (hr : r ≤ 8) (hq : ∀ v J, Gu 26 I J → Q (.int v) S J L R) (hc : Rcs S I R 5) (her : I 5 6 = nI r) : ∀ (N i : Nat) (v : Int32) (x : Value) (J : mI), i + N = r → Gu 26 I J → Ev (d + 7) 120 50 [.ref 4, .int a, .int b, .int c, .int y, .int v, .int (nI i), x] [] S J L R Q := by
  have hz := smi5 hS hR
  have t1 := run26 hS hR
  intro N
  induction N with
  | zero =>
    intro i v x J hi hg
    obtain rfl : i = r := by omega
    have e : (nI i < nI i) = False := eq_false (nI_nlt (Nat.le_refl _) (by omega))
    have e5 : J 5 6 = nI i := by rw [hg 5 (Or.inl (by decide))]; exact her
    rw [E120_50]
    simp only [E120_0, E120_1, E120_2, E120_5, E120_8, E120_9, E120_10, E120_11, E120_13, E120_14, E120_16, E120_17, E120_18, E120_19, E120_22, E120_23, E120_25, E120_26, E120_27, E120_28, E120_31, E120_32, E120_35, E120_36, E120_39, E120_42, E120_43, E120_44, E120_45, E120_47, E120_48, E120_52, E120_53, E120_56, E120_59, E120_62, E120_63, E120_66, E120_68, E120_71, E120_71n, E120_73, E120_73n, E120_75, E120_75n, E120_78, E120_79, E120_82, E120_83, E120_86, E120_86n, E120_88, E120_89, E120_92, E120_93, E120_95, E120_96, E120_99, E120_100, E120_101, E120_102, E120_105, E120_108, E120_109, E120_111, E120_112, E120_115, E120_116, E120_117, E120_119, E120_122, E120_125, E120_127, pk4 hS, pk5 hS, pr4_0 hR, pr4_7 hR, pr4_8 hR, rfs, rfn, cs0, csi, csl, csr, csn, kti, ktl, ktr, ktn, ktv, ktf, true_and, and_true, and_self, ↓reduceIte, Nat.reduceAdd, Nat.reduceSub, Nat.reduceMul, Nat.reduceLT, Nat.reduceLeDiff, Nat.reduceEqDiff, true_or, or_true, false_or, or_false, not_true_eq_false, not_false_eq_true, reduceCtorEq, cmp_lt, cmp_gt, cmp_eq, Int32.reduceAdd, Int32.reduceSub, Int32.reduceMul, Int32.reduceLT, Int32.reduceToNatClampNeg, eq_self, ne_eq, Int64.reduceAdd, Int64.reduceSub, Int64.reduceMul, Int64.reduceLT, n1_0, bI_t, bI_f, e5, e]
    exact hq _ _ hg
  | succ N ih =>
    intro i v x J hi hg
    have e5 : J 5 6 = nI r := by rw [hg 5 (Or.inl (by decide))]; exact her
    have e1 : (nI i < nI r) = True := eq_true (nI_lt (by omega) (by omega))
    have hcJ := hc.gu hg (by decide) (by decide)
    have g : rcB J 5 (nI i) = true := decide_eq_true ⟨nI_pos (by omega), by rw [e5]; exact nI_lt (by omega) (by omega), nI_lt (a := i) (b := 8) (by omega) (by decide)⟩
    obtain ⟨q, n, k1, k2, k3, m, f1, f2, f3, f4, f5, f6, f7⟩ := hcJ (nI i) g
    have c1 := fun Q => car (d := d) (w := -1) (I := J) (L := L) (Q := Q) t1 hz f2 (Or.inr (by omega)) (Or.inr (by omega)) f3
    have hg2 := hg.ca (z := 5) (n := n) (k1 := k1) (k2 := k2) (k3 := k3) (m := m) (w := -1)
    rw [E120_50]
    cases be : endF (finF (carF J 26 5 n k1 k2 k3 m (-1)).1 26 5) 26 a b c with
    | true =>
      simp only [E120_0, E120_1, E120_2, E120_5, E120_8, E120_9, E120_10, E120_11, E120_13, E120_14, E120_16, E120_17, E120_18, E120_19, E120_22, E120_23, E120_25, E120_26, E120_27, E120_28, E120_31, E120_32, E120_35, E120_36, E120_39, E120_42, E120_43, E120_44, E120_45, E120_47, E120_48, E120_52, E120_53, E120_56, E120_59, E120_62, E120_63, E120_66, E120_68, E120_71, E120_71n, E120_73, E120_73n, E120_75, E120_75n, E120_78, E120_79, E120_82, E120_83, E120_86, E120_86n, E120_88, E120_89, E120_92, E120_93, E120_95, E120_96, E120_99, E120_100, E120_101, E120_102, E120_105, E120_108, E120_109, E120_111, E120_112, E120_115, E120_116, E120_117, E120_119, E120_122, E120_125, E120_127, pk4 hS, pk5 hS, pr4_0 hR, pr4_7 hR, pr4_8 hR, rfs, rfn, cs0, csi, csl, csr, csn, kti, ktl, ktr, ktn, ktv, ktf, true_and, and_true, and_self, ↓reduceIte, Nat.reduceAdd, Nat.reduceSub, Nat.reduceMul, Nat.reduceLT, Nat.reduceLeDiff, Nat.reduceEqDiff, true_or, or_true, false_or, or_false, not_true_eq_false, not_false_eq_true, reduceCtorEq, cmp_lt, cmp_gt, cmp_eq, Int32.reduceAdd, Int32.reduceSub, Int32.reduceMul, Int32.reduceLT, Int32.reduceToNatClampNeg, eq_self, ne_eq, Int64.reduceAdd, Int64.reduceSub, Int64.reduceMul, Int64.reduceLT, n1_0, bI_t, bI_f, e5, e1, rat_yes hz g f1, t1.1, c1, eas t1, be, nI_1]
      exact ih (i + 1) _ _ _ (by omega) hg2
    | false =>
      simp only [E120_0, E120_1, E120_2, E120_5, E120_8, E120_9, E120_10, E120_11, E120_13, E120_14, E120_16, E120_17, E120_18, E120_19, E120_22, E120_23, E120_25, E120_26, E120_27, E120_28, E120_31, E120_32, E120_35, E120_36, E120_39, E120_42, E120_43, E120_44, E120_45, E120_47, E120_48, E120_52, E120_53, E120_56, E120_59, E120_62, E120_63, E120_66, E120_68, E120_71, E120_71n, E120_73, E120_73n, E120_75, E120_75n, E120_78, E120_79, E120_82, E120_83, E120_86, E120_86n, E120_88, E120_89, E120_92, E120_93, E120_95, E120_96, E120_99, E120_100, E120_101, E120_102, E120_105, E120_108, E120_109, E120_111, E120_112, E120_115, E120_116, E120_117, E120_119, E120_122, E120_125, E120_127, pk4 hS, pk5 hS, pr4_0 hR, pr4_7 hR, pr4_8 hR, rfs, rfn, cs0, csi, csl, csr, csn, kti, ktl, ktr, ktn, ktv, ktf, true_and, and_true, and_self, ↓reduceIte, Nat.reduceAdd, Nat.reduceSub, Nat.reduceMul, Nat.reduceLT, Nat.reduceLeDiff, Nat.reduceEqDiff, true_or, or_true, false_or, or_false, not_true_eq_false, not_false_eq_true, reduceCtorEq, cmp_lt, cmp_gt, cmp_eq, Int32.reduceAdd, Int32.reduceSub, Int32.reduceMul, Int32.reduceLT, Int32.reduceToNatClampNeg, eq_self, ne_eq, Int64.reduceAdd, Int64.reduceSub, Int64.reduceMul, Int64.reduceLT, n1_0, bI_t, bI_f, e5, e1, rat_yes hz g f1, t1.1, c1, eas t1, be, nI_1]
      exact ih (i + 1) _ _ _ (by omega) hg2
end CA
