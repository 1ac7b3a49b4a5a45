/-! the class's call recipe -/
theorem Pm_ext {S S' : mS} (h : Pm S) (h1 : S.1 ≤ S'.1) (h2 : ∀ a, a < S.1 → S'.2.2.1 a = S.2.2.1 a ∧ S'.2.2.2 a = S.2.2.2 a) : Pm S' := ⟨Nat.le_trans h.1 h1, fun a g1 g2 => by
  have q := h.2 a g1 g2
  have e := h2 a (Nat.lt_of_lt_of_le g1 h.1)
  exact ⟨e.1.trans q.1, fun g => e.2.trans (q.2 g)⟩⟩
theorem pR85 : ∀ q, q ∈ pR → q.1 < 85 := by decide
theorem Pr_ext {R R' : mR} (h : Pr R) (h2 : ∀ a, a < 85 → R' a = R a) : Pr R' := fun q hq => by
  rw [h2 q.1 (pR85 q hq)]
  exact h q hq
def nwS (S : mS) (n k : Nat) : mS := (S.1 + 1, S.2.1 + n, va_up S.2.2.1 S.1 k, va_up S.2.2.2 S.1 0)
theorem nwS_e {S : mS} {n k : Nat} : ∀ a, a < S.1 → (nwS S n k).2.2.1 a = S.2.2.1 a ∧ (nwS S n k).2.2.2 a = S.2.2.2 a := fun a h => ⟨uu_n _ _ (Nat.ne_of_lt h), uu_n _ _ (Nat.ne_of_lt h)⟩
theorem nwS_o {S : mS} {n k : Nat} : ok (nwS S n k) S.1 k := ⟨Nat.lt_succ_self _, uu_s _ _ _⟩
theorem recipe_c {D l r : Nat} {S : mS} {I : mI} {L : mL} {R : mR} {Q : mQ} (hS : Pm S) (hR : Pr R) (hl : l ≤ 400) (he : I 4 3 = nI l) (hr : r ≤ 8) (her : I 5 6 = nI r) (h8 : r = 8 → Q (.int (-5)) S (refF (put I 4 3 0) (-5)) L R) (hb : r < 8 → (undF (put I 4 3 0) 13 l).2 = false → Q (.int (-6)) S (refF (undF (put I 4 3 0) 13 l).1 (-6)) L R) (hg : r < 8 → (undF (put I 4 3 0) 13 l).2 = true → ∀ (n m : Nat) (S' : mS) (I' : mI) (L' : mL) (R' : mR), (∀ s, s ≤ 16 → (undF (put I 4 3 0) 13 l).1 14 4 = nI s → n = s) → (∀ c, c ≤ 416 → (undF (put I 4 3 0) 13 l).1 14 1 = nI c → m = c) → (∀ k, k < n → I' (S.1 + 1) k = (undF (put I 4 3 0) 13 l).1 17 k) ∧ (∀ k, k ≤ n → I' (S.1 + 2) k = (undF (put I 4 3 0) 13 l).1 16 k) ∧ (∀ k, k < m → I' (S.1 + 3) k = (undF (put I 4 3 0) 13 l).1 15 k) ∧ (∀ k, m ≤ k → k < 416 → I' (S.1 + 3) k = 0) → S'.1 = S.1 + 4 → S'.2.1 ≤ S.2.1 + 453 → (∀ a, a < S.1 → S'.2.2.1 a = S.2.2.1 a ∧ S'.2.2.2 a = S.2.2.2 a) → RecS S' R' S.1 n (S.1 + 1) (S.1 + 2) (S.1 + 3) m → I' S.1 0 = nI n → (∀ a, a < S.1 → I' a = (undF (put I 4 3 0) 13 l).1 a ∧ R' a = R a) → (∀ a, a < S.1 → L' a = L a) → Q (.int (nI r)) S' (graF (put I' 5 6 (nI (r + 1)))) L' (va_up R' 9 (va_up (R' 9) r (some S.1)))) : EvM (D + 24) 108 [.ref 4] S I L R Q := by
  have h85 := hS.1
  have u := fun Q => und (D := D) (I := put I 4 3 0) (L := L) (R := R) (Q := Q) (len := l) hS hR (of_eq_true (pk13 hS)) (pl13 hS) hl
  by_cases g : r = 8
  · have e1 : (nI r < (8 : Int32)) = False := eq_false (by rw [g]; decide)
    simp only [M108, E108_0, E108_1, E108_4, E108_5, E108_6, E108_7, E108_10, E108_11, E108_14, E108_17, E108_18, E108_19, E108_21, E108_24, E108_25, E108_27, E108_30, E108_31, E108_32, E108_35, E108_36, E108_39, E108_40, E108_43, E108_46, E108_47, E108_49, E108_52, E108_53, E108_54, E108_57, E108_60, E108_61, E108_64, E108_65, E108_66, E108_69, E108_72, E108_72n, E108_73, E108_74, E108_77, E108_78, E108_79, E108_80, E108_83, E108_84, E108_85, E108_88, pk4 hS, pk5 hS, pk6 hS, pl6 hS, pa6 hS, pi6 hS, pk7 hS, pl7 hS, pa7 hS, pi7 hS, pk8 hS, pl8 hS, pa8 hS, pi8 hS, pk9 hS, pl9 hS, pa9 hS, pq9 hS, pk13 hS, pl13 hS, pa13 hS, pk14 hS, pk53 hS, pl53 hS, pa53 hS, pi53 hS, pr4_0 hR, pr4_2 hR, pr4_4 hR, pr4_12 hR, pr5_5 hR, rfs, rfn, cs0, csi, csl, csr, csn, kti, ktl, ktr, ktn, ktv, ktf, true_and, and_true, and_self, ↓reduceIte, Nat.reduceAdd, Nat.reduceSub, Nat.reduceMul, Nat.reduceLT, Nat.reduceLeDiff, Nat.reduceEqDiff, true_or, or_true, false_or, or_false, not_true_eq_false, not_false_eq_true, reduceCtorEq, cmp_lt, cmp_gt, cmp_eq, Int32.reduceAdd, Int32.reduceSub, Int32.reduceMul, Int32.reduceLT, Int32.reduceToNatClampNeg, eq_self, ne_eq, Int64.reduceAdd, Int64.reduceSub, Int64.reduceMul, Int64.reduceLT, n1_0, pt, bI_t, bI_f, he, her, pt_m, e1, refu hS hR]
    exact h8 g
  have e1 : (nI r < (8 : Int32)) = True := eq_true (nI_lt (a := r) (b := 8) (by omega) (by decide))
  have e3 : inb (nI r) 8 = True := inb_nI (by omega) (by decide)
  have e4 : (nI r).toNatClampNeg = r := nI_clamp (by omega)
  cases gu : (undF (put I 4 3 0) 13 l).2 with
  | false =>
    simp only [M108, E108_0, E108_1, E108_4, E108_5, E108_6, E108_7, E108_10, E108_11, E108_14, E108_17, E108_18, E108_19, E108_21, E108_24, E108_25, E108_27, E108_30, E108_31, E108_32, E108_35, E108_36, E108_39, E108_40, E108_43, E108_46, E108_47, E108_49, E108_52, E108_53, E108_54, E108_57, E108_60, E108_61, E108_64, E108_65, E108_66, E108_69, E108_72, E108_72n, E108_73, E108_74, E108_77, E108_78, E108_79, E108_80, E108_83, E108_84, E108_85, E108_88, pk4 hS, pk5 hS, pk6 hS, pl6 hS, pa6 hS, pi6 hS, pk7 hS, pl7 hS, pa7 hS, pi7 hS, pk8 hS, pl8 hS, pa8 hS, pi8 hS, pk9 hS, pl9 hS, pa9 hS, pq9 hS, pk13 hS, pl13 hS, pa13 hS, pk14 hS, pk53 hS, pl53 hS, pa53 hS, pi53 hS, pr4_0 hR, pr4_2 hR, pr4_4 hR, pr4_12 hR, pr5_5 hR, rfs, rfn, cs0, csi, csl, csr, csn, kti, ktl, ktr, ktn, ktv, ktf, true_and, and_true, and_self, ↓reduceIte, Nat.reduceAdd, Nat.reduceSub, Nat.reduceMul, Nat.reduceLT, Nat.reduceLeDiff, Nat.reduceEqDiff, true_or, or_true, false_or, or_false, not_true_eq_false, not_false_eq_true, reduceCtorEq, cmp_lt, cmp_gt, cmp_eq, Int32.reduceAdd, Int32.reduceSub, Int32.reduceMul, Int32.reduceLT, Int32.reduceToNatClampNeg, eq_self, ne_eq, Int64.reduceAdd, Int64.reduceSub, Int64.reduceMul, Int64.reduceLT, n1_0, pt, bI_t, bI_f, he, her, pt_m, e1, u, gu, refu hS hR]
    exact hb (by omega) gu
  | true =>
    have hS1 : Pm (nwS S 4 5) := Pm_ext hS (Nat.le_succ _) nwS_e
    have hR1 : Pr (va_up R S.1 (fun _ => none)) := Pr_ext hR (fun a h => uu_n _ _ (by omega))
    have ew : (S.1 + 1, S.2.1 + 4, va_up S.2.2.1 S.1 5, va_up S.2.2.2 S.1 0) = nwS S 4 5 := rfl
    have nw := nwS_o (S := S) (n := 4) (k := 5)
    have n4 : ok (nwS S 4 5) 4 8 := of_eq_true (pk4 hS1)
    have p44 := pr4_4 hR1
    simp only [M108, E108_0, E108_1, E108_4, E108_5, E108_6, E108_7, E108_10, E108_11, E108_14, E108_17, E108_18, E108_19, E108_21, E108_24, E108_25, E108_27, E108_30, E108_31, E108_32, E108_35, E108_36, E108_39, E108_40, E108_43, E108_46, E108_47, E108_49, E108_52, E108_53, E108_54, E108_57, E108_60, E108_61, E108_64, E108_65, E108_66, E108_69, E108_73, E108_74, E108_77, E108_78, E108_79, E108_80, E108_83, E108_84, E108_85, E108_88, pk4 hS, pk5 hS, pk6 hS, pl6 hS, pa6 hS, pi6 hS, pk7 hS, pl7 hS, pa7 hS, pi7 hS, pk8 hS, pl8 hS, pa8 hS, pi8 hS, pk9 hS, pl9 hS, pa9 hS, pq9 hS, pk13 hS, pl13 hS, pa13 hS, pk14 hS, pk53 hS, pl53 hS, pa53 hS, pi53 hS, pr4_0 hR, pr4_2 hR, pr4_4 hR, pr4_12 hR, pr5_5 hR, rfs, rfn, cs0, csi, csl, csr, csn, kti, ktl, ktr, ktn, ktv, ktf, true_and, and_true, and_self, ↓reduceIte, Nat.reduceAdd, Nat.reduceSub, Nat.reduceMul, Nat.reduceLT, Nat.reduceLeDiff, Nat.reduceEqDiff, true_or, or_true, false_or, or_false, not_true_eq_false, not_false_eq_true, reduceCtorEq, cmp_lt, cmp_gt, cmp_eq, Int32.reduceAdd, Int32.reduceSub, Int32.reduceMul, Int32.reduceLT, Int32.reduceToNatClampNeg, eq_self, ne_eq, Int64.reduceAdd, Int64.reduceSub, Int64.reduceMul, Int64.reduceLT, n1_0, pt, bI_t, bI_f, he, her, pt_m, e1, u, gu, ew, nw, n4, p44]
    refine rin (d := D + 21) hS1 hR1 nw h85 (fun n m S' I' L' R' f0 fm fc f1 f2 f3 f4 f5 f6 f7 => ?_)
    have f3' : ∀ a, a < S.1 → S'.2.2.1 a = S.2.2.1 a ∧ S'.2.2.2 a = S.2.2.2 a := fun a h => ⟨(f3 a (Nat.lt_succ_of_lt h)).1.trans (nwS_e a h).1, (f3 a (Nat.lt_succ_of_lt h)).2.trans (nwS_e a h).2⟩
    have f1' : S'.1 = S.1 + 4 := f1
    have f0' : ∀ s, s ≤ 16 → (undF (put I 4 3 0) 13 l).1 14 4 = nI s → n = s := fun s s1 s2 => f0 s s1 (by rw [uu_n _ _ (by omega)]; exact s2)
    have fm' : ∀ c, c ≤ 416 → (undF (put I 4 3 0) 13 l).1 14 1 = nI c → m = c := fun c c1 c2 => fm c c1 (by rw [uu_n _ _ (by omega)]; exact c2)
    have fc' : (∀ k, k < n → I' (S.1 + 1) k = (undF (put I 4 3 0) 13 l).1 17 k) ∧ (∀ k, k ≤ n → I' (S.1 + 2) k = (undF (put I 4 3 0) 13 l).1 16 k) ∧ (∀ k, k < m → I' (S.1 + 3) k = (undF (put I 4 3 0) 13 l).1 15 k) ∧ (∀ k, m ≤ k → k < 416 → I' (S.1 + 3) k = 0) := ⟨fun k hk => (fc.1 k hk).trans (by rw [uu_n _ _ (by omega)]), fun k hk => (fc.2.1 k hk).trans (by rw [uu_n _ _ (by omega)]), fun k hk => (fc.2.2.1 k hk).trans (by rw [uu_n _ _ (by omega)]), fun k h1 h2 => fc.2.2.2 k h1 h2⟩
    have hS' : Pm S' := Pm_ext hS (by omega) f3'
    have fr : ∀ a, a < S.1 → I' a = (undF (put I 4 3 0) 13 l).1 a ∧ R' a = R a := fun a h => by
      have q := f6 a (Nat.lt_succ_of_lt h) (Nat.ne_of_lt h)
      exact ⟨q.1.trans (uu_n _ _ (Nat.ne_of_lt h)), q.2.trans (uu_n _ _ (Nat.ne_of_lt h))⟩
    have hR' : Pr R' := Pr_ext hR (fun a h => (fr a (by omega)).2)
    have k9 := of_eq_true (pk9 hS')
    have a9 : (9 < S'.1 ∧ 14 ≤ S'.2.2.1 9 ∧ S'.2.2.1 9 < 17) := ⟨k9.1, by rw [k9.2]; decide, by rw [k9.2]; decide⟩
    have el : elK (S'.2.2.1 9) = 5 := by rw [k9.2]; rfl
    have a5 : ok S' S.1 5 := f4.1
    have l9 := pl9 hS'
    have k4 := of_eq_true (pk4 hS')
    have k5 := of_eq_true (pk5 hS')
    have r40 : va_up R' 9 (va_up (R' 9) r (some S.1)) 4 0 = some 5 := by
      rw [uu_n _ _ (by decide)]
      exact pr4_0 hR'
    have hR2 : ∀ Q, EvM (D + 23) 130 [.ref 4, .int (nI r)] S' (put I' 5 6 (nI (r + 1))) L' (va_up R' 9 (va_up (R' 9) r (some S.1))) Q = Q (.int (nI r)) S' (graF (put I' 5 6 (nI (r + 1)))) L' (va_up R' 9 (va_up (R' 9) r (some S.1))) := fun Q => by
      simp only [M130, E130_0, E130_1, E130_2, E130_5, E130_6, rfs, rfn, cs0, csi, csl, csr, csn, kti, ktl, ktr, ktn, ktv, ktf, true_and, and_true, and_self, ↓reduceIte, Nat.reduceAdd, Nat.reduceSub, Nat.reduceMul, Nat.reduceLT, Nat.reduceLeDiff, Nat.reduceEqDiff, true_or, or_true, false_or, or_false, not_true_eq_false, not_false_eq_true, reduceCtorEq, cmp_lt, cmp_gt, cmp_eq, Int32.reduceAdd, Int32.reduceSub, Int32.reduceMul, Int32.reduceLT, Int32.reduceToNatClampNeg, eq_self, ne_eq, Int64.reduceAdd, Int64.reduceSub, Int64.reduceMul, Int64.reduceLT, pt, k4]
      rfl
    simp only [E108_0, E108_1, E108_4, E108_5, E108_6, E108_7, E108_10, E108_11, E108_14, E108_17, E108_18, E108_19, E108_21, E108_24, E108_25, E108_27, E108_30, E108_31, E108_32, E108_35, E108_36, E108_39, E108_40, E108_43, E108_46, E108_47, E108_49, E108_52, E108_53, E108_54, E108_57, E108_60, E108_61, E108_64, E108_65, E108_66, E108_69, E108_72, E108_72n, E108_73, E108_74, E108_77, E108_78, E108_79, E108_80, E108_83, E108_84, E108_85, E108_88, rfs, rfn, cs0, csi, csl, csr, csn, kti, ktl, ktr, ktn, ktv, ktf, true_and, and_true, and_self, ↓reduceIte, Nat.reduceAdd, Nat.reduceSub, Nat.reduceMul, Nat.reduceLT, Nat.reduceLeDiff, Nat.reduceEqDiff, true_or, or_true, false_or, or_false, not_true_eq_false, not_false_eq_true, reduceCtorEq, cmp_lt, cmp_gt, cmp_eq, Int32.reduceAdd, Int32.reduceSub, Int32.reduceMul, Int32.reduceLT, Int32.reduceToNatClampNeg, eq_self, ne_eq, Int64.reduceAdd, Int64.reduceSub, Int64.reduceMul, Int64.reduceLT, pt, a9, el, a5, l9, e3, e4, k4, k5, r40, nI_1, hR2]
    exact hg (by omega) gu n m S' I' L' R' f0' fm' fc' f1' (by have q : S'.2.1 ≤ S.2.1 + 4 + 449 := f2; omega) f3' f4 f5 fr (fun a h => (f7 a (Nat.lt_succ_of_lt h)).trans (uu_n _ _ (Nat.ne_of_lt h)))
