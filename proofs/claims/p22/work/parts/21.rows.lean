theorem findR {d F W a n w : Nat} {c nu : Int32} {S : mS} {I : mI} {L : mL} {R : mR} {Q : mQ} (hF : ok S F 0) (hw1 : I F 1 = nI n) (hW : R F 2 = some W) (hI : okI S W) (hc : inb c (S.2.2.2 W)) (hw : I W c.toNatClampNeg = nI w) (ha : ok S a 12) (hn : S.2.2.2 a = n) (h31 : n < 2 ^ 24) (w0 : 0 < w) (w31 : w < 2 ^ 20) (h : ∀ f : Nat → Int64, (∀ k, k < 64 * n → gb f k = bitOf nu (k / w % 9 + 1)) → Q .null S I (va_up L a f) R) : EvM (d + 2) 16 [.ref F, .int c, .int nu, .ref a] S I L R Q := by
  have e1 : (9 : Int32) * nI w = nI (9 * w) := pk_mul 9 w
  have e2 : (if nI (9 * w) < nI n then nI (9 * w) else nI n) = nI (min (9 * w) n) := by
    by_cases g : 9 * w < n
    · rw [if_pos (nI_lt g (by omega)), Nat.min_eq_left (by omega)]
    · rw [if_neg (nI_nlt (by omega) (by omega)), Nat.min_eq_right (by omega)]
  have e3 : nI (min (9 * w) n) * 64 = nI (min (9 * w) n * 64) := pk_mul (min (9 * w) n) 64
  have e4 : (if (1 : Int32) < nI (9 * w) then nI (9 * w) else 1) = nI (9 * w) := if_pos (nI_lt (a := 1) (b := 9 * w) (by omega) (by omega))
  simp only [M16, E16_0, E16_0n, E16_1, E16_2, E16_5, E16_7, E16_8, E16_11, E16_12, E16_13, E16_14, E16_16, E16_17, E16_20, E16_22, E16_25, E16_27, E16_28, E16_30, E16_31, E16_33, E16_34, E16_38, E16_40, E16_43, E16_44, E16_46, E16_47, E16_48, E16_49, E16_52, E16_52n, E16_53, E16_55, E16_57, E16_59, E16_60, E16_63, E16_64, E16_65, E16_66, E16_69, E16_72, E16_74, E16_76, E16_79, E16_80, E16_83, E16_85, E16_86, E16_87, E16_89, E16_91, E16_92, E16_93, E16_96, E16_97, E16_98, E16_101, E16_102, E16_104, E16_107, E16_108, E16_110, E16_113, E16_117, E16_118, E16_121, E16_124, E16_124n, E16_125, E16_127, E16_127n, E16_128, E16_130, E16_132, E16_133, E16_134, E16_135, E16_138, E16_141, fillL (d := d) ha hn (by omega), e1, e2, e3, hF, hw1, hW, hI, hc, hw, rfs, rfn, cs0, csi, csl, csr, csn, kti, ktl, ktr, ktn, ktv, ktf, true_and, and_true, and_self, ↓reduceIte, Nat.reduceAdd, Nat.reduceSub, Nat.reduceMul, Nat.reduceLT, Nat.reduceLeDiff, Nat.reduceEqDiff, true_or, or_true, false_or, or_false, not_true_eq_false, not_false_eq_true, reduceCtorEq, cmp_lt, cmp_gt, cmp_eq, Int32.reduceAdd, Int32.reduceSub, Int32.reduceMul, Int32.reduceLT, Int32.reduceToNatClampNeg, eq_self, ne_eq, Int64.reduceAdd, Int64.reduceSub, Int64.reduceMul, Int64.reduceLT]
  have z : ∀ k, k < 64 * n → gb (fun k => if k < n then 0 else L a k) k = false := by
    intro k hk
    have e : (fun k => if k < n then (0 : Int64) else L a k) (k / 64) = 0 := if_pos (by omega)
    unfold gb
    rw [e]
    exact zero_bit _
  have s1 := fr1_lp (d := d) (F := F) (W := W) (a := a) (n := n) (w := w) (B := min (9 * w) n * 64) (c := c) (nu := nu) (x4 := .int (nI (9 * w))) (S := S) (I := I) (R := R) (Q := Q) hF hW hI hc hw ha hn h31 w0 (by omega) (by omega) _ 0 (va_up L a (fun k => if k < n then 0 else L a k)) (Nat.le_refl _) (by omega) (fun k hk => by
    rw [up_is, if_pos rfl, z k hk]
    simp) (fun f x y hf => by
    simp only [E16_0, E16_0n, E16_1, E16_2, E16_5, E16_7, E16_8, E16_11, E16_12, E16_13, E16_14, E16_16, E16_17, E16_20, E16_22, E16_25, E16_27, E16_28, E16_30, E16_31, E16_33, E16_34, E16_38, E16_40, E16_43, E16_44, E16_46, E16_47, E16_48, E16_49, E16_52, E16_52n, E16_53, E16_55, E16_57, E16_59, E16_60, E16_63, E16_64, E16_65, E16_66, E16_69, E16_72, E16_74, E16_76, E16_79, E16_80, E16_83, E16_85, E16_86, E16_87, E16_89, E16_91, E16_92, E16_93, E16_96, E16_97, E16_98, E16_101, E16_102, E16_104, E16_107, E16_108, E16_110, E16_113, E16_117, E16_118, E16_121, E16_124, E16_124n, E16_125, E16_127, E16_127n, E16_128, E16_130, E16_132, E16_133, E16_134, E16_135, E16_138, E16_141, e4, rfs, rfn, cs0, csi, csl, csr, csn, kti, ktl, ktr, ktn, ktv, ktf, true_and, and_true, and_self, ↓reduceIte, Nat.reduceAdd, Nat.reduceSub, Nat.reduceMul, Nat.reduceLT, Nat.reduceLeDiff, Nat.reduceEqDiff, true_or, or_true, false_or, or_false, not_true_eq_false, not_false_eq_true, reduceCtorEq, cmp_lt, cmp_gt, cmp_eq, Int32.reduceAdd, Int32.reduceSub, Int32.reduceMul, Int32.reduceLT, Int32.reduceToNatClampNeg, eq_self, ne_eq, Int64.reduceAdd, Int64.reduceSub, Int64.reduceMul, Int64.reduceLT, up_up]
    by_cases g : 9 * w ≤ n
    · refine fr2_lp (val := fun k => bitOf nu (k / w % 9 + 1)) hF hw1 ha hn h31 (by omega) rfl (fun k hk => ?_) (n - 9 * w) (9 * w) _ (by omega) (Nat.le_refl _) (fun k hk => ?_) (fun f2 h2 => by rw [up_up]; exact h f2 h2)
      · have : k / w = (k - 64 * (9 * w)) / w + 576 := by
          rw [show k = (k - 64 * (9 * w)) + 576 * w by omega, Nat.add_mul_div_right _ _ w0]
          congr 2
          omega
        rw [this, Nat.add_mod]
        simp
      · rw [up_is, if_pos rfl, hf k (by omega), decide_eq_true (by omega : k < min (9 * w) n * 64), Bool.true_and]
    · have e : (nI (9 * w) < nI n) = False := eq_false (nI_nlt (by omega) (by omega))
      rw [E16_115]
      simp only [E16_0, E16_0n, E16_1, E16_2, E16_5, E16_7, E16_8, E16_11, E16_12, E16_13, E16_14, E16_16, E16_17, E16_20, E16_22, E16_25, E16_27, E16_28, E16_30, E16_31, E16_33, E16_34, E16_38, E16_40, E16_43, E16_44, E16_46, E16_47, E16_48, E16_49, E16_52, E16_52n, E16_53, E16_55, E16_57, E16_59, E16_60, E16_63, E16_64, E16_65, E16_66, E16_69, E16_72, E16_74, E16_76, E16_79, E16_80, E16_83, E16_85, E16_86, E16_87, E16_89, E16_91, E16_92, E16_93, E16_96, E16_97, E16_98, E16_101, E16_102, E16_104, E16_107, E16_108, E16_110, E16_113, E16_117, E16_118, E16_121, E16_124, E16_124n, E16_125, E16_127, E16_127n, E16_128, E16_130, E16_132, E16_133, E16_134, E16_135, E16_138, E16_141, e, hF, hw1, rfs, rfn, cs0, csi, csl, csr, csn, kti, ktl, ktr, ktn, ktv, ktf, true_and, and_true, and_self, ↓reduceIte, Nat.reduceAdd, Nat.reduceSub, Nat.reduceMul, Nat.reduceLT, Nat.reduceLeDiff, Nat.reduceEqDiff, true_or, or_true, false_or, or_false, not_true_eq_false, not_false_eq_true, reduceCtorEq, cmp_lt, cmp_gt, cmp_eq, Int32.reduceAdd, Int32.reduceSub, Int32.reduceMul, Int32.reduceLT, Int32.reduceToNatClampNeg, eq_self, ne_eq, Int64.reduceAdd, Int64.reduceSub, Int64.reduceMul, Int64.reduceLT]
      exact h f (fun k hk => by rw [hf k hk, decide_eq_true (by omega : k < min (9 * w) n * 64), Bool.true_and]))
  rw [show (0 % 9 + 1) = 1 from rfl, Nat.zero_mul, show nI 1 = 1 from rfl, show nI 0 = 0 from rfl] at s1
  exact s1
