/-! findRows: the rows in which a cell has one of these numbers -/
theorem setB {d a n p q : Nat} {S : mS} {I : mI} {L : mL} {R : mR} {Q : mQ} (ha : ok S a 12) (hn : S.2.2.2 a = n) (h31 : n < 2 ^ 24) (hp : p < 2 ^ 31) (hq : q ≤ 64 * n) (h : ∀ f : Nat → Int64, (∀ k, gb f k = (gb (L a) k || (decide (p ≤ k) && decide (k < q)))) → Q .null S I (va_up L a f) R) : EvM (d + 1) 17 [.ref a, .int (nI p), .int (nI q)] S I L R Q := by
  have e : (if (0 : Int32) < nI p then nI p else 0) = nI p := by
    by_cases g : p = 0
    · subst g; rfl
    · exact if_pos (nI_lt (a := 0) (b := p) (by omega) hp)
  simp only [M17, E17_0, E17_1, E17_2, E17_5, E17_7, E17_8, E17_11, E17_12, E17_14, E17_15, E17_16, E17_17, E17_20, E17_22, E17_23, E17_25, E17_26, E17_27, E17_28, E17_29, E17_30, E17_33, E17_35, E17_37, E17_39, E17_42, E17_45, E17_48, E17_49, E17_51, E17_52, E17_53, E17_54, E17_56, E17_57, E17_58, E17_60, E17_61, E17_62, E17_63, E17_65, E17_66, E17_68, E17_69, E17_70, E17_71, E17_72, E17_73, E17_75, E17_76, E17_77, E17_80, e, rfs, rfn, cs0, csi, csl, csr, csn, kti, ktl, ktr, ktn, ktv, ktf, true_and, and_true, and_self, ↓reduceIte, Nat.reduceAdd, Nat.reduceSub, Nat.reduceMul, Nat.reduceLT, Nat.reduceLeDiff, Nat.reduceEqDiff, true_or, or_true, false_or, or_false, not_true_eq_false, not_false_eq_true, reduceCtorEq, cmp_lt, cmp_gt, cmp_eq, Int32.reduceAdd, Int32.reduceSub, Int32.reduceMul, Int32.reduceLT, Int32.reduceToNatClampNeg, eq_self, ne_eq, Int64.reduceAdd, Int64.reduceSub, Int64.reduceMul, Int64.reduceLT]
  exact setB_lp ha hn h31 (q - p) p q L _ _ _ (Nat.le_refl _) hp hq h
def bitOf (nu : Int32) (t : Nat) : Bool := decide (¬ (nu >>> (nI t &&& 31)) &&& 1 = 0)
theorem fr2_lp {d F a n P : Nat} {x1 x2 x5 x6 : Value} {val : Nat → Bool} {S : mS} {I : mI} {R : mR} {Q : mQ} (hF : ok S F 0) (hw : I F 1 = nI n) (ha : ok S a 12) (hn : S.2.2.2 a = n) (h31 : n < 2 ^ 24) (hP : 0 < P) (c6 : x6.category = 1) (hv : ∀ k, 64 * P ≤ k → val k = val (k - 64 * P)) : ∀ (m w : Nat) (L : mL), w + m = n → P ≤ w → (∀ k, k < 64 * w → gb (L a) k = val k) → (∀ f : Nat → Int64, (∀ k, k < 64 * n → gb f k = val k) → Q .null S I (va_up L a f) R) → Ev (d + 1) 16 115 [.ref F, x1, x2, .ref a, .int (nI P), x5, x6, .int (nI w)] [] S I L R Q := by
  intro m
  induction m with
  | zero =>
    intro w L hm hPw hL h
    obtain rfl : w = n := by omega
    have e : (nI w < nI w) = False := eq_false (nI_nlt (Nat.le_refl w) (by omega))
    rw [E16_115]
    simp only [E16_0, E16_0n, E16_1, E16_2, E16_5, E16_7, E16_8, E16_11, E16_12, E16_13, E16_14, E16_16, E16_17, E16_20, E16_22, E16_25, E16_27, E16_28, E16_30, E16_31, E16_33, E16_34, E16_38, E16_40, E16_43, E16_44, E16_46, E16_47, E16_48, E16_49, E16_52, E16_52n, E16_53, E16_55, E16_57, E16_59, E16_60, E16_63, E16_64, E16_65, E16_66, E16_69, E16_72, E16_74, E16_76, E16_79, E16_80, E16_83, E16_85, E16_86, E16_87, E16_89, E16_91, E16_92, E16_93, E16_96, E16_97, E16_98, E16_101, E16_102, E16_104, E16_107, E16_108, E16_110, E16_113, E16_117, E16_118, E16_121, E16_124, E16_124n, E16_125, E16_127, E16_127n, E16_128, E16_130, E16_132, E16_133, E16_134, E16_135, E16_138, E16_141, e, hF, hw, rfs, rfn, cs0, csi, csl, csr, csn, kti, ktl, ktr, ktn, ktv, ktf, true_and, and_true, and_self, ↓reduceIte, Nat.reduceAdd, Nat.reduceSub, Nat.reduceMul, Nat.reduceLT, Nat.reduceLeDiff, Nat.reduceEqDiff, true_or, or_true, false_or, or_false, not_true_eq_false, not_false_eq_true, reduceCtorEq, cmp_lt, cmp_gt, cmp_eq, Int32.reduceAdd, Int32.reduceSub, Int32.reduceMul, Int32.reduceLT, Int32.reduceToNatClampNeg, eq_self, ne_eq, Int64.reduceAdd, Int64.reduceSub, Int64.reduceMul, Int64.reduceLT]
    have := h (L a) hL
    rw [up_ext rfl] at this
    exact this
  | succ m ih =>
    intro w L hm hPw hL h
    have e1 : (nI w < nI n) = True := eq_true (nI_lt (a := w) (b := n) (by omega) (by omega))
    have e2 : nI w - nI P = nI (w - P) := pk_sub hPw
    have e3 : inb (nI w) n = True := inb_nI (by omega) (by omega)
    have e4 : inb (nI (w - P)) n = True := inb_nI (by omega) (by omega)
    have e5 : (nI w).toNatClampNeg = w := nI_clamp (by omega)
    have e6 : (nI (w - P)).toNatClampNeg = w - P := nI_clamp (by omega)
    rw [E16_115]
    simp only [E16_0, E16_0n, E16_1, E16_2, E16_5, E16_7, E16_8, E16_11, E16_12, E16_13, E16_14, E16_16, E16_17, E16_20, E16_22, E16_25, E16_27, E16_28, E16_30, E16_31, E16_33, E16_34, E16_38, E16_40, E16_43, E16_44, E16_46, E16_47, E16_48, E16_49, E16_52, E16_52n, E16_53, E16_55, E16_57, E16_59, E16_60, E16_63, E16_64, E16_65, E16_66, E16_69, E16_72, E16_74, E16_76, E16_79, E16_80, E16_83, E16_85, E16_86, E16_87, E16_89, E16_91, E16_92, E16_93, E16_96, E16_97, E16_98, E16_101, E16_102, E16_104, E16_107, E16_108, E16_110, E16_113, E16_117, E16_118, E16_121, E16_124, E16_124n, E16_125, E16_127, E16_127n, E16_128, E16_130, E16_132, E16_133, E16_134, E16_135, E16_138, E16_141, e1, e2, e3, e4, e5, e6, c6, hF, hw, ha, hn, nI_1, rfs, rfn, cs0, csi, csl, csr, csn, kti, ktl, ktr, ktn, ktv, ktf, true_and, and_true, and_self, ↓reduceIte, Nat.reduceAdd, Nat.reduceSub, Nat.reduceMul, Nat.reduceLT, Nat.reduceLeDiff, Nat.reduceEqDiff, true_or, or_true, false_or, or_false, not_true_eq_false, not_false_eq_true, reduceCtorEq, cmp_lt, cmp_gt, cmp_eq, Int32.reduceAdd, Int32.reduceSub, Int32.reduceMul, Int32.reduceLT, Int32.reduceToNatClampNeg, eq_self, ne_eq, Int64.reduceAdd, Int64.reduceSub, Int64.reduceMul, Int64.reduceLT]
    refine ih (w + 1) _ (by omega) (by omega) (fun k hk => ?_) (fun f hf => by rw [up_up]; exact h f hf)
    rw [up_is, if_pos rfl, gb_up]
    by_cases g : k / 64 = w
    · rw [if_pos g, hv k (by omega), ← hL (k - 64 * P) (by omega)]
      unfold gb
      rw [show (k - 64 * P) / 64 = w - P by omega, show (k - 64 * P) % 64 = k % 64 by omega]
    · rw [if_neg g]
      exact hL k (by omega)
theorem fr1_lp {d F W a n w B : Nat} {c nu : Int32} {x4 : Value} {S : mS} {I : mI} {R : mR} {Q : mQ} (hF : ok S F 0) (hW : R F 2 = some W) (hI : okI S W) (hc : inb c (S.2.2.2 W)) (hw : I W c.toNatClampNeg = nI w) (ha : ok S a 12) (hn : S.2.2.2 a = n) (h31 : n < 2 ^ 24) (w0 : 0 < w) (w31 : w < 2 ^ 24) (hB : B ≤ 64 * n) : ∀ (m j : Nat) (L : mL), B - j * w ≤ m → j * w < 2 ^ 31 → (∀ k, k < 64 * n → gb (L a) k = (decide (k < j * w) && (decide (k < B) && bitOf nu (k / w % 9 + 1)))) → (∀ (f : Nat → Int64) (x y : Int32), (∀ k, k < 64 * n → gb f k = (decide (k < B) && bitOf nu (k / w % 9 + 1))) → Ev (d + 2) 16 107 [.ref F, .int c, .int nu, .ref a, x4, .int (nI B), .int x, .int y] [] S I (va_up L a f) R Q) → Ev (d + 2) 16 36 [.ref F, .int c, .int nu, .ref a, x4, .int (nI B), .int (nI (j % 9 + 1)), .int (nI (j * w))] [] S I L R Q := by
  intro m
  induction m with
  | zero =>
    intro j L hm h31j hL h
    have e : (nI (j * w) < nI B) = False := eq_false (nI_nlt (by omega) h31j)
    rw [E16_36]
    simp only [E16_38, E16_40, e, rfs, rfn, cs0, csi, csl, csr, csn, kti, ktl, ktr, ktn, ktv, ktf, true_and, and_true, and_self, ↓reduceIte, Nat.reduceAdd, Nat.reduceSub, Nat.reduceMul, Nat.reduceLT, Nat.reduceLeDiff, Nat.reduceEqDiff, true_or, or_true, false_or, or_false, not_true_eq_false, not_false_eq_true, reduceCtorEq, cmp_lt, cmp_gt, cmp_eq, Int32.reduceAdd, Int32.reduceSub, Int32.reduceMul, Int32.reduceLT, Int32.reduceToNatClampNeg, eq_self, ne_eq, Int64.reduceAdd, Int64.reduceSub, Int64.reduceMul, Int64.reduceLT]
    have := h (L a) (nI (j % 9 + 1)) (nI (j * w)) (fun k hk => by
      rw [hL k hk]
      by_cases g : k < B
      · have : k < j * w := by omega
        simp [g, this]
      · simp [g])
    rw [up_ext rfl] at this
    exact this
  | succ m ih =>
    intro j L hm h31j hL h
    by_cases hj : j * w < B
    case neg =>
      have e : (nI (j * w) < nI B) = False := eq_false (nI_nlt (by omega) h31j)
      rw [E16_36]
      simp only [E16_38, E16_40, e, rfs, rfn, cs0, csi, csl, csr, csn, kti, ktl, ktr, ktn, ktv, ktf, true_and, and_true, and_self, ↓reduceIte, Nat.reduceAdd, Nat.reduceSub, Nat.reduceMul, Nat.reduceLT, Nat.reduceLeDiff, Nat.reduceEqDiff, true_or, or_true, false_or, or_false, not_true_eq_false, not_false_eq_true, reduceCtorEq, cmp_lt, cmp_gt, cmp_eq, Int32.reduceAdd, Int32.reduceSub, Int32.reduceMul, Int32.reduceLT, Int32.reduceToNatClampNeg, eq_self, ne_eq, Int64.reduceAdd, Int64.reduceSub, Int64.reduceMul, Int64.reduceLT]
      have := h (L a) (nI (j % 9 + 1)) (nI (j * w)) (fun k hk => by
        rw [hL k hk]
        by_cases g : k < B
        · have : k < j * w := by omega
          simp [g, this]
        · simp [g])
      rw [up_ext rfl] at this
      exact this
    have e1 : (nI (j * w) < nI B) = True := eq_true (nI_lt (a := j * w) (b := B) hj (by omega))
    have e2 : (if nI (j * w + w) < nI B then nI (j * w + w) else nI B) = nI (min (j * w + w) B) := by
      by_cases g : j * w + w < B
      · rw [if_pos (nI_lt g (by omega)), Nat.min_eq_left (by omega)]
      · rw [if_neg (nI_nlt (by omega) (by omega)), Nat.min_eq_right (by omega)]
    have e3 : (if (1 : Int32) < nI w then nI w else 1) = nI w := by
      by_cases g : 1 < w
      · exact if_pos (nI_lt (a := 1) (b := w) g (by omega))
      · obtain rfl : w = 1 := by omega
        rfl
    have key : ∀ f : Nat → Int64, (∀ k, k < 64 * n → gb f k = (decide (k < (j + 1) * w) && (decide (k < B) && bitOf nu (k / w % 9 + 1)))) → Ev (d + 2) 16 36 [.ref F, .int c, .int nu, .ref a, x4, .int (nI B), .int (nI ((j + 1) % 9 + 1)), .int (nI (j * w + w))] [] S I (va_up L a f) R Q := by
      intro f hf
      rw [← Nat.succ_mul]
      refine ih (j + 1) _ (by rw [Nat.succ_mul]; omega) (by rw [Nat.succ_mul]; omega) (fun k hk => ?_) (fun f2 x y h2 => by rw [up_up]; exact h f2 x y h2)
      rw [up_is, if_pos rfl]
      exact hf k hk
    have dv : ∀ k, j * w ≤ k → k < j * w + w → k / w = j := fun k g1 g2 => Nat.div_eq_of_lt_le g1 (by rw [Nat.succ_mul]; exact g2)
    have nx : ∀ f : Nat → Int64, (∀ k, k < 64 * n → gb f k = (decide (k < (j + 1) * w) && (decide (k < B) && bitOf nu (k / w % 9 + 1)))) → Ev (d + 2) 16 72 [.ref F, .int c, .int nu, .ref a, x4, .int (nI B), .int (nI (j % 9 + 1)), .int (nI (j * w))] [] S I (va_up L a f) R Q := by
      intro f hf
      have hk := key f hf
      by_cases g9 : j % 9 = 8
      · have e9 : (nI (j % 9 + 1) = 9) = True := eq_true (by rw [g9]; rfl)
        rw [show (j + 1) % 9 + 1 = 1 by omega] at hk
        simp only [E16_0, E16_0n, E16_1, E16_2, E16_5, E16_7, E16_8, E16_11, E16_12, E16_13, E16_14, E16_16, E16_17, E16_20, E16_22, E16_25, E16_27, E16_28, E16_30, E16_31, E16_33, E16_34, E16_38, E16_40, E16_43, E16_44, E16_46, E16_47, E16_48, E16_49, E16_52, E16_52n, E16_53, E16_55, E16_57, E16_59, E16_60, E16_63, E16_64, E16_65, E16_66, E16_69, E16_72, E16_74, E16_76, E16_79, E16_80, E16_83, E16_85, E16_86, E16_87, E16_89, E16_91, E16_92, E16_93, E16_96, E16_97, E16_98, E16_101, E16_102, E16_104, E16_107, E16_108, E16_110, E16_113, E16_117, E16_118, E16_121, E16_124, E16_124n, E16_125, E16_127, E16_127n, E16_128, E16_130, E16_132, E16_133, E16_134, E16_135, E16_138, E16_141, e9, e3, hF, hW, hI, hc, hw, nI_add, rfs, rfn, cs0, csi, csl, csr, csn, kti, ktl, ktr, ktn, ktv, ktf, true_and, and_true, and_self, ↓reduceIte, Nat.reduceAdd, Nat.reduceSub, Nat.reduceMul, Nat.reduceLT, Nat.reduceLeDiff, Nat.reduceEqDiff, true_or, or_true, false_or, or_false, not_true_eq_false, not_false_eq_true, reduceCtorEq, cmp_lt, cmp_gt, cmp_eq, Int32.reduceAdd, Int32.reduceSub, Int32.reduceMul, Int32.reduceLT, Int32.reduceToNatClampNeg, eq_self, ne_eq, Int64.reduceAdd, Int64.reduceSub, Int64.reduceMul, Int64.reduceLT]
        exact hk
      · have e9 : (nI (j % 9 + 1) = 9) = False := eq_false (fun h9 => g9 (by have := (nI_eq (a := j % 9 + 1) (b := 9) (by omega) (by decide)).mp h9; omega))
        rw [show (j + 1) % 9 + 1 = j % 9 + 1 + 1 by omega] at hk
        simp only [E16_0, E16_0n, E16_1, E16_2, E16_5, E16_7, E16_8, E16_11, E16_12, E16_13, E16_14, E16_16, E16_17, E16_20, E16_22, E16_25, E16_27, E16_28, E16_30, E16_31, E16_33, E16_34, E16_38, E16_40, E16_43, E16_44, E16_46, E16_47, E16_48, E16_49, E16_52, E16_52n, E16_53, E16_55, E16_57, E16_59, E16_60, E16_63, E16_64, E16_65, E16_66, E16_69, E16_72, E16_74, E16_76, E16_79, E16_80, E16_83, E16_85, E16_86, E16_87, E16_89, E16_91, E16_92, E16_93, E16_96, E16_97, E16_98, E16_101, E16_102, E16_104, E16_107, E16_108, E16_110, E16_113, E16_117, E16_118, E16_121, E16_124, E16_124n, E16_125, E16_127, E16_127n, E16_128, E16_130, E16_132, E16_133, E16_134, E16_135, E16_138, E16_141, e9, e3, hF, hW, hI, hc, hw, nI_add, nI_1, rfs, rfn, cs0, csi, csl, csr, csn, kti, ktl, ktr, ktn, ktv, ktf, true_and, and_true, and_self, ↓reduceIte, Nat.reduceAdd, Nat.reduceSub, Nat.reduceMul, Nat.reduceLT, Nat.reduceLeDiff, Nat.reduceEqDiff, true_or, or_true, false_or, or_false, not_true_eq_false, not_false_eq_true, reduceCtorEq, cmp_lt, cmp_gt, cmp_eq, Int32.reduceAdd, Int32.reduceSub, Int32.reduceMul, Int32.reduceLT, Int32.reduceToNatClampNeg, eq_self, ne_eq, Int64.reduceAdd, Int64.reduceSub, Int64.reduceMul, Int64.reduceLT]
        exact hk
    rw [E16_36]
    by_cases hb : (nu >>> (nI (j % 9 + 1) &&& 31)) &&& 1 = 0
    · simp only [E16_38, E16_40, E16_43, E16_44, E16_46, E16_47, E16_48, E16_49, e1, hb, rfs, rfn, cs0, csi, csl, csr, csn, kti, ktl, ktr, ktn, ktv, ktf, true_and, and_true, and_self, ↓reduceIte, Nat.reduceAdd, Nat.reduceSub, Nat.reduceMul, Nat.reduceLT, Nat.reduceLeDiff, Nat.reduceEqDiff, true_or, or_true, false_or, or_false, not_true_eq_false, not_false_eq_true, reduceCtorEq, cmp_lt, cmp_gt, cmp_eq, Int32.reduceAdd, Int32.reduceSub, Int32.reduceMul, Int32.reduceLT, Int32.reduceToNatClampNeg, eq_self, ne_eq, Int64.reduceAdd, Int64.reduceSub, Int64.reduceMul, Int64.reduceLT]
      have := nx (L a) (fun k hk => by
        rw [hL k hk, Nat.succ_mul]
        by_cases g : j * w ≤ k ∧ k < j * w + w
        · have hbf : bitOf nu (k / w % 9 + 1) = false := by
            rw [dv k g.1 g.2]
            exact decide_eq_false (fun h9 => h9 hb)
          simp [hbf]
        · congr 1
          rw [decide_eq_decide]
          omega)
      rw [up_ext rfl] at this
      exact this
    · simp only [E16_38, E16_40, E16_43, E16_44, E16_46, E16_47, E16_48, E16_49, E16_52, E16_53, E16_55, E16_57, E16_59, E16_60, E16_63, E16_64, E16_65, E16_66, E16_69, e1, e2, hb, hF, hW, hI, hc, hw, nI_add, rfs, rfn, cs0, csi, csl, csr, csn, kti, ktl, ktr, ktn, ktv, ktf, true_and, and_true, and_self, ↓reduceIte, Nat.reduceAdd, Nat.reduceSub, Nat.reduceMul, Nat.reduceLT, Nat.reduceLeDiff, Nat.reduceEqDiff, true_or, or_true, false_or, or_false, not_true_eq_false, not_false_eq_true, reduceCtorEq, cmp_lt, cmp_gt, cmp_eq, Int32.reduceAdd, Int32.reduceSub, Int32.reduceMul, Int32.reduceLT, Int32.reduceToNatClampNeg, eq_self, ne_eq, Int64.reduceAdd, Int64.reduceSub, Int64.reduceMul, Int64.reduceLT]
      refine setB ha hn h31 h31j (by omega) (fun f hf => ?_)
      refine nx f (fun k hk => ?_)
      rw [hf k, hL k hk, Nat.succ_mul]
      by_cases g : j * w ≤ k ∧ k < j * w + w
      · have hbt : bitOf nu (k / w % 9 + 1) = true := by
          rw [dv k g.1 g.2]
          exact decide_eq_true hb
        rw [hbt, Bool.eq_iff_iff]
        simp only [Bool.or_eq_true, Bool.and_eq_true, decide_eq_true_eq, and_true]
        omega
      · rw [Bool.eq_iff_iff]
        simp only [Bool.or_eq_true, Bool.and_eq_true, decide_eq_true_eq]
        constructor
        · intro g1
          rcases g1 with ⟨a1, a2, a3⟩ | ⟨a1, a2⟩
          · exact ⟨by omega, a2, a3⟩
          · exact absurd ⟨a1, by omega⟩ g
        · intro g1
          obtain ⟨a1, a2, a3⟩ := g1
          exact Or.inl ⟨by omega, a2, a3⟩
