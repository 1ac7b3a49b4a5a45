/-! spread: what MOVES in a HEAT lead to -/
theorem ti_neg {x : Int32} (h : -2147483648 < x.toInt) : (-x).toInt = -x.toInt := by
  have := x.toInt_lt
  rw [Int32.toInt_neg]
  exact Int.bmod_eq_of_le_mul_two (by omega) (by omega)
/-- a MOVE between j and j + 1 -/
def mvj (w : Nat → Nat) (j y k : Nat) : Prop := (2 ≤ dg w y j ∧ dg w y (j + 1) ≤ 8 ∧ k + w j = y + w (j + 1)) ∨ (2 ≤ dg w y (j + 1) ∧ dg w y j ≤ 8 ∧ k + w (j + 1) = y + w j)
section SP
variable {d f c n p e : Nat} {w : Nat → Nat} {bl fv bv : Int32} {S : mS} {I : mI} {R : mR} {Q : mQ}
theorem sw_lp (hF : ok S f 0) (hI1 : I f 1 = nI n) (r7 : R f 7 = some (f + 5 + 3 * c)) (r8 : R f 8 = some (f + 6 + 3 * c)) (lf : lon S (f + 5 + 3 * c) n) (ln : lon S (f + 6 + 3 * c) n) (le : lon S e n) (he : e < f ∨ f + 6 + 3 * c < e) (hn : n < 2 ^ 24) : ∀ (m i : Nat) (L : mL) (any : Int64) (y9 y10 : Value), i + m = n → (∀ (L' : mL) (any' : Int64) (y9 y10 : Value), (∀ a, ¬ a = f + 5 + 3 * c → ¬ a = e → L' a = L a) → (∀ k, 64 * i ≤ k → k < 64 * n → (gb (L' (f + 5 + 3 * c)) k = true ↔ gb (L (f + 6 + 3 * c)) k = true ∧ ¬ gb (L e) k = true) ∧ (gb (L' e) k = true ↔ gb (L e) k = true ∨ gb (L (f + 6 + 3 * c)) k = true)) → (∀ k, k < 64 * i → gb (L' (f + 5 + 3 * c)) k = gb (L (f + 5 + 3 * c)) k ∧ gb (L' e) k = gb (L e) k) → (any' = 0 ↔ any = 0 ∧ ∀ k, 64 * i ≤ k → k < 64 * n → ¬ (gb (L (f + 6 + 3 * c)) k = true ∧ ¬ gb (L e) k = true)) → Ev (d + 2) 14 215 [.ref f, .ref e, .int (nI p), .int bl, .int fv, .int bv, .long any', nv, .int (nI n), y9, y10] [] S I L' R Q) → Ev (d + 2) 14 157 [.ref f, .ref e, .int (nI p), .int bl, .int fv, .int bv, .long any, nv, .int (nI i), y9, y10] [] S I L R Q := by
  obtain ⟨lf1, lf2⟩ := lf
  obtain ⟨ln1, ln2⟩ := ln
  obtain ⟨le1, le2⟩ := le
  intro m
  induction m with
  | zero =>
    intro i L any y9 y10 hi h
    obtain rfl : i = n := by omega
    have e0 : (nI i < nI i) = False := eq_false (nI_nlt (Nat.le_refl i) (by omega))
    rw [E14_157]
    simp only [E14_159, E14_160, E14_163, e0, hF, hI1, rfs, rfn, cs0, csi, csl, csr, csn, kti, ktl, ktr, ktn, ktv, ktf, true_and, and_true, and_self, ↓reduceIte, Nat.reduceAdd, Nat.reduceSub, Nat.reduceMul, Nat.reduceLT, Nat.reduceLeDiff, Nat.reduceEqDiff, true_or, or_true, false_or, or_false, not_true_eq_false, not_false_eq_true, reduceCtorEq, cmp_lt, cmp_gt, cmp_eq, Int32.reduceAdd, Int32.reduceSub, Int32.reduceMul, Int32.reduceLT, Int32.reduceToNatClampNeg, eq_self, ne_eq, Int64.reduceAdd, Int64.reduceSub, Int64.reduceMul, Int64.reduceLT]
    exact h L any y9 y10 (fun _ _ _ => rfl) (fun k h1 h2 => absurd h2 (by omega)) (fun _ _ => ⟨rfl, rfl⟩) ⟨fun q => ⟨q, fun k h1 h2 => absurd h2 (by omega)⟩, fun q => q.1⟩
  | succ m ih =>
    intro i L any y9 y10 hi h
    have e1 : (nI i < nI n) = True := eq_true (nI_lt (a := i) (b := n) (by omega) (by omega))
    have e3 : inb (nI i) n = True := inb_nI (by omega) (by omega)
    have e4 : (nI i).toNatClampNeg = i := nI_clamp (by omega)
    have ne1 : ∀ F : Nat → Int64, va_up L (f + 5 + 3 * c) F e = L e := fun F => uu_n _ _ (by omega)
    rw [E14_157]
    simp only [E14_159, E14_160, E14_163, E14_166, E14_167, E14_170, E14_172, E14_173, E14_174, E14_176, E14_177, E14_180, E14_181, E14_182, E14_184, E14_185, E14_188, E14_190, E14_192, E14_193, E14_194, E14_196, E14_197, E14_198, E14_200, E14_201, E14_202, E14_204, E14_206, E14_207, E14_209, E14_212, e1, e3, e4, hF, hI1, r7, r8, lf1, lf2, ln1, ln2, le1, le2, ne1, rfs, rfn, cs0, csi, csl, csr, csn, kti, ktl, ktr, ktn, ktv, ktf, true_and, and_true, and_self, ↓reduceIte, Nat.reduceAdd, Nat.reduceSub, Nat.reduceMul, Nat.reduceLT, Nat.reduceLeDiff, Nat.reduceEqDiff, true_or, or_true, false_or, or_false, not_true_eq_false, not_false_eq_true, reduceCtorEq, cmp_lt, cmp_gt, cmp_eq, Int32.reduceAdd, Int32.reduceSub, Int32.reduceMul, Int32.reduceLT, Int32.reduceToNatClampNeg, eq_self, ne_eq, Int64.reduceAdd, Int64.reduceSub, Int64.reduceMul, Int64.reduceLT, nI_1]
    have rb : ∀ k, k / 64 = i → ((L (f + 6 + 3 * c) i &&& (L e i ^^^ (-1))).toBitVec.getLsbD (k % 64) = true ↔ gb (L (f + 6 + 3 * c)) k = true ∧ ¬ gb (L e) k = true) := fun k hk => by
      unfold gb
      rw [hk, and_bit, xorm_bit (by omega), Bool.and_eq_true, Bool.not_eq_true']
      simp only [Bool.not_eq_true]
    refine ih (i + 1) _ _ _ _ (by omega) (fun L' any' z9 z10 g1 g2 g3 g4 => h L' any' z9 z10 (fun a h1 h2 => ?_) (fun k h1 h2 => ?_) (fun k hk => ?_) (g4.trans ?_))
    · rw [g1 a h1 h2, uu_n _ _ h2, uu_n _ _ h1]
    · by_cases hw : k / 64 = i
      · rw [(g3 k (by omega)).1, (g3 k (by omega)).2, uu_s, uu_n _ _ (by omega), uu_s, gb_up, if_pos hw, gb_up, if_pos hw, or_bit, Bool.or_eq_true, rb k hw]
        refine ⟨Iff.rfl, ?_⟩
        have : (L e i).toBitVec.getLsbD (k % 64) = true ↔ gb (L e) k = true := by unfold gb; rw [hw]
        rw [this]
        constructor
        · rintro (q | q)
          · exact Or.inl q
          · exact Or.inr q.1
        · rintro (q | q)
          · exact Or.inl q
          · by_cases q2 : gb (L e) k = true
            · exact Or.inl q2
            · exact Or.inr ⟨q, q2⟩
      · have q := g2 k (by omega) h2
        rw [uu_s, uu_n _ _ (by omega), uu_n _ _ (by omega), gb_up, if_neg hw] at q
        exact q
    · have q := g3 k (by omega)
      rw [uu_s, uu_n _ _ (by omega), uu_s, gb_up, if_neg (by omega), gb_up, if_neg (by omega)] at q
      exact q
    · rw [or_zero]
      have w1 : ∀ k, 64 * (i + 1) ≤ k → (gb (va_up (va_up L (f + 5 + 3 * c) (va_up (L (f + 5 + 3 * c)) i (L (f + 6 + 3 * c) i &&& (L e i ^^^ (-1))))) e (va_up (L e) i (L e i ||| L (f + 6 + 3 * c) i &&& (L e i ^^^ (-1)))) (f + 6 + 3 * c)) k = gb (L (f + 6 + 3 * c)) k ∧ gb (va_up (va_up L (f + 5 + 3 * c) (va_up (L (f + 5 + 3 * c)) i (L (f + 6 + 3 * c) i &&& (L e i ^^^ (-1))))) e (va_up (L e) i (L e i ||| L (f + 6 + 3 * c) i &&& (L e i ^^^ (-1)))) e) k = gb (L e) k) := fun k hk => by
        rw [uu_s, uu_n _ _ (by omega), uu_n _ _ (by omega), gb_up, if_neg (by omega)]
        exact ⟨rfl, rfl⟩
      constructor
      · rintro ⟨⟨q1, q2⟩, q3⟩
        refine ⟨q1, fun k h1 h2 => ?_⟩
        by_cases hw : k / 64 = i
        · rw [← rb k hw, q2, zero_bit]
          decide
        · have q := q3 k (by omega) h2
          rw [(w1 k (by omega)).1, (w1 k (by omega)).2] at q
          exact q
      · rintro ⟨q1, q2⟩
        refine ⟨⟨q1, ?_⟩, fun k h1 h2 => ?_⟩
        · apply Classical.byContradiction
          intro hz
          obtain ⟨j, hj, hb⟩ := bit_of_ne hz
          have r := rb (64 * i + j) (by omega)
          rw [show (64 * i + j) % 64 = j by omega] at r
          exact q2 (64 * i + j) (by omega) (by omega) (r.mp hb)
        · rw [(w1 k h1).1, (w1 k h1).2]
          exact q2 k (by omega) h2
theorem sc_lp {y8 y9 y10 : Value} (hS : FoS S R f c n) (hI : FoI I f c n w) (hw : wOk w c) (hc : c ≤ 5) (hp : p < c) (hn : n < 2 ^ 24) : ∀ (m i : Nat) (L : mL) (y7 : Value), i + m = c → FoL L f c n w → (∀ (L' : mL) (y6 y7 : Value), (∀ a, ¬ a = f + 6 + 3 * c → L' a = L a) → (∀ k, k < 64 * n → (gb (L' (f + 6 + 3 * c)) k = true ↔ gb (L (f + 6 + 3 * c)) k = true ∨ ∃ y, y < 64 * n ∧ gb (L (f + 5 + 3 * c)) y = true ∧ ∃ j, i ≤ j ∧ j + 1 < c ∧ j ≤ p + 1 ∧ mvj w j y k)) → Ev (d + 2) 14 151 [.ref f, .ref e, .int (nI p), .int bl, .int fv, .int bv, y6, y7, y8, y9, y10] [] S I L' R Q) → Ev (d + 2) 14 48 [.ref f, .ref e, .int (nI p), .int bl, .int fv, .int bv, .int (nI i), y7, y8, y9, y10] [] S I L R Q := by
  obtain ⟨⟨hF, hW, hWl⟩, ⟨r2, r3, r4, r5, r7, r8, r9⟩, ⟨mG, mT, mH⟩, l7, l8, l9⟩ := hS
  obtain ⟨hI0, hI1, hIw⟩ := hI
  have hGR := matR mG
  have hG2 := mG.1.2
  have hTR := matR mT
  have hT2 := mT.1.2
  have hWI : okI S (f + 1) := ⟨hW.1, Or.inl hW.2⟩
  intro m
  induction m with
  | zero =>
    intro i L y7 hi hL h
    obtain rfl : i = c := by omega
    have c1 : (nI (p + 1) < nI i) = (p + 1 < i) := propext (nI_ltI (by omega) (by omega))
    have c2 : (nI (i + 1) < nI i) = False := eq_false (nI_nlt (by omega) (by omega))
    have fin := h L (.int (nI i)) y7 (fun _ _ => rfl) (fun k hk => ⟨Or.inl, fun q => by
      rcases q with q | ⟨y, _, _, j, q1, q2, _⟩
      · exact q
      · omega⟩)
    rw [E14_48]
    by_cases g : p + 1 < i
    · simp only [E14_50, E14_51, E14_52, E14_53, rfs, rfn, cs0, csi, csl, csr, csn, kti, ktl, ktr, ktn, ktv, ktf, true_and, and_true, and_self, ↓reduceIte, Nat.reduceAdd, Nat.reduceSub, Nat.reduceMul, Nat.reduceLT, Nat.reduceLeDiff, Nat.reduceEqDiff, true_or, or_true, false_or, or_false, not_true_eq_false, not_false_eq_true, reduceCtorEq, cmp_lt, cmp_gt, cmp_eq, Int32.reduceAdd, Int32.reduceSub, Int32.reduceMul, Int32.reduceLT, Int32.reduceToNatClampNeg, eq_self, ne_eq, Int64.reduceAdd, Int64.reduceSub, Int64.reduceMul, Int64.reduceLT, nI_1, c1, g]
      exact fin
    · simp only [E14_50, E14_51, E14_52, E14_53, E14_56, E14_58, E14_59, E14_60, E14_61, E14_64, rfs, rfn, cs0, csi, csl, csr, csn, kti, ktl, ktr, ktn, ktv, ktf, true_and, and_true, and_self, ↓reduceIte, Nat.reduceAdd, Nat.reduceSub, Nat.reduceMul, Nat.reduceLT, Nat.reduceLeDiff, Nat.reduceEqDiff, true_or, or_true, false_or, or_false, not_true_eq_false, not_false_eq_true, reduceCtorEq, cmp_lt, cmp_gt, cmp_eq, Int32.reduceAdd, Int32.reduceSub, Int32.reduceMul, Int32.reduceLT, Int32.reduceToNatClampNeg, eq_self, ne_eq, Int64.reduceAdd, Int64.reduceSub, Int64.reduceMul, Int64.reduceLT, nI_1, c1, c2, g, hF, hI0]
      exact fin
  | succ m ih =>
    intro i L y7 hi hL h
    have c1 : (nI (p + 1) < nI i) = (p + 1 < i) := propext (nI_ltI (by omega) (by omega))
    have c2 : (nI (i + 1) < nI c) = (i + 1 < c) := propext (nI_ltI (by omega) (by omega))
    rw [E14_48]
    by_cases g : p + 1 < i
    · simp only [E14_50, E14_51, E14_52, E14_53, rfs, rfn, cs0, csi, csl, csr, csn, kti, ktl, ktr, ktn, ktv, ktf, true_and, and_true, and_self, ↓reduceIte, Nat.reduceAdd, Nat.reduceSub, Nat.reduceMul, Nat.reduceLT, Nat.reduceLeDiff, Nat.reduceEqDiff, true_or, or_true, false_or, or_false, not_true_eq_false, not_false_eq_true, reduceCtorEq, cmp_lt, cmp_gt, cmp_eq, Int32.reduceAdd, Int32.reduceSub, Int32.reduceMul, Int32.reduceLT, Int32.reduceToNatClampNeg, eq_self, ne_eq, Int64.reduceAdd, Int64.reduceSub, Int64.reduceMul, Int64.reduceLT, nI_1, c1, g]
      exact h L (.int (nI i)) y7 (fun _ _ => rfl) (fun k hk => ⟨Or.inl, fun q => by
        rcases q with q | ⟨y, _, _, j, q1, q2, q3, _⟩
        · exact q
        · omega⟩)
    by_cases g2 : i + 1 < c
    case neg =>
      simp only [E14_50, E14_51, E14_52, E14_53, E14_56, E14_58, E14_59, E14_60, E14_61, E14_64, rfs, rfn, cs0, csi, csl, csr, csn, kti, ktl, ktr, ktn, ktv, ktf, true_and, and_true, and_self, ↓reduceIte, Nat.reduceAdd, Nat.reduceSub, Nat.reduceMul, Nat.reduceLT, Nat.reduceLeDiff, Nat.reduceEqDiff, true_or, or_true, false_or, or_false, not_true_eq_false, not_false_eq_true, reduceCtorEq, cmp_lt, cmp_gt, cmp_eq, Int32.reduceAdd, Int32.reduceSub, Int32.reduceMul, Int32.reduceLT, Int32.reduceToNatClampNeg, eq_self, ne_eq, Int64.reduceAdd, Int64.reduceSub, Int64.reduceMul, Int64.reduceLT, nI_1, c1, c2, g, g2, hF, hI0]
      exact h L (.int (nI i)) y7 (fun _ _ => rfl) (fun k hk => ⟨Or.inl, fun q => by
        rcases q with q | ⟨y, _, _, j, q1, q2, q3, _⟩
        · exact q
        · omega⟩)
    have i3 : inb (nI i) c = True := inb_nI (by omega) (by omega)
    have i4 : (nI i).toNatClampNeg = i := nI_clamp (by omega)
    have j3 : inb (nI (i + 1)) c = True := inb_nI (by omega) (by omega)
    have j4 : (nI (i + 1)).toNatClampNeg = i + 1 := nI_clamp (by omega)
    obtain ⟨gi1, gi2⟩ := mG.2 i (by omega)
    obtain ⟨gj1, gj2⟩ := mG.2 (i + 1) (by omega)
    obtain ⟨ti1, ti2⟩ := mT.2 i (by omega)
    obtain ⟨tj1, tj2⟩ := mT.2 (i + 1) (by omega)
    have wi := hIw i (by omega)
    have wj := hIw (i + 1) (by omega)
    have bi := hw i (by omega)
    have bj := hw (i + 1) (by omega)
    have vI : (nI (w i) - nI (w (i + 1))).toInt = (w i : Int) - w (i + 1) := pk_sub_toInt (by omega) (by omega)
    have vN : (-(nI (w i) - nI (w (i + 1)))).toInt = -((w i : Int) - w (i + 1)) := by rw [ti_neg (by omega), vI]
    simp only [E14_50, E14_51, E14_52, E14_53, E14_56, E14_58, E14_59, E14_60, E14_61, E14_64, E14_67, E14_68, E14_71, E14_73, E14_74, E14_75, E14_78, E14_80, E14_81, E14_82, E14_83, E14_84, E14_86, E14_87, E14_90, E14_91, E14_94, E14_96, E14_97, E14_98, E14_101, E14_103, E14_104, E14_105, E14_106, E14_108, E14_109, E14_110, E14_113, rfs, rfn, cs0, csi, csl, csr, csn, kti, ktl, ktr, ktn, ktv, ktf, true_and, and_true, and_self, ↓reduceIte, Nat.reduceAdd, Nat.reduceSub, Nat.reduceMul, Nat.reduceLT, Nat.reduceLeDiff, Nat.reduceEqDiff, true_or, or_true, false_or, or_false, not_true_eq_false, not_false_eq_true, reduceCtorEq, cmp_lt, cmp_gt, cmp_eq, Int32.reduceAdd, Int32.reduceSub, Int32.reduceMul, Int32.reduceLT, Int32.reduceToNatClampNeg, eq_self, ne_eq, Int64.reduceAdd, Int64.reduceSub, Int64.reduceMul, Int64.reduceLT, nI_1, c1, c2, g, g2, hF, hI0, r2, r3, r4, r7, r8, hGR, hG2, hTR, hT2, hWI, hWl, i3, i4, j3, j4, gi1, gj1, ti1, tj1, wi, wj]
    refine shA (d := d) (n := n) l7.1 l7.2 gi2.1 gi2.2 tj2.1 tj2.2 l8.1 l8.2 (by omega) (by omega) (by omega) hn vN (by omega) (by omega) (fun g1 hg1 => ?_)
    simp only [E14_116, E14_117, E14_120, E14_121, E14_124, E14_126, E14_127, E14_128, E14_129, E14_130, E14_133, E14_135, E14_136, E14_138, E14_139, E14_142, rfs, rfn, cs0, csi, csl, csr, csn, kti, ktl, ktr, ktn, ktv, ktf, true_and, and_true, and_self, ↓reduceIte, Nat.reduceAdd, Nat.reduceSub, Nat.reduceMul, Nat.reduceLT, Nat.reduceLeDiff, Nat.reduceEqDiff, true_or, or_true, false_or, or_false, not_true_eq_false, not_false_eq_true, reduceCtorEq, cmp_lt, cmp_gt, cmp_eq, Int32.reduceAdd, Int32.reduceSub, Int32.reduceMul, Int32.reduceLT, Int32.reduceToNatClampNeg, eq_self, ne_eq, Int64.reduceAdd, Int64.reduceSub, Int64.reduceMul, Int64.reduceLT, nI_1, hF, r3, r4, r7, r8, hGR, hG2, hTR, hT2, i3, i4, j3, j4, gi1, gj1, ti1, tj1]
    refine shA (d := d) (n := n) l7.1 l7.2 gj2.1 gj2.2 ti2.1 ti2.2 l8.1 l8.2 (by omega) (by omega) (by omega) hn vI (by omega) (by omega) (fun g3 hg3 => ?_)
    simp only [E14_145, E14_148, rfs, rfn, cs0, csi, csl, csr, csn, kti, ktl, ktr, ktn, ktv, ktf, true_and, and_true, and_self, ↓reduceIte, Nat.reduceAdd, Nat.reduceSub, Nat.reduceMul, Nat.reduceLT, Nat.reduceLeDiff, Nat.reduceEqDiff, true_or, or_true, false_or, or_false, not_true_eq_false, not_false_eq_true, reduceCtorEq, cmp_lt, cmp_gt, cmp_eq, Int32.reduceAdd, Int32.reduceSub, Int32.reduceMul, Int32.reduceLT, Int32.reduceToNatClampNeg, eq_self, ne_eq, Int64.reduceAdd, Int64.reduceSub, Int64.reduceMul, Int64.reduceLT, nI_1, up_up]
    refine ih (i + 1) _ _ (by omega) (hL.mono (fun a h1 h2 => uu_n _ _ (by omega))) (fun L' y6 z7 q1 q2 => h L' y6 z7 (fun a ha => ?_) (fun k hk => (q2 k hk).trans ?_))
    · rw [q1 a ha, uu_n _ _ ha]
    · rw [uu_s, uu_n _ _ (by omega), hg3 k hk, uu_s, uu_n _ _ (by omega), uu_n _ _ (by omega), uu_n _ _ (by omega), hg1 k hk]
      have key : (∃ j, j < 64 * n ∧ (k : Int) = j + -((w i : Int) - w (i + 1)) ∧ gb (L (f + 5 + 3 * c)) j = true ∧ gb (L (f + 2 + 1 + i)) j = true ∧ gb (L (f + 3 + c + 1 + (i + 1))) j = true) ∨ (∃ j, j < 64 * n ∧ (k : Int) = j + ((w i : Int) - w (i + 1)) ∧ gb (L (f + 5 + 3 * c)) j = true ∧ gb (L (f + 2 + 1 + (i + 1))) j = true ∧ gb (L (f + 3 + c + 1 + i)) j = true) ↔ ∃ y, y < 64 * n ∧ gb (L (f + 5 + 3 * c)) y = true ∧ mvj w i y k := by
        constructor
        · rintro (⟨j, z1, z2, z3, z4, z5⟩ | ⟨j, z1, z2, z3, z4, z5⟩)
          · exact ⟨j, z1, z3, Or.inl ⟨(hL i (by omega) j z1).1.mp z4, (hL (i + 1) (by omega) j z1).2.mp z5, by omega⟩⟩
          · exact ⟨j, z1, z3, Or.inr ⟨(hL (i + 1) (by omega) j z1).1.mp z4, (hL i (by omega) j z1).2.mp z5, by omega⟩⟩
        · rintro ⟨j, z1, z3, (⟨z4, z5, z6⟩ | ⟨z4, z5, z6⟩)⟩
          · exact Or.inl ⟨j, z1, by omega, z3, (hL i (by omega) j z1).1.mpr z4, (hL (i + 1) (by omega) j z1).2.mpr z5⟩
          · exact Or.inr ⟨j, z1, by omega, z3, (hL (i + 1) (by omega) j z1).1.mpr z4, (hL i (by omega) j z1).2.mpr z5⟩
      rw [or_assoc (a := gb (L (f + 6 + 3 * c)) k = true), key, or_assoc]
      constructor
      · rintro (z | ⟨y, z1, z2, z3⟩ | ⟨y, z1, z2, j, z3, z4⟩)
        · exact Or.inl z
        · exact Or.inr ⟨y, z1, z2, i, by omega, g2, by omega, z3⟩
        · exact Or.inr ⟨y, z1, z2, j, by omega, z4⟩
      · rintro (z | ⟨y, z1, z2, j, z3, z4, z5, z6⟩)
        · exact Or.inl z
        · by_cases gj : j = i
          · subst gj
            exact Or.inr (Or.inl ⟨y, z1, z2, z6⟩)
          · exact Or.inr (Or.inr ⟨y, z1, z2, j, by omega, z4, z5, z6⟩)
theorem mxp : ∀ p, p < 5 → (if (0 : Int32) < nI p - 2 then nI p - 2 else 0) = nI (p - 2) := by decide
theorem spr_lp {N B : Nat} {A : Nat → Prop} (hS : FoS S R f c n) (hI : FoI I f c n w) (hw : wOk w c) (hc : c ≤ 5) (hp : p < c) (hn : n < 2 ^ 24) (le : lon S e n) (he : e < f ∨ f + 6 + 3 * c < e) (hN : N ≤ 64 * n) (hA : ∀ k, A k → k < N) (hm : ∀ y k, y < N → mv w c p y k → k < N) (hB : B < 2 ^ 24) : ∀ (m b : Nat) (L : mL) (fv : Int32) (y6 y7 y8 y9 y10 : Value), b + m = B → FoL L f c n w → (∀ k, k < 64 * n → (gb (L e) k = true ↔ Xs (mv w c p) A b k)) → (∀ k, k < 64 * n → gb (L (f + 5 + 3 * c)) k = true → Xs (mv w c p) A b k) → (∀ y k, Xs (mv w c p) A b y → ¬ gb (L (f + 5 + 3 * c)) y = true → mv w c p y k → Xs (mv w c p) A b k) → (fv = 0 → ∀ k, k < 64 * n → ¬ gb (L (f + 5 + 3 * c)) k = true) → (∀ L' : mL, (∀ a, ¬ a = e → ¬ a = f + 5 + 3 * c → ¬ a = f + 6 + 3 * c → L' a = L a) → (∀ k, k < 64 * n → (gb (L' e) k = true ↔ Xs (mv w c p) A B k)) → Q .null S I L' R) → Ev (d + 2) 14 20 [.ref f, .ref e, .int (nI p), .int (nI B), .int fv, .int (nI b), y6, y7, y8, y9, y10] [] S I L R Q := by
  have hS' := hS
  obtain ⟨⟨hF, hW, hWl⟩, ⟨r2, r3, r4, r5, r7, r8, r9⟩, ⟨mG, mT, mH⟩, l7, l8, l9⟩ := hS'
  have hI' := hI
  obtain ⟨hI0, hI1, hIw⟩ := hI'
  intro m
  induction m with
  | zero =>
    intro b L fv y6 y7 y8 y9 y10 hb hL i1 i2 i3 i4 h
    obtain rfl : b = B := by omega
    have e0 : (nI b < nI b) = False := eq_false (nI_nlt (Nat.le_refl b) (by omega))
    rw [E14_20]
    simp only [E14_22, E14_23, E14_235, e0, rfs, rfn, cs0, csi, csl, csr, csn, kti, ktl, ktr, ktn, ktv, ktf, true_and, and_true, and_self, ↓reduceIte, Nat.reduceAdd, Nat.reduceSub, Nat.reduceMul, Nat.reduceLT, Nat.reduceLeDiff, Nat.reduceEqDiff, true_or, or_true, false_or, or_false, not_true_eq_false, not_false_eq_true, reduceCtorEq, cmp_lt, cmp_gt, cmp_eq, Int32.reduceAdd, Int32.reduceSub, Int32.reduceMul, Int32.reduceLT, Int32.reduceToNatClampNeg, eq_self, ne_eq, Int64.reduceAdd, Int64.reduceSub, Int64.reduceMul, Int64.reduceLT]
    exact h L (fun _ _ _ _ => rfl) i1
  | succ m ih =>
    intro b L fv y6 y7 y8 y9 y10 hb hL i1 i2 i3 i4 h
    have e1 : (nI b < nI B) = True := eq_true (nI_lt (a := b) (b := B) (by omega) (by omega))
    rw [E14_20]
    by_cases hf : fv = 0
    · simp only [E14_22, E14_23, E14_26, E14_28, E14_235, e1, hf, rfs, rfn, cs0, csi, csl, csr, csn, kti, ktl, ktr, ktn, ktv, ktf, true_and, and_true, and_self, ↓reduceIte, Nat.reduceAdd, Nat.reduceSub, Nat.reduceMul, Nat.reduceLT, Nat.reduceLeDiff, Nat.reduceEqDiff, true_or, or_true, false_or, or_false, not_true_eq_false, not_false_eq_true, reduceCtorEq, cmp_lt, cmp_gt, cmp_eq, Int32.reduceAdd, Int32.reduceSub, Int32.reduceMul, Int32.reduceLT, Int32.reduceToNatClampNeg, eq_self, ne_eq, Int64.reduceAdd, Int64.reduceSub, Int64.reduceMul, Int64.reduceLT]
      refine h L (fun _ _ _ _ => rfl) (fun k hk => (i1 k hk).trans ?_)
      have st := Xs_stop (m := mv w c p) (A := A) (b := b) (fun y k q1 q2 => i3 y k q1 (i4 hf y (by have := Xs_lt hA hm b y q1; omega)) q2) (m + 1) k
      rw [show b + (m + 1) = B by omega] at st
      exact st.symm
    · have em := mxp p (by omega)
      simp only [E14_22, E14_23, E14_26, E14_28, E14_31, E14_32, E14_35, E14_36, E14_39, E14_40, E14_41, E14_42, E14_43, E14_46, e1, hf, hF, r8, em, fillL (d := d) l8.1 l8.2 (by omega), rfs, rfn, cs0, csi, csl, csr, csn, kti, ktl, ktr, ktn, ktv, ktf, true_and, and_true, and_self, ↓reduceIte, Nat.reduceAdd, Nat.reduceSub, Nat.reduceMul, Nat.reduceLT, Nat.reduceLeDiff, Nat.reduceEqDiff, true_or, or_true, false_or, or_false, not_true_eq_false, not_false_eq_true, reduceCtorEq, cmp_lt, cmp_gt, cmp_eq, Int32.reduceAdd, Int32.reduceSub, Int32.reduceMul, Int32.reduceLT, Int32.reduceToNatClampNeg, eq_self, ne_eq, Int64.reduceAdd, Int64.reduceSub, Int64.reduceMul, Int64.reduceLT]
      refine sc_lp (c := c) (n := n) (w := w) hS hI hw hc hp hn (c - (p - 2)) (p - 2) _ _ (by omega) (hL.mono (fun a h1 h2 => uu_n _ _ (by omega))) (fun L1 z6 z7 q1 q2 => ?_)
      simp only [E14_151, E14_152, E14_154, E14_155, rfs, rfn, cs0, csi, csl, csr, csn, kti, ktl, ktr, ktn, ktv, ktf, true_and, and_true, and_self, ↓reduceIte, Nat.reduceAdd, Nat.reduceSub, Nat.reduceMul, Nat.reduceLT, Nat.reduceLeDiff, Nat.reduceEqDiff, true_or, or_true, false_or, or_false, not_true_eq_false, not_false_eq_true, reduceCtorEq, cmp_lt, cmp_gt, cmp_eq, Int32.reduceAdd, Int32.reduceSub, Int32.reduceMul, Int32.reduceLT, Int32.reduceToNatClampNeg, eq_self, ne_eq, Int64.reduceAdd, Int64.reduceSub, Int64.reduceMul, Int64.reduceLT]
      refine sw_lp (c := c) (n := n) hF hI1 r7 r8 l7 l8 le he hn n 0 L1 0 _ _ (by omega) (fun L2 any z9 z10 s1 s2 s3 s4 => ?_)
      have nx1 : ∀ k, k < 64 * n → (gb (L1 (f + 6 + 3 * c)) k = true ↔ ∃ y, gb (L (f + 5 + 3 * c)) y = true ∧ y < 64 * n ∧ mv w c p y k) := fun k hk => by
        rw [q2 k hk, uu_s, uu_n _ _ (by omega)]
        constructor
        · rintro (q | ⟨y, z1, z2, j, z3, z4, z5, z6⟩)
          · exact absurd q (gb_fill hk)
          · exact ⟨y, z2, z1, j, z4, by omega, z5, z6⟩
        · rintro ⟨y, z1, z2, j, z3, z4, z5, z6⟩
          exact Or.inr ⟨y, z2, z1, j, by omega, z3, z5, z6⟩
      have fe : L1 e = L e := by rw [q1 e (by omega), uu_n _ _ (by omega)]
      have f2 : ∀ k, k < 64 * n → (gb (L2 (f + 5 + 3 * c)) k = true ↔ (∃ y, gb (L (f + 5 + 3 * c)) y = true ∧ y < 64 * n ∧ mv w c p y k) ∧ ¬ Xs (mv w c p) A b k) := fun k hk => by
        rw [(s2 k (by omega) hk).1, nx1 k hk, fe, i1 k hk]
      have f3 : ∀ k, k < 64 * n → (gb (L2 e) k = true ↔ Xs (mv w c p) A (b + 1) k) := fun k hk => by
        rw [(s2 k (by omega) hk).2, nx1 k hk, fe, i1 k hk]
        constructor
        · rintro (q | ⟨y, z1, z2, z3⟩)
          · exact Or.inl q
          · exact Or.inr ⟨y, i2 y z2 z1, z3⟩
        · rintro (q | ⟨y, z1, z2⟩)
          · exact Or.inl q
          · by_cases g : gb (L (f + 5 + 3 * c)) y = true
            · exact Or.inr ⟨y, g, by have := Xs_lt hA hm b y z1; omega, z2⟩
            · exact Or.inl (i3 y k z1 g z2)
      have fin : ∀ fv' : Int32, (fv' = 0 → any = 0) → Ev (d + 2) 14 20 [.ref f, .ref e, .int (nI p), .int (nI B), .int fv', .int (nI (b + 1)), .long any, nv, .int (nI n), z9, z10] [] S I L2 R Q := fun fv' hfv => by
        refine ih (b + 1) L2 fv' _ _ _ _ _ (by omega) (hL.mono (fun a h1 h2 => ?_)) f3 (fun k hk q => ?_) (fun y k z1 z2 z3 => ?_) (fun q k hk => ?_) (fun L' g1 g2 => h L' (fun a h1 h2 h3 => ?_) g2)
        · rw [s1 a (by omega) (by omega), q1 a (by omega), uu_n _ _ (by omega)]
        · obtain ⟨⟨y, z1, z2, z3⟩, _⟩ := (f2 k hk).mp q
          exact Or.inr ⟨y, i2 y z2 z1, z3⟩
        · have hy := Xs_lt hA hm (b + 1) y z1
          by_cases g : Xs (mv w c p) A b y
          · exact Or.inr ⟨y, g, z3⟩
          · exfalso
            apply z2
            rw [f2 y (by omega)]
            refine ⟨?_, g⟩
            rcases z1 with q | ⟨x, x1, x2⟩
            · exact absurd q g
            · by_cases gx : gb (L (f + 5 + 3 * c)) x = true
              · exact ⟨x, gx, by have := Xs_lt hA hm b x x1; omega, x2⟩
              · exact absurd (i3 x y x1 gx x2) g
        · have ha := (s4.mp (hfv q)).2 k (by omega) hk
          rw [(s2 k (by omega) hk).1]
          exact ha
        · rw [g1 a h1 h2 h3, s1 a h2 h1, q1 a h3, uu_n _ _ h3]
      by_cases ga : any = 0
      · simp only [E14_215, E14_217, E14_218, E14_219, E14_226, E14_227, E14_229, E14_232, rfs, rfn, cs0, csi, csl, csr, csn, kti, ktl, ktr, ktn, ktv, ktf, true_and, and_true, and_self, ↓reduceIte, Nat.reduceAdd, Nat.reduceSub, Nat.reduceMul, Nat.reduceLT, Nat.reduceLeDiff, Nat.reduceEqDiff, true_or, or_true, false_or, or_false, not_true_eq_false, not_false_eq_true, reduceCtorEq, cmp_lt, cmp_gt, cmp_eq, Int32.reduceAdd, Int32.reduceSub, Int32.reduceMul, Int32.reduceLT, Int32.reduceToNatClampNeg, eq_self, ne_eq, Int64.reduceAdd, Int64.reduceSub, Int64.reduceMul, Int64.reduceLT, nI_1, ga]
        rw [ga] at fin
        exact fin 0 (fun _ => rfl)
      · simp only [E14_215, E14_217, E14_218, E14_219, E14_222, E14_223, E14_227, E14_229, E14_232, rfs, rfn, cs0, csi, csl, csr, csn, kti, ktl, ktr, ktn, ktv, ktf, true_and, and_true, and_self, ↓reduceIte, Nat.reduceAdd, Nat.reduceSub, Nat.reduceMul, Nat.reduceLT, Nat.reduceLeDiff, Nat.reduceEqDiff, true_or, or_true, false_or, or_false, not_true_eq_false, not_false_eq_true, reduceCtorEq, cmp_lt, cmp_gt, cmp_eq, Int32.reduceAdd, Int32.reduceSub, Int32.reduceMul, Int32.reduceLT, Int32.reduceToNatClampNeg, eq_self, ne_eq, Int64.reduceAdd, Int64.reduceSub, Int64.reduceMul, Int64.reduceLT, nI_1, ga]
        exact fin 1 (fun q => absurd q (by decide))
/-- spread -/
theorem sprA {N B : Nat} {A : Nat → Prop} {L : mL} (hS : FoS S R f c n) (hI : FoI I f c n w) (hw : wOk w c) (hc : c ≤ 5) (hp : p < c) (hn : n < 2 ^ 24) (le : lon S e n) (he : e < f ∨ f + 6 + 3 * c < e) (hN : N ≤ 64 * n) (hA : ∀ k, A k → k < N) (hm : ∀ y k, y < N → mv w c p y k → k < N) (hB : B < 2 ^ 24) (hL : FoL L f c n w) (hs : ∀ k, k < 64 * n → (gb (L e) k = true ↔ A k)) (h : ∀ L' : mL, (∀ a, ¬ a = e → ¬ a = f + 5 + 3 * c → ¬ a = f + 6 + 3 * c → L' a = L a) → (∀ k, k < 64 * n → (gb (L' e) k = true ↔ Xs (mv w c p) A B k)) → Q .null S I L' R) : EvM (d + 2) 14 [.ref f, .ref e, .int (nI p), .int (nI B)] S I L R Q := by
  have hF := hS.1.1
  have r7 := hS.2.1.2.2.2.2.1
  have l7 := hS.2.2.2.1
  have l72 := l7.2
  have l71 := l7.1
  have le2 := le.2
  have le1 := le.1
  have hI1 := hI.2.1
  have n1 : (nI n < 0) = False := eq_false (nI_pos (by omega))
  have n2 : (nI n).toNatClampNeg = n := nI_clamp (by omega)
  have n3 : (0 + n ≤ n) = True := eq_true (by omega)
  have z4 : Int32.toNatClampNeg 0 = 0 := rfl
  simp only [M14, E14_0, E14_1, E14_2, E14_3, E14_6, E14_7, E14_8, E14_11, E14_14, E14_15, E14_17, E14_18, hF, r7, hI1, le1, le2, l71, l72, n1, n2, n3, z4, rfs, rfn, cs0, csi, csl, csr, csn, kti, ktl, ktr, ktn, ktv, ktf, true_and, and_true, and_self, ↓reduceIte, Nat.reduceAdd, Nat.reduceSub, Nat.reduceMul, Nat.reduceLT, Nat.reduceLeDiff, Nat.reduceEqDiff, true_or, or_true, false_or, or_false, not_true_eq_false, not_false_eq_true, reduceCtorEq, cmp_lt, cmp_gt, cmp_eq, Int32.reduceAdd, Int32.reduceSub, Int32.reduceMul, Int32.reduceLT, Int32.reduceToNatClampNeg, eq_self, ne_eq, Int64.reduceAdd, Int64.reduceSub, Int64.reduceMul, Int64.reduceLT]
  have cp : ∀ k, k < 64 * n → gb (va_cpy (L e) (L (f + 5 + 3 * c)) 0 0 n) k = gb (L e) k := fun k hk => by
    unfold gb
    rw [pk_cpy_in (by omega) (by omega)]
    simp only [Nat.zero_add, Nat.sub_zero]
  refine spr_lp (d := d) (b := 0) hS hI hw hc hp hn le he hN hA hm hB B _ 1 _ _ _ _ _ (by omega) (hL.mono (fun a h1 h2 => uu_n _ _ (by omega))) (fun k hk => ?_) (fun k hk q => ?_) (fun y k q1 q2 _ => ?_) (fun q => absurd q (by decide)) (fun L' g1 g2 => h L' (fun a h1 h2 h3 => ?_) g2)
  · rw [uu_n _ _ (by omega)]
    exact hs k hk
  · rw [uu_s, cp k hk] at q
    exact (hs k hk).mp q
  · exfalso
    have hy := hA y q1
    apply q2
    rw [uu_s, cp y (by omega)]
    exact (hs y (by omega)).mpr q1
  · rw [g1 a h1 h2 h3, uu_n _ _ h2]
end SP
