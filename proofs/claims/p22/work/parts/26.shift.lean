/-! ints by their values; shift: a set's rows moved by so much -/
theorem ti_add {x y : Int32} (h1 : -2147483648 ≤ x.toInt + y.toInt) (h2 : x.toInt + y.toInt < 2147483648) : (x + y).toInt = x.toInt + y.toInt := by
  rw [Int32.toInt_add]
  exact Int.bmod_eq_of_le_mul_two (by omega) (by omega)
theorem ti_sub {x y : Int32} (h1 : -2147483648 ≤ x.toInt - y.toInt) (h2 : x.toInt - y.toInt < 2147483648) : (x - y).toInt = x.toInt - y.toInt := by
  rw [Int32.toInt_sub]
  exact Int.bmod_eq_of_le_mul_two (by omega) (by omega)
theorem ti_lt0 {x : Int32} {z : Int} (h : x.toInt = z) : (x < 0) = (z < 0) := propext (by rw [Int32.lt_iff_toInt_lt, show (0 : Int32).toInt = 0 from rfl, h])
theorem ti_ltn {x : Int32} {z : Int} {n : Nat} (h : x.toInt = z) (hn : n < 2 ^ 31) : (x < nI n) = (z < n) := propext (by rw [Int32.lt_iff_toInt_lt, h, nI_toInt hn])
theorem ti_nI {x : Int32} {z : Int} (h : x.toInt = z) {t : Nat} (ht : (t : Int) = z) (h31 : t < 2 ^ 31) : x = nI t := by
  apply Int32.toInt_inj.mp
  rw [h, nI_toInt h31, ht]
theorem ti_shr6 (x : Int32) : (x >>> ((6 : Int32) &&& 31)).toInt = x.toInt / 64 := by
  rw [show ((6 : Int32) &&& 31) = 6 by decide, pk_shr x 6 6 (by decide), Int.shiftRight_eq_div_pow]
  omega
theorem ti_and63 (x : Int32) : x &&& 63 = nI ((x.toInt % 64).toNat) := by
  rw [pk_and x 6 (by decide)]
  congr 1
  have h : x.toInt = x.toBitVec.toInt := rfl
  rw [h, BitVec.toInt_eq_toNat_cond]
  have := x.toBitVec.isLt
  split <;> omega
def tb (x : Int64) (i : Nat) : Prop := x.toBitVec.getLsbD i = true
theorem tb_ge {x : Int64} {i : Nat} (h : 64 ≤ i) : ¬ tb x i := by
  unfold tb
  rw [BitVec.getLsbD_of_ge _ _ h]
  decide
theorem sh_f1 {f : Nat → Int64} {t r k : Nat} {x : Int64} (hr : r < 64) : gb (va_up f t (f t ||| (x <<< ((nI r).toInt64 &&& 63)))) k = true ↔ gb f k = true ∨ (k / 64 = t ∧ r ≤ k % 64 ∧ tb x (k % 64 - r)) := by
  rw [gb_up]
  by_cases h : k / 64 = t
  · rw [if_pos h, or_bit, shl_bit hr (by omega), Bool.or_eq_true, Bool.and_eq_true, decide_eq_true_iff]
    unfold gb tb
    rw [h]
    simp
  · rw [if_neg h]
    simp [h]
theorem sh_f2 {f : Nat → Int64} {t r k : Nat} {x : Int64} (hr : r < 64) (h0 : 0 < r) : gb (va_up f t (f t ||| ((x.toUInt64 >>> ((nI (64 - r)).toInt64.toUInt64 &&& Int64.toUInt64 63)).toInt64))) k = true ↔ gb f k = true ∨ (k / 64 = t ∧ tb x (64 - r + k % 64)) := by
  rw [gb_up]
  by_cases h : k / 64 = t
  · rw [if_pos h, or_bit, ushr_bit (by omega), Bool.or_eq_true]
    unfold gb tb
    rw [h]
    simp
  · rw [if_neg h]
    simp [h]
section SH
variable {d a b c e n r i : Nat} {q : Int} {x xq : Int32} {v : Int64} {S : mS} {I : mI} {L : mL} {R : mR} {Q : mQ}
theorem sh_b1 {y10 : Value} (he : ok S e 12) (hen : S.2.2.2 e = n) (h24 : n < 2 ^ 24) (hi : i < n) (hq : xq.toInt = q) (hq1 : -16777216 < q) (hq2 : q < 16777216) (hr : r < 64) (h : ∀ (f : Nat → Int64) (t : Int32), t.toInt = i + q → (∀ k, k < 64 * n → (gb f k = true ↔ gb (L e) k = true ∨ (((k / 64 : Nat) : Int) = i + q ∧ r ≤ k % 64 ∧ tb v (k % 64 - r)))) → Ev (d + 1) 15 96 [.ref a, .ref b, .ref c, .int x, .ref e, .int xq, .int (nI r), .int (nI i), .long v, nv, .int t] [] S I (va_up L e f) R Q) : Ev (d + 1) 15 63 [.ref a, .ref b, .ref c, .int x, .ref e, .int xq, .int (nI r), .int (nI i), .long v, nv, y10] [] S I L R Q := by
  have hE : okA S e := ⟨he.1, by rw [he.2]; decide⟩
  have hni := nI_toInt (n := i) (by omega)
  have ht : (nI i + xq).toInt = i + q := by
    rw [ti_add (by omega) (by omega)]
    omega
  have c0 := ti_lt0 ht
  have c1 := ti_ltn (n := n) ht (by omega)
  by_cases g0 : (i : Int) + q < 0
  · simp only [E15_63, E15_65, E15_67, E15_68, E15_70, E15_72, c0, g0, rfs, rfn, cs0, csi, csl, csr, csn, kti, ktl, ktr, ktn, ktv, ktf, true_and, and_true, and_self, ↓reduceIte, Nat.reduceAdd, Nat.reduceSub, Nat.reduceMul, Nat.reduceLT, Nat.reduceLeDiff, Nat.reduceEqDiff, true_or, or_true, false_or, or_false, not_true_eq_false, not_false_eq_true, reduceCtorEq, cmp_lt, cmp_gt, cmp_eq, Int32.reduceAdd, Int32.reduceSub, Int32.reduceMul, Int32.reduceLT, Int32.reduceToNatClampNeg, eq_self, ne_eq, Int64.reduceAdd, Int64.reduceSub, Int64.reduceMul, Int64.reduceLT]
    have := h (L e) _ ht (fun k hk => ⟨Or.inl, fun g => by
      rcases g with g | ⟨g, _⟩
      · exact g
      · omega⟩)
    rw [up_ext rfl] at this
    exact this
  · by_cases g1 : (i : Int) + q < n
    · have et : nI i + xq = nI ((i : Int) + q).toNat := ti_nI ht (by omega) (by omega)
      have e3 : inb (nI ((i : Int) + q).toNat) n = True := inb_nI (by omega) (by omega)
      have e4 : (nI ((i : Int) + q).toNat).toNatClampNeg = ((i : Int) + q).toNat := nI_clamp (by omega)
      have e5 : (nI ((i : Int) + q).toNat < 0) = False := eq_false (nI_pos (by omega))
      have e6 : (nI ((i : Int) + q).toNat < nI n) = True := eq_true (nI_lt (by omega) (by omega))
      simp only [E15_63, E15_65, E15_67, E15_68, E15_70, E15_72, E15_75, E15_77, E15_79, E15_80, E15_83, E15_85, E15_87, E15_88, E15_89, E15_91, E15_93, E15_94, E15_95, et, e3, e4, e5, e6, he, hE, hen, rfs, rfn, cs0, csi, csl, csr, csn, kti, ktl, ktr, ktn, ktv, ktf, true_and, and_true, and_self, ↓reduceIte, Nat.reduceAdd, Nat.reduceSub, Nat.reduceMul, Nat.reduceLT, Nat.reduceLeDiff, Nat.reduceEqDiff, true_or, or_true, false_or, or_false, not_true_eq_false, not_false_eq_true, reduceCtorEq, cmp_lt, cmp_gt, cmp_eq, Int32.reduceAdd, Int32.reduceSub, Int32.reduceMul, Int32.reduceLT, Int32.reduceToNatClampNeg, eq_self, ne_eq, Int64.reduceAdd, Int64.reduceSub, Int64.reduceMul, Int64.reduceLT]
      refine h _ _ (by rw [← et]; exact ht) (fun k hk => ?_)
      rw [sh_f1 hr]
      have : k / 64 = ((i : Int) + q).toNat ↔ ((k / 64 : Nat) : Int) = i + q := by omega
      rw [this]
    · simp only [E15_63, E15_65, E15_67, E15_68, E15_70, E15_72, E15_75, E15_77, E15_79, E15_80, c0, c1, g0, g1, he, hE, hen, rfs, rfn, cs0, csi, csl, csr, csn, kti, ktl, ktr, ktn, ktv, ktf, true_and, and_true, and_self, ↓reduceIte, Nat.reduceAdd, Nat.reduceSub, Nat.reduceMul, Nat.reduceLT, Nat.reduceLeDiff, Nat.reduceEqDiff, true_or, or_true, false_or, or_false, not_true_eq_false, not_false_eq_true, reduceCtorEq, cmp_lt, cmp_gt, cmp_eq, Int32.reduceAdd, Int32.reduceSub, Int32.reduceMul, Int32.reduceLT, Int32.reduceToNatClampNeg, eq_self, ne_eq, Int64.reduceAdd, Int64.reduceSub, Int64.reduceMul, Int64.reduceLT]
      have := h (L e) _ ht (fun k hk => ⟨Or.inl, fun g => by
        rcases g with g | ⟨g, _⟩
        · exact g
        · omega⟩)
      rw [up_ext rfl] at this
      exact this
theorem sh_b2 {t : Int32} (he : ok S e 12) (hen : S.2.2.2 e = n) (h24 : n < 2 ^ 24) (hi : i < n) (ht : t.toInt = i + q) (hq1 : -16777216 < q) (hq2 : q < 16777216) (hr : r < 64) (h : ∀ f : Nat → Int64, (∀ k, k < 64 * n → (gb f k = true ↔ gb (L e) k = true ∨ (((k / 64 : Nat) : Int) = i + q + 1 ∧ k % 64 < r ∧ tb v (64 - r + k % 64)))) → Ev (d + 1) 15 136 [.ref a, .ref b, .ref c, .int x, .ref e, .int xq, .int (nI r), .int (nI i), .long v, nv, .int t] [] S I (va_up L e f) R Q) : Ev (d + 1) 15 96 [.ref a, .ref b, .ref c, .int x, .ref e, .int xq, .int (nI r), .int (nI i), .long v, nv, .int t] [] S I L R Q := by
  have hE : okA S e := ⟨he.1, by rw [he.2]; decide⟩
  have ht1 : (t + 1).toInt = i + q + 1 := by
    rw [ti_add (by rw [show (1 : Int32).toInt = 1 from rfl]; omega) (by rw [show (1 : Int32).toInt = 1 from rfl]; omega), show (1 : Int32).toInt = 1 from rfl]
    omega
  have c0 := ti_lt0 ht1
  have c1 := ti_ltn (n := n) ht1 (by omega)
  by_cases gr : r = 0
  · subst gr
    have e0 : (nI 0 = 0) = True := eq_true rfl
    simp only [E15_96, E15_98, e0, rfs, rfn, cs0, csi, csl, csr, csn, kti, ktl, ktr, ktn, ktv, ktf, true_and, and_true, and_self, ↓reduceIte, Nat.reduceAdd, Nat.reduceSub, Nat.reduceMul, Nat.reduceLT, Nat.reduceLeDiff, Nat.reduceEqDiff, true_or, or_true, false_or, or_false, not_true_eq_false, not_false_eq_true, reduceCtorEq, cmp_lt, cmp_gt, cmp_eq, Int32.reduceAdd, Int32.reduceSub, Int32.reduceMul, Int32.reduceLT, Int32.reduceToNatClampNeg, eq_self, ne_eq, Int64.reduceAdd, Int64.reduceSub, Int64.reduceMul, Int64.reduceLT]
    have := h (L e) (fun k hk => ⟨Or.inl, fun g => by
      rcases g with g | ⟨_, g, _⟩
      · exact g
      · omega⟩)
    rw [up_ext rfl] at this
    exact this
  · have e0 : (nI r = 0) = False := eq_false (nI_ne0 (by omega) (by omega))
    by_cases g0 : (i : Int) + q + 1 < 0
    · simp only [E15_96, E15_98, E15_101, E15_103, E15_104, E15_105, e0, c0, g0, rfs, rfn, cs0, csi, csl, csr, csn, kti, ktl, ktr, ktn, ktv, ktf, true_and, and_true, and_self, ↓reduceIte, Nat.reduceAdd, Nat.reduceSub, Nat.reduceMul, Nat.reduceLT, Nat.reduceLeDiff, Nat.reduceEqDiff, true_or, or_true, false_or, or_false, not_true_eq_false, not_false_eq_true, reduceCtorEq, cmp_lt, cmp_gt, cmp_eq, Int32.reduceAdd, Int32.reduceSub, Int32.reduceMul, Int32.reduceLT, Int32.reduceToNatClampNeg, eq_self, ne_eq, Int64.reduceAdd, Int64.reduceSub, Int64.reduceMul, Int64.reduceLT]
      have := h (L e) (fun k hk => ⟨Or.inl, fun g => by
        rcases g with g | ⟨g, _⟩
        · exact g
        · omega⟩)
      rw [up_ext rfl] at this
      exact this
    · by_cases g1 : (i : Int) + q + 1 < n
      · have et : t + 1 = nI ((i : Int) + q + 1).toNat := ti_nI ht1 (by omega) (by omega)
        have e3 : inb (nI ((i : Int) + q + 1).toNat) n = True := inb_nI (by omega) (by omega)
        have e4 : (nI ((i : Int) + q + 1).toNat).toNatClampNeg = ((i : Int) + q + 1).toNat := nI_clamp (by omega)
        have e5 : (nI ((i : Int) + q + 1).toNat < 0) = False := eq_false (nI_pos (by omega))
        have e6 : (nI ((i : Int) + q + 1).toNat < nI n) = True := eq_true (nI_lt (by omega) (by omega))
        have e7 : (64 : Int32) - nI r = nI (64 - r) := pk_sub (a := 64) (by omega)
        simp only [E15_96, E15_98, E15_101, E15_103, E15_104, E15_105, E15_108, E15_110, E15_111, E15_112, E15_114, E15_115, E15_118, E15_120, E15_122, E15_123, E15_124, E15_125, E15_126, E15_128, E15_130, E15_132, E15_133, E15_134, E15_135, e0, et, e3, e4, e5, e6, e7, he, hE, hen, rfs, rfn, cs0, csi, csl, csr, csn, kti, ktl, ktr, ktn, ktv, ktf, true_and, and_true, and_self, ↓reduceIte, Nat.reduceAdd, Nat.reduceSub, Nat.reduceMul, Nat.reduceLT, Nat.reduceLeDiff, Nat.reduceEqDiff, true_or, or_true, false_or, or_false, not_true_eq_false, not_false_eq_true, reduceCtorEq, cmp_lt, cmp_gt, cmp_eq, Int32.reduceAdd, Int32.reduceSub, Int32.reduceMul, Int32.reduceLT, Int32.reduceToNatClampNeg, eq_self, ne_eq, Int64.reduceAdd, Int64.reduceSub, Int64.reduceMul, Int64.reduceLT]
        refine h _ (fun k hk => ?_)
        rw [sh_f2 hr (by omega)]
        have : k / 64 = ((i : Int) + q + 1).toNat ↔ ((k / 64 : Nat) : Int) = i + q + 1 := by omega
        rw [this]
        constructor
        · rintro (g | ⟨g1, g2⟩)
          · exact Or.inl g
          · refine Or.inr ⟨g1, ?_, g2⟩
            apply Classical.byContradiction
            intro g3
            exact tb_ge (by omega) g2
        · rintro (g | ⟨g1, _, g2⟩)
          · exact Or.inl g
          · exact Or.inr ⟨g1, g2⟩
      · simp only [E15_96, E15_98, E15_101, E15_103, E15_104, E15_105, E15_108, E15_110, E15_111, E15_112, E15_114, E15_115, e0, c0, c1, g0, g1, he, hE, hen, rfs, rfn, cs0, csi, csl, csr, csn, kti, ktl, ktr, ktn, ktv, ktf, true_and, and_true, and_self, ↓reduceIte, Nat.reduceAdd, Nat.reduceSub, Nat.reduceMul, Nat.reduceLT, Nat.reduceLeDiff, Nat.reduceEqDiff, true_or, or_true, false_or, or_false, not_true_eq_false, not_false_eq_true, reduceCtorEq, cmp_lt, cmp_gt, cmp_eq, Int32.reduceAdd, Int32.reduceSub, Int32.reduceMul, Int32.reduceLT, Int32.reduceToNatClampNeg, eq_self, ne_eq, Int64.reduceAdd, Int64.reduceSub, Int64.reduceMul, Int64.reduceLT]
        have := h (L e) (fun k hk => ⟨Or.inl, fun g => by
          rcases g with g | ⟨g, _⟩
          · exact g
          · omega⟩)
        rw [up_ext rfl] at this
        exact this
theorem sh_word {v : Int64} {z : Int} {i k r : Nat} {q : Int} (hz : z = 64 * q + r) (hr : r < 64) : ((((k / 64 : Nat) : Int) = i + q ∧ r ≤ k % 64 ∧ tb v (k % 64 - r)) ∨ (((k / 64 : Nat) : Int) = i + q + 1 ∧ k % 64 < r ∧ tb v (64 - r + k % 64))) ↔ ∃ j : Nat, j < 64 ∧ (k : Int) = 64 * i + j + z ∧ tb v j := by
  constructor
  · rintro (⟨h1, h2, h3⟩ | ⟨h1, h2, h3⟩)
    · exact ⟨_, by omega, by omega, h3⟩
    · exact ⟨_, by omega, by omega, h3⟩
  · rintro ⟨j, h1, h2, h3⟩
    by_cases g : j + r < 64
    · refine Or.inl ⟨by omega, by omega, ?_⟩
      rw [show k % 64 - r = j by omega]
      exact h3
    · refine Or.inr ⟨by omega, by omega, ?_⟩
      rw [show 64 - r + k % 64 = j by omega]
      exact h3
theorem sh_lp {z : Int} (ha : ok S a 12) (han : S.2.2.2 a = n) (hb : ok S b 12) (hbn : S.2.2.2 b = n) (hc : ok S c 12) (hcn : S.2.2.2 c = n) (he : ok S e 12) (hen : S.2.2.2 e = n) (hea : ¬ a = e) (heb : ¬ b = e) (hec : ¬ c = e) (h24 : n < 2 ^ 24) (hq : xq.toInt = q) (hq1 : -16777216 < q) (hq2 : q < 16777216) (hr : r < 64) (hz : z = 64 * q + r) : ∀ (m i : Nat) (L : mL) (y8 y10 : Value), i + m = n → (∀ f : Nat → Int64, (∀ k, k < 64 * n → (gb f k = true ↔ gb (L e) k = true ∨ ∃ j, 64 * i ≤ j ∧ j < 64 * n ∧ (k : Int) = j + z ∧ gb (L a) j = true ∧ gb (L b) j = true ∧ gb (L c) j = true)) → Q .null S I (va_up L e f) R) → Ev (d + 1) 15 15 [.ref a, .ref b, .ref c, .int x, .ref e, .int xq, .int (nI r), .int (nI i), y8, nv, y10] [] S I L R Q := by
  have hA : okA S a := ⟨ha.1, by rw [ha.2]; decide⟩
  have hB : okA S b := ⟨hb.1, by rw [hb.2]; decide⟩
  have hC : okA S c := ⟨hc.1, by rw [hc.2]; decide⟩
  intro m
  induction m with
  | zero =>
    intro i L y8 y10 hi h
    obtain rfl : i = n := by omega
    have e0 : (nI i < nI i) = False := eq_false (nI_nlt (Nat.le_refl i) (by omega))
    rw [E15_15]
    simp only [E15_17, E15_18, E15_19, E15_142, e0, hA, han, rfs, rfn, cs0, csi, csl, csr, csn, kti, ktl, ktr, ktn, ktv, ktf, true_and, and_true, and_self, ↓reduceIte, Nat.reduceAdd, Nat.reduceSub, Nat.reduceMul, Nat.reduceLT, Nat.reduceLeDiff, Nat.reduceEqDiff, true_or, or_true, false_or, or_false, not_true_eq_false, not_false_eq_true, reduceCtorEq, cmp_lt, cmp_gt, cmp_eq, Int32.reduceAdd, Int32.reduceSub, Int32.reduceMul, Int32.reduceLT, Int32.reduceToNatClampNeg, eq_self, ne_eq, Int64.reduceAdd, Int64.reduceSub, Int64.reduceMul, Int64.reduceLT]
    have := h (L e) (fun k hk => ⟨Or.inl, fun g => by
      rcases g with g | ⟨j, g1, g2, _⟩
      · exact g
      · omega⟩)
    rw [up_ext rfl] at this
    exact this
  | succ m ih =>
    intro i L y8 y10 hi h
    have e1 : (nI i < nI n) = True := eq_true (nI_lt (a := i) (b := n) (by omega) (by omega))
    have e3 : inb (nI i) n = True := inb_nI (by omega) (by omega)
    have e4 : (nI i).toNatClampNeg = i := nI_clamp (by omega)
    rw [E15_15]
    by_cases hz0 : L a i = 0
    · simp only [E15_17, E15_18, E15_19, E15_22, E15_24, E15_25, E15_26, E15_29, E15_31, E15_32, E15_33, E15_36, E15_37, E15_39, E15_40, E15_42, E15_44, E15_45, E15_46, E15_136, E15_139, e1, e3, e4, hz0, ha, hA, hB, hC, han, hbn, hcn, rfs, rfn, cs0, csi, csl, csr, csn, kti, ktl, ktr, ktn, ktv, ktf, true_and, and_true, and_self, ↓reduceIte, Nat.reduceAdd, Nat.reduceSub, Nat.reduceMul, Nat.reduceLT, Nat.reduceLeDiff, Nat.reduceEqDiff, true_or, or_true, false_or, or_false, not_true_eq_false, not_false_eq_true, reduceCtorEq, cmp_lt, cmp_gt, cmp_eq, Int32.reduceAdd, Int32.reduceSub, Int32.reduceMul, Int32.reduceLT, Int32.reduceToNatClampNeg, eq_self, ne_eq, Int64.reduceAdd, Int64.reduceSub, Int64.reduceMul, Int64.reduceLT, nI_1]
      refine ih (i + 1) L _ _ (by omega) (fun f hf => h f (fun k hk => (hf k hk).trans ?_))
      constructor
      · rintro (g | ⟨j, g1, g2, g3⟩)
        · exact Or.inl g
        · exact Or.inr ⟨j, by omega, g2, g3⟩
      · rintro (g | ⟨j, g1, g2, g3, g4, g5⟩)
        · exact Or.inl g
        · refine Or.inr ⟨j, ?_, g2, g3, g4, g5⟩
          apply Classical.byContradiction
          intro g6
          unfold gb at g4
          rw [show j / 64 = i by omega, hz0, zero_bit] at g4
          cases g4
    · simp only [E15_17, E15_18, E15_19, E15_22, E15_24, E15_25, E15_26, E15_29, E15_31, E15_32, E15_33, E15_36, E15_37, E15_39, E15_40, E15_42, E15_44, E15_45, E15_46, E15_49, E15_51, E15_52, E15_54, E15_55, E15_56, E15_58, E15_59, E15_60, E15_61, e1, e3, e4, hz0, ha, hb, hc, hA, hB, hC, han, hbn, hcn, rfs, rfn, cs0, csi, csl, csr, csn, kti, ktl, ktr, ktn, ktv, ktf, true_and, and_true, and_self, ↓reduceIte, Nat.reduceAdd, Nat.reduceSub, Nat.reduceMul, Nat.reduceLT, Nat.reduceLeDiff, Nat.reduceEqDiff, true_or, or_true, false_or, or_false, not_true_eq_false, not_false_eq_true, reduceCtorEq, cmp_lt, cmp_gt, cmp_eq, Int32.reduceAdd, Int32.reduceSub, Int32.reduceMul, Int32.reduceLT, Int32.reduceToNatClampNeg, eq_self, ne_eq, Int64.reduceAdd, Int64.reduceSub, Int64.reduceMul, Int64.reduceLT]
      refine sh_b1 he hen h24 (by omega) hq hq1 hq2 hr (fun f1 t ht hf1 => ?_)
      refine sh_b2 he hen h24 (by omega) ht hq1 hq2 hr (fun f2 hf2 => ?_)
      simp only [E15_136, E15_139, rfs, rfn, cs0, csi, csl, csr, csn, kti, ktl, ktr, ktn, ktv, ktf, true_and, and_true, and_self, ↓reduceIte, Nat.reduceAdd, Nat.reduceSub, Nat.reduceMul, Nat.reduceLT, Nat.reduceLeDiff, Nat.reduceEqDiff, true_or, or_true, false_or, or_false, not_true_eq_false, not_false_eq_true, reduceCtorEq, cmp_lt, cmp_gt, cmp_eq, Int32.reduceAdd, Int32.reduceSub, Int32.reduceMul, Int32.reduceLT, Int32.reduceToNatClampNeg, eq_self, ne_eq, Int64.reduceAdd, Int64.reduceSub, Int64.reduceMul, Int64.reduceLT, nI_1, up_up]
      rw [uu_s] at hf2
      refine ih (i + 1) _ _ _ (by omega) (fun f hf => ?_)
      rw [up_up]
      refine h f (fun k hk => (hf k hk).trans ?_)
      simp only [uu_s, uu_n _ _ hea, uu_n _ _ heb, uu_n _ _ hec]
      have e2 : gb f2 k = true ↔ gb (L e) k = true ∨ ∃ j : Nat, j < 64 ∧ (k : Int) = 64 * i + j + z ∧ tb (L a i &&& (L b i &&& L c i)) j := by
        rw [hf2 k hk, hf1 k hk, or_assoc, sh_word hz hr]
      rw [e2, or_assoc]
      have key : ∀ j, j < 64 → (tb (L a i &&& (L b i &&& L c i)) j ↔ gb (L a) (64 * i + j) = true ∧ gb (L b) (64 * i + j) = true ∧ gb (L c) (64 * i + j) = true) := by
        intro j hj
        unfold tb gb
        rw [and_bit, and_bit, Bool.and_eq_true, Bool.and_eq_true, show (64 * i + j) / 64 = i by omega, show (64 * i + j) % 64 = j by omega]
      constructor
      · rintro (g | ⟨j, g1, g2, g3⟩ | ⟨j, g1, g2, g3⟩)
        · exact Or.inl g
        · exact Or.inr ⟨64 * i + j, by omega, by omega, by omega, (key j g1).mp g3⟩
        · exact Or.inr ⟨j, by omega, g2, g3⟩
      · rintro (g | ⟨j, g1, g2, g3, g4⟩)
        · exact Or.inl g
        · by_cases g6 : 64 * (i + 1) ≤ j
          · exact Or.inr (Or.inr ⟨j, g6, g2, g3, g4⟩)
          · refine Or.inr (Or.inl ⟨j - 64 * i, by omega, by omega, (key _ (by omega)).mpr ?_⟩)
            rw [show 64 * i + (j - 64 * i) = j by omega]
            exact g4
/-- shift: what is in all of three sets comes into a fourth, its numbers higher by z -/
theorem shA {z : Int} (ha : ok S a 12) (han : S.2.2.2 a = n) (hb : ok S b 12) (hbn : S.2.2.2 b = n) (hc : ok S c 12) (hcn : S.2.2.2 c = n) (he : ok S e 12) (hen : S.2.2.2 e = n) (hea : ¬ a = e) (heb : ¬ b = e) (hec : ¬ c = e) (h24 : n < 2 ^ 24) (hx : x.toInt = z) (hz1 : -16777216 < z) (hz2 : z < 16777216) (h : ∀ f : Nat → Int64, (∀ k, k < 64 * n → (gb f k = true ↔ gb (L e) k = true ∨ ∃ j, j < 64 * n ∧ (k : Int) = j + z ∧ gb (L a) j = true ∧ gb (L b) j = true ∧ gb (L c) j = true)) → Q .null S I (va_up L e f) R) : EvM (d + 1) 15 [.ref a, .ref b, .ref c, .int x, .ref e] S I L R Q := by
  simp only [M15, E15_0, E15_1, E15_3, E15_4, E15_6, E15_7, E15_9, E15_10, E15_12, E15_13, ti_and63, rfs, rfn, cs0, csi, csl, csr, csn, kti, ktl, ktr, ktn, ktv, ktf, true_and, and_true, and_self, ↓reduceIte, Nat.reduceAdd, Nat.reduceSub, Nat.reduceMul, Nat.reduceLT, Nat.reduceLeDiff, Nat.reduceEqDiff, true_or, or_true, false_or, or_false, not_true_eq_false, not_false_eq_true, reduceCtorEq, cmp_lt, cmp_gt, cmp_eq, Int32.reduceAdd, Int32.reduceSub, Int32.reduceMul, Int32.reduceLT, Int32.reduceToNatClampNeg, eq_self, ne_eq, Int64.reduceAdd, Int64.reduceSub, Int64.reduceMul, Int64.reduceLT]
  have := sh_lp (d := d) (I := I) (R := R) (Q := Q) (x := x) (r := (z % 64).toNat) (q := z / 64) (xq := x >>> ((6 : Int32) &&& 31)) (z := z) ha han hb hbn hc hcn he hen hea heb hec h24 (by rw [ti_shr6, hx]) (by omega) (by omega) (by omega) (by omega) n 0 L nv nv (by omega) (fun f hf => h f (fun k hk => (hf k hk).trans (by
    constructor
    · rintro (g | ⟨j, _, g⟩)
      · exact Or.inl g
      · exact Or.inr ⟨j, g⟩
    · rintro (g | ⟨j, g⟩)
      · exact Or.inl g
      · exact Or.inr ⟨j, by omega, g⟩)))
  rw [show nI 0 = 0 from rfl] at this
  rw [hx]
  exact this
end SH
