/-! setBits -/
theorem setB_lp {d a n : Nat} {S : mS} {I : mI} {R : mR} {x1 : Value} {Q : mQ} (ha : ok S a 12) (hn : S.2.2.2 a = n) (h31 : n < 2 ^ 24) : ∀ (m p q : Nat) (L : mL) (y4 y5 y6 : Value), q - p ≤ m → p < 2 ^ 31 → q ≤ 64 * n → (∀ f : Nat → Int64, (∀ k, gb f k = (gb (L a) k || (decide (p ≤ k) && decide (k < q)))) → Q .null S I (va_up L a f) R) → Ev (d + 1) 17 6 [.ref a, x1, .int (nI q), .int (nI p), y4, y5, y6] [] S I L R Q := by
  intro m
  induction m with
  | zero =>
    intro p q L y4 y5 y6 hm hp hq h
    have e : (nI p < nI q) = False := eq_false (nI_nlt (a := p) (b := q) (by omega) (by omega))
    rw [E17_6]
    simp only [E17_0, E17_1, E17_2, E17_5, E17_7, E17_8, E17_11, E17_12, E17_14, E17_15, E17_16, E17_17, E17_20, E17_22, E17_23, E17_25, E17_26, E17_27, E17_28, E17_29, E17_30, E17_33, E17_35, E17_37, E17_39, E17_42, E17_45, E17_48, E17_49, E17_51, E17_52, E17_53, E17_54, E17_56, E17_57, E17_58, E17_60, E17_61, E17_62, E17_63, E17_65, E17_66, E17_68, E17_69, E17_70, E17_71, E17_72, E17_73, E17_75, E17_76, E17_77, E17_80, e, rfs, rfn, cs0, csi, csl, csr, csn, kti, ktl, ktr, ktn, ktv, ktf, true_and, and_true, and_self, ↓reduceIte, Nat.reduceAdd, Nat.reduceSub, Nat.reduceMul, Nat.reduceLT, Nat.reduceLeDiff, Nat.reduceEqDiff, true_or, or_true, false_or, or_false, not_true_eq_false, not_false_eq_true, reduceCtorEq, cmp_lt, cmp_gt, cmp_eq, Int32.reduceAdd, Int32.reduceSub, Int32.reduceMul, Int32.reduceLT, Int32.reduceToNatClampNeg, eq_self, ne_eq, Int64.reduceAdd, Int64.reduceSub, Int64.reduceMul, Int64.reduceLT]
    have := h (L a) (fun k => by
      have : (decide (p ≤ k) && decide (k < q)) = false := by simp; omega
      rw [this, Bool.or_false])
    rw [up_ext rfl] at this
    exact this
  | succ m ih =>
    intro p q L y4 y5 y6 hm hp hq h
    have hA : okA S a := ⟨ha.1, by rw [ha.2]; decide⟩
    by_cases hpq : p < q
    · have e1 : (nI p < nI q) = True := eq_true (nI_lt (a := p) (b := q) hpq (by omega))
      have e2 : nI p >>> ((6 : Int32) &&& 31) = nI (p / 64) := nI_shr6 hp
      have e3 : (nI (p / 64) < nI n) = True := eq_true (nI_lt (a := p / 64) (b := n) (by omega) (by omega))
      have e4 : nI p &&& 63 = nI (p % 64) := by rw [pk_and (nI p) 6 (by decide), pk_tn (by omega)]
      have e5 : (64 : Int32) - nI (p % 64) = nI (64 - p % 64) := pk_sub (a := 64) (b := p % 64) (by omega)
      have e6 : nI q - nI p = nI (q - p) := pk_sub (by omega)
      obtain ⟨M, hM, e7⟩ : ∃ M, (M = min (q - p) (64 - p % 64)) ∧ (if nI (q - p) < nI (64 - p % 64) then nI (q - p) else nI (64 - p % 64)) = nI M := by
        refine ⟨_, rfl, ?_⟩
        by_cases g : q - p < 64 - p % 64
        · rw [if_pos (nI_lt g (by omega)), Nat.min_eq_left (by omega)]
        · rw [if_neg (nI_nlt (by omega) (by omega)), Nat.min_eq_right (by omega)]
      have e8 : inb (nI (p / 64)) n = True := inb_nI (by omega) (by omega)
      have e9 : (nI (p / 64)).toNatClampNeg = p / 64 := nI_clamp (by omega)
      have key : ∀ X : Int64, (∀ i, i < 64 → X.toBitVec.getLsbD i = decide (i < M)) → Ev (d + 1) 17 6 [.ref a, x1, .int (nI q), .int (nI (p + M)), .int (nI M), .long X, nv] [] S I (va_up L a (va_up (L a) (p / 64) (L a (p / 64) ||| X <<< ((nI (p % 64)).toInt64 &&& 63)))) R Q := by
        intro X hX
        refine ih (p + M) q _ _ _ _ (by omega) (by omega) hq (fun f hf => ?_)
        rw [up_up]
        refine h f (fun k => ?_)
        rw [hf k, up_is, if_pos rfl, gb_up]
        by_cases g : k / 64 = p / 64
        · rw [if_pos g, or_bit, shl_bit (by omega) (by omega), hX _ (by omega)]
          have : gb (L a) k = (L a (p / 64)).toBitVec.getLsbD (k % 64) := by unfold gb; rw [g]
          rw [this, Bool.or_assoc]
          congr 1
          rw [Bool.eq_iff_iff]
          simp only [Bool.or_eq_true, Bool.and_eq_true, decide_eq_true_eq]
          omega
        · rw [if_neg g]
          congr 1
          rw [Bool.eq_iff_iff]
          simp only [Bool.and_eq_true, decide_eq_true_eq]
          omega
      rw [E17_6]
      by_cases g64 : M = 64
      · have e64 : (nI M = 64) = True := eq_true (by rw [g64]; rfl)
        simp only [E17_0, E17_1, E17_2, E17_5, E17_7, E17_8, E17_11, E17_12, E17_14, E17_15, E17_16, E17_17, E17_20, E17_22, E17_23, E17_25, E17_26, E17_27, E17_28, E17_29, E17_30, E17_33, E17_35, E17_37, E17_39, E17_42, E17_45, E17_48, E17_49, E17_51, E17_52, E17_53, E17_54, E17_56, E17_57, E17_58, E17_60, E17_61, E17_62, E17_63, E17_65, E17_66, E17_68, E17_69, E17_70, E17_71, E17_72, E17_73, E17_75, E17_76, E17_77, E17_80, e1, e2, e3, e4, e5, e6, e7, e8, e9, e64, hA, ha, hn, nI_add, rfs, rfn, cs0, csi, csl, csr, csn, kti, ktl, ktr, ktn, ktv, ktf, true_and, and_true, and_self, ↓reduceIte, Nat.reduceAdd, Nat.reduceSub, Nat.reduceMul, Nat.reduceLT, Nat.reduceLeDiff, Nat.reduceEqDiff, true_or, or_true, false_or, or_false, not_true_eq_false, not_false_eq_true, reduceCtorEq, cmp_lt, cmp_gt, cmp_eq, Int32.reduceAdd, Int32.reduceSub, Int32.reduceMul, Int32.reduceLT, Int32.reduceToNatClampNeg, eq_self, ne_eq, Int64.reduceAdd, Int64.reduceSub, Int64.reduceMul, Int64.reduceLT]
        exact key (-1) (fun i hi => by rw [all_bit i hi, g64]; exact (decide_eq_true hi).symm)
      · have e64 : (nI M = 64) = False := eq_false (fun h9 => g64 ((nI_eq (a := M) (b := 64) (by omega) (by decide)).mp h9))
        simp only [E17_0, E17_1, E17_2, E17_5, E17_7, E17_8, E17_11, E17_12, E17_14, E17_15, E17_16, E17_17, E17_20, E17_22, E17_23, E17_25, E17_26, E17_27, E17_28, E17_29, E17_30, E17_33, E17_35, E17_37, E17_39, E17_42, E17_45, E17_48, E17_49, E17_51, E17_52, E17_53, E17_54, E17_56, E17_57, E17_58, E17_60, E17_61, E17_62, E17_63, E17_65, E17_66, E17_68, E17_69, E17_70, E17_71, E17_72, E17_73, E17_75, E17_76, E17_77, E17_80, e1, e2, e3, e4, e5, e6, e7, e8, e9, e64, hA, ha, hn, nI_add, rfs, rfn, cs0, csi, csl, csr, csn, kti, ktl, ktr, ktn, ktv, ktf, true_and, and_true, and_self, ↓reduceIte, Nat.reduceAdd, Nat.reduceSub, Nat.reduceMul, Nat.reduceLT, Nat.reduceLeDiff, Nat.reduceEqDiff, true_or, or_true, false_or, or_false, not_true_eq_false, not_false_eq_true, reduceCtorEq, cmp_lt, cmp_gt, cmp_eq, Int32.reduceAdd, Int32.reduceSub, Int32.reduceMul, Int32.reduceLT, Int32.reduceToNatClampNeg, eq_self, ne_eq, Int64.reduceAdd, Int64.reduceSub, Int64.reduceMul, Int64.reduceLT]
        exact key _ (fun i hi => ones_bit M (by omega) i hi)
    · have e : (nI p < nI q) = False := eq_false (nI_nlt (a := p) (b := q) (by omega) (by omega))
      rw [E17_6]
      simp only [E17_0, E17_1, E17_2, E17_5, E17_7, E17_8, E17_11, E17_12, E17_14, E17_15, E17_16, E17_17, E17_20, E17_22, E17_23, E17_25, E17_26, E17_27, E17_28, E17_29, E17_30, E17_33, E17_35, E17_37, E17_39, E17_42, E17_45, E17_48, E17_49, E17_51, E17_52, E17_53, E17_54, E17_56, E17_57, E17_58, E17_60, E17_61, E17_62, E17_63, E17_65, E17_66, E17_68, E17_69, E17_70, E17_71, E17_72, E17_73, E17_75, E17_76, E17_77, E17_80, e, rfs, rfn, cs0, csi, csl, csr, csn, kti, ktl, ktr, ktn, ktv, ktf, true_and, and_true, and_self, ↓reduceIte, Nat.reduceAdd, Nat.reduceSub, Nat.reduceMul, Nat.reduceLT, Nat.reduceLeDiff, Nat.reduceEqDiff, true_or, or_true, false_or, or_false, not_true_eq_false, not_false_eq_true, reduceCtorEq, cmp_lt, cmp_gt, cmp_eq, Int32.reduceAdd, Int32.reduceSub, Int32.reduceMul, Int32.reduceLT, Int32.reduceToNatClampNeg, eq_self, ne_eq, Int64.reduceAdd, Int64.reduceSub, Int64.reduceMul, Int64.reduceLT]
      have := h (L a) (fun k => by
        have : (decide (p ≤ k) && decide (k < q)) = false := by simp; omega
        rw [this, Bool.or_false])
      rw [up_ext rfl] at this
      exact this
