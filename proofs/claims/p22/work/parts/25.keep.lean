/-! keepCommon -/
theorem or_zero {x y : Int64} : x ||| y = 0 ↔ x = 0 ∧ y = 0 := by
  constructor
  · intro h
    constructor
    · apply Classical.byContradiction
      intro hx
      obtain ⟨i, hi, hb⟩ := bit_of_ne hx
      have := or_bit x y i
      rw [h, zero_bit, hb] at this
      cases this
    · apply Classical.byContradiction
      intro hx
      obtain ⟨i, hi, hb⟩ := bit_of_ne hx
      have := or_bit x y i
      rw [h, zero_bit, hb, Bool.or_true] at this
      cases this
  · intro h
    rw [h.1, h.2]
    rfl
theorem keep_lp {d a b n : Nat} {S : mS} {I : mI} {R : mR} {Q : mQ} (ha : ok S a 12) (hn : S.2.2.2 a = n) (hb : ok S b 12) (hm : S.2.2.2 b = n) (hab : a ≠ b) (h31 : n < 2 ^ 24) : ∀ (m i : Nat) (L : mL) (any : Int64), i + m = n → (∀ any' : Int64, (any' = 0 ↔ any = 0 ∧ ∀ w, i ≤ w → w < n → L a w &&& L b w = 0) → Ev (d + 1) 7 43 [.ref a, .ref b, .long any', nv, .int (nI n)] [] S I (va_up L a (fun k => if i ≤ k ∧ k < n then L a k &&& L b k else L a k)) R Q) → Ev (d + 1) 7 5 [.ref a, .ref b, .long any, nv, .int (nI i)] [] S I L R Q := by
  have hA : okA S a := ⟨ha.1, by rw [ha.2]; decide⟩
  have hB : okA S b := ⟨hb.1, by rw [hb.2]; decide⟩
  intro m
  induction m with
  | zero =>
    intro i L any hi h
    obtain rfl : i = n := by omega
    have e : (nI i < nI i) = False := eq_false (nI_nlt (Nat.le_refl i) (by omega))
    rw [E7_5]
    simp only [E7_7, E7_8, E7_9, e, hA, hn, rfs, rfn, cs0, csi, csl, csr, csn, kti, ktl, ktr, ktn, ktv, ktf, true_and, and_true, and_self, ↓reduceIte, Nat.reduceAdd, Nat.reduceSub, Nat.reduceMul, Nat.reduceLT, Nat.reduceLeDiff, Nat.reduceEqDiff, true_or, or_true, false_or, or_false, not_true_eq_false, not_false_eq_true, reduceCtorEq, cmp_lt, cmp_gt, cmp_eq, Int32.reduceAdd, Int32.reduceSub, Int32.reduceMul, Int32.reduceLT, Int32.reduceToNatClampNeg, eq_self, ne_eq, Int64.reduceAdd, Int64.reduceSub, Int64.reduceMul, Int64.reduceLT]
    have := h any ⟨fun q => ⟨q, fun w g1 g2 => by omega⟩, fun q => q.1⟩
    rw [up_ext (funext fun k => if_neg (by omega))] at this
    exact this
  | succ m ih =>
    intro i L any hi h
    have e1 : (nI i < nI n) = True := eq_true (nI_lt (a := i) (b := n) (by omega) (by omega))
    have e3 : inb (nI i) n = True := inb_nI (by omega) (by omega)
    have e4 : (nI i).toNatClampNeg = i := nI_clamp (by omega)
    rw [E7_5]
    simp only [E7_0, E7_1, E7_2, E7_3, E7_7, E7_8, E7_9, E7_12, E7_14, E7_14n, E7_15, E7_16, E7_19, E7_20, E7_22, E7_23, E7_24, E7_24n, E7_25, E7_27, E7_28, E7_29, E7_30, E7_31, E7_32, E7_34, E7_35, E7_36, E7_37, E7_40, E7_43, E7_44, E7_45, E7_46, E7_49, E7_50, E7_53, E7_54, e1, e3, e4, ha, hn, hb, hm, hA, hB, rfs, rfn, cs0, csi, csl, csr, csn, kti, ktl, ktr, ktn, ktv, ktf, true_and, and_true, and_self, ↓reduceIte, Nat.reduceAdd, Nat.reduceSub, Nat.reduceMul, Nat.reduceLT, Nat.reduceLeDiff, Nat.reduceEqDiff, true_or, or_true, false_or, or_false, not_true_eq_false, not_false_eq_true, reduceCtorEq, cmp_lt, cmp_gt, cmp_eq, Int32.reduceAdd, Int32.reduceSub, Int32.reduceMul, Int32.reduceLT, Int32.reduceToNatClampNeg, eq_self, ne_eq, Int64.reduceAdd, Int64.reduceSub, Int64.reduceMul, Int64.reduceLT, nI_1, uu_s]
    refine ih (i + 1) _ _ (by omega) (fun any' h' => ?_)
    have hba : ¬ b = a := fun q => hab q.symm
    have := h any' (h'.trans (by
      rw [or_zero]
      constructor
      · intro ⟨⟨q1, q2⟩, q3⟩
        refine ⟨q1, fun w g1 g2 => ?_⟩
        by_cases g : w = i
        · rw [g]; exact q2
        · have := q3 w (by omega) g2
          rw [up_is, if_pos rfl, up_is, if_neg g, up_is, if_neg hba] at this
          exact this
      · intro ⟨q1, q2⟩
        refine ⟨⟨q1, q2 i (Nat.le_refl i) (by omega)⟩, fun w g1 g2 => ?_⟩
        rw [up_is, if_pos rfl, up_is, if_neg (by omega), up_is, if_neg hba]
        exact q2 w (by omega) g2))
    rw [up_up]
    refine Eq.mp ?_ this
    congr 2
    funext k
    rw [up_is, if_pos rfl, up_is, up_is, if_neg hba]
    by_cases h1 : k = i
    · subst h1
      rw [if_pos (by omega), if_neg (by omega), if_pos rfl]
    · rw [if_neg h1]
      by_cases h2 : i + 1 ≤ k ∧ k < n
      · rw [if_pos h2, if_pos (by omega)]
      · rw [if_neg h2, if_neg (by omega)]
theorem meets_iff {f g : Nat → Int64} {n : Nat} : (∃ k, k < 64 * n ∧ gb f k = true ∧ gb g k = true) ↔ ¬ ∀ w, 0 ≤ w → w < n → f w &&& g w = 0 := by
  constructor
  · intro ⟨k, hk, h1, h2⟩ h
    have q := and_bit (f (k / 64)) (g (k / 64)) (k % 64)
    rw [h (k / 64) (Nat.zero_le _) (by omega), zero_bit] at q
    unfold gb at h1 h2
    rw [h1, h2] at q
    cases q
  · intro h
    apply Classical.byContradiction
    intro hn
    apply h
    intro w _ hw
    apply Classical.byContradiction
    intro hz
    obtain ⟨j, hj, hbit⟩ := bit_of_ne hz
    rw [and_bit, Bool.and_eq_true] at hbit
    refine hn ⟨64 * w + j, by omega, ?_, ?_⟩
    · unfold gb
      rw [show (64 * w + j) / 64 = w by omega, show (64 * w + j) % 64 = j by omega]
      exact hbit.1
    · unfold gb
      rw [show (64 * w + j) / 64 = w by omega, show (64 * w + j) % 64 = j by omega]
      exact hbit.2
theorem keepA {d a b n : Nat} {S : mS} {I : mI} {L : mL} {R : mR} {Q : mQ} (ha : ok S a 12) (hn : S.2.2.2 a = n) (hb : ok S b 12) (hm : S.2.2.2 b = n) (hab : a ≠ b) (h31 : n < 2 ^ 24) (h1 : (∃ k, k < 64 * n ∧ gb (L a) k = true ∧ gb (L b) k = true) → Q (.int 1) S I (va_up L a (fun k => if k < n then L a k &&& L b k else L a k)) R) (h0 : (¬ ∃ k, k < 64 * n ∧ gb (L a) k = true ∧ gb (L b) k = true) → Q (.int 0) S I (va_up L a (fun k => if k < n then L a k &&& L b k else L a k)) R) : EvM (d + 1) 7 [.ref a, .ref b] S I L R Q := by
  simp only [M7, E7_0, E7_1, E7_2, E7_3, E7_7, E7_8, E7_9, E7_12, E7_14, E7_14n, E7_15, E7_16, E7_19, E7_20, E7_22, E7_23, E7_24, E7_24n, E7_25, E7_27, E7_28, E7_29, E7_30, E7_31, E7_32, E7_34, E7_35, E7_36, E7_37, E7_40, E7_43, E7_44, E7_45, E7_46, E7_49, E7_50, E7_53, E7_54, rfs, rfn, cs0, csi, csl, csr, csn, kti, ktl, ktr, ktn, ktv, ktf, true_and, and_true, and_self, ↓reduceIte, Nat.reduceAdd, Nat.reduceSub, Nat.reduceMul, Nat.reduceLT, Nat.reduceLeDiff, Nat.reduceEqDiff, true_or, or_true, false_or, or_false, not_true_eq_false, not_false_eq_true, reduceCtorEq, cmp_lt, cmp_gt, cmp_eq, Int32.reduceAdd, Int32.reduceSub, Int32.reduceMul, Int32.reduceLT, Int32.reduceToNatClampNeg, eq_self, ne_eq, Int64.reduceAdd, Int64.reduceSub, Int64.reduceMul, Int64.reduceLT]
  have := keep_lp (d := d) (I := I) (R := R) (Q := Q) ha hn hb hm hab h31 n 0 L 0 (by omega) (fun any' h' => by
    simp only [Nat.zero_le, true_and] at *
    by_cases hz : any' = 0
    · simp only [E7_0, E7_1, E7_2, E7_3, E7_7, E7_8, E7_9, E7_12, E7_14, E7_14n, E7_15, E7_16, E7_19, E7_20, E7_22, E7_23, E7_24, E7_24n, E7_25, E7_27, E7_28, E7_29, E7_30, E7_31, E7_32, E7_34, E7_35, E7_36, E7_37, E7_40, E7_43, E7_44, E7_45, E7_46, E7_49, E7_50, E7_53, E7_54, hz, rfs, rfn, cs0, csi, csl, csr, csn, kti, ktl, ktr, ktn, ktv, ktf, true_and, and_true, and_self, ↓reduceIte, Nat.reduceAdd, Nat.reduceSub, Nat.reduceMul, Nat.reduceLT, Nat.reduceLeDiff, Nat.reduceEqDiff, true_or, or_true, false_or, or_false, not_true_eq_false, not_false_eq_true, reduceCtorEq, cmp_lt, cmp_gt, cmp_eq, Int32.reduceAdd, Int32.reduceSub, Int32.reduceMul, Int32.reduceLT, Int32.reduceToNatClampNeg, eq_self, ne_eq, Int64.reduceAdd, Int64.reduceSub, Int64.reduceMul, Int64.reduceLT]
      exact h0 (fun hx => meets_iff.mp hx (fun w _ hw => h'.mp hz w trivial hw))
    · simp only [E7_0, E7_1, E7_2, E7_3, E7_7, E7_8, E7_9, E7_12, E7_14, E7_14n, E7_15, E7_16, E7_19, E7_20, E7_22, E7_23, E7_24, E7_24n, E7_25, E7_27, E7_28, E7_29, E7_30, E7_31, E7_32, E7_34, E7_35, E7_36, E7_37, E7_40, E7_43, E7_44, E7_45, E7_46, E7_49, E7_50, E7_53, E7_54, hz, rfs, rfn, cs0, csi, csl, csr, csn, kti, ktl, ktr, ktn, ktv, ktf, true_and, and_true, and_self, ↓reduceIte, Nat.reduceAdd, Nat.reduceSub, Nat.reduceMul, Nat.reduceLT, Nat.reduceLeDiff, Nat.reduceEqDiff, true_or, or_true, false_or, or_false, not_true_eq_false, not_false_eq_true, reduceCtorEq, cmp_lt, cmp_gt, cmp_eq, Int32.reduceAdd, Int32.reduceSub, Int32.reduceMul, Int32.reduceLT, Int32.reduceToNatClampNeg, eq_self, ne_eq, Int64.reduceAdd, Int64.reduceSub, Int64.reduceMul, Int64.reduceLT]
      exact h1 (meets_iff.mpr (fun hx => hz (h'.mpr (fun w _ hw => hx w (Nat.zero_le _) hw)))))
  rw [show nI 0 = 0 from rfl] at this
  exact this
