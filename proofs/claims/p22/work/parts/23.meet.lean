theorem bit_of_ne {x : Int64} (h : ¬ x = 0) : ∃ i, i < 64 ∧ x.toBitVec.getLsbD i = true := by
  apply Classical.byContradiction
  intro hn
  apply h
  apply Int64.toBitVec_inj.mp
  apply BitVec.eq_of_getLsbD_eq
  intro i hi
  rw [zero_bit]
  cases hb : x.toBitVec.getLsbD i with
  | false => rfl
  | true => exact absurd ⟨i, hi, hb⟩ hn
theorem meet_lp {d a b n : Nat} {S : mS} {I : mI} {L : mL} {R : mR} {Q : mQ} (ha : ok S a 12) (hn : S.2.2.2 a = n) (hb : ok S b 12) (hm : S.2.2.2 b = n) (h31 : n < 2 ^ 24) : ∀ (m i : Nat), i + m = n → ((∃ k, 64 * i ≤ k ∧ k < 64 * n ∧ gb (L a) k = true ∧ gb (L b) k = true) → Q (.int 1) S I L R) → ((¬ ∃ k, 64 * i ≤ k ∧ k < 64 * n ∧ gb (L a) k = true ∧ gb (L b) k = true) → Q (.int 0) S I L R) → Ev (d + 1) 8 2 [.ref a, .ref b, .int (nI i)] [] S I L R Q := by
  have hA : okA S a := ⟨ha.1, by rw [ha.2]; decide⟩
  have hB : okA S b := ⟨hb.1, by rw [hb.2]; decide⟩
  intro m
  induction m with
  | zero =>
    intro i hi h1 h0
    obtain rfl : i = n := by omega
    have e : (nI i < nI i) = False := eq_false (nI_nlt (Nat.le_refl i) (by omega))
    rw [E8_2]
    simp only [E8_0, E8_1, E8_3, E8_4, E8_5, E8_8, E8_9, E8_9n, E8_10, E8_11, E8_14, E8_15, E8_16, E8_17, E8_17n, E8_18, E8_19, E8_20, E8_21, E8_22, E8_23, E8_26, E8_27, E8_28, E8_31, E8_34, E8_35, e, hA, hn, rfs, rfn, cs0, csi, csl, csr, csn, kti, ktl, ktr, ktn, ktv, ktf, true_and, and_true, and_self, ↓reduceIte, Nat.reduceAdd, Nat.reduceSub, Nat.reduceMul, Nat.reduceLT, Nat.reduceLeDiff, Nat.reduceEqDiff, true_or, or_true, false_or, or_false, not_true_eq_false, not_false_eq_true, reduceCtorEq, cmp_lt, cmp_gt, cmp_eq, Int32.reduceAdd, Int32.reduceSub, Int32.reduceMul, Int32.reduceLT, Int32.reduceToNatClampNeg, eq_self, ne_eq, Int64.reduceAdd, Int64.reduceSub, Int64.reduceMul, Int64.reduceLT]
    exact h0 (fun ⟨k, g1, g2, _⟩ => by omega)
  | succ m ih =>
    intro i hi h1 h0
    have e1 : (nI i < nI n) = True := eq_true (nI_lt (a := i) (b := n) (by omega) (by omega))
    have e3 : inb (nI i) n = True := inb_nI (by omega) (by omega)
    have e4 : (nI i).toNatClampNeg = i := nI_clamp (by omega)
    rw [E8_2]
    by_cases hz : L a i &&& L b i = 0
    · simp only [E8_0, E8_1, E8_3, E8_4, E8_5, E8_8, E8_9, E8_9n, E8_10, E8_11, E8_14, E8_15, E8_16, E8_17, E8_17n, E8_18, E8_19, E8_20, E8_21, E8_22, E8_23, E8_26, E8_27, E8_28, E8_31, E8_34, E8_35, e1, e3, e4, ha, hn, hb, hm, hA, hB, hz, rfs, rfn, cs0, csi, csl, csr, csn, kti, ktl, ktr, ktn, ktv, ktf, true_and, and_true, and_self, ↓reduceIte, Nat.reduceAdd, Nat.reduceSub, Nat.reduceMul, Nat.reduceLT, Nat.reduceLeDiff, Nat.reduceEqDiff, true_or, or_true, false_or, or_false, not_true_eq_false, not_false_eq_true, reduceCtorEq, cmp_lt, cmp_gt, cmp_eq, Int32.reduceAdd, Int32.reduceSub, Int32.reduceMul, Int32.reduceLT, Int32.reduceToNatClampNeg, eq_self, ne_eq, Int64.reduceAdd, Int64.reduceSub, Int64.reduceMul, Int64.reduceLT, nI_1]
      refine ih (i + 1) (by omega) (fun ⟨k, g1, g2, g3⟩ => h1 ⟨k, by omega, g2, g3⟩) (fun hne => h0 (fun ⟨k, g1, g2, g3, g4⟩ => ?_))
      by_cases g : k / 64 = i
      · have q := and_bit (L a i) (L b i) (k % 64)
        rw [hz, zero_bit] at q
        unfold gb at g3 g4
        rw [g] at g3 g4
        rw [g3, g4] at q
        cases q
      · exact hne ⟨k, by omega, g2, g3, g4⟩
    · simp only [E8_0, E8_1, E8_3, E8_4, E8_5, E8_8, E8_9, E8_9n, E8_10, E8_11, E8_14, E8_15, E8_16, E8_17, E8_17n, E8_18, E8_19, E8_20, E8_21, E8_22, E8_23, E8_26, E8_27, E8_28, E8_31, E8_34, E8_35, e1, e3, e4, ha, hn, hb, hm, hA, hB, hz, rfs, rfn, cs0, csi, csl, csr, csn, kti, ktl, ktr, ktn, ktv, ktf, true_and, and_true, and_self, ↓reduceIte, Nat.reduceAdd, Nat.reduceSub, Nat.reduceMul, Nat.reduceLT, Nat.reduceLeDiff, Nat.reduceEqDiff, true_or, or_true, false_or, or_false, not_true_eq_false, not_false_eq_true, reduceCtorEq, cmp_lt, cmp_gt, cmp_eq, Int32.reduceAdd, Int32.reduceSub, Int32.reduceMul, Int32.reduceLT, Int32.reduceToNatClampNeg, eq_self, ne_eq, Int64.reduceAdd, Int64.reduceSub, Int64.reduceMul, Int64.reduceLT]
      obtain ⟨j, hj, hbit⟩ := bit_of_ne hz
      rw [and_bit, Bool.and_eq_true] at hbit
      refine h1 ⟨64 * i + j, by omega, by omega, ?_, ?_⟩
      · unfold gb
        rw [show (64 * i + j) / 64 = i by omega, show (64 * i + j) % 64 = j by omega]
        exact hbit.1
      · unfold gb
        rw [show (64 * i + j) / 64 = i by omega, show (64 * i + j) % 64 = j by omega]
        exact hbit.2
/-- do two sets meet -/
theorem meetA {d a b n : Nat} {S : mS} {I : mI} {L : mL} {R : mR} {Q : mQ} (ha : ok S a 12) (hn : S.2.2.2 a = n) (hb : ok S b 12) (hm : S.2.2.2 b = n) (h31 : n < 2 ^ 24) (h1 : (∃ k, k < 64 * n ∧ gb (L a) k = true ∧ gb (L b) k = true) → Q (.int 1) S I L R) (h0 : (¬ ∃ k, k < 64 * n ∧ gb (L a) k = true ∧ gb (L b) k = true) → Q (.int 0) S I L R) : EvM (d + 1) 8 [.ref a, .ref b] S I L R Q := by
  simp only [M8, E8_0, E8_1, E8_3, E8_4, E8_5, E8_8, E8_9, E8_9n, E8_10, E8_11, E8_14, E8_15, E8_16, E8_17, E8_17n, E8_18, E8_19, E8_20, E8_21, E8_22, E8_23, E8_26, E8_27, E8_28, E8_31, E8_34, E8_35, rfs, rfn, cs0, csi, csl, csr, csn, kti, ktl, ktr, ktn, ktv, ktf, true_and, and_true, and_self, ↓reduceIte, Nat.reduceAdd, Nat.reduceSub, Nat.reduceMul, Nat.reduceLT, Nat.reduceLeDiff, Nat.reduceEqDiff, true_or, or_true, false_or, or_false, not_true_eq_false, not_false_eq_true, reduceCtorEq, cmp_lt, cmp_gt, cmp_eq, Int32.reduceAdd, Int32.reduceSub, Int32.reduceMul, Int32.reduceLT, Int32.reduceToNatClampNeg, eq_self, ne_eq, Int64.reduceAdd, Int64.reduceSub, Int64.reduceMul, Int64.reduceLT]
  have := meet_lp (d := d) (I := I) (R := R) (L := L) (Q := Q) ha hn hb hm h31 n 0 (by omega) (fun ⟨k, _, g⟩ => h1 ⟨k, g⟩) (fun g => h0 (fun ⟨k, g2⟩ => g ⟨k, by omega, g2⟩))
  rw [show nI 0 = 0 from rfl] at this
  exact this
