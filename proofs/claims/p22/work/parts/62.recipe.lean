/-! a Recipe's maker -/
theorem clp {k : Nat} (hk : k < 2 ^ 31) (x : Int32) : ∃ n, n ≤ k ∧ (if 0 < (if x < nI k then x else nI k) then (if x < nI k then x else nI k) else 0) = nI n := by
  by_cases g : x < nI k
  · rw [if_pos g]
    by_cases g2 : 0 < x
    · rw [if_pos g2]
      obtain ⟨j, h1, h2⟩ := lt_nI hk (fun z => by
        have a := Int32.lt_iff_toInt_lt.mp z
        have b := Int32.lt_iff_toInt_lt.mp g2
        omega) g
      exact ⟨j, by omega, h2⟩
    · rw [if_neg g2]
      exact ⟨0, by omega, rfl⟩
  · rw [if_neg g]
    by_cases g2 : 0 < nI k
    · rw [if_pos g2]
      exact ⟨k, Nat.le_refl _, rfl⟩
    · rw [if_neg g2]
      exact ⟨0, by omega, rfl⟩
theorem cpR_k {f : Nat → Int32} {l n k : Nat} (hn : n ≤ l) (hk : k < n) : cpR f l n k = f k := by
  unfold cpR
  by_cases g : n = l
  · rw [if_pos g]
  · rw [if_neg g, if_pos (show n < l by omega)]
    unfold va_cpy
    rw [if_pos ⟨Nat.zero_le k, by omega⟩, show 0 + (k - 0) = k by omega]
theorem cpR_z {f : Nat → Int32} {l n k : Nat} (hn : n ≤ k) (hk : k < l) : cpR f l n k = 0 := by
  unfold cpR
  rw [if_neg (show ¬ n = l by omega), if_pos (show n < l by omega)]
  unfold va_cpy
  exact if_neg (fun z => by omega)
theorem rin {d z : Nat} {S : mS} {I : mI} {L : mL} {R : mR} {Q : mQ} (hS : Pm S) (hR : Pr R) (hz : ok S z 5) (h85 : 85 ≤ z) (hq : ∀ (n m : Nat) (S' : mS) (I' : mI) (L' : mL) (R' : mR), (∀ s, s ≤ 16 → I 14 4 = nI s → n = s) → (∀ c, c ≤ 416 → I 14 1 = nI c → m = c) → (∀ k, k < n → I' S.1 k = I 17 k) ∧ (∀ k, k ≤ n → I' (S.1 + 1) k = I 16 k) ∧ (∀ k, k < m → I' (S.1 + 2) k = I 15 k) ∧ (∀ k, m ≤ k → k < 416 → I' (S.1 + 2) k = 0) → S'.1 = S.1 + 3 → S'.2.1 ≤ S.2.1 + 449 → (∀ a, a < S.1 → S'.2.2.1 a = S.2.2.1 a ∧ S'.2.2.2 a = S.2.2.2 a) → RecS S' R' z n S.1 (S.1 + 1) (S.1 + 2) m → I' z 0 = nI n → (∀ a, a < S.1 → ¬ a = z → I' a = I a ∧ R' a = R a) → (∀ a, a < S.1 → L' a = L a) → Q .null S' I' L' R') : EvM (d + 2) 66 [.ref z, .ref 14] S I L R Q := by
  obtain ⟨n, hn, en⟩ := clp (k := 16) (by decide) (I 14 4)
  obtain ⟨m, hm, em⟩ := clp (k := 416) (by decide) (I 14 1)
  rw [show nI 16 = 16 from rfl] at en
  rw [show nI 416 = 416 from rfl] at em
  have hz1 := hz.1
  have en0 : ∀ s, s ≤ 16 → I 14 4 = nI s → n = s := fun s s1 s2 => by
    have q : nI s = nI n := by
      rw [← en, s2]
      by_cases g : nI s < (16 : Int32)
      · rw [if_pos g]
        by_cases g2 : (0 : Int32) < nI s
        · rw [if_pos g2]
        · rw [if_neg g2, show s = 0 from Classical.byContradiction fun z => g2 (nI_lt (a := 0) (by omega) (by omega))]
          rfl
      · rw [if_neg g, show s = 16 from Classical.byContradiction fun z => g (nI_lt (a := s) (b := 16) (by omega) (by decide)), if_pos (show (0 : Int32) < 16 by decide)]
        rfl
    exact ((nI_eq (by omega) (by omega)).mp q).symm
  have em0 : ∀ c, c ≤ 416 → I 14 1 = nI c → m = c := fun s s1 s2 => by
    have q : nI s = nI m := by
      rw [← em, s2]
      by_cases g : nI s < (416 : Int32)
      · rw [if_pos g]
        by_cases g2 : (0 : Int32) < nI s
        · rw [if_pos g2]
        · rw [if_neg g2, show s = 0 from Classical.byContradiction fun z => g2 (nI_lt (a := 0) (by omega) (by omega))]
          rfl
      · rw [if_neg g, show s = 416 from Classical.byContradiction fun z => g (nI_lt (a := s) (b := 416) (by omega) (by decide)), if_pos (show (0 : Int32) < 416 by decide)]
        rfl
    exact ((nI_eq (by omega) (by omega)).mp q).symm
  have h15 : ok S 15 11 := of_eq_true (pk15 hS)
  have h16 : ok S 16 11 := of_eq_true (pk16 hS)
  have h17 : ok S 17 11 := of_eq_true (pk17 hS)
  have h14 : ok S 14 4 := of_eq_true (pk14 hS)
  have q1 := fun I L R Q => cop (d := d) (n := n) (I := I) (L := L) (R := R) (Q := Q) h17 (pl17 hS) (by decide) (by omega)
  have q2 := fun I L R Q => cop (d := d) (n := n + 1) (I := I) (L := L) (R := R) (Q := Q) (alS_o (n := n) h16) ((alS_n h16.1).trans (pl16 hS)) (by decide) (by omega)
  have q3 := fun I L R Q => cop (d := d) (n := m) (I := I) (L := L) (R := R) (Q := Q) (alS_o (n := n + 1) (alS_o (n := n) h15)) ((alS_n (alS_o (n := n) h15).1).trans ((alS_n h15.1).trans (pl15 hS))) (by decide) (by omega)
  simp only [alS_1] at q2 q3
  have o0 := hz
  have o1 : ok (alS S n) z 5 := alS_o hz
  have o2 : ok (alS (alS S n) (n + 1)) z 5 := alS_o o1
  have o3 : ok (alS (alS (alS S n) (n + 1)) m) z 5 := alS_o o2
  have r0 := h14
  have r1 : ok (alS S n) 14 4 := alS_o h14
  have r2 : ok (alS (alS S n) (n + 1)) 14 4 := alS_o r1
  have n1 : (14 = z) = False := eq_false (by omega)
  have n2 : (14 = S.1) = False := eq_false (by omega)
  have n3 : (14 = S.1 + 1) = False := eq_false (by omega)
  have n4 : (z = S.1) = False := eq_false (by omega)
  have n5 : (z = S.1 + 1) = False := eq_false (by omega)
  have n6 : (z = S.1 + 1 + 1) = False := eq_false (by omega)
  have x1 : (17 = z) = False := eq_false (by omega)
  have x2 : (16 = z) = False := eq_false (by omega)
  have x3 : (15 = z) = False := eq_false (by omega)
  have x4 : (16 = S.1) = False := eq_false (by omega)
  have x5 : (15 = S.1) = False := eq_false (by omega)
  have x6 : (15 = S.1 + 1) = False := eq_false (by omega)
  have x7 : (S.1 = z) = False := eq_false (by omega)
  have x8 : (S.1 + 1 = z) = False := eq_false (by omega)
  have x9 : (S.1 + 1 + 1 = z) = False := eq_false (by omega)
  have y1 : (S.1 = S.1 + 1) = False := eq_false (by omega)
  have y2 : (S.1 = S.1 + 1 + 1) = False := eq_false (by omega)
  have y3 : (S.1 + 1 = S.1 + 1 + 1) = False := eq_false (by omega)
  simp only [M66, E66_0, E66_1, E66_4, E66_5, E66_6, E66_8, E66_8n, E66_9, E66_12, E66_15, E66_18, E66_21, E66_22, E66_22n, E66_23, E66_26, E66_27, E66_30, E66_33, E66_36, E66_37, E66_37n, E66_38, E66_41, E66_42, E66_45, E66_46, E66_47, E66_50, E66_53, E66_54, E66_54n, E66_55, E66_58, E66_59, E66_62, E66_62n, E66_63, E66_66, E66_69, E66_72, E66_75, E66_78, rfs, rfn, cs0, csi, csl, csr, csn, kti, ktl, ktr, ktn, ktv, ktf, true_and, and_true, and_self, ↓reduceIte, Nat.reduceAdd, Nat.reduceSub, Nat.reduceMul, Nat.reduceLT, Nat.reduceLeDiff, Nat.reduceEqDiff, true_or, or_true, false_or, or_false, not_true_eq_false, not_false_eq_true, reduceCtorEq, cmp_lt, cmp_gt, cmp_eq, Int32.reduceAdd, Int32.reduceSub, Int32.reduceMul, Int32.reduceLT, Int32.reduceToNatClampNeg, eq_self, ne_eq, Int64.reduceAdd, Int64.reduceSub, Int64.reduceMul, Int64.reduceLT, hz, o1, o2, o3, r0, r1, r2, pr14_0 hR, pr14_2 hR, pr14_3 hR, q1, q2, q3, en, em, nI_1, up_is, n1, n2, n3, n4, n5, x1, x2, x3, x4, x5, x6]
  refine hq n m _ _ _ _ en0 em0 ⟨fun k hk => ?_, fun k hk => ?_, fun k hk => ?_, fun k h1 h2 => ?_⟩ rfl ?_ (fun a ha => ⟨?_, ?_⟩) ⟨o3, ⟨?_, ?_, ?_⟩, ⟨?_, ?_, ?_⟩, ⟨?_, ?_, ?_⟩, hn, hm⟩ ?_ (fun a ha hne => ⟨?_, ?_⟩) (fun a ha => ?_)
  · simp only [up_is, x7, x8, x9, y1, y2, y3, n4, n5, n6, rfs, rfn, cs0, csi, csl, csr, csn, kti, ktl, ktr, ktn, ktv, ktf, true_and, and_true, and_self, ↓reduceIte, Nat.reduceAdd, Nat.reduceSub, Nat.reduceMul, Nat.reduceLT, Nat.reduceLeDiff, Nat.reduceEqDiff, true_or, or_true, false_or, or_false, not_true_eq_false, not_false_eq_true, reduceCtorEq, cmp_lt, cmp_gt, cmp_eq, Int32.reduceAdd, Int32.reduceSub, Int32.reduceMul, Int32.reduceLT, Int32.reduceToNatClampNeg, eq_self, ne_eq, Int64.reduceAdd, Int64.reduceSub, Int64.reduceMul, Int64.reduceLT]
    exact cpR_k (by omega) hk
  · simp only [up_is, x7, x8, x9, y1, y2, y3, n4, n5, n6, rfs, rfn, cs0, csi, csl, csr, csn, kti, ktl, ktr, ktn, ktv, ktf, true_and, and_true, and_self, ↓reduceIte, Nat.reduceAdd, Nat.reduceSub, Nat.reduceMul, Nat.reduceLT, Nat.reduceLeDiff, Nat.reduceEqDiff, true_or, or_true, false_or, or_false, not_true_eq_false, not_false_eq_true, reduceCtorEq, cmp_lt, cmp_gt, cmp_eq, Int32.reduceAdd, Int32.reduceSub, Int32.reduceMul, Int32.reduceLT, Int32.reduceToNatClampNeg, eq_self, ne_eq, Int64.reduceAdd, Int64.reduceSub, Int64.reduceMul, Int64.reduceLT]
    exact cpR_k (by omega) (by omega)
  · show _ = I 15 k
    rw [show S.1 + 2 = S.1 + 1 + 1 from rfl]
    simp only [up_is, x7, x8, x9, y1, y2, y3, n4, n5, n6, rfs, rfn, cs0, csi, csl, csr, csn, kti, ktl, ktr, ktn, ktv, ktf, true_and, and_true, and_self, ↓reduceIte, Nat.reduceAdd, Nat.reduceSub, Nat.reduceMul, Nat.reduceLT, Nat.reduceLeDiff, Nat.reduceEqDiff, true_or, or_true, false_or, or_false, not_true_eq_false, not_false_eq_true, reduceCtorEq, cmp_lt, cmp_gt, cmp_eq, Int32.reduceAdd, Int32.reduceSub, Int32.reduceMul, Int32.reduceLT, Int32.reduceToNatClampNeg, eq_self, ne_eq, Int64.reduceAdd, Int64.reduceSub, Int64.reduceMul, Int64.reduceLT]
    exact cpR_k hm hk
  · rw [show S.1 + 2 = S.1 + 1 + 1 from rfl]
    simp only [up_is, x7, x8, x9, y1, y2, y3, n4, n5, n6, rfs, rfn, cs0, csi, csl, csr, csn, kti, ktl, ktr, ktn, ktv, ktf, true_and, and_true, and_self, ↓reduceIte, Nat.reduceAdd, Nat.reduceSub, Nat.reduceMul, Nat.reduceLT, Nat.reduceLeDiff, Nat.reduceEqDiff, true_or, or_true, false_or, or_false, not_true_eq_false, not_false_eq_true, reduceCtorEq, cmp_lt, cmp_gt, cmp_eq, Int32.reduceAdd, Int32.reduceSub, Int32.reduceMul, Int32.reduceLT, Int32.reduceToNatClampNeg, eq_self, ne_eq, Int64.reduceAdd, Int64.reduceSub, Int64.reduceMul, Int64.reduceLT]
    exact cpR_z h1 h2
  · show S.2.1 + n + (n + 1) + m ≤ _
    omega
  · show va_up (va_up (va_up S.2.2.1 S.1 11) (S.1 + 1) 11) (S.1 + 1 + 1) 11 a = _
    rw [uu_n _ _ (by omega), uu_n _ _ (by omega), uu_n _ _ (by omega)]
  · show va_up (va_up (va_up S.2.2.2 S.1 n) (S.1 + 1) (n + 1)) (S.1 + 1 + 1) m a = _
    rw [uu_n _ _ (by omega), uu_n _ _ (by omega), uu_n _ _ (by omega)]
  · exact alS_o (alS_o alS_s)
  · rw [alS_n (by show S.1 < S.1 + 1 + 1; omega), alS_n (by show S.1 < S.1 + 1; omega), alS_l]
  · simp only [up_is, n4, n5, n6, rfs, rfn, cs0, csi, csl, csr, csn, kti, ktl, ktr, ktn, ktv, ktf, true_and, and_true, and_self, ↓reduceIte, Nat.reduceAdd, Nat.reduceSub, Nat.reduceMul, Nat.reduceLT, Nat.reduceLeDiff, Nat.reduceEqDiff, true_or, or_true, false_or, or_false, not_true_eq_false, not_false_eq_true, reduceCtorEq, cmp_lt, cmp_gt, cmp_eq, Int32.reduceAdd, Int32.reduceSub, Int32.reduceMul, Int32.reduceLT, Int32.reduceToNatClampNeg, eq_self, ne_eq, Int64.reduceAdd, Int64.reduceSub, Int64.reduceMul, Int64.reduceLT]
  · exact alS_o (alS_s (S := alS S n))
  · rw [alS_n (by show S.1 + 1 < S.1 + 1 + 1; omega)]
    exact alS_l (S := alS S n)
  · simp only [up_is, n4, n5, n6, rfs, rfn, cs0, csi, csl, csr, csn, kti, ktl, ktr, ktn, ktv, ktf, true_and, and_true, and_self, ↓reduceIte, Nat.reduceAdd, Nat.reduceSub, Nat.reduceMul, Nat.reduceLT, Nat.reduceLeDiff, Nat.reduceEqDiff, true_or, or_true, false_or, or_false, not_true_eq_false, not_false_eq_true, reduceCtorEq, cmp_lt, cmp_gt, cmp_eq, Int32.reduceAdd, Int32.reduceSub, Int32.reduceMul, Int32.reduceLT, Int32.reduceToNatClampNeg, eq_self, ne_eq, Int64.reduceAdd, Int64.reduceSub, Int64.reduceMul, Int64.reduceLT]
  · exact alS_s (S := alS (alS S n) (n + 1))
  · exact alS_l (S := alS (alS S n) (n + 1))
  · simp only [up_is, n4, n5, n6, rfs, rfn, cs0, csi, csl, csr, csn, kti, ktl, ktr, ktn, ktv, ktf, true_and, and_true, and_self, ↓reduceIte, Nat.reduceAdd, Nat.reduceSub, Nat.reduceMul, Nat.reduceLT, Nat.reduceLeDiff, Nat.reduceEqDiff, true_or, or_true, false_or, or_false, not_true_eq_false, not_false_eq_true, reduceCtorEq, cmp_lt, cmp_gt, cmp_eq, Int32.reduceAdd, Int32.reduceSub, Int32.reduceMul, Int32.reduceLT, Int32.reduceToNatClampNeg, eq_self, ne_eq, Int64.reduceAdd, Int64.reduceSub, Int64.reduceMul, Int64.reduceLT]
  · simp only [up_is, n4, n5, n6, rfs, rfn, cs0, csi, csl, csr, csn, kti, ktl, ktr, ktn, ktv, ktf, true_and, and_true, and_self, ↓reduceIte, Nat.reduceAdd, Nat.reduceSub, Nat.reduceMul, Nat.reduceLT, Nat.reduceLeDiff, Nat.reduceEqDiff, true_or, or_true, false_or, or_false, not_true_eq_false, not_false_eq_true, reduceCtorEq, cmp_lt, cmp_gt, cmp_eq, Int32.reduceAdd, Int32.reduceSub, Int32.reduceMul, Int32.reduceLT, Int32.reduceToNatClampNeg, eq_self, ne_eq, Int64.reduceAdd, Int64.reduceSub, Int64.reduceMul, Int64.reduceLT]
  · simp only [up_is, hne, show ¬ a = S.1 by omega, show ¬ a = S.1 + 1 by omega, show ¬ a = S.1 + 1 + 1 by omega, rfs, rfn, cs0, csi, csl, csr, csn, kti, ktl, ktr, ktn, ktv, ktf, true_and, and_true, and_self, ↓reduceIte, Nat.reduceAdd, Nat.reduceSub, Nat.reduceMul, Nat.reduceLT, Nat.reduceLeDiff, Nat.reduceEqDiff, true_or, or_true, false_or, or_false, not_true_eq_false, not_false_eq_true, reduceCtorEq, cmp_lt, cmp_gt, cmp_eq, Int32.reduceAdd, Int32.reduceSub, Int32.reduceMul, Int32.reduceLT, Int32.reduceToNatClampNeg, eq_self, ne_eq, Int64.reduceAdd, Int64.reduceSub, Int64.reduceMul, Int64.reduceLT]
  · simp only [up_is, hne, show ¬ a = S.1 by omega, show ¬ a = S.1 + 1 by omega, show ¬ a = S.1 + 1 + 1 by omega, rfs, rfn, cs0, csi, csl, csr, csn, kti, ktl, ktr, ktn, ktv, ktf, true_and, and_true, and_self, ↓reduceIte, Nat.reduceAdd, Nat.reduceSub, Nat.reduceMul, Nat.reduceLT, Nat.reduceLeDiff, Nat.reduceEqDiff, true_or, or_true, false_or, or_false, not_true_eq_false, not_false_eq_true, reduceCtorEq, cmp_lt, cmp_gt, cmp_eq, Int32.reduceAdd, Int32.reduceSub, Int32.reduceMul, Int32.reduceLT, Int32.reduceToNatClampNeg, eq_self, ne_eq, Int64.reduceAdd, Int64.reduceSub, Int64.reduceMul, Int64.reduceLT]
  · simp only [up_is, show ¬ a = S.1 by omega, show ¬ a = S.1 + 1 by omega, show ¬ a = S.1 + 1 + 1 by omega, rfs, rfn, cs0, csi, csl, csr, csn, kti, ktl, ktr, ktn, ktv, ktf, true_and, and_true, and_self, ↓reduceIte, Nat.reduceAdd, Nat.reduceSub, Nat.reduceMul, Nat.reduceLT, Nat.reduceLeDiff, Nat.reduceEqDiff, true_or, or_true, false_or, or_false, not_true_eq_false, not_false_eq_true, reduceCtorEq, cmp_lt, cmp_gt, cmp_eq, Int32.reduceAdd, Int32.reduceSub, Int32.reduceMul, Int32.reduceLT, Int32.reduceToNatClampNeg, eq_self, ne_eq, Int64.reduceAdd, Int64.reduceSub, Int64.reduceMul, Int64.reduceLT]
