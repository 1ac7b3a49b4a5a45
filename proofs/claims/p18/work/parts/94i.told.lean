/-! the class's Planner: the PLAN told: with content -/
section IK
variable {d P c n N B th f : Nat} {w : Nat → Nat} {nu : Int32} {S : mS} {I : mI} {L : mL} {R : mR} {Q : mQ}
theorem iiK {u x : Nat} (hF : FoS S R f c n) (hI : FoI I f c n w) (hw : wOk w c) (hc : c ≤ 5) (hu : u < 2 ^ 31) (hx : x < c) : EvM (d + 1) 2 [.ref f, .int (nI u), .int (nI x)] S I L R Q = Q (.int (nI (dg w u x))) S I L R := by
  have o0 := hF.1.1
  have o1 : okI S (f + 1) := ⟨hF.1.2.1.1, Or.inl hF.1.2.1.2⟩
  have o2 := hF.1.2.2
  have r2 := hF.2.1.1
  have i0 := hI.1
  have hwi := hI.2.2 x hx
  have hb := hw x hx
  have g1 : (nI x < 0) = False := eq_false (nI_pos (by omega))
  have g2 : (nI x < nI c) = True := eq_true (nI_lt hx (by omega))
  have j1 : inb (nI x) c = True := inb_nI hx (by omega)
  have ex : (nI x).toNatClampNeg = x := nI_clamp (by omega)
  have g3 : (nI (w x) < 1) = False := eq_false (nI_nlt (a := w x) (b := 1) (by omega) (by omega))
  have n0 : (nI (w x) = 0) = False := eq_false (nI_ne0 hb.1 (by omega))
  have n9 : ((9 : Int32) = 0) = False := eq_false (by decide)
  have q1 : nI u / nI (w x) = nI (u / w x) := pk_div hu hb.1 (by omega)
  have lt : u / w x < 2 ^ 31 := Nat.lt_of_le_of_lt (Nat.div_le_self _ _) hu
  have q2 : nI (u / w x) - nI (u / w x) / 9 * 9 = nI (u / w x % 9) := pk_rem (d := 9) lt (by decide) (by decide)
  simp only [M2, E2_0, E2_1, E2_4, E2_5, E2_6, E2_9, E2_12, E2_13, E2_16, E2_17, E2_18, E2_19, E2_22, E2_23, E2_24, E2_25, E2_26, E2_29, E2_30, E2_31, E2_32, E2_34, E2_35, E2_36, E2_37, rfs, rfn, cs0, csi, csl, csr, csn, kti, ktl, ktr, ktn, ktv, ktf, true_and, and_true, and_self, ↓reduceIte, Nat.reduceAdd, Nat.reduceSub, Nat.reduceMul, Nat.reduceLT, Nat.reduceLeDiff, Nat.reduceEqDiff, true_or, or_true, false_or, or_false, not_true_eq_false, not_false_eq_true, reduceCtorEq, cmp_lt, cmp_gt, cmp_eq, Int32.reduceAdd, Int32.reduceSub, Int32.reduceMul, Int32.reduceLT, Int32.reduceToNatClampNeg, eq_self, ne_eq, Int64.reduceAdd, Int64.reduceSub, Int64.reduceMul, Int64.reduceLT, o0, o1, o2, r2, i0, g1, g2, j1, ex, hwi, g3, n0, n9, q1, q2, nI_1]
  rfl
/-- what is told of the PLAN -/
def PlT (w : Nat → Nat) (c N : Nat) (nu : Int32) (B r t : Nat) (i x v : Int32) : Prop := ∃ h, MinH w c nu B r t h ∧ (((i < 0 ∨ ¬ i < h) ∧ v = -1) ∨ (¬ i < 0 ∧ i < h ∧ ∃ H pc pr, H ≤ 6 ∧ h = nI H ∧ PlnS w c nu B r t H pc pr ∧ ((x = -1 ∧ v = nI (pc i.toNatClampNeg)) ∨ ∃ k, k < c ∧ x = nI k ∧ v = nI (dg w (pr i.toNatClampNeg) k))))
theorem PlT.eq {r t : Nat} {i x u v : Int32} (hc : c ≤ 5) (h : PlT w c N nu B r t i x u) (k : PlT w c N nu B r t i x v) : u = v := by
  obtain ⟨a, a1, a2⟩ := h
  obtain ⟨b, b1, b2⟩ := k
  obtain rfl := a1.eq b1
  rcases a2 with ⟨a3, a4⟩ | ⟨a3, a4, H, pc, pr, a5, a6, a7, a8⟩
  · rcases b2 with ⟨b3, b4⟩ | ⟨b3, b4, _⟩
    · rw [a4, b4]
    · exact absurd a3 (fun z => z.elim b3 (fun z => z b4))
  · rcases b2 with ⟨b3, b4⟩ | ⟨b3, b4, H', pc', pr', b5, b6, b7, b8⟩
    · exact absurd b3 (fun z => z.elim a3 (fun z => z a4))
    · obtain rfl : H = H' := (nI_eq (by omega) (by omega)).mp (a6.symm.trans b6)
      rw [a6] at a4
      have iH : i.toNatClampNeg < H := (of_eq_true (inb_lt (n := H) (by omega) a3 a4)).2
      obtain ⟨e1, e2⟩ := a7.eq b7 _ iH
      have nk : ∀ k, k < 5 → ¬ nI k = (-1 : Int32) := by decide
      rcases a8 with ⟨x1, x2⟩ | ⟨k, k1, k2, k3⟩
      · rcases b8 with ⟨y1, y2⟩ | ⟨l, l1, l2, l3⟩
        · rw [x2, y2, e1]
        · exact absurd (l2.symm.trans x1) (nk l (by omega))
      · rcases b8 with ⟨y1, y2⟩ | ⟨l, l1, l2, l3⟩
        · exact absurd (k2.symm.trans y1) (nk k (by omega))
        · obtain rfl : k = l := (nI_eq (by omega) (by omega)).mp (k2.symm.trans l2)
          rw [k3, l3, e2]
theorem plK {r t : Nat} {i x : Int32} (hP : PlS S R P c n) (hI : PlI I P c n w) (hw : wOk w c) (hc : c ≤ 5) (hN : N < 2 ^ 30) (hA : PlA w c N nu B r t (I P 9) (I (P + 1)) (I (P + 2))) (hi : i < 6) (hx : x = -1 ∨ ∃ k, k < c ∧ x = nI k) (hq : ∀ v, PlT w c N nu B r t i x v → Q (.int v) S I L R) : EvM (d + 2) 34 [.ref P, .int i, .int x] S I L R Q := by
  have hP' := hP
  obtain ⟨⟨o0, ⟨p1, p2⟩, ⟨s1, s2⟩⟩, ⟨r0, r1, r2, r3, r4, r5, r6, r7, r8⟩, hF, -⟩ := hP'
  have oF := hF.1.1
  have pI : okI S (P + 1) := ⟨p1.1, Or.inl p1.2⟩
  have sI : okI S (P + 2) := ⟨s1.1, Or.inl s1.2⟩
  obtain ⟨mh, pl⟩ := hA
  by_cases g1 : i < 0
  · simp only [M34, E34_0, E34_1, E34_4, E34_5, E34_6, E34_9, E34_12, E34_13, E34_15, E34_18, E34_19, E34_20, E34_21, E34_22, E34_25, E34_26, E34_29, E34_30, E34_31, E34_34, E34_35, E34_38, E34_39, E34_42, E34_43, E34_44, E34_45, E34_48, rfs, rfn, cs0, csi, csl, csr, csn, kti, ktl, ktr, ktn, ktv, ktf, true_and, and_true, and_self, ↓reduceIte, Nat.reduceAdd, Nat.reduceSub, Nat.reduceMul, Nat.reduceLT, Nat.reduceLeDiff, Nat.reduceEqDiff, true_or, or_true, false_or, or_false, not_true_eq_false, not_false_eq_true, reduceCtorEq, cmp_lt, cmp_gt, cmp_eq, Int32.reduceAdd, Int32.reduceSub, Int32.reduceMul, Int32.reduceLT, Int32.reduceToNatClampNeg, eq_self, ne_eq, Int64.reduceAdd, Int64.reduceSub, Int64.reduceMul, Int64.reduceLT, g1]
    exact hq _ ⟨_, mh, Or.inl ⟨Or.inl g1, rfl⟩⟩
  by_cases g2 : i < I P 9
  · have j1 : inb i 6 = True := inb_lt (n := 6) (by decide) g1 hi
    obtain ⟨H, hH, eH⟩ : ∃ H, H ≤ 6 ∧ I P 9 = nI H := by
      rcases mh with ⟨m1, _⟩ | ⟨H, m1, m2, _⟩
      · rw [m1] at g2
        exfalso
        have a := Int32.lt_iff_toInt_lt.mp g2
        have b : ¬ i.toInt < 0 := fun z => g1 (Int32.lt_iff_toInt_lt.mpr z)
        have e : (-1 : Int32).toInt = -1 := rfl
        omega
      · exact ⟨H, m1, m2⟩
    have iH : i.toNatClampNeg < H := by
      rw [eH] at g2
      exact (of_eq_true (inb_lt (n := H) (by omega) g1 g2)).2
    obtain ⟨pc, pr, c1, c2, c3⟩ := pl H hH eH
    have x1 := c1 _ iH
    obtain ⟨x2, x3⟩ := c2 _ iH
    rcases hx with rfl | ⟨k, k1, rfl⟩
    · have g4 : ((-1 : Int32) = -1) = True := eq_true rfl
      simp only [M34, E34_0, E34_1, E34_4, E34_5, E34_6, E34_9, E34_12, E34_13, E34_15, E34_18, E34_19, E34_20, E34_21, E34_22, E34_25, E34_26, E34_29, E34_30, E34_31, E34_34, E34_35, E34_38, E34_39, E34_42, E34_43, E34_44, E34_45, E34_48, rfs, rfn, cs0, csi, csl, csr, csn, kti, ktl, ktr, ktn, ktv, ktf, true_and, and_true, and_self, ↓reduceIte, Nat.reduceAdd, Nat.reduceSub, Nat.reduceMul, Nat.reduceLT, Nat.reduceLeDiff, Nat.reduceEqDiff, true_or, or_true, false_or, or_false, not_true_eq_false, not_false_eq_true, reduceCtorEq, cmp_lt, cmp_gt, cmp_eq, Int32.reduceAdd, Int32.reduceSub, Int32.reduceMul, Int32.reduceLT, Int32.reduceToNatClampNeg, eq_self, ne_eq, Int64.reduceAdd, Int64.reduceSub, Int64.reduceMul, Int64.reduceLT, o0, r7, pI, p2, g1, g2, hi, g4, j1, x1]
      exact hq _ ⟨_, mh, Or.inr ⟨g1, g2, H, pc, pr, hH, eH, c3, Or.inl ⟨rfl, rfl⟩⟩⟩
    · have nk : ∀ k, k < 5 → ¬ nI k = (-1 : Int32) := by decide
      have g4 := nk k (by omega)
      simp only [M34, E34_0, E34_1, E34_4, E34_5, E34_6, E34_9, E34_12, E34_13, E34_15, E34_18, E34_19, E34_20, E34_21, E34_22, E34_25, E34_26, E34_29, E34_30, E34_31, E34_34, E34_35, E34_38, E34_39, E34_42, E34_43, E34_44, E34_45, E34_48, rfs, rfn, cs0, csi, csl, csr, csn, kti, ktl, ktr, ktn, ktv, ktf, true_and, and_true, and_self, ↓reduceIte, Nat.reduceAdd, Nat.reduceSub, Nat.reduceMul, Nat.reduceLT, Nat.reduceLeDiff, Nat.reduceEqDiff, true_or, or_true, false_or, or_false, not_true_eq_false, not_false_eq_true, reduceCtorEq, cmp_lt, cmp_gt, cmp_eq, Int32.reduceAdd, Int32.reduceSub, Int32.reduceMul, Int32.reduceLT, Int32.reduceToNatClampNeg, eq_self, ne_eq, Int64.reduceAdd, Int64.reduceSub, Int64.reduceMul, Int64.reduceLT, o0, oF, r0, r8, sI, s2, g1, g2, hi, g4, j1, x3]
      rw [iiK hF hI.1 hw hc (by omega) k1]
      try simp only [E34_0, E34_1, E34_4, E34_5, E34_6, E34_9, E34_12, E34_13, E34_15, E34_18, E34_19, E34_20, E34_21, E34_22, E34_25, E34_26, E34_29, E34_30, E34_31, E34_34, E34_35, E34_38, E34_39, E34_42, E34_43, E34_44, E34_45, E34_48, rfs, rfn, cs0, csi, csl, csr, csn, kti, ktl, ktr, ktn, ktv, ktf, true_and, and_true, and_self, ↓reduceIte, Nat.reduceAdd, Nat.reduceSub, Nat.reduceMul, Nat.reduceLT, Nat.reduceLeDiff, Nat.reduceEqDiff, true_or, or_true, false_or, or_false, not_true_eq_false, not_false_eq_true, reduceCtorEq, cmp_lt, cmp_gt, cmp_eq, Int32.reduceAdd, Int32.reduceSub, Int32.reduceMul, Int32.reduceLT, Int32.reduceToNatClampNeg, eq_self, ne_eq, Int64.reduceAdd, Int64.reduceSub, Int64.reduceMul, Int64.reduceLT]
      exact hq _ ⟨_, mh, Or.inr ⟨g1, g2, H, pc, pr, hH, eH, c3, Or.inr ⟨k, k1, rfl, rfl⟩⟩⟩
  · simp only [M34, E34_0, E34_1, E34_4, E34_5, E34_6, E34_9, E34_12, E34_13, E34_15, E34_18, E34_19, E34_20, E34_21, E34_22, E34_25, E34_26, E34_29, E34_30, E34_31, E34_34, E34_35, E34_38, E34_39, E34_42, E34_43, E34_44, E34_45, E34_48, rfs, rfn, cs0, csi, csl, csr, csn, kti, ktl, ktr, ktn, ktv, ktf, true_and, and_true, and_self, ↓reduceIte, Nat.reduceAdd, Nat.reduceSub, Nat.reduceMul, Nat.reduceLT, Nat.reduceLeDiff, Nat.reduceEqDiff, true_or, or_true, false_or, or_false, not_true_eq_false, not_false_eq_true, reduceCtorEq, cmp_lt, cmp_gt, cmp_eq, Int32.reduceAdd, Int32.reduceSub, Int32.reduceMul, Int32.reduceLT, Int32.reduceToNatClampNeg, eq_self, ne_eq, Int64.reduceAdd, Int64.reduceSub, Int64.reduceMul, Int64.reduceLT, o0, g1, g2]
    exact hq _ ⟨_, mh, Or.inl ⟨Or.inr g2, rfl⟩⟩
end IK
