/-! the reference: chooseCell -/
section CH
variable {d c B st h : Nat} {nu : Int32} {ow tg : Nat → Nat} {S : mS} {L : mL} {R : mR} {Q : mQ}
theorem cv_lp {p : Nat} (hS : Pm S) (hR : Pr R) (hc : c = 3 ∨ c = 4 ∨ c = 5) (hB : B < 2 ^ 24) (hh : h + 1 < 7) (hp : p < c) : ∀ (q v : Nat) (I : mI) (st : Nat), v + q = 59049 → st + q < 2 ^ 32 → PnS I c nu B st → BmP I 75 ow → BmP I 74 tg → (∀ J st' x y, PnS J c nu B st' → st' ≤ st + q → Fr I J → ((x = -1 ∧ ∀ v', v ≤ v' → v' < 59049 → (ow v').testBit h = true → ¬ ∃ u, Rn (wt c) c nu B v' p u ∧ (tg u).testBit (h + 1) = true) ∨ (x = nI p ∧ ∃ v', v' < 59049 ∧ (ow v').testBit h = true ∧ ∃ u, Rn (wt c) c nu B v' p u ∧ (tg u).testBit (h + 1) = true)) → Ev (d + 6) 217 78 [.ref 54, .int (nI h), .int x, .int (nI p), y] [] S J L R Q) → Ev (d + 6) 217 22 [.ref 54, .int (nI h), .int (-1), .int (nI p), .int (nI v)] [] S I L R Q := by
  intro q
  induction q with
  | zero =>
    intro v I st h1 h2 hP hO hT hq
    obtain rfl : v = 59049 := by omega
    have e : (nI 59049 < (59049 : Int32)) = False := eq_false (by decide)
    rw [E217_22]
    simp only [E217_24, E217_26, e, rfs, rfn, cs0, csi, csl, csr, csn, kti, ktl, ktr, ktn, ktv, ktf, true_and, and_true, and_self, ↓reduceIte, Nat.reduceAdd, Nat.reduceSub, Nat.reduceMul, Nat.reduceLT, Nat.reduceLeDiff, Nat.reduceEqDiff, true_or, or_true, false_or, or_false, not_true_eq_false, not_false_eq_true, reduceCtorEq, cmp_lt, cmp_gt, cmp_eq, Int32.reduceAdd, Int32.reduceSub, Int32.reduceMul, Int32.reduceLT, Int32.reduceToNatClampNeg, eq_self, ne_eq, Int64.reduceAdd, Int64.reduceSub, Int64.reduceMul, Int64.reduceLT]
    exact hq I st _ _ hP (by omega) Fr.rf (Or.inl ⟨rfl, fun v' z1 z2 => by omega⟩)
  | succ q ih =>
    intro v I st h1 h2 hP hO hT hq
    have e1 : (nI v < (59049 : Int32)) = True := eq_true (nI_lt (a := v) (b := 59049) (by omega) (by decide))
    have hv : v < 59049 := by omega
    have v3 : inb (nI v) 59049 = True := inb_nI hv (by decide)
    have v4 : (nI v).toNatClampNeg = v := nI_clamp (by omega)
    obtain ⟨t1, t2⟩ := hO v hv
    have bh := lb7 (ow v) t1 h (by omega)
    rw [E217_22]
    by_cases g : (ow v).testBit h = true
    · have bt := eq_true (bh.mpr g)
      simp only [E217_24, E217_26, E217_29, E217_30, E217_31, E217_34, E217_35, E217_38, E217_40, E217_41, E217_42, E217_43, E217_44, E217_45, E217_46, E217_49, E217_50, E217_52, E217_53, E217_54, E217_57, E217_58, E217_59, E217_60, pk54 hS, pk75 hS, pl75 hS, pa75 hS, pi75 hS, pr54_52 hR, pr54_53 hR, rfs, rfn, cs0, csi, csl, csr, csn, kti, ktl, ktr, ktn, ktv, ktf, true_and, and_true, and_self, ↓reduceIte, Nat.reduceAdd, Nat.reduceSub, Nat.reduceMul, Nat.reduceLT, Nat.reduceLeDiff, Nat.reduceEqDiff, true_or, or_true, false_or, or_false, not_true_eq_false, not_false_eq_true, reduceCtorEq, cmp_lt, cmp_gt, cmp_eq, Int32.reduceAdd, Int32.reduceSub, Int32.reduceMul, Int32.reduceLT, Int32.reduceToNatClampNeg, eq_self, ne_eq, Int64.reduceAdd, Int64.reduceSub, Int64.reduceMul, Int64.reduceLT, e1, v3, v4, t2, bt, nI_1]
      refine led (d := d) (a := 74) (k := h + 1) hS hR (pi74 hS) (pl74 hS) ⟨by decide, by decide, by decide⟩ hh hc hB (by omega) hP hp hv hT (fun J b2 k1 k2 k3 => ?_)
      cases b2
      · simp only [E217_63, E217_70, E217_71, E217_72, E217_75, rfs, rfn, cs0, csi, csl, csr, csn, kti, ktl, ktr, ktn, ktv, ktf, true_and, and_true, and_self, ↓reduceIte, Nat.reduceAdd, Nat.reduceSub, Nat.reduceMul, Nat.reduceLT, Nat.reduceLeDiff, Nat.reduceEqDiff, true_or, or_true, false_or, or_false, not_true_eq_false, not_false_eq_true, reduceCtorEq, cmp_lt, cmp_gt, cmp_eq, Int32.reduceAdd, Int32.reduceSub, Int32.reduceMul, Int32.reduceLT, Int32.reduceToNatClampNeg, eq_self, ne_eq, Int64.reduceAdd, Int64.reduceSub, Int64.reduceMul, Int64.reduceLT, bI_f, nI_1]
        refine ih (v + 1) J (st + 1) (by omega) (by omega) k1 (hO.cg (k2.1 75 (by decide) (by decide) (by decide))) (hT.cg (k2.1 74 (by decide) (by decide) (by decide))) (fun J2 st2 x y w1 w2 w3 w4 => hq J2 st2 x y w1 (by omega) (k2.tr w3) ?_)
        rcases w4 with ⟨w4, w5⟩ | w4
        · refine Or.inl ⟨w4, fun v' z1 z2 z3 => ?_⟩
          by_cases y : v' = v
          · rw [y]
            exact fun z => absurd (k3.mpr z) (by decide)
          · exact w5 v' (by omega) z2 z3
        · exact Or.inr w4
      · have pn : (nI p = -1) = False := eq_false (fun z => nI_pos (n := p) (by omega) (by rw [z]; decide))
        have fin : ∀ y, Ev (d + 6) 217 78 [.ref 54, .int (nI h), .int (nI p), .int (nI p), y] [] S J L R Q := fun y => hq J (st + 1) (nI p) y k1 (by omega) k2 (Or.inr ⟨rfl, v, hv, g, k3.mp rfl⟩)
        simp only [E217_63, E217_66, E217_67, E217_71, E217_72, E217_75, rfs, rfn, cs0, csi, csl, csr, csn, kti, ktl, ktr, ktn, ktv, ktf, true_and, and_true, and_self, ↓reduceIte, Nat.reduceAdd, Nat.reduceSub, Nat.reduceMul, Nat.reduceLT, Nat.reduceLeDiff, Nat.reduceEqDiff, true_or, or_true, false_or, or_false, not_true_eq_false, not_false_eq_true, reduceCtorEq, cmp_lt, cmp_gt, cmp_eq, Int32.reduceAdd, Int32.reduceSub, Int32.reduceMul, Int32.reduceLT, Int32.reduceToNatClampNeg, eq_self, ne_eq, Int64.reduceAdd, Int64.reduceSub, Int64.reduceMul, Int64.reduceLT, bI_t, n1_0, nI_1]
        rw [E217_22]
        by_cases g2 : nI (v + 1) < (59049 : Int32)
        · simp only [E217_24, E217_26, E217_29, E217_30, E217_31, rfs, rfn, cs0, csi, csl, csr, csn, kti, ktl, ktr, ktn, ktv, ktf, true_and, and_true, and_self, ↓reduceIte, Nat.reduceAdd, Nat.reduceSub, Nat.reduceMul, Nat.reduceLT, Nat.reduceLeDiff, Nat.reduceEqDiff, true_or, or_true, false_or, or_false, not_true_eq_false, not_false_eq_true, reduceCtorEq, cmp_lt, cmp_gt, cmp_eq, Int32.reduceAdd, Int32.reduceSub, Int32.reduceMul, Int32.reduceLT, Int32.reduceToNatClampNeg, eq_self, ne_eq, Int64.reduceAdd, Int64.reduceSub, Int64.reduceMul, Int64.reduceLT, g2, pn]
          exact fin _
        · simp only [E217_24, E217_26, rfs, rfn, cs0, csi, csl, csr, csn, kti, ktl, ktr, ktn, ktv, ktf, true_and, and_true, and_self, ↓reduceIte, Nat.reduceAdd, Nat.reduceSub, Nat.reduceMul, Nat.reduceLT, Nat.reduceLeDiff, Nat.reduceEqDiff, true_or, or_true, false_or, or_false, not_true_eq_false, not_false_eq_true, reduceCtorEq, cmp_lt, cmp_gt, cmp_eq, Int32.reduceAdd, Int32.reduceSub, Int32.reduceMul, Int32.reduceLT, Int32.reduceToNatClampNeg, eq_self, ne_eq, Int64.reduceAdd, Int64.reduceSub, Int64.reduceMul, Int64.reduceLT, g2]
          exact fin _
    · have bt := eq_false (fun z => g (bh.mp z))
      simp only [E217_24, E217_26, E217_29, E217_30, E217_31, E217_34, E217_35, E217_38, E217_40, E217_41, E217_42, E217_43, E217_44, E217_45, E217_46, E217_70, E217_71, E217_72, E217_75, pk54 hS, pk75 hS, pl75 hS, pa75 hS, pi75 hS, pr54_53 hR, rfs, rfn, cs0, csi, csl, csr, csn, kti, ktl, ktr, ktn, ktv, ktf, true_and, and_true, and_self, ↓reduceIte, Nat.reduceAdd, Nat.reduceSub, Nat.reduceMul, Nat.reduceLT, Nat.reduceLeDiff, Nat.reduceEqDiff, true_or, or_true, false_or, or_false, not_true_eq_false, not_false_eq_true, reduceCtorEq, cmp_lt, cmp_gt, cmp_eq, Int32.reduceAdd, Int32.reduceSub, Int32.reduceMul, Int32.reduceLT, Int32.reduceToNatClampNeg, eq_self, ne_eq, Int64.reduceAdd, Int64.reduceSub, Int64.reduceMul, Int64.reduceLT, e1, v3, v4, t2, bt, nI_1]
      refine ih (v + 1) I st (by omega) (by omega) hP hO hT (fun J2 st2 x y w1 w2 w3 w4 => hq J2 st2 x y w1 (by omega) w3 ?_)
      rcases w4 with ⟨w4, w5⟩ | w4
      · refine Or.inl ⟨w4, fun v' z1 z2 z3 => ?_⟩
        by_cases y : v' = v
        · rw [y] at z3
          exact absurd z3 g
        · exact w5 v' (by omega) z2 z3
      · exact Or.inr w4
theorem cp_lp (hS : Pm S) (hR : Pr R) (hc : c = 3 ∨ c = 4 ∨ c = 5) (hB : B < 2 ^ 24) (hh : h + 1 < 7) : ∀ (q p : Nat) (I : mI) (st : Nat) (y : Value), p + q = c → st + 59049 * q < 2 ^ 32 → PnS I c nu B st → BmP I 75 ow → BmP I 74 tg → (∃ p', p ≤ p' ∧ p' < c ∧ ∃ v', v' < 59049 ∧ (ow v').testBit h = true ∧ ∃ u, Rn (wt c) c nu B v' p' u ∧ (tg u).testBit (h + 1) = true) → (∀ J st' p1 y1 y2, PnS J c nu B st' → st' ≤ st + 59049 * q → Fr I J → p1 < c → (∃ v', v' < 59049 ∧ (ow v').testBit h = true ∧ ∃ u, Rn (wt c) c nu B v' p1 u ∧ (tg u).testBit (h + 1) = true) → Ev (d + 6) 217 84 [.ref 54, .int (nI h), .int (nI p1), y1, y2] [] S J L R Q) → Ev (d + 6) 217 4 [.ref 54, .int (nI h), .int (-1), .int (nI p), y] [] S I L R Q := by
  have z0 : inb 0 8060 = True := inb_nI (j := 0) (by decide) (by decide)
  have c0 : Int32.toNatClampNeg 0 = 0 := rfl
  intro q
  induction q with
  | zero =>
    rintro p I st y h1 h2 hP hO hT ⟨p', z1, z2, _⟩
    omega
  | succ q ih =>
    intro p I st y h1 h2 hP hO hT hex hq
    have e9 : 59049 * (q + 1) = 59049 * q + 59049 := Nat.mul_succ _ _
    rw [e9] at h2 hq
    have b5 : st + 59049 < 2 ^ 32 := Nat.lt_of_le_of_lt (by omega) h2
    have e1 : (nI p < nI c) = True := eq_true (nI_lt (by omega) (by omega))
    have i0 := hP.1.1
    rw [E217_4]
    simp only [E217_5, E217_6, E217_9, E217_10, E217_11, E217_14, E217_15, E217_16, E217_19, E217_20, pk54 hS, pk56 hS, pl56 hS, pa56 hS, pi56 hS, pr54_3 hR, rfs, rfn, cs0, csi, csl, csr, csn, kti, ktl, ktr, ktn, ktv, ktf, true_and, and_true, and_self, ↓reduceIte, Nat.reduceAdd, Nat.reduceSub, Nat.reduceMul, Nat.reduceLT, Nat.reduceLeDiff, Nat.reduceEqDiff, true_or, or_true, false_or, or_false, not_true_eq_false, not_false_eq_true, reduceCtorEq, cmp_lt, cmp_gt, cmp_eq, Int32.reduceAdd, Int32.reduceSub, Int32.reduceMul, Int32.reduceLT, Int32.reduceToNatClampNeg, eq_self, ne_eq, Int64.reduceAdd, Int64.reduceSub, Int64.reduceMul, Int64.reduceLT, z0, c0, i0, e1]
    refine cv_lp (d := d) (h := h) (ow := ow) (tg := tg) (p := p) hS hR hc hB hh (by omega) 59049 0 I st (Nat.zero_add _) b5 hP hO hT (fun J st' x y k1 k2 k3 k4 => ?_)
    have j0 := k1.1.1
    rcases k4 with ⟨rfl, k5⟩ | ⟨rfl, k5⟩
    · simp only [E217_78, E217_81, rfs, rfn, cs0, csi, csl, csr, csn, kti, ktl, ktr, ktn, ktv, ktf, true_and, and_true, and_self, ↓reduceIte, Nat.reduceAdd, Nat.reduceSub, Nat.reduceMul, Nat.reduceLT, Nat.reduceLeDiff, Nat.reduceEqDiff, true_or, or_true, false_or, or_false, not_true_eq_false, not_false_eq_true, reduceCtorEq, cmp_lt, cmp_gt, cmp_eq, Int32.reduceAdd, Int32.reduceSub, Int32.reduceMul, Int32.reduceLT, Int32.reduceToNatClampNeg, eq_self, ne_eq, Int64.reduceAdd, Int64.reduceSub, Int64.reduceMul, Int64.reduceLT, nI_1]
      refine ih (p + 1) J st' _ (by omega) (by omega) k1 (hO.cg (k3.1 75 (by decide) (by decide) (by decide))) (hT.cg (k3.1 74 (by decide) (by decide) (by decide))) ?_ (fun J2 st2 p1 y1 y2 w1 w2 w3 w4 w5 => hq J2 st2 p1 y1 y2 w1 (by omega) (k3.tr w3) w4 w5)
      obtain ⟨p', z1, z2, v', z3, z4, z5⟩ := hex
      by_cases y : p' = p
      · rw [y] at z5
        exact absurd z5 (k5 v' (Nat.zero_le v') z3 z4)
      · exact ⟨p', by omega, z2, v', z3, z4, z5⟩
    · have pn : (nI p = -1) = False := eq_false (fun z => nI_pos (n := p) (by omega) (by rw [z]; decide))
      have fin : ∀ y1 y2, Ev (d + 6) 217 84 [.ref 54, .int (nI h), .int (nI p), y1, y2] [] S J L R Q := fun y1 y2 => hq J st' p y1 y2 k1 (Nat.le_trans k2 (by omega)) k3 (by omega) k5
      simp only [E217_78, E217_81, rfs, rfn, cs0, csi, csl, csr, csn, kti, ktl, ktr, ktn, ktv, ktf, true_and, and_true, and_self, ↓reduceIte, Nat.reduceAdd, Nat.reduceSub, Nat.reduceMul, Nat.reduceLT, Nat.reduceLeDiff, Nat.reduceEqDiff, true_or, or_true, false_or, or_false, not_true_eq_false, not_false_eq_true, reduceCtorEq, cmp_lt, cmp_gt, cmp_eq, Int32.reduceAdd, Int32.reduceSub, Int32.reduceMul, Int32.reduceLT, Int32.reduceToNatClampNeg, eq_self, ne_eq, Int64.reduceAdd, Int64.reduceSub, Int64.reduceMul, Int64.reduceLT, nI_1]
      rw [E217_4]
      by_cases g2 : nI (p + 1) < nI c
      · simp only [E217_5, E217_6, E217_9, E217_10, E217_11, E217_14, E217_15, E217_16, pk54 hS, pk56 hS, pl56 hS, pa56 hS, pi56 hS, pr54_3 hR, rfs, rfn, cs0, csi, csl, csr, csn, kti, ktl, ktr, ktn, ktv, ktf, true_and, and_true, and_self, ↓reduceIte, Nat.reduceAdd, Nat.reduceSub, Nat.reduceMul, Nat.reduceLT, Nat.reduceLeDiff, Nat.reduceEqDiff, true_or, or_true, false_or, or_false, not_true_eq_false, not_false_eq_true, reduceCtorEq, cmp_lt, cmp_gt, cmp_eq, Int32.reduceAdd, Int32.reduceSub, Int32.reduceMul, Int32.reduceLT, Int32.reduceToNatClampNeg, eq_self, ne_eq, Int64.reduceAdd, Int64.reduceSub, Int64.reduceMul, Int64.reduceLT, z0, c0, j0, g2, pn]
        exact fin _ _
      · simp only [E217_5, E217_6, E217_9, E217_10, E217_11, pk54 hS, pk56 hS, pl56 hS, pa56 hS, pi56 hS, pr54_3 hR, rfs, rfn, cs0, csi, csl, csr, csn, kti, ktl, ktr, ktn, ktv, ktf, true_and, and_true, and_self, ↓reduceIte, Nat.reduceAdd, Nat.reduceSub, Nat.reduceMul, Nat.reduceLT, Nat.reduceLeDiff, Nat.reduceEqDiff, true_or, or_true, false_or, or_false, not_true_eq_false, not_false_eq_true, reduceCtorEq, cmp_lt, cmp_gt, cmp_eq, Int32.reduceAdd, Int32.reduceSub, Int32.reduceMul, Int32.reduceLT, Int32.reduceToNatClampNeg, eq_self, ne_eq, Int64.reduceAdd, Int64.reduceSub, Int64.reduceMul, Int64.reduceLT, z0, c0, j0, g2]
        exact fin _ _
theorem co_lp_m {p v m : Nat} {s : Nat → Nat} (hS : Pm S) (hR : Pr R) (hh : h + 1 < 7) : ∀ (q i : Nat) (ow : Nat → Nat) (I : mI), i + q = m → Sp I 59049 st m s → BmP I 75 ow → BmP I 74 tg → (∀ J ow' y, BmP J 75 ow' → (∀ a, ¬ a = 75 → J a = I a) → (∀ u k, (ow' u).testBit k = true ↔ (ow u).testBit k = true ∨ (k = h + 1 ∧ (tg u).testBit (h + 1) = true ∧ ∃ j, i ≤ j ∧ j < m ∧ s j = u)) → Ev (d + 6) 217 190 [.ref 54, .int (nI h), .int (nI p), .int (nI v), y] [] S J L R Q) → Ev (d + 6) 217 129 [.ref 54, .int (nI h), .int (nI p), .int (nI v), .int (nI i)] [] S I L R Q := by
  intro q
  induction q with
  | zero =>
    intro i ow I h1 sp hO hT hq
    obtain rfl : i = m := by omega
    have hle := sp.le
    have e0 : (nI i < nI i) = False := eq_false (nI_nlt (Nat.le_refl i) (by omega))
    have i2 := sp.2.1
    rw [E217_129]
    simp only [E217_131, E217_132, E217_135, pk54 hS, rfs, rfn, cs0, csi, csl, csr, csn, kti, ktl, ktr, ktn, ktv, ktf, true_and, and_true, and_self, ↓reduceIte, Nat.reduceAdd, Nat.reduceSub, Nat.reduceMul, Nat.reduceLT, Nat.reduceLeDiff, Nat.reduceEqDiff, true_or, or_true, false_or, or_false, not_true_eq_false, not_false_eq_true, reduceCtorEq, cmp_lt, cmp_gt, cmp_eq, Int32.reduceAdd, Int32.reduceSub, Int32.reduceMul, Int32.reduceLT, Int32.reduceToNatClampNeg, eq_self, ne_eq, Int64.reduceAdd, Int64.reduceSub, Int64.reduceMul, Int64.reduceLT, i2, e0]
    refine hq I ow _ hO (fun _ _ => rfl) (fun u k => ⟨Or.inl, fun z => ?_⟩)
    rcases z with z | ⟨_, _, j, z1, z2, _⟩
    · exact z
    · omega
  | succ q ih =>
    intro i ow I h1 sp hO hT hq
    have hle := sp.le
    have e1 : (nI i < nI m) = True := eq_true (nI_lt (by omega) (by omega))
    have i2 := sp.2.1
    have i3 : inb (nI i) 59049 = True := inb_nI (by omega) (by decide)
    have i4 : (nI i).toNatClampNeg = i := nI_clamp (by omega)
    obtain ⟨s1, s2⟩ := sp.2.2.1 i (by omega)
    have s3 : inb (nI (s i)) 59049 = True := inb_nI (by omega) (by decide)
    have s4 : (nI (s i)).toNatClampNeg = s i := nI_clamp (by omega)
    obtain ⟨t1, t2⟩ := hO (s i) s1
    obtain ⟨r1, r2⟩ := hT (s i) s1
    have bh := lb7 (tg (s i)) r1 (h + 1) hh
    have key : ∀ (J : mI) (ow2 : Nat → Nat), (∀ a, ¬ a = 75 → J a = I a) → BmP J 75 ow2 → (∀ u k, (ow2 u).testBit k = true ↔ (ow u).testBit k = true ∨ (k = h + 1 ∧ u = s i ∧ (tg (s i)).testBit (h + 1) = true)) → Ev (d + 6) 217 129 [.ref 54, .int (nI h), .int (nI p), .int (nI v), .int (nI (i + 1))] [] S J L R Q := by
      intro J ow2 w1 w2 w3
      refine ih (i + 1) ow2 J (by omega) ?_ w2 (hT.cg (w1 74 (by decide))) (fun J2 ow3 y g1 g2 g3 => hq J2 ow3 y g1 (fun a ha => (g2 a ha).trans (w1 a ha)) (fun u k => (g3 u k).trans ?_))
      · unfold Sp
        rw [w1 54 (by decide), w1 77 (by decide), w1 78 (by decide)]
        exact sp
      · rw [w3 u k]
        constructor
        · rintro ((z | ⟨z1, z2, z3⟩) | ⟨z1, z2, j, z3, z4, z5⟩)
          · exact Or.inl z
          · rw [z2]
            exact Or.inr ⟨z1, z3, i, Nat.le_refl i, by omega, rfl⟩
          · exact Or.inr ⟨z1, z2, j, by omega, z4, z5⟩
        · rintro (z | ⟨z1, z2, j, z3, z4, z5⟩)
          · exact Or.inl (Or.inl z)
          · by_cases y : j = i
            · rw [y] at z5
              rw [← z5] at z2
              exact Or.inl (Or.inr ⟨z1, z5.symm, z2⟩)
            · exact Or.inr ⟨z1, z2, j, by omega, z4, z5⟩
    rw [E217_129]
    by_cases g : (tg (s i)).testBit (h + 1) = true
    · have bt := eq_true (bh.mpr g)
      have o1 := (lo7 (ow (s i)) t1 (h + 1) hh).1
      simp only [E217_131, E217_132, E217_135, E217_138, E217_139, E217_142, E217_143, E217_146, E217_148, E217_149, E217_150, E217_151, E217_152, E217_155, E217_156, E217_159, E217_161, E217_162, E217_163, E217_164, E217_165, E217_166, E217_167, E217_168, E217_169, E217_170, E217_173, E217_174, E217_175, E217_176, E217_177, E217_178, E217_181, E217_182, E217_183, E217_184, E217_187, pk54 hS, pk74 hS, pl74 hS, pa74 hS, pi74 hS, pk75 hS, pl75 hS, pa75 hS, pi75 hS, pk78 hS, pl78 hS, pa78 hS, pi78 hS, pr54_52 hR, pr54_53 hR, pr54_57 hR, rfs, rfn, cs0, csi, csl, csr, csn, kti, ktl, ktr, ktn, ktv, ktf, true_and, and_true, and_self, ↓reduceIte, Nat.reduceAdd, Nat.reduceSub, Nat.reduceMul, Nat.reduceLT, Nat.reduceLeDiff, Nat.reduceEqDiff, true_or, or_true, false_or, or_false, not_true_eq_false, not_false_eq_true, reduceCtorEq, cmp_lt, cmp_gt, cmp_eq, Int32.reduceAdd, Int32.reduceSub, Int32.reduceMul, Int32.reduceLT, Int32.reduceToNatClampNeg, eq_self, ne_eq, Int64.reduceAdd, Int64.reduceSub, Int64.reduceMul, Int64.reduceLT, i2, e1, i3, i4, s2, s3, s4, t2, r2, nI_1, bt, o1, pt]
      exact key _ _ (fun a ha => pt_n ha) (hO.up s1 hh) (fun u k => bup.trans ⟨fun z => z.elim Or.inl (fun z => Or.inr ⟨z.1, z.2, g⟩), fun z => z.elim Or.inl (fun z => Or.inr ⟨z.1, z.2.1⟩)⟩)
    · have bt := eq_false (fun z => g (bh.mp z))
      have o1 := or7 (ow (s i)) t1
      simp only [E217_131, E217_132, E217_135, E217_138, E217_139, E217_142, E217_143, E217_146, E217_148, E217_149, E217_150, E217_151, E217_152, E217_155, E217_156, E217_159, E217_161, E217_162, E217_163, E217_164, E217_165, E217_166, E217_167, E217_168, E217_169, E217_170, E217_173, E217_174, E217_175, E217_176, E217_177, E217_178, E217_181, E217_182, E217_183, E217_184, E217_187, pk54 hS, pk74 hS, pl74 hS, pa74 hS, pi74 hS, pk75 hS, pl75 hS, pa75 hS, pi75 hS, pk78 hS, pl78 hS, pa78 hS, pi78 hS, pr54_52 hR, pr54_53 hR, pr54_57 hR, rfs, rfn, cs0, csi, csl, csr, csn, kti, ktl, ktr, ktn, ktv, ktf, true_and, and_true, and_self, ↓reduceIte, Nat.reduceAdd, Nat.reduceSub, Nat.reduceMul, Nat.reduceLT, Nat.reduceLeDiff, Nat.reduceEqDiff, true_or, or_true, false_or, or_false, not_true_eq_false, not_false_eq_true, reduceCtorEq, cmp_lt, cmp_gt, cmp_eq, Int32.reduceAdd, Int32.reduceSub, Int32.reduceMul, Int32.reduceLT, Int32.reduceToNatClampNeg, eq_self, ne_eq, Int64.reduceAdd, Int64.reduceSub, Int64.reduceMul, Int64.reduceLT, i2, e1, i3, i4, s2, s3, s4, t2, r2, nI_1, bt, o1, pt]
      exact key _ ow (fun a ha => pt_n ha) (hO.id s1) (fun u k => ⟨Or.inl, fun z => z.elim (fun z => z) (fun z => absurd z.2.2 g)⟩)
theorem cw_lp {p : Nat} (hS : Pm S) (hR : Pr R) (hc : c = 3 ∨ c = 4 ∨ c = 5) (hB : B < 2 ^ 24) (hh : h + 1 < 7) (hp : p < c) : ∀ (q v : Nat) (ow : Nat → Nat) (I : mI) (st : Nat) (y : Value), v + q = 59049 → st + q < 2 ^ 32 → PnS I c nu B st → BmP I 75 ow → BmP I 74 tg → (∀ J st' ow', PnS J c nu B st' → st' ≤ st + q → BmP J 75 ow' → FrA 75 I J → (∀ u k, (ow' u).testBit k = true ↔ (ow u).testBit k = true ∨ (k = h + 1 ∧ (tg u).testBit (h + 1) = true ∧ ∃ v', v ≤ v' ∧ v' < 59049 ∧ (ow v').testBit h = true ∧ Rn (wt c) c nu B v' p u)) → Q .null S J L R) → Ev (d + 6) 217 93 [.ref 54, .int (nI h), .int (nI p), .int (nI v), y] [] S I L R Q := by
  have z10 : inb 10 8060 = True := inb_nI (j := 10) (by decide) (by decide)
  have c10 : Int32.toNatClampNeg 10 = 10 := rfl
  intro q
  induction q with
  | zero =>
    intro v ow I st y h1 h2 hP hO hT hq
    obtain rfl : v = 59049 := by omega
    have e : (nI 59049 < (59049 : Int32)) = False := eq_false (by decide)
    rw [E217_93]
    simp only [E217_94, E217_96, E217_196, e, rfs, rfn, cs0, csi, csl, csr, csn, kti, ktl, ktr, ktn, ktv, ktf, true_and, and_true, and_self, ↓reduceIte, Nat.reduceAdd, Nat.reduceSub, Nat.reduceMul, Nat.reduceLT, Nat.reduceLeDiff, Nat.reduceEqDiff, true_or, or_true, false_or, or_false, not_true_eq_false, not_false_eq_true, reduceCtorEq, cmp_lt, cmp_gt, cmp_eq, Int32.reduceAdd, Int32.reduceSub, Int32.reduceMul, Int32.reduceLT, Int32.reduceToNatClampNeg, eq_self, ne_eq, Int64.reduceAdd, Int64.reduceSub, Int64.reduceMul, Int64.reduceLT]
    refine hq I st ow hP (by omega) hO FrA.rf (fun u k => ⟨Or.inl, fun z => ?_⟩)
    rcases z with z | ⟨_, _, v', z1, z2, _⟩
    · exact z
    · omega
  | succ q ih =>
    intro v ow I st y h1 h2 hP hO hT hq
    have e1 : (nI v < (59049 : Int32)) = True := eq_true (nI_lt (a := v) (b := 59049) (by omega) (by decide))
    have hv : v < 59049 := by omega
    have v3 : inb (nI v) 59049 = True := inb_nI hv (by decide)
    have v4 : (nI v).toNatClampNeg = v := nI_clamp (by omega)
    obtain ⟨t1, t2⟩ := hO v hv
    have bh := lb7 (ow v) t1 h (by omega)
    have i10 := hP.2.1
    rw [E217_93]
    by_cases g : (ow v).testBit h = true
    · have bt := eq_true (bh.mpr g)
      simp only [E217_94, E217_96, E217_99, E217_100, E217_103, E217_104, E217_105, E217_106, E217_107, E217_108, E217_109, E217_110, E217_113, E217_114, E217_115, E217_116, E217_117, E217_120, E217_122, E217_123, pk54 hS, pk56 hS, pl56 hS, pa56 hS, pi56 hS, pk75 hS, pl75 hS, pa75 hS, pi75 hS, pr54_3 hR, pr54_53 hR, rfs, rfn, cs0, csi, csl, csr, csn, kti, ktl, ktr, ktn, ktv, ktf, true_and, and_true, and_self, ↓reduceIte, Nat.reduceAdd, Nat.reduceSub, Nat.reduceMul, Nat.reduceLT, Nat.reduceLeDiff, Nat.reduceEqDiff, true_or, or_true, false_or, or_false, not_true_eq_false, not_false_eq_true, reduceCtorEq, cmp_lt, cmp_gt, cmp_eq, Int32.reduceAdd, Int32.reduceSub, Int32.reduceMul, Int32.reduceLT, Int32.reduceToNatClampNeg, eq_self, ne_eq, Int64.reduceAdd, Int64.reduceSub, Int64.reduceMul, Int64.reduceLT, e1, v3, v4, t2, bt, z10, c10, i10]
      refine fsA (d := d + 1) (nu := nu) (w := wt c) (c := c) (N := 59049) (st := st) hS hR (Nat.le_refl _) (by omega) hP.1 hP.2.2 (wtO hc) (by omega) hp hv (mvN hc p hp) hB (fun J m s x1 x2 x3 => ?_)
      have hPJ : PnS J c nu B (st + 1) := hP.fr x3 ⟨x1.1, x1.2.2.2.2.2⟩
      simp only [E217_126, E217_127, rfs, rfn, cs0, csi, csl, csr, csn, kti, ktl, ktr, ktn, ktv, ktf, true_and, and_true, and_self, ↓reduceIte, Nat.reduceAdd, Nat.reduceSub, Nat.reduceMul, Nat.reduceLT, Nat.reduceLeDiff, Nat.reduceEqDiff, true_or, or_true, false_or, or_false, not_true_eq_false, not_false_eq_true, reduceCtorEq, cmp_lt, cmp_gt, cmp_eq, Int32.reduceAdd, Int32.reduceSub, Int32.reduceMul, Int32.reduceLT, Int32.reduceToNatClampNeg, eq_self, ne_eq, Int64.reduceAdd, Int64.reduceSub, Int64.reduceMul, Int64.reduceLT]
      refine co_lp_m (d := d) (h := h) (tg := tg) (p := p) (v := v) hS hR hh m 0 ow J (by omega) x1 (hO.cg (x3.1 75 (by decide) (by decide) (by decide))) (hT.cg (x3.1 74 (by decide) (by decide) (by decide))) (fun J2 ow2 y w1 w2 w3 => ?_)
      have F2 : FrA 75 I J2 := (x3.a (a := 75)).tr ⟨fun b b1 _ _ _ => w2 b b1, fun k _ _ => by rw [w2 54 (by decide)]⟩
      simp only [E217_190, E217_193, rfs, rfn, cs0, csi, csl, csr, csn, kti, ktl, ktr, ktn, ktv, ktf, true_and, and_true, and_self, ↓reduceIte, Nat.reduceAdd, Nat.reduceSub, Nat.reduceMul, Nat.reduceLT, Nat.reduceLeDiff, Nat.reduceEqDiff, true_or, or_true, false_or, or_false, not_true_eq_false, not_false_eq_true, reduceCtorEq, cmp_lt, cmp_gt, cmp_eq, Int32.reduceAdd, Int32.reduceSub, Int32.reduceMul, Int32.reduceLT, Int32.reduceToNatClampNeg, eq_self, ne_eq, Int64.reduceAdd, Int64.reduceSub, Int64.reduceMul, Int64.reduceLT, nI_1]
      refine ih (v + 1) ow2 J2 (st + 1) _ (by omega) (by omega) (hPJ.cg (w2 56 (by decide)) (w2 72 (by decide)) (w2 77 (by decide)) (by rw [w2 54 (by decide)])) w1 (hT.cg (F2.1 74 (by decide) (by decide) (by decide) (by decide))) (fun J3 st3 ow3 g1 g2 g3 g4 g5 => hq J3 st3 ow3 g1 (by omega) g3 (F2.tr g4) (fun u k => (g5 u k).trans ?_))
      have same : ∀ u, (ow2 u).testBit h = true ↔ (ow u).testBit h = true := fun u => (w3 u h).trans ⟨fun z => z.elim (fun z => z) (fun z => by omega), Or.inl⟩
      rw [w3 u k]
      constructor
      · rintro ((z | ⟨z1, z2, j, z3, z4, z5⟩) | ⟨z1, z2, v', z3, z4, z5, z6⟩)
        · exact Or.inl z
        · exact Or.inr ⟨z1, z2, v, Nat.le_refl v, hv, g, (x2 u).mp ⟨j, z4, z5⟩⟩
        · exact Or.inr ⟨z1, z2, v', by omega, z4, (same v').mp z5, z6⟩
      · rintro (z | ⟨z1, z2, v', z3, z4, z5, z6⟩)
        · exact Or.inl (Or.inl z)
        · by_cases y : v' = v
          · rw [y] at z6
            obtain ⟨j, j1, j2⟩ := (x2 u).mpr z6
            exact Or.inl (Or.inr ⟨z1, z2, j, Nat.zero_le j, j1, j2⟩)
          · exact Or.inr ⟨z1, z2, v', by omega, z4, (same v').mpr z5, z6⟩
    · have bt := eq_false (fun z => g (bh.mp z))
      simp only [E217_94, E217_96, E217_99, E217_100, E217_103, E217_104, E217_105, E217_106, E217_107, E217_108, E217_109, E217_110, E217_190, E217_193, pk54 hS, pk75 hS, pl75 hS, pa75 hS, pi75 hS, pr54_53 hR, rfs, rfn, cs0, csi, csl, csr, csn, kti, ktl, ktr, ktn, ktv, ktf, true_and, and_true, and_self, ↓reduceIte, Nat.reduceAdd, Nat.reduceSub, Nat.reduceMul, Nat.reduceLT, Nat.reduceLeDiff, Nat.reduceEqDiff, true_or, or_true, false_or, or_false, not_true_eq_false, not_false_eq_true, reduceCtorEq, cmp_lt, cmp_gt, cmp_eq, Int32.reduceAdd, Int32.reduceSub, Int32.reduceMul, Int32.reduceLT, Int32.reduceToNatClampNeg, eq_self, ne_eq, Int64.reduceAdd, Int64.reduceSub, Int64.reduceMul, Int64.reduceLT, e1, v3, v4, t2, bt, nI_1]
      refine ih (v + 1) ow I st _ (by omega) (by omega) hP hO hT (fun J3 st3 ow3 g1 g2 g3 g4 g5 => hq J3 st3 ow3 g1 (by omega) g3 g4 (fun u k => (g5 u k).trans ?_))
      constructor
      · rintro (z | ⟨z1, z2, v', z3, z4, z5, z6⟩)
        · exact Or.inl z
        · exact Or.inr ⟨z1, z2, v', by omega, z4, z5, z6⟩
      · rintro (z | ⟨z1, z2, v', z3, z4, z5, z6⟩)
        · exact Or.inl z
        · by_cases y : v' = v
          · rw [y] at z5
            exact absurd z5 g
          · exact Or.inr ⟨z1, z2, v', by omega, z4, z5, z6⟩
/-- nothing but onWay, planCell and what findSpread leaves -/
def FrC (I J : mI) : Prop := (∀ b, ¬ b = 75 → ¬ b = 79 → ¬ b = 54 → ¬ b = 77 → ¬ b = 78 → J b = I b) ∧ (∀ k, ¬ k = 56 → ¬ k = 58 → J 54 k = I 54 k)
/-- chooseCell -/
theorem chc {I : mI} (hS : Pm S) (hR : Pr R) (hc : c = 3 ∨ c = 4 ∨ c = 5) (hB : B < 2 ^ 24) (hh : h + 1 < 7) (hst : st + 354294 < 2 ^ 32) (hP : PnS I c nu B st) (hO : BmP I 75 ow) (hT : BmP I 74 tg) (hex : ∃ p', p' < c ∧ ∃ v', v' < 59049 ∧ (ow v').testBit h = true ∧ ∃ u, Rn (wt c) c nu B v' p' u ∧ (tg u).testBit (h + 1) = true) (hq : ∀ J st' p ow', PnS J c nu B st' → st' ≤ st + 354294 → p < c → BmP J 75 ow' → FrC I J → J 79 h = nI p → (∀ k, ¬ k = h → J 79 k = I 79 k) → (∃ v', v' < 59049 ∧ (ow v').testBit h = true ∧ ∃ u, Rn (wt c) c nu B v' p u ∧ (tg u).testBit (h + 1) = true) → (∀ u k, (ow' u).testBit k = true ↔ (ow u).testBit k = true ∨ (k = h + 1 ∧ (tg u).testBit (h + 1) = true ∧ ∃ v', v' < 59049 ∧ (ow v').testBit h = true ∧ Rn (wt c) c nu B v' p u)) → Q .null S J L R) : EvM (d + 6) 217 [.ref 54, .int (nI h)] S I L R Q := by
  obtain ⟨p', z1, z2⟩ := hex
  have h3 : inb (nI h) 7 = True := inb_nI (by omega) (by decide)
  have h4 : (nI h).toNatClampNeg = h := nI_clamp (by omega)
  simp only [M217, E217_0, E217_1, E217_2, E217_3, rfs, rfn, cs0, csi, csl, csr, csn, kti, ktl, ktr, ktn, ktv, ktf, true_and, and_true, and_self, ↓reduceIte, Nat.reduceAdd, Nat.reduceSub, Nat.reduceMul, Nat.reduceLT, Nat.reduceLeDiff, Nat.reduceEqDiff, true_or, or_true, false_or, or_false, not_true_eq_false, not_false_eq_true, reduceCtorEq, cmp_lt, cmp_gt, cmp_eq, Int32.reduceAdd, Int32.reduceSub, Int32.reduceMul, Int32.reduceLT, Int32.reduceToNatClampNeg, eq_self, ne_eq, Int64.reduceAdd, Int64.reduceSub, Int64.reduceMul, Int64.reduceLT]
  refine cp_lp (d := d) (h := h) (ow := ow) (tg := tg) hS hR hc hB hh c 0 I st _ (by omega) (by rcases hc with rfl | rfl | rfl <;> omega) hP hO hT ⟨p', Nat.zero_le p', z1, z2⟩ (fun J st' p1 y1 y2 k1 k2 k3 k4 k5 => ?_)
  have k2' : st' ≤ st + 295245 := by rcases hc with rfl | rfl | rfl <;> omega
  simp only [E217_84, E217_85, E217_88, E217_89, E217_90, E217_91, E217_92, pk54 hS, pk79 hS, pl79 hS, pa79 hS, pi79 hS, pr54_61 hR, rfs, rfn, cs0, csi, csl, csr, csn, kti, ktl, ktr, ktn, ktv, ktf, true_and, and_true, and_self, ↓reduceIte, Nat.reduceAdd, Nat.reduceSub, Nat.reduceMul, Nat.reduceLT, Nat.reduceLeDiff, Nat.reduceEqDiff, true_or, or_true, false_or, or_false, not_true_eq_false, not_false_eq_true, reduceCtorEq, cmp_lt, cmp_gt, cmp_eq, Int32.reduceAdd, Int32.reduceSub, Int32.reduceMul, Int32.reduceLT, Int32.reduceToNatClampNeg, eq_self, ne_eq, Int64.reduceAdd, Int64.reduceSub, Int64.reduceMul, Int64.reduceLT, h3, h4, pt]
  refine cw_lp (d := d) (h := h) (tg := tg) (p := p1) hS hR hc hB hh k4 59049 0 ow _ st' _ (by omega) (by omega) (k1.cg (pt_n (by decide)) (pt_n (by decide)) (pt_n (by decide)) (pt_m (by decide))) ((hO.cg (k3.1 75 (by decide) (by decide) (by decide))).cg (pt_n (by decide))) ((hT.cg (k3.1 74 (by decide) (by decide) (by decide))).cg (pt_n (by decide))) (fun J2 st2 ow2 w1 w2 w3 w4 w5 => ?_)
  refine hq J2 st2 p1 ow2 w1 (by omega) k4 w3 ⟨fun b b1 b2 b3 b4 b5 => ?_, fun k g1 g2 => ?_⟩ ?_ (fun k hk => ?_) k5 (fun u k => (w5 u k).trans ?_)
  · rw [w4.1 b b1 b3 b4 b5, pt_n b2, k3.1 b b3 b4 b5]
  · rw [w4.2 k g1 g2, pt_m (by decide), k3.2 k g1 g2]
  · rw [w4.1 79 (by decide) (by decide) (by decide) (by decide), pt_s]
  · rw [w4.1 79 (by decide) (by decide) (by decide) (by decide), pt_f hk, k3.1 79 (by decide) (by decide) (by decide)]
  · constructor
    · rintro (z | ⟨z1, z2, v', z3, z4⟩)
      · exact Or.inl z
      · exact Or.inr ⟨z1, z2, v', z4⟩
    · rintro (z | ⟨z1, z2, v', z4⟩)
      · exact Or.inl z
      · exact Or.inr ⟨z1, z2, v', Nat.zero_le v', z4⟩
end CH
