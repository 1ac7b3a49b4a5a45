/-! group C: a STEP, a RUN: the reference's beside the class's -/
def SmL (u z : Nat) (D J : mI) : Prop := (¬ z + 3 = u ∧ ¬ z + 3 = u + 2) ∧ D z 3 = J 56 3 ∧ (∃ B, B ≤ 4 ∧ J 56 10 = nI B ∧ D (z + 3) 0 = nI B) ∧ ∃ σ, σ ≤ 100 ∧ J 56 14 = nI σ ∧ D (z + 3) 4 = nI σ
def stepF (D : mI) (u z : Nat) (kd v1 v2 : Int32) : mI := if kd = 0 then firF D u z v1 else if kd = 1 then strF D u v1 v2 else if kd = 2 then shoF D u v1 else if kd = 3 then punF D u v1 else welF D u v1 (D (z + 3) 4)
def stepB (D : mI) (u z : Nat) (kd v1 : Int32) : Bool := if kd = 0 then firB D u z v1 else true
/-- a code that leaves one value -/
def Val (pv : rPv) (cv : rCv) (l : List (Int32 × Int32)) (v : Int32) : Prop := (∀ y, y ∈ l → Okq y) ∧ evP pv cv (rCM l) [] ∧ evX pv cv (rCM l) [] = [v]
theorem nr_m : ∀ i, i < 5 → ∀ j, j < 5 → decide (mab (nI i - nI j) = 1) = (decide (¬ i = j) && decide (¬ 1 < nI i - nI j ∧ ¬ 1 < nI j - nI i)) := by decide +kernel
theorem l_1 : ∀ i, i < 5 → (nI i).toInt64 + 1 = (nI (i + 1)).toInt64 := by decide +kernel
section STP
variable {d u w z t k a b c : Nat} {S : mS} {D D' J J' : mI} {L : mL} {R : mR} {Q : mQ} {kd v1 v2 : Int32} {l1 l2 : List (Int32 × Int32)}
theorem SmL.g (h : SmL u z D J) (e0 : D' z 3 = D z 3) (e3 : D' (z + 3) = D (z + 3)) (e6 : J' 56 = J 56) : SmL u z D' J' := by
  unfold SmL
  rw [e0, e3, e6]
  exact h
theorem stepF_n (h : thr D u v1 = false) : stepF D u z kd v1 v2 = inc D (u + 2) 3 ∧ stepB D u z kd v1 = true := by
  have n : ¬ thr D u v1 = true := by rw [h]; decide
  unfold stepF stepB firF firB strF shoF punF welF
  rw [if_neg n, if_neg n, if_neg n, if_neg n, if_neg n, if_neg n]
  refine ⟨?_, ?_⟩
  · split
    · rfl
    · split
      · rfl
      · split
        · rfl
        · split <;> rfl
  · split <;> rfl
theorem dosR (hS : Pm S) (hR : Pr R) (ht : t ≤ 7060) (hk : k + 7 < 8060) (h : SR u w D J) (hs : SlR u D J L) (hb : b ≤ 400) (hc : c ≤ 400) (f0 : J 56 k = kd) (f1 : J 56 (k + 1) = nI a) (f2 : J 56 (k + 2) = nI b) (f3 : J 56 (k + 3) = nI c) (r1 : RdC (fun j => J 56 (t + j)) a b l1) (o1 : Val (pvF D u) (cvF D u) l1 v1) (hkd : kd = 0 ∨ kd = 1 ∨ kd = 2 ∨ kd = 3 ∨ kd = 4) (h2 : kd = 1 → RdC (fun j => J 56 (t + j)) b c l2 ∧ Val (pvF D u) (cvF D u) l2 v2) (hm : SmL u z D J) (hq : ∀ J' L', SR u w (stepF D u z kd v1 v2) J' → SlR u (stepF D u z kd v1 v2) J' L' → Gr J J' → Q (.int (bI (stepB D u z kd v1))) S J' L' R) : EvM (d + 4) 194 [.ref 54, .int (nI t), .int (nI k)] S J L R Q := by
  have w5 := h.w5
  have e0 := h.2.2.2.1
  obtain ⟨hz, ez, ⟨B, hB, eB, eC⟩, σ, h100, es, esC⟩ := id hm
  have e2 : nI k + 2 = nI (k + 2) := by rw [show (2 : Int32) = nI 2 from rfl, nI_add]
  have e3 : nI k + 3 = nI (k + 3) := by rw [show (3 : Int32) = nI 3 from rfl, nI_add]
  have a0 : inb (nI k) 8060 = True := inb_nI (by omega) (by decide)
  have a1 : inb (nI (k + 1)) 8060 = True := inb_nI (by omega) (by decide)
  have a2 : inb (nI (k + 2)) 8060 = True := inb_nI (by omega) (by decide)
  have a3 : inb (nI (k + 3)) 8060 = True := inb_nI (by omega) (by decide)
  have b0 : (nI k).toNatClampNeg = k := nI_clamp (by omega)
  have b1 : (nI (k + 1)).toNatClampNeg = k + 1 := nI_clamp (by omega)
  have b2 : (nI (k + 2)).toNatClampNeg = k + 2 := nI_clamp (by omega)
  have b3 : (nI (k + 3)).toNatClampNeg = k + 3 := nI_clamp (by omega)
  simp only [M194, E194_0, E194_1, E194_2, E194_3, E194_6, E194_7, E194_8, E194_9, E194_10, E194_11, E194_14, E194_15, E194_16, E194_17, E194_18, pk54 hS, pk56 hS, pl56 hS, pa56 hS, pi56 hS, pr54_3 hR, rfs, rfn, cs0, csi, csl, csr, csn, kti, ktl, ktr, ktn, ktv, ktf, true_and, and_true, and_self, ↓reduceIte, Nat.reduceAdd, Nat.reduceSub, Nat.reduceMul, Nat.reduceLT, Nat.reduceLeDiff, Nat.reduceEqDiff, true_or, or_true, false_or, or_false, not_true_eq_false, not_false_eq_true, reduceCtorEq, cmp_lt, cmp_gt, cmp_eq, Int32.reduceAdd, Int32.reduceSub, Int32.reduceMul, Int32.reduceLT, Int32.reduceToNatClampNeg, eq_self, ne_eq, Int64.reduceAdd, Int64.reduceSub, Int64.reduceMul, Int64.reduceLT, nI_1, e2, a1, a2, b1, b2, f1, f2]
  refine rckJ (d := d) hS hR h ht hb r1 o1.1 o1.2.1 o1.2.2 (fun J1 hJ => ?_)
  have J6 : J1 56 = J 56 := hJ 56 (by decide)
  have h1 : SR u w D J1 := h.g (fun _ _ => rfl) (fun _ _ _ => rfl) (by rw [J6]) (fun a x y => hJ a (by omega)) (fun k _ _ => by rw [hJ 54 (by decide)])
  have s1 : SlR u D J1 L := hs.e rfl rfl (by rw [hJ 54 (by decide)])
  have gJ : Gr J J1 := Gr.r7 hJ
  have dud : ∀ J2, SR u w D J2 → SlR u D J2 L → Gr J J2 → stepF D u z kd v1 v2 = inc D (u + 2) 3 → stepB D u z kd v1 = true → Q (.int 1) S (put J2 54 32 (J2 54 32 + 1)) L R := fun J2 k1 k2 k3 k4 k5 => by
    rw [k4, k5] at hq
    exact hq _ _ (k1.ic (k := 3) (m := 32) (by decide) rfl rfl) (by repeat (first | assumption | refine SlR.pj ?_ (by omega) | refine SlR.pc ?_ (by omega))) (Gr.p4 k3 (by decide))
  cases g : inB v1.toInt64 0 ((nI w).toInt64 - 1)
  · obtain ⟨n1, n2⟩ := stepF_n (z := z) (kd := kd) (v2 := v2) ((h.tb v1).trans g)
    simp only [E194_21, E194_22, E194_23, E194_24, E194_25, E194_28, E194_31, E194_32, E194_33, E194_36, E194_37, E194_38, E194_41, E194_42, isc hS hR, pk54 hS, pk56 hS, pl56 hS, pa56 hS, pi56 hS, pr54_3 hR, rfs, rfn, cs0, csi, csl, csr, csn, kti, ktl, ktr, ktn, ktv, ktf, true_and, and_true, and_self, ↓reduceIte, Nat.reduceAdd, Nat.reduceSub, Nat.reduceMul, Nat.reduceLT, Nat.reduceLeDiff, Nat.reduceEqDiff, true_or, or_true, false_or, or_false, not_true_eq_false, not_false_eq_true, reduceCtorEq, cmp_lt, cmp_gt, cmp_eq, Int32.reduceAdd, Int32.reduceSub, Int32.reduceMul, Int32.reduceLT, Int32.reduceToNatClampNeg, eq_self, ne_eq, Int64.reduceAdd, Int64.reduceSub, Int64.reduceMul, Int64.reduceLT, J6, e0, g, bI_f, pt]
    exact dud J1 h1 s1 gJ n1 n2
  have ht1 : thr D u v1 = true := (h.tb v1).trans g
  obtain ⟨i, i1, rfl⟩ := inC (by omega) g
  simp only [E194_21, E194_22, E194_23, E194_24, E194_25, E194_28, isc hS hR, pk54 hS, pk56 hS, pl56 hS, pa56 hS, pi56 hS, pr54_3 hR, rfs, rfn, cs0, csi, csl, csr, csn, kti, ktl, ktr, ktn, ktv, ktf, true_and, and_true, and_self, ↓reduceIte, Nat.reduceAdd, Nat.reduceSub, Nat.reduceMul, Nat.reduceLT, Nat.reduceLeDiff, Nat.reduceEqDiff, true_or, or_true, false_or, or_false, not_true_eq_false, not_false_eq_true, reduceCtorEq, cmp_lt, cmp_gt, cmp_eq, Int32.reduceAdd, Int32.reduceSub, Int32.reduceMul, Int32.reduceLT, Int32.reduceToNatClampNeg, eq_self, ne_eq, Int64.reduceAdd, Int64.reduceSub, Int64.reduceMul, Int64.reduceLT, J6, e0, g, bI_t, n1_0]
  simp only [E194_43, E194_44, E194_47, E194_48, E194_49, pk54 hS, pk56 hS, pl56 hS, pa56 hS, pi56 hS, pr54_3 hR, rfs, rfn, cs0, csi, csl, csr, csn, kti, ktl, ktr, ktn, ktv, ktf, true_and, and_true, and_self, ↓reduceIte, Nat.reduceAdd, Nat.reduceSub, Nat.reduceMul, Nat.reduceLT, Nat.reduceLeDiff, Nat.reduceEqDiff, true_or, or_true, false_or, or_false, not_true_eq_false, not_false_eq_true, reduceCtorEq, cmp_lt, cmp_gt, cmp_eq, Int32.reduceAdd, Int32.reduceSub, Int32.reduceMul, Int32.reduceLT, Int32.reduceToNatClampNeg, eq_self, ne_eq, Int64.reduceAdd, Int64.reduceSub, Int64.reduceMul, Int64.reduceLT, J6, a0, b0, f0]
  have i2 : nI i + 1 = nI (i + 1) := nI_1 i
  have kd24 : (kd = 2 ∨ kd = 4) → ∀ y, Ev (d + 4) 194 163 [.ref 54, .int (nI t), .int (nI k), .int (nI i), y] [] S J1 L R Q := by
    intro q y
    cases g2 : inB (nI (i + 1)).toInt64 0 ((nI w).toInt64 - 1)
    · have n : ¬ thr D u (nI i + 1) = true := by
        rw [i2, h.tb, g2]
        decide
      have n1 : stepF D u z kd (nI i) v2 = inc D (u + 2) 3 := by
        rcases q with q | q
        · rw [q]
          show shoF D u (nI i) = _
          unfold shoF
          rw [if_pos ht1, if_neg n]
        · rw [q]
          show welF D u (nI i) _ = _
          unfold welF
          rw [if_pos ht1, if_neg n]
      have n2 : stepB D u z kd (nI i) = true := by
        rcases q with q | q <;> (rw [q]; rfl)
      simp only [E194_163, E194_164, E194_165, E194_166, E194_167, E194_168, E194_171, E194_174, E194_175, E194_176, E194_179, E194_180, E194_181, E194_184, E194_230, E194_231, isc hS hR, l_1 i (by omega), pk54 hS, pk56 hS, pl56 hS, pa56 hS, pi56 hS, pr54_3 hR, rfs, rfn, cs0, csi, csl, csr, csn, kti, ktl, ktr, ktn, ktv, ktf, true_and, and_true, and_self, ↓reduceIte, Nat.reduceAdd, Nat.reduceSub, Nat.reduceMul, Nat.reduceLT, Nat.reduceLeDiff, Nat.reduceEqDiff, true_or, or_true, false_or, or_false, not_true_eq_false, not_false_eq_true, reduceCtorEq, cmp_lt, cmp_gt, cmp_eq, Int32.reduceAdd, Int32.reduceSub, Int32.reduceMul, Int32.reduceLT, Int32.reduceToNatClampNeg, eq_self, ne_eq, Int64.reduceAdd, Int64.reduceSub, Int64.reduceMul, Int64.reduceLT, J6, e0, g2, bI_f, pt]
      exact dud J1 h1 s1 gJ n1 n2
    · have ht2 : thr D u (nI (i + 1)) = true := (h.tb _).trans g2
      obtain ⟨i', i3, ei⟩ := inC (by omega) g2
      have hi1 : i + 1 < w := by
        have := (nI_eq (a := i + 1) (b := i') (by omega) (by omega)).mp ei
        omega
      simp only [E194_163, E194_164, E194_165, E194_166, E194_167, E194_168, E194_171, isc hS hR, l_1 i (by omega), pk54 hS, pk56 hS, pl56 hS, pa56 hS, pi56 hS, pr54_3 hR, rfs, rfn, cs0, csi, csl, csr, csn, kti, ktl, ktr, ktn, ktv, ktf, true_and, and_true, and_self, ↓reduceIte, Nat.reduceAdd, Nat.reduceSub, Nat.reduceMul, Nat.reduceLT, Nat.reduceLeDiff, Nat.reduceEqDiff, true_or, or_true, false_or, or_false, not_true_eq_false, not_false_eq_true, reduceCtorEq, cmp_lt, cmp_gt, cmp_eq, Int32.reduceAdd, Int32.reduceSub, Int32.reduceMul, Int32.reduceLT, Int32.reduceToNatClampNeg, eq_self, ne_eq, Int64.reduceAdd, Int64.reduceSub, Int64.reduceMul, Int64.reduceLT, J6, e0, g2, bI_t, n1_0]
      rcases q with q | q
      · have q4 : (kd = 4) = False := by rw [q]; exact eq_false (by decide)
        have n1 : stepF D u z kd (nI i) v2 = (if usb D u (htB D u (nI i)) = true then orb (useF D u (nI i) (htB D u (nI i))) (u + 2) 7 (nI i) else useF D u (nI i) (htB D u (nI i))) := by
          rw [q]
          show shoF D u (nI i) = _
          unfold shoF
          rw [if_pos ht1, i2, if_pos ht2]
        have n2 : stepB D u z kd (nI i) = true := by rw [q]; rfl
        rw [n1, n2] at hq
        simp only [E194_187, E194_188, E194_191, E194_192, E194_193, E194_194, E194_205, E194_206, E194_207, E194_208, E194_211, E194_212, isR hS h1 i1, pk54 hS, pk56 hS, pl56 hS, pa56 hS, pi56 hS, pr54_3 hR, rfs, rfn, cs0, csi, csl, csr, csn, kti, ktl, ktr, ktn, ktv, ktf, true_and, and_true, and_self, ↓reduceIte, Nat.reduceAdd, Nat.reduceSub, Nat.reduceMul, Nat.reduceLT, Nat.reduceLeDiff, Nat.reduceEqDiff, true_or, or_true, false_or, or_false, not_true_eq_false, not_false_eq_true, reduceCtorEq, cmp_lt, cmp_gt, cmp_eq, Int32.reduceAdd, Int32.reduceSub, Int32.reduceMul, Int32.reduceLT, Int32.reduceToNatClampNeg, eq_self, ne_eq, Int64.reduceAdd, Int64.reduceSub, Int64.reduceMul, Int64.reduceLT, J6, a0, b0, f0, q4]
        refine useR hS h1 s1 (fun J2 k2 s2 g3 => ?_)
        have g4 := gJ.tr g3
        cases e : usb D u (htB D u (nI i))
        · rw [e, if_neg (by decide)] at hq
          simp only [E194_215, E194_230, E194_231, rfs, rfn, cs0, csi, csl, csr, csn, kti, ktl, ktr, ktn, ktv, ktf, true_and, and_true, and_self, ↓reduceIte, Nat.reduceAdd, Nat.reduceSub, Nat.reduceMul, Nat.reduceLT, Nat.reduceLeDiff, Nat.reduceEqDiff, true_or, or_true, false_or, or_false, not_true_eq_false, not_false_eq_true, reduceCtorEq, cmp_lt, cmp_gt, cmp_eq, Int32.reduceAdd, Int32.reduceSub, Int32.reduceMul, Int32.reduceLT, Int32.reduceToNatClampNeg, eq_self, ne_eq, Int64.reduceAdd, Int64.reduceSub, Int64.reduceMul, Int64.reduceLT, bI_f]
          exact hq J2 L k2 s2 g4
        · rw [e, if_pos rfl] at hq
          simp only [E194_215, E194_218, E194_219, E194_220, E194_223, E194_224, E194_225, E194_226, E194_227, E194_230, E194_231, pk54 hS, rfs, rfn, cs0, csi, csl, csr, csn, kti, ktl, ktr, ktn, ktv, ktf, true_and, and_true, and_self, ↓reduceIte, Nat.reduceAdd, Nat.reduceSub, Nat.reduceMul, Nat.reduceLT, Nat.reduceLeDiff, Nat.reduceEqDiff, true_or, or_true, false_or, or_false, not_true_eq_false, not_false_eq_true, reduceCtorEq, cmp_lt, cmp_gt, cmp_eq, Int32.reduceAdd, Int32.reduceSub, Int32.reduceMul, Int32.reduceLT, Int32.reduceToNatClampNeg, eq_self, ne_eq, Int64.reduceAdd, Int64.reduceSub, Int64.reduceMul, Int64.reduceLT, bI_t, n1_0, pt]
          exact hq _ L (k2.b (k := 7) (m := 36) (by decide) rfl rfl) (by repeat (first | assumption | refine SlR.pj ?_ (by omega) | refine SlR.pc ?_ (by omega))) (Gr.p4 g4 (by decide))
      · have q4 : (kd = 4) = True := eq_true q
        have n1 : stepF D u z kd (nI i) v2 = welF D u (nI i) (nI σ) := by
          rw [q, ← esC]
          rfl
        have n2 : stepB D u z kd (nI i) = true := by rw [q]; rfl
        rw [n1, n2] at hq
        simp only [E194_187, E194_188, E194_191, E194_192, E194_193, E194_194, E194_197, E194_198, E194_199, pk54 hS, pk56 hS, pl56 hS, pa56 hS, pi56 hS, pr54_3 hR, rfs, rfn, cs0, csi, csl, csr, csn, kti, ktl, ktr, ktn, ktv, ktf, true_and, and_true, and_self, ↓reduceIte, Nat.reduceAdd, Nat.reduceSub, Nat.reduceMul, Nat.reduceLT, Nat.reduceLeDiff, Nat.reduceEqDiff, true_or, or_true, false_or, or_false, not_true_eq_false, not_false_eq_true, reduceCtorEq, cmp_lt, cmp_gt, cmp_eq, Int32.reduceAdd, Int32.reduceSub, Int32.reduceMul, Int32.reduceLT, Int32.reduceToNatClampNeg, eq_self, ne_eq, Int64.reduceAdd, Int64.reduceSub, Int64.reduceMul, Int64.reduceLT, J6, a0, b0, f0, q4]
        refine welR hS hR h1 s1 hi1 (by rw [J6]; exact es) h100 (fun J2 k2 s2 g3 => ?_)
        simp only [E194_202, E194_230, E194_231, rfs, rfn, cs0, csi, csl, csr, csn, kti, ktl, ktr, ktn, ktv, ktf, true_and, and_true, and_self, ↓reduceIte, Nat.reduceAdd, Nat.reduceSub, Nat.reduceMul, Nat.reduceLT, Nat.reduceLeDiff, Nat.reduceEqDiff, true_or, or_true, false_or, or_false, not_true_eq_false, not_false_eq_true, reduceCtorEq, cmp_lt, cmp_gt, cmp_eq, Int32.reduceAdd, Int32.reduceSub, Int32.reduceMul, Int32.reduceLT, Int32.reduceToNatClampNeg, eq_self, ne_eq, Int64.reduceAdd, Int64.reduceSub, Int64.reduceMul, Int64.reduceLT]
        exact hq J2 L k2 s2 (gJ.tr g3)
  rcases hkd with q | q | q | q | q
  · subst q
    rw [show (if (0 : Int32).toInt < 0 ∨ 0 + (([80, 86, 163, 156] : List Int).length : Int) ≤ (0 : Int32).toInt then 163 else (([80, 86, 163, 156] : List Int).getD ((0 : Int32).toInt - 0).toNat 0).toNat) = 80 by decide]
    have n1 : stepF D u z 0 (nI i) v2 = firF D u z (nI i) := rfl
    have n2 : stepB D u z 0 (nI i) = firB D u z (nI i) := rfl
    rw [n1, n2] at hq
    simp only [E194_80, E194_81, E194_82, pk54 hS, rfs, rfn, cs0, csi, csl, csr, csn, kti, ktl, ktr, ktn, ktv, ktf, true_and, and_true, and_self, ↓reduceIte, Nat.reduceAdd, Nat.reduceSub, Nat.reduceMul, Nat.reduceLT, Nat.reduceLeDiff, Nat.reduceEqDiff, true_or, or_true, false_or, or_false, not_true_eq_false, not_false_eq_true, reduceCtorEq, cmp_lt, cmp_gt, cmp_eq, Int32.reduceAdd, Int32.reduceSub, Int32.reduceMul, Int32.reduceLT, Int32.reduceToNatClampNeg, eq_self, ne_eq, Int64.reduceAdd, Int64.reduceSub, Int64.reduceMul, Int64.reduceLT]
    refine firR (B := B) hS hR h1 s1 i1 hz (by rw [J6]; exact ez) (by rw [J6]; exact eB) eC hB (fun J2 k2 s2 g3 => ?_)
    simp only [E194_85, rfs, rfn, cs0, csi, csl, csr, csn, kti, ktl, ktr, ktn, ktv, ktf, true_and, and_true, and_self, ↓reduceIte, Nat.reduceAdd, Nat.reduceSub, Nat.reduceMul, Nat.reduceLT, Nat.reduceLeDiff, Nat.reduceEqDiff, true_or, or_true, false_or, or_false, not_true_eq_false, not_false_eq_true, reduceCtorEq, cmp_lt, cmp_gt, cmp_eq, Int32.reduceAdd, Int32.reduceSub, Int32.reduceMul, Int32.reduceLT, Int32.reduceToNatClampNeg, eq_self, ne_eq, Int64.reduceAdd, Int64.reduceSub, Int64.reduceMul, Int64.reduceLT, bI_01]
    exact hq J2 L k2 s2 (gJ.tr g3)
  · subst q
    obtain ⟨r2, o2⟩ := h2 rfl
    rw [show (if (1 : Int32).toInt < 0 ∨ 0 + (([80, 86, 163, 156] : List Int).length : Int) ≤ (1 : Int32).toInt then 163 else (([80, 86, 163, 156] : List Int).getD ((1 : Int32).toInt - 0).toNat 0).toNat) = 86 by decide]
    have n1 : stepF D u z 1 (nI i) v2 = strF D u (nI i) v2 := rfl
    have n2 : stepB D u z 1 (nI i) = true := rfl
    rw [n1, n2] at hq
    simp only [E194_86, E194_87, E194_88, E194_89, E194_92, E194_93, E194_94, E194_95, E194_96, E194_97, E194_100, E194_101, E194_102, E194_103, E194_104, pk54 hS, pk56 hS, pl56 hS, pa56 hS, pi56 hS, pr54_3 hR, rfs, rfn, cs0, csi, csl, csr, csn, kti, ktl, ktr, ktn, ktv, ktf, true_and, and_true, and_self, ↓reduceIte, Nat.reduceAdd, Nat.reduceSub, Nat.reduceMul, Nat.reduceLT, Nat.reduceLeDiff, Nat.reduceEqDiff, true_or, or_true, false_or, or_false, not_true_eq_false, not_false_eq_true, reduceCtorEq, cmp_lt, cmp_gt, cmp_eq, Int32.reduceAdd, Int32.reduceSub, Int32.reduceMul, Int32.reduceLT, Int32.reduceToNatClampNeg, eq_self, ne_eq, Int64.reduceAdd, Int64.reduceSub, Int64.reduceMul, Int64.reduceLT, e2, e3, a2, a3, b2, b3, J6, f2, f3]
    refine rckJ (d := d) hS hR h1 ht hc (by rw [J6]; exact r2) o2.1 o2.2.1 o2.2.2 (fun J2 hJ2 => ?_)
    have K6 : J2 56 = J 56 := (hJ2 56 (by decide)).trans J6
    have h3 : SR u w D J2 := h1.g (fun _ _ => rfl) (fun _ _ _ => rfl) (by rw [hJ2 56 (by decide)]) (fun a x y => hJ2 a (by omega)) (fun k _ _ => by rw [hJ2 54 (by decide)])
    have s3 : SlR u D J2 L := s1.e rfl rfl (by rw [hJ2 54 (by decide)])
    have gK : Gr J J2 := gJ.tr (Gr.r7 hJ2)
    cases g4 : inB v2.toInt64 0 ((nI w).toInt64 - 1)
    · have n3 : strF D u (nI i) v2 = inc D (u + 2) 3 := by
        unfold strF
        rw [if_pos ht1, if_neg (by rw [h.tb, g4]; decide)]
      simp only [E194_107, E194_109, E194_110, E194_112, E194_113, E194_116, E194_144, E194_145, E194_146, E194_149, E194_150, E194_151, E194_154, E194_155, isc hS hR, pk54 hS, pk56 hS, pl56 hS, pa56 hS, pi56 hS, pr54_3 hR, rfs, rfn, cs0, csi, csl, csr, csn, kti, ktl, ktr, ktn, ktv, ktf, true_and, and_true, and_self, ↓reduceIte, Nat.reduceAdd, Nat.reduceSub, Nat.reduceMul, Nat.reduceLT, Nat.reduceLeDiff, Nat.reduceEqDiff, true_or, or_true, false_or, or_false, not_true_eq_false, not_false_eq_true, reduceCtorEq, cmp_lt, cmp_gt, cmp_eq, Int32.reduceAdd, Int32.reduceSub, Int32.reduceMul, Int32.reduceLT, Int32.reduceToNatClampNeg, eq_self, ne_eq, Int64.reduceAdd, Int64.reduceSub, Int64.reduceMul, Int64.reduceLT, K6, e0, g4, bI_f, pt]
      exact dud J2 h3 s3 gK (n1.trans n3) n2
    have ht2 : thr D u v2 = true := (h.tb v2).trans g4
    obtain ⟨j, j1, rfl⟩ := inC (by omega) g4
    have nm := nr_m i (by omega) j (by omega)
    by_cases g5 : mab (nI i - nI j) = 1
    · rw [decide_eq_true g5] at nm
      have nn := Bool.and_eq_true_iff.mp nm.symm
      have m1 : ¬ i = j := of_decide_eq_true nn.1
      have m1' : (nI i = nI j) = False := eq_false (fun y => m1 ((nI_eq (by omega) (by omega)).mp y))
      simp only [E194_107, E194_109, E194_110, E194_112, E194_113, E194_116, E194_119, E194_120, E194_122, E194_125, E194_126, E194_128, E194_131, E194_134, E194_135, E194_136, E194_138, isc hS hR, ner, pk54 hS, pk56 hS, pl56 hS, pa56 hS, pi56 hS, pr54_3 hR, rfs, rfn, cs0, csi, csl, csr, csn, kti, ktl, ktr, ktn, ktv, ktf, true_and, and_true, and_self, ↓reduceIte, Nat.reduceAdd, Nat.reduceSub, Nat.reduceMul, Nat.reduceLT, Nat.reduceLeDiff, Nat.reduceEqDiff, true_or, or_true, false_or, or_false, not_true_eq_false, not_false_eq_true, reduceCtorEq, cmp_lt, cmp_gt, cmp_eq, Int32.reduceAdd, Int32.reduceSub, Int32.reduceMul, Int32.reduceLT, Int32.reduceToNatClampNeg, eq_self, ne_eq, Int64.reduceAdd, Int64.reduceSub, Int64.reduceMul, Int64.reduceLT, K6, e0, g4, bI_t, n1_0, m1', nn.2]
      refine strR hS hR h3 s3 i1 j1 g5 (fun J3 L3 k3 s4 g3 => ?_)
      simp only [E194_141, E194_154, E194_155, rfs, rfn, cs0, csi, csl, csr, csn, kti, ktl, ktr, ktn, ktv, ktf, true_and, and_true, and_self, ↓reduceIte, Nat.reduceAdd, Nat.reduceSub, Nat.reduceMul, Nat.reduceLT, Nat.reduceLeDiff, Nat.reduceEqDiff, true_or, or_true, false_or, or_false, not_true_eq_false, not_false_eq_true, reduceCtorEq, cmp_lt, cmp_gt, cmp_eq, Int32.reduceAdd, Int32.reduceSub, Int32.reduceMul, Int32.reduceLT, Int32.reduceToNatClampNeg, eq_self, ne_eq, Int64.reduceAdd, Int64.reduceSub, Int64.reduceMul, Int64.reduceLT]
      exact hq J3 L3 k3 s4 (gK.tr g3)
    · have n3 : strF D u (nI i) (nI j) = inc D (u + 2) 3 := by
        unfold strF
        rw [if_pos ht1, if_pos ht2, if_neg g5]
      rw [decide_eq_false g5] at nm
      by_cases m1 : i = j
      · have m1' : (nI i = nI j) = True := eq_true (by rw [m1])
        simp only [E194_107, E194_109, E194_110, E194_112, E194_113, E194_116, E194_119, E194_120, E194_122, E194_144, E194_145, E194_146, E194_149, E194_150, E194_151, E194_154, E194_155, isc hS hR, pk54 hS, pk56 hS, pl56 hS, pa56 hS, pi56 hS, pr54_3 hR, rfs, rfn, cs0, csi, csl, csr, csn, kti, ktl, ktr, ktn, ktv, ktf, true_and, and_true, and_self, ↓reduceIte, Nat.reduceAdd, Nat.reduceSub, Nat.reduceMul, Nat.reduceLT, Nat.reduceLeDiff, Nat.reduceEqDiff, true_or, or_true, false_or, or_false, not_true_eq_false, not_false_eq_true, reduceCtorEq, cmp_lt, cmp_gt, cmp_eq, Int32.reduceAdd, Int32.reduceSub, Int32.reduceMul, Int32.reduceLT, Int32.reduceToNatClampNeg, eq_self, ne_eq, Int64.reduceAdd, Int64.reduceSub, Int64.reduceMul, Int64.reduceLT, K6, e0, g4, bI_t, n1_0, m1', pt]
        exact dud J2 h3 s3 gK (n1.trans n3) n2
      · have m1' : (nI i = nI j) = False := eq_false (fun y => m1 ((nI_eq (by omega) (by omega)).mp y))
        rw [decide_eq_true m1, Bool.true_and] at nm
        simp only [E194_107, E194_109, E194_110, E194_112, E194_113, E194_116, E194_119, E194_120, E194_122, E194_125, E194_126, E194_128, E194_131, E194_144, E194_145, E194_146, E194_149, E194_150, E194_151, E194_154, E194_155, isc hS hR, ner, pk54 hS, pk56 hS, pl56 hS, pa56 hS, pi56 hS, pr54_3 hR, rfs, rfn, cs0, csi, csl, csr, csn, kti, ktl, ktr, ktn, ktv, ktf, true_and, and_true, and_self, ↓reduceIte, Nat.reduceAdd, Nat.reduceSub, Nat.reduceMul, Nat.reduceLT, Nat.reduceLeDiff, Nat.reduceEqDiff, true_or, or_true, false_or, or_false, not_true_eq_false, not_false_eq_true, reduceCtorEq, cmp_lt, cmp_gt, cmp_eq, Int32.reduceAdd, Int32.reduceSub, Int32.reduceMul, Int32.reduceLT, Int32.reduceToNatClampNeg, eq_self, ne_eq, Int64.reduceAdd, Int64.reduceSub, Int64.reduceMul, Int64.reduceLT, K6, e0, g4, bI_t, bI_f, n1_0, m1', ← nm, pt]
        exact dud J2 h3 s3 gK (n1.trans n3) n2
  · have k2 := kd24 (Or.inl q)
    subst q
    rw [show (if (2 : Int32).toInt < 0 ∨ 0 + (([80, 86, 163, 156] : List Int).length : Int) ≤ (2 : Int32).toInt then 163 else (([80, 86, 163, 156] : List Int).getD ((2 : Int32).toInt - 0).toNat 0).toNat) = 163 by decide]
    exact k2 _
  · subst q
    rw [show (if (3 : Int32).toInt < 0 ∨ 0 + (([80, 86, 163, 156] : List Int).length : Int) ≤ (3 : Int32).toInt then 163 else (([80, 86, 163, 156] : List Int).getD ((3 : Int32).toInt - 0).toNat 0).toNat) = 156 by decide]
    have n1 : stepF D u z 3 (nI i) v2 = punF D u (nI i) := rfl
    have n2 : stepB D u z 3 (nI i) = true := rfl
    rw [n1, n2] at hq
    simp only [E194_156, E194_157, E194_158, pk54 hS, rfs, rfn, cs0, csi, csl, csr, csn, kti, ktl, ktr, ktn, ktv, ktf, true_and, and_true, and_self, ↓reduceIte, Nat.reduceAdd, Nat.reduceSub, Nat.reduceMul, Nat.reduceLT, Nat.reduceLeDiff, Nat.reduceEqDiff, true_or, or_true, false_or, or_false, not_true_eq_false, not_false_eq_true, reduceCtorEq, cmp_lt, cmp_gt, cmp_eq, Int32.reduceAdd, Int32.reduceSub, Int32.reduceMul, Int32.reduceLT, Int32.reduceToNatClampNeg, eq_self, ne_eq, Int64.reduceAdd, Int64.reduceSub, Int64.reduceMul, Int64.reduceLT]
    refine punR hS hR h1 s1 i1 (fun J2 k2 s2 g3 => ?_)
    simp only [E194_161, E194_162, rfs, rfn, cs0, csi, csl, csr, csn, kti, ktl, ktr, ktn, ktv, ktf, true_and, and_true, and_self, ↓reduceIte, Nat.reduceAdd, Nat.reduceSub, Nat.reduceMul, Nat.reduceLT, Nat.reduceLeDiff, Nat.reduceEqDiff, true_or, or_true, false_or, or_false, not_true_eq_false, not_false_eq_true, reduceCtorEq, cmp_lt, cmp_gt, cmp_eq, Int32.reduceAdd, Int32.reduceSub, Int32.reduceMul, Int32.reduceLT, Int32.reduceToNatClampNeg, eq_self, ne_eq, Int64.reduceAdd, Int64.reduceSub, Int64.reduceMul, Int64.reduceLT]
    exact hq J2 L k2 s2 (gJ.tr g3)
  · have k2 := kd24 (Or.inr q)
    subst q
    rw [show (if (4 : Int32).toInt < 0 ∨ 0 + (([80, 86, 163, 156] : List Int).length : Int) ≤ (4 : Int32).toInt then 163 else (([80, 86, 163, 156] : List Int).getD ((4 : Int32).toInt - 0).toNat 0).toNat) = 163 by decide]
    exact k2 _
end STP
