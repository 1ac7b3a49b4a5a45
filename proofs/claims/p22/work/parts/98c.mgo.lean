/-! the reference's run: doStep, rest0, goThrough -/
def Gq (I J : mI) : Prop := (∀ a, (a < 64 ∨ 67 < a) → ¬ a = 54 → J a = I a) ∧ (∀ k, (k < 26 ∨ 41 < k) → J 54 k = I 54 k)
theorem Gq.rf {I : mI} : Gq I I := ⟨fun _ _ _ => rfl, fun _ _ => rfl⟩
theorem Gq.tr {I J K : mI} (h : Gq I J) (h2 : Gq J K) : Gq I K := ⟨fun a h1 h3 => (h2.1 a h1 h3).trans (h.1 a h1 h3), fun k h1 => (h2.2 k h1).trans (h.2 k h1)⟩
theorem Gq.p4 {I J : mI} {k : Nat} {x : Int32} (h : Gq I J) (hk : 26 ≤ k ∧ k ≤ 41) : Gq I (put J 54 k x) := ⟨fun a h1 h2 => by rw [pt_n h2]; exact h.1 a h1 h2, fun j hj => by rw [pt_f (by omega)]; exact h.2 j hj⟩
theorem Gq.pa {I J : mI} {a k : Nat} {x : Int32} (h : Gq I J) (ha : 64 ≤ a ∧ a ≤ 67) : Gq I (put J a k x) := ⟨fun b h1 h2 => by rw [pt_n (by omega)]; exact h.1 b h1 h2, fun j hj => by rw [pt_m (by omega)]; exact h.2 j hj⟩
theorem Gq.w {I J : mI} (h : Gq I J) : J 56 = I 56 := h.1 56 (by decide) (by decide)
theorem Gr.q {I J : mI} (h : Gr I J) : Gq I J := ⟨h.1, fun k hk => h.2 k (by omega)⟩
theorem Gr.r7 {I J : mI} (h : ∀ a, ¬ a = 67 → J a = I a) : Gr I J := ⟨fun a h1 h2 => h a (by omega), fun k _ => by rw [h 54 (by decide)]⟩
section MT
variable {d : Nat} {S : mS} {I : mI} {L : mL} {R : mR} {Q : mQ}
theorem dos {t k a b c e w : Nat} (hS : Pm S) (hR : Pr R) (ht : t ≤ 7060) (hk : k + 9 < 8060) (ha : a ≤ b) (hb : b ≤ c) (hc : c ≤ e) (he : e ≤ 400) (hw : w ≤ 5) (ew : I 56 0 = nI w) (f1 : I 56 (k + 1) = nI a) (f2 : I 56 (k + 2) = nI b) (f3 : I 56 (k + 3) = nI c) (o1 : Okc (fun m => I 56 (t + m)) a b) (o2 : Okc (fun m => I 56 (t + m)) b c) (hq : ∀ x J L', Gr I J → Q (.int (bI x)) S J L' R) : EvM (d + 4) 194 [.ref 54, .int (nI t), .int (nI k)] S I L R Q := by
  have e2 : nI k + 2 = nI (k + 2) := by rw [show (2 : Int32) = nI 2 from rfl, nI_add]
  have e3 : nI k + 3 = nI (k + 3) := by rw [show (3 : Int32) = nI 3 from rfl, nI_add]
  have a0 : inb (nI k) 8060 = True := inb_nI (by omega) (by decide)
  have a1 : inb (nI (k + 1)) 8060 = True := inb_nI (by omega) (by decide)
  have a2 : inb (nI (k + 2)) 8060 = True := inb_nI (by omega) (by decide)
  have a3 : inb (nI (k + 3)) 8060 = True := inb_nI (by omega) (by decide)
  have b0 : (nI k).toNatClampNeg = k := nI_clamp (by omega)
  have b1 : (nI (k + 1)).toNatClampNeg = k + 1 := nI_clamp (by omega)
  have b2 : (nI (k + 2)).toNatClampNeg = k + 2 := nI_clamp (by omega)
  have b3 : (nI (k + 3)).toNatClampNeg = k + 3 := nI_clamp (by omega)
  obtain ⟨op, hop⟩ : ∃ op, I 56 k = op := ⟨_, rfl⟩
  simp only [M194, E194_0, E194_1, E194_2, E194_3, E194_6, E194_7, E194_8, E194_9, E194_10, E194_11, E194_14, E194_15, E194_16, E194_17, E194_18, pk54 hS, pk56 hS, pl56 hS, pa56 hS, pi56 hS, pr54_3 hR, rfs, rfn, cs0, csi, csl, csr, csn, kti, ktl, ktr, ktn, ktv, ktf, true_and, and_true, and_self, ↓reduceIte, Nat.reduceAdd, Nat.reduceSub, Nat.reduceMul, Nat.reduceLT, Nat.reduceLeDiff, Nat.reduceEqDiff, true_or, or_true, false_or, or_false, not_true_eq_false, not_false_eq_true, reduceCtorEq, cmp_lt, cmp_gt, cmp_eq, Int32.reduceAdd, Int32.reduceSub, Int32.reduceMul, Int32.reduceLT, Int32.reduceToNatClampNeg, eq_self, ne_eq, Int64.reduceAdd, Int64.reduceSub, Int64.reduceMul, Int64.reduceLT, nI_1, e2, a1, a2, b1, b2, f1, f2]
  refine rck (d := d) hS hR ht (by omega) hw ha ew o1 (fun x J hJ => ?_)
  have J6 : J 56 = I 56 := hJ 56 (by decide)
  have gJ : Gr I J := Gr.r7 hJ
  cases g : inB x.toInt64 0 ((nI w).toInt64 - 1)
  · simp only [E194_18, E194_21, E194_22, E194_23, E194_24, E194_25, E194_28, E194_31, E194_32, E194_33, E194_36, E194_37, E194_38, E194_41, E194_42, isc hS hR, pk54 hS, pk56 hS, pl56 hS, pa56 hS, pi56 hS, pr54_3 hR, rfs, rfn, cs0, csi, csl, csr, csn, kti, ktl, ktr, ktn, ktv, ktf, true_and, and_true, and_self, ↓reduceIte, Nat.reduceAdd, Nat.reduceSub, Nat.reduceMul, Nat.reduceLT, Nat.reduceLeDiff, Nat.reduceEqDiff, true_or, or_true, false_or, or_false, not_true_eq_false, not_false_eq_true, reduceCtorEq, cmp_lt, cmp_gt, cmp_eq, Int32.reduceAdd, Int32.reduceSub, Int32.reduceMul, Int32.reduceLT, Int32.reduceToNatClampNeg, eq_self, ne_eq, Int64.reduceAdd, Int64.reduceSub, Int64.reduceMul, Int64.reduceLT, J6, ew, g, bI_f, pt]
    exact hq true _ _ (by repeat (first | exact Gr.rf | assumption | refine Gr.p4 ?_ (by decide) | refine Gr.pa ?_ (by decide)))
  obtain ⟨i, i1, rfl⟩ := inC (by omega) g
  simp only [E194_18, E194_21, E194_22, E194_23, E194_24, E194_25, E194_28, isc hS hR, pk54 hS, pk56 hS, pl56 hS, pa56 hS, pi56 hS, pr54_3 hR, rfs, rfn, cs0, csi, csl, csr, csn, kti, ktl, ktr, ktn, ktv, ktf, true_and, and_true, and_self, ↓reduceIte, Nat.reduceAdd, Nat.reduceSub, Nat.reduceMul, Nat.reduceLT, Nat.reduceLeDiff, Nat.reduceEqDiff, true_or, or_true, false_or, or_false, not_true_eq_false, not_false_eq_true, reduceCtorEq, cmp_lt, cmp_gt, cmp_eq, Int32.reduceAdd, Int32.reduceSub, Int32.reduceMul, Int32.reduceLT, Int32.reduceToNatClampNeg, eq_self, ne_eq, Int64.reduceAdd, Int64.reduceSub, Int64.reduceMul, Int64.reduceLT, J6, ew, g, bI_t, n1_0]
  simp only [E194_43, E194_44, E194_47, E194_48, E194_49, pk54 hS, pk56 hS, pl56 hS, pa56 hS, pi56 hS, pr54_3 hR, rfs, rfn, cs0, csi, csl, csr, csn, kti, ktl, ktr, ktn, ktv, ktf, true_and, and_true, and_self, ↓reduceIte, Nat.reduceAdd, Nat.reduceSub, Nat.reduceMul, Nat.reduceLT, Nat.reduceLeDiff, Nat.reduceEqDiff, true_or, or_true, false_or, or_false, not_true_eq_false, not_false_eq_true, reduceCtorEq, cmp_lt, cmp_gt, cmp_eq, Int32.reduceAdd, Int32.reduceSub, Int32.reduceMul, Int32.reduceLT, Int32.reduceToNatClampNeg, eq_self, ne_eq, Int64.reduceAdd, Int64.reduceSub, Int64.reduceMul, Int64.reduceLT, J6, a0, b0, hop]
  have kd : ∀ z, Ev (d + 4) 194 163 [.ref 54, .int (nI t), .int (nI k), .int (nI i), z] [] S J L R Q := by
    intro z
    cases g2 : inB ((nI i).toInt64 + 1) 0 ((nI w).toInt64 - 1)
    · simp only [E194_163, E194_164, E194_165, E194_166, E194_167, E194_168, E194_171, E194_174, E194_175, E194_176, E194_179, E194_180, E194_181, E194_184, E194_230, E194_231, isc hS hR, pk54 hS, pk56 hS, pl56 hS, pa56 hS, pi56 hS, pr54_3 hR, rfs, rfn, cs0, csi, csl, csr, csn, kti, ktl, ktr, ktn, ktv, ktf, true_and, and_true, and_self, ↓reduceIte, Nat.reduceAdd, Nat.reduceSub, Nat.reduceMul, Nat.reduceLT, Nat.reduceLeDiff, Nat.reduceEqDiff, true_or, or_true, false_or, or_false, not_true_eq_false, not_false_eq_true, reduceCtorEq, cmp_lt, cmp_gt, cmp_eq, Int32.reduceAdd, Int32.reduceSub, Int32.reduceMul, Int32.reduceLT, Int32.reduceToNatClampNeg, eq_self, ne_eq, Int64.reduceAdd, Int64.reduceSub, Int64.reduceMul, Int64.reduceLT, J6, ew, g2, bI_f, pt]
      exact hq true _ _ (by repeat (first | exact Gr.rf | assumption | refine Gr.p4 ?_ (by decide) | refine Gr.pa ?_ (by decide)))
    · simp only [E194_163, E194_164, E194_165, E194_166, E194_167, E194_168, E194_171, isc hS hR, pk54 hS, pk56 hS, pl56 hS, pa56 hS, pi56 hS, pr54_3 hR, rfs, rfn, cs0, csi, csl, csr, csn, kti, ktl, ktr, ktn, ktv, ktf, true_and, and_true, and_self, ↓reduceIte, Nat.reduceAdd, Nat.reduceSub, Nat.reduceMul, Nat.reduceLT, Nat.reduceLeDiff, Nat.reduceEqDiff, true_or, or_true, false_or, or_false, not_true_eq_false, not_false_eq_true, reduceCtorEq, cmp_lt, cmp_gt, cmp_eq, Int32.reduceAdd, Int32.reduceSub, Int32.reduceMul, Int32.reduceLT, Int32.reduceToNatClampNeg, eq_self, ne_eq, Int64.reduceAdd, Int64.reduceSub, Int64.reduceMul, Int64.reduceLT, J6, ew, g2, bI_t, n1_0]
      by_cases h4 : op = 4
      · have h4' : (op = 4) = True := eq_true h4
        simp only [E194_187, E194_188, E194_191, E194_192, E194_193, E194_194, E194_197, E194_198, E194_199, pk54 hS, pk56 hS, pl56 hS, pa56 hS, pi56 hS, pr54_3 hR, rfs, rfn, cs0, csi, csl, csr, csn, kti, ktl, ktr, ktn, ktv, ktf, true_and, and_true, and_self, ↓reduceIte, Nat.reduceAdd, Nat.reduceSub, Nat.reduceMul, Nat.reduceLT, Nat.reduceLeDiff, Nat.reduceEqDiff, true_or, or_true, false_or, or_false, not_true_eq_false, not_false_eq_true, reduceCtorEq, cmp_lt, cmp_gt, cmp_eq, Int32.reduceAdd, Int32.reduceSub, Int32.reduceMul, Int32.reduceLT, Int32.reduceToNatClampNeg, eq_self, ne_eq, Int64.reduceAdd, Int64.reduceSub, Int64.reduceMul, Int64.reduceLT, J6, a0, b0, hop, h4']
        refine mwe hS hR (by omega) (fun J2 q2 => ?_)
        have q3 := gJ.tr q2
        simp only [E194_202, E194_230, E194_231, rfs, rfn, cs0, csi, csl, csr, csn, kti, ktl, ktr, ktn, ktv, ktf, true_and, and_true, and_self, ↓reduceIte, Nat.reduceAdd, Nat.reduceSub, Nat.reduceMul, Nat.reduceLT, Nat.reduceLeDiff, Nat.reduceEqDiff, true_or, or_true, false_or, or_false, not_true_eq_false, not_false_eq_true, reduceCtorEq, cmp_lt, cmp_gt, cmp_eq, Int32.reduceAdd, Int32.reduceSub, Int32.reduceMul, Int32.reduceLT, Int32.reduceToNatClampNeg, eq_self, ne_eq, Int64.reduceAdd, Int64.reduceSub, Int64.reduceMul, Int64.reduceLT]
        exact hq true _ _ q3
      · simp only [E194_187, E194_188, E194_191, E194_192, E194_193, E194_194, E194_205, E194_206, E194_207, E194_208, E194_211, E194_212, ish hS, pk54 hS, pk56 hS, pl56 hS, pa56 hS, pi56 hS, pr54_3 hR, rfs, rfn, cs0, csi, csl, csr, csn, kti, ktl, ktr, ktn, ktv, ktf, true_and, and_true, and_self, ↓reduceIte, Nat.reduceAdd, Nat.reduceSub, Nat.reduceMul, Nat.reduceLT, Nat.reduceLeDiff, Nat.reduceEqDiff, true_or, or_true, false_or, or_false, not_true_eq_false, not_false_eq_true, reduceCtorEq, cmp_lt, cmp_gt, cmp_eq, Int32.reduceAdd, Int32.reduceSub, Int32.reduceMul, Int32.reduceLT, Int32.reduceToNatClampNeg, eq_self, ne_eq, Int64.reduceAdd, Int64.reduceSub, Int64.reduceMul, Int64.reduceLT, J6, a0, b0, hop, h4]
        refine use_ hS (fun y J2 q2 => ?_)
        have q3 := gJ.tr q2
        simp only [E194_212, E194_215, E194_218, E194_219, E194_220, E194_223, E194_224, E194_225, E194_226, E194_227, E194_230, E194_231, pk54 hS, rfs, rfn, cs0, csi, csl, csr, csn, kti, ktl, ktr, ktn, ktv, ktf, true_and, and_true, and_self, ↓reduceIte, Nat.reduceAdd, Nat.reduceSub, Nat.reduceMul, Nat.reduceLT, Nat.reduceLeDiff, Nat.reduceEqDiff, true_or, or_true, false_or, or_false, not_true_eq_false, not_false_eq_true, reduceCtorEq, cmp_lt, cmp_gt, cmp_eq, Int32.reduceAdd, Int32.reduceSub, Int32.reduceMul, Int32.reduceLT, Int32.reduceToNatClampNeg, eq_self, ne_eq, Int64.reduceAdd, Int64.reduceSub, Int64.reduceMul, Int64.reduceLT, pt]
        repeat' apply iteB
        all_goals exact hq true _ _ (by repeat (first | exact Gr.rf | assumption | refine Gr.p4 ?_ (by decide) | refine Gr.pa ?_ (by decide)))
  by_cases g0 : op.toInt = 0
  · obtain rfl := i32e 0 g0 rfl
    rw [show (if (0 : Int32).toInt < 0 ∨ 0 + (([80, 86, 163, 156] : List Int).length : Int) ≤ (0 : Int32).toInt then 163 else (([80, 86, 163, 156] : List Int).getD ((0 : Int32).toInt - 0).toNat 0).toNat) = 80 by decide]
    simp only [E194_80, E194_81, E194_82, pk54 hS, rfs, rfn, cs0, csi, csl, csr, csn, kti, ktl, ktr, ktn, ktv, ktf, true_and, and_true, and_self, ↓reduceIte, Nat.reduceAdd, Nat.reduceSub, Nat.reduceMul, Nat.reduceLT, Nat.reduceLeDiff, Nat.reduceEqDiff, true_or, or_true, false_or, or_false, not_true_eq_false, not_false_eq_true, reduceCtorEq, cmp_lt, cmp_gt, cmp_eq, Int32.reduceAdd, Int32.reduceSub, Int32.reduceMul, Int32.reduceLT, Int32.reduceToNatClampNeg, eq_self, ne_eq, Int64.reduceAdd, Int64.reduceSub, Int64.reduceMul, Int64.reduceLT]
    refine fir_m hS hR (by omega) hw (by rw [J6]; exact ew) (fun y J2 q2 => ?_)
    have q3 := gJ.tr q2
    simp only [E194_82, E194_85, rfs, rfn, cs0, csi, csl, csr, csn, kti, ktl, ktr, ktn, ktv, ktf, true_and, and_true, and_self, ↓reduceIte, Nat.reduceAdd, Nat.reduceSub, Nat.reduceMul, Nat.reduceLT, Nat.reduceLeDiff, Nat.reduceEqDiff, true_or, or_true, false_or, or_false, not_true_eq_false, not_false_eq_true, reduceCtorEq, cmp_lt, cmp_gt, cmp_eq, Int32.reduceAdd, Int32.reduceSub, Int32.reduceMul, Int32.reduceLT, Int32.reduceToNatClampNeg, eq_self, ne_eq, Int64.reduceAdd, Int64.reduceSub, Int64.reduceMul, Int64.reduceLT, bI_01]
    exact hq y _ _ q3
  by_cases g1 : op.toInt = 1
  · obtain rfl := i32e 1 g1 rfl
    rw [show (if (1 : Int32).toInt < 0 ∨ 0 + (([80, 86, 163, 156] : List Int).length : Int) ≤ (1 : Int32).toInt then 163 else (([80, 86, 163, 156] : List Int).getD ((1 : Int32).toInt - 0).toNat 0).toNat) = 86 by decide]
    simp only [E194_86, E194_87, E194_88, E194_89, E194_92, E194_93, E194_94, E194_95, E194_96, E194_97, E194_100, E194_101, E194_102, E194_103, E194_104, pk54 hS, pk56 hS, pl56 hS, pa56 hS, pi56 hS, pr54_3 hR, rfs, rfn, cs0, csi, csl, csr, csn, kti, ktl, ktr, ktn, ktv, ktf, true_and, and_true, and_self, ↓reduceIte, Nat.reduceAdd, Nat.reduceSub, Nat.reduceMul, Nat.reduceLT, Nat.reduceLeDiff, Nat.reduceEqDiff, true_or, or_true, false_or, or_false, not_true_eq_false, not_false_eq_true, reduceCtorEq, cmp_lt, cmp_gt, cmp_eq, Int32.reduceAdd, Int32.reduceSub, Int32.reduceMul, Int32.reduceLT, Int32.reduceToNatClampNeg, eq_self, ne_eq, Int64.reduceAdd, Int64.reduceSub, Int64.reduceMul, Int64.reduceLT, e2, e3, a2, a3, b2, b3, J6, f2, f3]
    refine rck (d := d) hS hR ht (by omega) hw hb (by rw [J6]; exact ew) (by rw [J6]; exact o2) (fun y J2 hJ2 => ?_)
    have K6 : J2 56 = I 56 := (hJ2 56 (by decide)).trans J6
    have gK : Gr I J2 := gJ.tr (Gr.r7 hJ2)
    cases g4 : inB y.toInt64 0 ((nI w).toInt64 - 1)
    · simp only [E194_104, E194_107, E194_109, E194_110, E194_112, E194_113, E194_116, E194_144, E194_145, E194_146, E194_149, E194_150, E194_151, E194_154, E194_155, isc hS hR, pk54 hS, pk56 hS, pl56 hS, pa56 hS, pi56 hS, pr54_3 hR, rfs, rfn, cs0, csi, csl, csr, csn, kti, ktl, ktr, ktn, ktv, ktf, true_and, and_true, and_self, ↓reduceIte, Nat.reduceAdd, Nat.reduceSub, Nat.reduceMul, Nat.reduceLT, Nat.reduceLeDiff, Nat.reduceEqDiff, true_or, or_true, false_or, or_false, not_true_eq_false, not_false_eq_true, reduceCtorEq, cmp_lt, cmp_gt, cmp_eq, Int32.reduceAdd, Int32.reduceSub, Int32.reduceMul, Int32.reduceLT, Int32.reduceToNatClampNeg, eq_self, ne_eq, Int64.reduceAdd, Int64.reduceSub, Int64.reduceMul, Int64.reduceLT, K6, ew, g4, bI_f, pt]
      exact hq true _ _ (by repeat (first | exact Gr.rf | assumption | refine Gr.p4 ?_ (by decide) | refine Gr.pa ?_ (by decide)))
    obtain ⟨j, j1, rfl⟩ := inC (by omega) g4
    simp only [E194_104, E194_107, E194_109, E194_110, E194_112, E194_113, E194_116, E194_119, E194_120, E194_122, E194_125, E194_126, E194_128, E194_131, isc hS hR, ner, pk54 hS, pk56 hS, pl56 hS, pa56 hS, pi56 hS, pr54_3 hR, rfs, rfn, cs0, csi, csl, csr, csn, kti, ktl, ktr, ktn, ktv, ktf, true_and, and_true, and_self, ↓reduceIte, Nat.reduceAdd, Nat.reduceSub, Nat.reduceMul, Nat.reduceLT, Nat.reduceLeDiff, Nat.reduceEqDiff, true_or, or_true, false_or, or_false, not_true_eq_false, not_false_eq_true, reduceCtorEq, cmp_lt, cmp_gt, cmp_eq, Int32.reduceAdd, Int32.reduceSub, Int32.reduceMul, Int32.reduceLT, Int32.reduceToNatClampNeg, eq_self, ne_eq, Int64.reduceAdd, Int64.reduceSub, Int64.reduceMul, Int64.reduceLT, K6, ew, g4, bI_t, n1_0]
    repeat' apply iteB
    all_goals first
      | (simp only [E194_144, E194_145, E194_146, E194_149, E194_150, E194_151, E194_154, E194_155, pk54 hS, rfs, rfn, cs0, csi, csl, csr, csn, kti, ktl, ktr, ktn, ktv, ktf, true_and, and_true, and_self, ↓reduceIte, Nat.reduceAdd, Nat.reduceSub, Nat.reduceMul, Nat.reduceLT, Nat.reduceLeDiff, Nat.reduceEqDiff, true_or, or_true, false_or, or_false, not_true_eq_false, not_false_eq_true, reduceCtorEq, cmp_lt, cmp_gt, cmp_eq, Int32.reduceAdd, Int32.reduceSub, Int32.reduceMul, Int32.reduceLT, Int32.reduceToNatClampNeg, eq_self, ne_eq, Int64.reduceAdd, Int64.reduceSub, Int64.reduceMul, Int64.reduceLT, pt]
         exact hq true _ _ (by repeat (first | exact Gr.rf | assumption | refine Gr.p4 ?_ (by decide) | refine Gr.pa ?_ (by decide))))
      | (simp only [E194_134, E194_135, E194_136, E194_138, pk54 hS, rfs, rfn, cs0, csi, csl, csr, csn, kti, ktl, ktr, ktn, ktv, ktf, true_and, and_true, and_self, ↓reduceIte, Nat.reduceAdd, Nat.reduceSub, Nat.reduceMul, Nat.reduceLT, Nat.reduceLeDiff, Nat.reduceEqDiff, true_or, or_true, false_or, or_false, not_true_eq_false, not_false_eq_true, reduceCtorEq, cmp_lt, cmp_gt, cmp_eq, Int32.reduceAdd, Int32.reduceSub, Int32.reduceMul, Int32.reduceLT, Int32.reduceToNatClampNeg, eq_self, ne_eq, Int64.reduceAdd, Int64.reduceSub, Int64.reduceMul, Int64.reduceLT]
         refine sth hS hR (by omega) (by omega) (fun J3 L3 q2 => ?_)
         have q3 := gK.tr q2
         simp only [E194_138, E194_141, E194_154, E194_155, rfs, rfn, cs0, csi, csl, csr, csn, kti, ktl, ktr, ktn, ktv, ktf, true_and, and_true, and_self, ↓reduceIte, Nat.reduceAdd, Nat.reduceSub, Nat.reduceMul, Nat.reduceLT, Nat.reduceLeDiff, Nat.reduceEqDiff, true_or, or_true, false_or, or_false, not_true_eq_false, not_false_eq_true, reduceCtorEq, cmp_lt, cmp_gt, cmp_eq, Int32.reduceAdd, Int32.reduceSub, Int32.reduceMul, Int32.reduceLT, Int32.reduceToNatClampNeg, eq_self, ne_eq, Int64.reduceAdd, Int64.reduceSub, Int64.reduceMul, Int64.reduceLT]
         exact hq true _ _ q3)
  by_cases g2 : op.toInt = 2
  · obtain rfl := i32e 2 g2 rfl
    rw [show (if (2 : Int32).toInt < 0 ∨ 0 + (([80, 86, 163, 156] : List Int).length : Int) ≤ (2 : Int32).toInt then 163 else (([80, 86, 163, 156] : List Int).getD ((2 : Int32).toInt - 0).toNat 0).toNat) = 163 by decide]
    exact kd _
  by_cases g3 : op.toInt = 3
  · obtain rfl := i32e 3 g3 rfl
    rw [show (if (3 : Int32).toInt < 0 ∨ 0 + (([80, 86, 163, 156] : List Int).length : Int) ≤ (3 : Int32).toInt then 163 else (([80, 86, 163, 156] : List Int).getD ((3 : Int32).toInt - 0).toNat 0).toNat) = 156 by decide]
    simp only [E194_156, E194_157, E194_158, pk54 hS, rfs, rfn, cs0, csi, csl, csr, csn, kti, ktl, ktr, ktn, ktv, ktf, true_and, and_true, and_self, ↓reduceIte, Nat.reduceAdd, Nat.reduceSub, Nat.reduceMul, Nat.reduceLT, Nat.reduceLeDiff, Nat.reduceEqDiff, true_or, or_true, false_or, or_false, not_true_eq_false, not_false_eq_true, reduceCtorEq, cmp_lt, cmp_gt, cmp_eq, Int32.reduceAdd, Int32.reduceSub, Int32.reduceMul, Int32.reduceLT, Int32.reduceToNatClampNeg, eq_self, ne_eq, Int64.reduceAdd, Int64.reduceSub, Int64.reduceMul, Int64.reduceLT]
    refine mpu hS hR (by omega) (fun J2 q2 => ?_)
    have q3 := gJ.tr q2
    simp only [E194_158, E194_161, E194_162, rfs, rfn, cs0, csi, csl, csr, csn, kti, ktl, ktr, ktn, ktv, ktf, true_and, and_true, and_self, ↓reduceIte, Nat.reduceAdd, Nat.reduceSub, Nat.reduceMul, Nat.reduceLT, Nat.reduceLeDiff, Nat.reduceEqDiff, true_or, or_true, false_or, or_false, not_true_eq_false, not_false_eq_true, reduceCtorEq, cmp_lt, cmp_gt, cmp_eq, Int32.reduceAdd, Int32.reduceSub, Int32.reduceMul, Int32.reduceLT, Int32.reduceToNatClampNeg, eq_self, ne_eq, Int64.reduceAdd, Int64.reduceSub, Int64.reduceMul, Int64.reduceLT]
    exact hq true _ _ q3
  have gd : op.toInt < 0 ∨ 0 + (([80, 86, 163, 156] : List Int).length : Int) ≤ op.toInt := by
    show op.toInt < 0 ∨ 0 + (4 : Int) ≤ op.toInt
    omega
  rw [if_pos gd]
  exact kd _
theorem rs0 (hS : Pm S) (hR : Pr R) (hq : ∀ J, Gq I J → J 54 41 = 0 → Q .null S J L R) : EvM (d + 1) 195 [.ref 54] S I L R Q := by
  simp only [M195, E195_0, E195_1, E195_2, E195_3, E195_4, E195_7, E195_8, E195_11, E195_12, E195_13, E195_16, E195_18, E195_19, E195_20, E195_21, E195_22, E195_23, E195_26, E195_27, E195_28, E195_29, E195_30, E195_33, E195_34, E195_35, E195_36, E195_39, E195_42, E195_43, E195_44, E195_47, E195_48, E195_49, E195_52, E195_53, E195_54, E195_57, E195_58, E195_59, E195_62, E195_63, E195_64, E195_67, E195_68, E195_69, E195_72, E195_73, E195_74, E195_77, E195_78, E195_79, E195_82, E195_83, E195_84, E195_87, E195_88, E195_89, E195_92, E195_93, E195_94, E195_97, E195_98, E195_99, E195_102, E195_103, E195_104, E195_107, E195_108, E195_109, E195_112, E195_113, E195_114, E195_117, E195_118, E195_119, E195_122, pk54 hS, pk56 hS, pl56 hS, pa56 hS, pi56 hS, pk64 hS, pl64 hS, pa64 hS, pi64 hS, pk65 hS, pl65 hS, pa65 hS, pi65 hS, pk66 hS, pl66 hS, pa66 hS, pi66 hS, pr54_3 hR, pr54_23 hR, pr54_24 hR, pr54_25 hR, rfs, rfn, cs0, csi, csl, csr, csn, kti, ktl, ktr, ktn, ktv, ktf, true_and, and_true, and_self, ↓reduceIte, Nat.reduceAdd, Nat.reduceSub, Nat.reduceMul, Nat.reduceLT, Nat.reduceLeDiff, Nat.reduceEqDiff, true_or, or_true, false_or, or_false, not_true_eq_false, not_false_eq_true, reduceCtorEq, cmp_lt, cmp_gt, cmp_eq, Int32.reduceAdd, Int32.reduceSub, Int32.reduceMul, Int32.reduceLT, Int32.reduceToNatClampNeg, eq_self, ne_eq, Int64.reduceAdd, Int64.reduceSub, Int64.reduceMul, Int64.reduceLT, inb_is, pt, pt_m]
  refine hq _ ?_ pt_s
  repeat (first | exact Gq.rf | refine Gq.p4 ?_ (by decide) | refine Gq.pa ?_ (by decide))
theorem gt_lp {r n w : Nat} {ex : Int32} {I0 : mI} (hS : Pm S) (hR : Pr R) (hr : r < 8) (hw : w ≤ 5) (ew : I0 56 0 = nI w) (hn : n ≤ 16) (en : I0 56 (60 + 1000 * r) = nI n) (hT : ∀ s, s < n → ∃ a b c e g, a ≤ b ∧ b ≤ c ∧ c ≤ e ∧ e ≤ 400 ∧ g ≤ 15 ∧ I0 56 (60 + 1000 * r + (11 + 10 * s)) = nI a ∧ I0 56 (60 + 1000 * r + (12 + 10 * s)) = nI b ∧ I0 56 (60 + 1000 * r + (13 + 10 * s)) = nI c ∧ I0 56 (60 + 1000 * r + (14 + 10 * s)) = nI e ∧ I0 56 (60 + 1000 * r + (17 + 10 * s)) = nI g ∧ Okc (fun k => I0 56 (60 + 1000 * r + k)) a b ∧ Okc (fun k => I0 56 (60 + 1000 * r + k)) b c ∧ Okc (fun k => I0 56 (60 + 1000 * r + k)) c e) (hx : ex = -1 ∨ ∃ i, i + 1 < n ∧ ex = nI i) (hq : ∀ J L', Gq I0 J → (∃ g, g ≤ 100 ∧ J 54 41 = nI g) → Q .null S J L' R) : ∀ (N g x : Nat) (J : mI) (L : mL) (y5 y6 y7 : Value), g + N = 100 → x ≤ 16 → J 54 41 = nI g → Gq I0 J → Ev (d + 5) 196 16 [.ref 54, .int (nI r), .int ex, .int (nI (60 + 1000 * r)), .int (nI x), y5, y6, y7] [] S J L R Q := by
  have t0 : inb (nI (60 + 1000 * r)) 8060 = True := inb_nI (by omega) (by decide)
  have t1 : (nI (60 + 1000 * r)).toNatClampNeg = 60 + 1000 * r := nI_clamp (by omega)
  intro N
  induction N with
  | zero =>
    intro g x J L y5 y6 y7 hg hx16 hJ gJ
    obtain rfl : g = 100 := by omega
    have J6 := gJ.w
    have e100 : (nI 100 < (100 : Int32)) = False := eq_false (by decide)
    by_cases h1 : nI x < nI n
    · simp only [E196_16, E196_18, E196_19, E196_22, E196_23, E196_24, E196_27, E196_28, E196_31, E196_33, E196_226, pk54 hS, pk56 hS, pl56 hS, pa56 hS, pi56 hS, pr54_3 hR, rfs, rfn, cs0, csi, csl, csr, csn, kti, ktl, ktr, ktn, ktv, ktf, true_and, and_true, and_self, ↓reduceIte, Nat.reduceAdd, Nat.reduceSub, Nat.reduceMul, Nat.reduceLT, Nat.reduceLeDiff, Nat.reduceEqDiff, true_or, or_true, false_or, or_false, not_true_eq_false, not_false_eq_true, reduceCtorEq, cmp_lt, cmp_gt, cmp_eq, Int32.reduceAdd, Int32.reduceSub, Int32.reduceMul, Int32.reduceLT, Int32.reduceToNatClampNeg, eq_self, ne_eq, Int64.reduceAdd, Int64.reduceSub, Int64.reduceMul, Int64.reduceLT, J6, en, t0, t1, h1, hJ, e100]
      exact hq _ _ gJ ⟨100, by omega, hJ⟩
    · simp only [E196_16, E196_18, E196_19, E196_22, E196_23, E196_24, E196_226, pk54 hS, pk56 hS, pl56 hS, pa56 hS, pi56 hS, pr54_3 hR, rfs, rfn, cs0, csi, csl, csr, csn, kti, ktl, ktr, ktn, ktv, ktf, true_and, and_true, and_self, ↓reduceIte, Nat.reduceAdd, Nat.reduceSub, Nat.reduceMul, Nat.reduceLT, Nat.reduceLeDiff, Nat.reduceEqDiff, true_or, or_true, false_or, or_false, not_true_eq_false, not_false_eq_true, reduceCtorEq, cmp_lt, cmp_gt, cmp_eq, Int32.reduceAdd, Int32.reduceSub, Int32.reduceMul, Int32.reduceLT, Int32.reduceToNatClampNeg, eq_self, ne_eq, Int64.reduceAdd, Int64.reduceSub, Int64.reduceMul, Int64.reduceLT, J6, en, t0, t1, h1]
      exact hq _ _ gJ ⟨100, by omega, hJ⟩
  | succ N ih =>
    intro g x J L y5 y6 y7 hg hx16 hJ gJ
    have J6 := gJ.w
    have e100 : (nI g < (100 : Int32)) = True := eq_true (nI_lt (a := g) (b := 100) (by omega) (by decide))
    by_cases h1 : x < n
    · have h1' : (nI x < nI n) = True := eq_true (nI_lt h1 (by omega))
      by_cases h2 : J 54 35 = -1
      · have h2' : (J 54 35 = -1) = True := eq_true h2
        simp only [E196_16, E196_18, E196_19, E196_22, E196_23, E196_24, E196_27, E196_28, E196_31, E196_33, E196_36, E196_37, E196_40, E196_41, E196_44, E196_45, E196_46, E196_49, E196_50, E196_51, pk54 hS, pk56 hS, pl56 hS, pa56 hS, pi56 hS, pr54_3 hR, rfs, rfn, cs0, csi, csl, csr, csn, kti, ktl, ktr, ktn, ktv, ktf, true_and, and_true, and_self, ↓reduceIte, Nat.reduceAdd, Nat.reduceSub, Nat.reduceMul, Nat.reduceLT, Nat.reduceLeDiff, Nat.reduceEqDiff, true_or, or_true, false_or, or_false, not_true_eq_false, not_false_eq_true, reduceCtorEq, cmp_lt, cmp_gt, cmp_eq, Int32.reduceAdd, Int32.reduceSub, Int32.reduceMul, Int32.reduceLT, Int32.reduceToNatClampNeg, eq_self, ne_eq, Int64.reduceAdd, Int64.reduceSub, Int64.reduceMul, Int64.reduceLT, J6, en, t0, t1, h1', hJ, e100, h2', nI_1, pt]
        have gK : Gq I0 (put J 54 41 (nI (g + 1))) := Gq.p4 gJ (by decide)
        have eK : put J 54 41 (nI (g + 1)) 54 41 = nI (g + 1) := pt_s
        generalize put J 54 41 (nI (g + 1)) = K at gK eK
        have K6 := gK.w
        have key2 : ∀ (s : Nat) (b : Bool) (J2 : mI) (L2 : mL) (y7 : Value), s < n → Gq I0 J2 → J2 54 41 = nI (g + 1) → Ev (d + 5) 196 162 [.ref 54, .int (nI r), .int ex, .int (nI (60 + 1000 * r)), .int (nI x), .int (nI s), .int (nI (60 + 1000 * r + 10 + 10 * s)), y7] [.int (bI b)] S J2 L2 R Q := by
          intro s b J2 L2 y7 hs g2 e2
          have Z6 := g2.w
          obtain ⟨a, b', c, e, q, k1, k2, k3, k4, k5, f1, f2, f3, f4, f5, o1, o2, o3⟩ := hT s hs
          have c0 : inb (nI (60 + 1000 * r + 10 + 10 * s)) 8060 = True := inb_nI (by omega) (by decide)
          have c1 : (nI (60 + 1000 * r + 10 + 10 * s)).toNatClampNeg = 60 + 1000 * r + 10 + 10 * s := nI_clamp (by omega)
          have c7 : nI (60 + 1000 * r + 10 + 10 * s) + 7 = nI (60 + 1000 * r + (17 + 10 * s)) := by rw [show (7 : Int32) = nI 7 from rfl, nI_add, show 60 + 1000 * r + 10 + 10 * s + 7 = 60 + 1000 * r + (17 + 10 * s) by omega]
          have d0 : inb (nI (60 + 1000 * r + (17 + 10 * s))) 8060 = True := inb_nI (by omega) (by decide)
          have d1 : (nI (60 + 1000 * r + (17 + 10 * s))).toNatClampNeg = 60 + 1000 * r + (17 + 10 * s) := nI_clamp (by omega)
          cases b
          · simp only [E196_162, E196_164, E196_166, E196_195, E196_196, E196_198, E196_216, E196_217, E196_220, E196_223, pk54 hS, rfs, rfn, cs0, csi, csl, csr, csn, kti, ktl, ktr, ktn, ktv, ktf, true_and, and_true, and_self, ↓reduceIte, Nat.reduceAdd, Nat.reduceSub, Nat.reduceMul, Nat.reduceLT, Nat.reduceLeDiff, Nat.reduceEqDiff, true_or, or_true, false_or, or_false, not_true_eq_false, not_false_eq_true, reduceCtorEq, cmp_lt, cmp_gt, cmp_eq, Int32.reduceAdd, Int32.reduceSub, Int32.reduceMul, Int32.reduceLT, Int32.reduceToNatClampNeg, eq_self, ne_eq, Int64.reduceAdd, Int64.reduceSub, Int64.reduceMul, Int64.reduceLT, bI_f, pt, nI_1]
            exact ih (g + 1) (x + 1) _ _ _ _ _ (by omega) (by omega) (by rw [pt_f (by decide)]; exact e2) (Gq.p4 g2 (by decide))
          · by_cases h5 : I0 56 (60 + 1000 * r + 10 + 10 * s) = 5
            · have h5' : (I0 56 (60 + 1000 * r + 10 + 10 * s) = 5) = True := eq_true h5
              simp only [E196_162, E196_164, E196_166, E196_169, E196_170, E196_173, E196_175, E196_176, E196_177, E196_180, E196_181, E196_184, E196_186, E196_188, E196_189, E196_190, E196_192, E196_223, pk54 hS, pk56 hS, pl56 hS, pa56 hS, pi56 hS, pr54_3 hR, rfs, rfn, cs0, csi, csl, csr, csn, kti, ktl, ktr, ktn, ktv, ktf, true_and, and_true, and_self, ↓reduceIte, Nat.reduceAdd, Nat.reduceSub, Nat.reduceMul, Nat.reduceLT, Nat.reduceLeDiff, Nat.reduceEqDiff, true_or, or_true, false_or, or_false, not_true_eq_false, not_false_eq_true, reduceCtorEq, cmp_lt, cmp_gt, cmp_eq, Int32.reduceAdd, Int32.reduceSub, Int32.reduceMul, Int32.reduceLT, Int32.reduceToNatClampNeg, eq_self, ne_eq, Int64.reduceAdd, Int64.reduceSub, Int64.reduceMul, Int64.reduceLT, bI_t, n1_0, Z6, c0, c1, h5', c7, d0, d1, f5]
              exact ih (g + 1) q _ _ _ _ _ (by omega) (by omega) e2 g2
            · simp only [E196_162, E196_164, E196_166, E196_169, E196_170, E196_173, E196_175, E196_176, E196_177, E196_195, E196_196, E196_198, E196_201, E196_202, E196_203, E196_205, pk54 hS, pk56 hS, pl56 hS, pa56 hS, pi56 hS, pr54_3 hR, rfs, rfn, cs0, csi, csl, csr, csn, kti, ktl, ktr, ktn, ktv, ktf, true_and, and_true, and_self, ↓reduceIte, Nat.reduceAdd, Nat.reduceSub, Nat.reduceMul, Nat.reduceLT, Nat.reduceLeDiff, Nat.reduceEqDiff, true_or, or_true, false_or, or_false, not_true_eq_false, not_false_eq_true, reduceCtorEq, cmp_lt, cmp_gt, cmp_eq, Int32.reduceAdd, Int32.reduceSub, Int32.reduceMul, Int32.reduceLT, Int32.reduceToNatClampNeg, eq_self, ne_eq, Int64.reduceAdd, Int64.reduceSub, Int64.reduceMul, Int64.reduceLT, bI_t, n1_0, Z6, c0, c1, h5]
              refine dos (d := d) (a := a) (b := b') (c := c) (e := e) (w := w) hS hR (by omega) (by omega) k1 k2 k3 k4 hw (by rw [Z6]; exact ew) (by rw [Z6, ← f1]; congr 1; omega) (by rw [Z6, ← f2]; congr 1; omega) (by rw [Z6, ← f3]; congr 1; omega) (by rw [Z6]; exact o1) (by rw [Z6]; exact o2) (fun y J3 L3 q3 => ?_)
              have q4 := g2.tr q3.q
              have e3 : J3 54 41 = nI (g + 1) := (q3.2 41 (by decide)).trans e2
              cases y
              · simp only [E196_205, E196_208, E196_211, E196_213, E196_216, E196_217, E196_220, E196_223, pk54 hS, rfs, rfn, cs0, csi, csl, csr, csn, kti, ktl, ktr, ktn, ktv, ktf, true_and, and_true, and_self, ↓reduceIte, Nat.reduceAdd, Nat.reduceSub, Nat.reduceMul, Nat.reduceLT, Nat.reduceLeDiff, Nat.reduceEqDiff, true_or, or_true, false_or, or_false, not_true_eq_false, not_false_eq_true, reduceCtorEq, cmp_lt, cmp_gt, cmp_eq, Int32.reduceAdd, Int32.reduceSub, Int32.reduceMul, Int32.reduceLT, Int32.reduceToNatClampNeg, eq_self, ne_eq, Int64.reduceAdd, Int64.reduceSub, Int64.reduceMul, Int64.reduceLT, bI_f, pt, nI_1]
                exact ih (g + 1) (x + 1) _ _ _ _ _ (by omega) (by omega) (by rw [pt_f (by decide)]; exact e3) (Gq.p4 q4 (by decide))
              · simp only [E196_205, E196_208, E196_211, E196_213, E196_216, E196_217, E196_220, E196_223, pk54 hS, rfs, rfn, cs0, csi, csl, csr, csn, kti, ktl, ktr, ktn, ktv, ktf, true_and, and_true, and_self, ↓reduceIte, Nat.reduceAdd, Nat.reduceSub, Nat.reduceMul, Nat.reduceLT, Nat.reduceLeDiff, Nat.reduceEqDiff, true_or, or_true, false_or, or_false, not_true_eq_false, not_false_eq_true, reduceCtorEq, cmp_lt, cmp_gt, cmp_eq, Int32.reduceAdd, Int32.reduceSub, Int32.reduceMul, Int32.reduceLT, Int32.reduceToNatClampNeg, eq_self, ne_eq, Int64.reduceAdd, Int64.reduceSub, Int64.reduceMul, Int64.reduceLT, bI_t, n1_0, pt, nI_1]
                exact ih (g + 1) (x + 1) _ _ _ _ _ (by omega) (by omega) (by rw [pt_f (by decide)]; exact e3) (Gq.p4 q4 (by decide))
        have key : ∀ (s : Nat) (y5 y6 y7 : Value), s < n → Ev (d + 5) 196 95 [.ref 54, .int (nI r), .int ex, .int (nI (60 + 1000 * r)), .int (nI x), y5, y6, y7] [.int (nI s)] S K L R Q := by
          intro s y5 y6 y7 hs
          obtain ⟨a, b', c, e, q, k1, k2, k3, k4, k5, f1, f2, f3, f4, f5, o1, o2, o3⟩ := hT s hs
          have m0 : nI (60 + 1000 * r) + 10 + 10 * nI s = nI (60 + 1000 * r + 10 + 10 * s) := by rw [show (10 : Int32) = nI 10 from rfl, pk_mul, nI_add, nI_add]
          have m3 : nI (60 + 1000 * r + 10 + 10 * s) + 3 = nI (60 + 1000 * r + (13 + 10 * s)) := by rw [show (3 : Int32) = nI 3 from rfl, nI_add, show 60 + 1000 * r + 10 + 10 * s + 3 = 60 + 1000 * r + (13 + 10 * s) by omega]
          have m4 : nI (60 + 1000 * r + 10 + 10 * s) + 4 = nI (60 + 1000 * r + (14 + 10 * s)) := by rw [show (4 : Int32) = nI 4 from rfl, nI_add, show 60 + 1000 * r + 10 + 10 * s + 4 = 60 + 1000 * r + (14 + 10 * s) by omega]
          have c3 : inb (nI (60 + 1000 * r + (13 + 10 * s))) 8060 = True := inb_nI (by omega) (by decide)
          have d3 : (nI (60 + 1000 * r + (13 + 10 * s))).toNatClampNeg = 60 + 1000 * r + (13 + 10 * s) := nI_clamp (by omega)
          have c4 : inb (nI (60 + 1000 * r + (14 + 10 * s))) 8060 = True := inb_nI (by omega) (by decide)
          have d4 : (nI (60 + 1000 * r + (14 + 10 * s))).toNatClampNeg = 60 + 1000 * r + (14 + 10 * s) := nI_clamp (by omega)
          by_cases h6 : nI c = nI e
          · have h6' : (nI c = nI e) = True := eq_true h6
            simp only [E196_95, E196_97, E196_98, E196_100, E196_101, E196_103, E196_105, E196_106, E196_107, E196_109, E196_110, E196_113, E196_115, E196_116, E196_117, E196_118, E196_119, E196_122, E196_124, E196_125, E196_126, E196_127, E196_157, E196_158, pk54 hS, pk56 hS, pl56 hS, pa56 hS, pi56 hS, pr54_3 hR, rfs, rfn, cs0, csi, csl, csr, csn, kti, ktl, ktr, ktn, ktv, ktf, true_and, and_true, and_self, ↓reduceIte, Nat.reduceAdd, Nat.reduceSub, Nat.reduceMul, Nat.reduceLT, Nat.reduceLeDiff, Nat.reduceEqDiff, true_or, or_true, false_or, or_false, not_true_eq_false, not_false_eq_true, reduceCtorEq, cmp_lt, cmp_gt, cmp_eq, Int32.reduceAdd, Int32.reduceSub, Int32.reduceMul, Int32.reduceLT, Int32.reduceToNatClampNeg, eq_self, ne_eq, Int64.reduceAdd, Int64.reduceSub, Int64.reduceMul, Int64.reduceLT, m0, m3, m4, c3, d3, c4, d4, K6, f3, f4, h6']
            exact key2 s true K L _ hs gK eK
          · simp only [E196_95, E196_97, E196_98, E196_100, E196_101, E196_103, E196_105, E196_106, E196_107, E196_109, E196_110, E196_113, E196_115, E196_116, E196_117, E196_118, E196_119, E196_122, E196_124, E196_125, E196_126, E196_127, E196_130, E196_131, E196_132, E196_133, E196_136, E196_138, E196_139, E196_140, E196_141, E196_142, E196_145, E196_147, E196_148, E196_149, E196_150, pk54 hS, pk56 hS, pl56 hS, pa56 hS, pi56 hS, pr54_3 hR, rfs, rfn, cs0, csi, csl, csr, csn, kti, ktl, ktr, ktn, ktv, ktf, true_and, and_true, and_self, ↓reduceIte, Nat.reduceAdd, Nat.reduceSub, Nat.reduceMul, Nat.reduceLT, Nat.reduceLeDiff, Nat.reduceEqDiff, true_or, or_true, false_or, or_false, not_true_eq_false, not_false_eq_true, reduceCtorEq, cmp_lt, cmp_gt, cmp_eq, Int32.reduceAdd, Int32.reduceSub, Int32.reduceMul, Int32.reduceLT, Int32.reduceToNatClampNeg, eq_self, ne_eq, Int64.reduceAdd, Int64.reduceSub, Int64.reduceMul, Int64.reduceLT, m0, m3, m4, c3, d3, c4, d4, K6, f3, f4, h6]
            refine rck (d := d + 1) hS hR (by omega) k4 hw k3 (by rw [K6]; exact ew) (by rw [K6]; exact o3) (fun y J2 hJ2 => ?_)
            have q2 : Gq I0 J2 := gK.tr (Gr.r7 hJ2).q
            have e2 : J2 54 41 = nI (g + 1) := by rw [hJ2 54 (by decide)]; exact eK
            by_cases h7 : y = 1
            · have h7' : (y = 1) = True := eq_true h7
              simp only [E196_150, E196_153, E196_154, E196_157, E196_158, rfs, rfn, cs0, csi, csl, csr, csn, kti, ktl, ktr, ktn, ktv, ktf, true_and, and_true, and_self, ↓reduceIte, Nat.reduceAdd, Nat.reduceSub, Nat.reduceMul, Nat.reduceLT, Nat.reduceLeDiff, Nat.reduceEqDiff, true_or, or_true, false_or, or_false, not_true_eq_false, not_false_eq_true, reduceCtorEq, cmp_lt, cmp_gt, cmp_eq, Int32.reduceAdd, Int32.reduceSub, Int32.reduceMul, Int32.reduceLT, Int32.reduceToNatClampNeg, eq_self, ne_eq, Int64.reduceAdd, Int64.reduceSub, Int64.reduceMul, Int64.reduceLT, h7']
              exact key2 s true J2 L _ hs q2 e2
            · simp only [E196_150, E196_153, E196_154, E196_161, rfs, rfn, cs0, csi, csl, csr, csn, kti, ktl, ktr, ktn, ktv, ktf, true_and, and_true, and_self, ↓reduceIte, Nat.reduceAdd, Nat.reduceSub, Nat.reduceMul, Nat.reduceLT, Nat.reduceLeDiff, Nat.reduceEqDiff, true_or, or_true, false_or, or_false, not_true_eq_false, not_false_eq_true, reduceCtorEq, cmp_lt, cmp_gt, cmp_eq, Int32.reduceAdd, Int32.reduceSub, Int32.reduceMul, Int32.reduceLT, Int32.reduceToNatClampNeg, eq_self, ne_eq, Int64.reduceAdd, Int64.reduceSub, Int64.reduceMul, Int64.reduceLT, h7]
              exact key2 s false J2 L _ hs q2 e2
        rcases hx with rfl | ⟨i, hi, rfl⟩
        · simp only [E196_54, E196_55, E196_56, E196_73, E196_75, rfs, rfn, cs0, csi, csl, csr, csn, kti, ktl, ktr, ktn, ktv, ktf, true_and, and_true, and_self, ↓reduceIte, Nat.reduceAdd, Nat.reduceSub, Nat.reduceMul, Nat.reduceLT, Nat.reduceLeDiff, Nat.reduceEqDiff, true_or, or_true, false_or, or_false, not_true_eq_false, not_false_eq_true, reduceCtorEq, cmp_lt, cmp_gt, cmp_eq, Int32.reduceAdd, Int32.reduceSub, Int32.reduceMul, Int32.reduceLT, Int32.reduceToNatClampNeg, eq_self, ne_eq, Int64.reduceAdd, Int64.reduceSub, Int64.reduceMul, Int64.reduceLT]
          exact key x _ _ _ h1
        · have p1 : (nI i = -1) = False := eq_false (fun z => nI_pos (n := i) (by omega) (by rw [z]; decide))
          by_cases z1 : x = i
          · subst z1
            simp only [E196_54, E196_55, E196_56, E196_59, E196_61, E196_62, E196_78, E196_80, E196_81, E196_84, E196_86, E196_87, E196_88, rfs, rfn, cs0, csi, csl, csr, csn, kti, ktl, ktr, ktn, ktv, ktf, true_and, and_true, and_self, ↓reduceIte, Nat.reduceAdd, Nat.reduceSub, Nat.reduceMul, Nat.reduceLT, Nat.reduceLeDiff, Nat.reduceEqDiff, true_or, or_true, false_or, or_false, not_true_eq_false, not_false_eq_true, reduceCtorEq, cmp_lt, cmp_gt, cmp_eq, Int32.reduceAdd, Int32.reduceSub, Int32.reduceMul, Int32.reduceLT, Int32.reduceToNatClampNeg, eq_self, ne_eq, Int64.reduceAdd, Int64.reduceSub, Int64.reduceMul, Int64.reduceLT, p1, nI_1]
            exact key (x + 1) _ _ _ (by omega)
          · have z1' : (nI x = nI i) = False := eq_false (fun z => z1 ((nI_eq (by omega) (by omega)).mp z))
            by_cases z2 : x = i + 1
            · subst z2
              simp only [E196_54, E196_55, E196_56, E196_59, E196_61, E196_62, E196_65, E196_67, E196_68, E196_69, E196_70, E196_78, E196_80, E196_81, E196_91, E196_93, E196_94, rfs, rfn, cs0, csi, csl, csr, csn, kti, ktl, ktr, ktn, ktv, ktf, true_and, and_true, and_self, ↓reduceIte, Nat.reduceAdd, Nat.reduceSub, Nat.reduceMul, Nat.reduceLT, Nat.reduceLeDiff, Nat.reduceEqDiff, true_or, or_true, false_or, or_false, not_true_eq_false, not_false_eq_true, reduceCtorEq, cmp_lt, cmp_gt, cmp_eq, Int32.reduceAdd, Int32.reduceSub, Int32.reduceMul, Int32.reduceLT, Int32.reduceToNatClampNeg, eq_self, ne_eq, Int64.reduceAdd, Int64.reduceSub, Int64.reduceMul, Int64.reduceLT, p1, z1', nI_1, nI_m1]
              exact key i _ _ _ (by omega)
            · have z2' : (nI x = nI (i + 1)) = False := eq_false (fun z => z2 ((nI_eq (by omega) (by omega)).mp z))
              simp only [E196_54, E196_55, E196_56, E196_59, E196_61, E196_62, E196_65, E196_67, E196_68, E196_69, E196_70, E196_73, E196_75, rfs, rfn, cs0, csi, csl, csr, csn, kti, ktl, ktr, ktn, ktv, ktf, true_and, and_true, and_self, ↓reduceIte, Nat.reduceAdd, Nat.reduceSub, Nat.reduceMul, Nat.reduceLT, Nat.reduceLeDiff, Nat.reduceEqDiff, true_or, or_true, false_or, or_false, not_true_eq_false, not_false_eq_true, reduceCtorEq, cmp_lt, cmp_gt, cmp_eq, Int32.reduceAdd, Int32.reduceSub, Int32.reduceMul, Int32.reduceLT, Int32.reduceToNatClampNeg, eq_self, ne_eq, Int64.reduceAdd, Int64.reduceSub, Int64.reduceMul, Int64.reduceLT, p1, z1', z2', nI_1]
              exact key x _ _ _ h1
      · simp only [E196_16, E196_18, E196_19, E196_22, E196_23, E196_24, E196_27, E196_28, E196_31, E196_33, E196_36, E196_37, E196_40, E196_41, E196_226, pk54 hS, pk56 hS, pl56 hS, pa56 hS, pi56 hS, pr54_3 hR, rfs, rfn, cs0, csi, csl, csr, csn, kti, ktl, ktr, ktn, ktv, ktf, true_and, and_true, and_self, ↓reduceIte, Nat.reduceAdd, Nat.reduceSub, Nat.reduceMul, Nat.reduceLT, Nat.reduceLeDiff, Nat.reduceEqDiff, true_or, or_true, false_or, or_false, not_true_eq_false, not_false_eq_true, reduceCtorEq, cmp_lt, cmp_gt, cmp_eq, Int32.reduceAdd, Int32.reduceSub, Int32.reduceMul, Int32.reduceLT, Int32.reduceToNatClampNeg, eq_self, ne_eq, Int64.reduceAdd, Int64.reduceSub, Int64.reduceMul, Int64.reduceLT, J6, en, t0, t1, h1', hJ, e100, h2]
        exact hq _ _ gJ ⟨g, by omega, hJ⟩
    · have h1' : (nI x < nI n) = False := eq_false (nI_nlt (by omega) (by omega))
      simp only [E196_16, E196_18, E196_19, E196_22, E196_23, E196_24, E196_226, pk54 hS, pk56 hS, pl56 hS, pa56 hS, pi56 hS, pr54_3 hR, rfs, rfn, cs0, csi, csl, csr, csn, kti, ktl, ktr, ktn, ktv, ktf, true_and, and_true, and_self, ↓reduceIte, Nat.reduceAdd, Nat.reduceSub, Nat.reduceMul, Nat.reduceLT, Nat.reduceLeDiff, Nat.reduceEqDiff, true_or, or_true, false_or, or_false, not_true_eq_false, not_false_eq_true, reduceCtorEq, cmp_lt, cmp_gt, cmp_eq, Int32.reduceAdd, Int32.reduceSub, Int32.reduceMul, Int32.reduceLT, Int32.reduceToNatClampNeg, eq_self, ne_eq, Int64.reduceAdd, Int64.reduceSub, Int64.reduceMul, Int64.reduceLT, J6, en, t0, t1, h1']
      exact hq _ _ gJ ⟨g, by omega, hJ⟩
theorem gth {r n : Nat} {ex : Int32} (hS : Pm S) (hR : Pr R) (h : Rw (I 56)) (hr : r < n) (hn8 : n ≤ 8) (hn : I 56 1 = nI n) (hx : ex = -1 ∨ ∃ i m, I 56 (60 + 1000 * r) = nI m ∧ m ≤ 16 ∧ i + 1 < m ∧ ex = nI i) (hq : ∀ J L', Gq I J → (∃ g, g ≤ 100 ∧ J 54 41 = nI g) → Q .null S J L' R) : EvM (d + 5) 196 [.ref 54, .int (nI r), .int ex] S I L R Q := by
  obtain ⟨w, w1, w2, ew⟩ := h.1
  obtain ⟨n', n1, n2, n3⟩ := h.2.2.2.2
  have hr' : r < n' := by
    have := (nI_eq (by omega) (by omega)).mp (hn.symm.trans n2)
    omega
  obtain ⟨m, m1, m2, m3⟩ := n3 r hr'
  have t2 : (60 : Int32) + 1000 * nI r = nI (60 + 1000 * r) := by rw [show (1000 : Int32) = nI 1000 from rfl, show (60 : Int32) = nI 60 from rfl, pk_mul, nI_add]
  have m2' : I 56 (60 + 1000 * r) = nI m := m2
  simp only [M196, E196_0, E196_1, pk54 hS, rfs, rfn, cs0, csi, csl, csr, csn, kti, ktl, ktr, ktn, ktv, ktf, true_and, and_true, and_self, ↓reduceIte, Nat.reduceAdd, Nat.reduceSub, Nat.reduceMul, Nat.reduceLT, Nat.reduceLeDiff, Nat.reduceEqDiff, true_or, or_true, false_or, or_false, not_true_eq_false, not_false_eq_true, reduceCtorEq, cmp_lt, cmp_gt, cmp_eq, Int32.reduceAdd, Int32.reduceSub, Int32.reduceMul, Int32.reduceLT, Int32.reduceToNatClampNeg, eq_self, ne_eq, Int64.reduceAdd, Int64.reduceSub, Int64.reduceMul, Int64.reduceLT]
  refine rs0 hS hR (fun J gJ e => ?_)
  simp only [E196_1, E196_4, E196_6, E196_9, E196_10, E196_11, E196_12, E196_13, E196_14, rfs, rfn, cs0, csi, csl, csr, csn, kti, ktl, ktr, ktn, ktv, ktf, true_and, and_true, and_self, ↓reduceIte, Nat.reduceAdd, Nat.reduceSub, Nat.reduceMul, Nat.reduceLT, Nat.reduceLeDiff, Nat.reduceEqDiff, true_or, or_true, false_or, or_false, not_true_eq_false, not_false_eq_true, reduceCtorEq, cmp_lt, cmp_gt, cmp_eq, Int32.reduceAdd, Int32.reduceSub, Int32.reduceMul, Int32.reduceLT, Int32.reduceToNatClampNeg, eq_self, ne_eq, Int64.reduceAdd, Int64.reduceSub, Int64.reduceMul, Int64.reduceLT, t2]
  refine gt_lp (d := d) (n := m) (w := w) (I0 := I) hS hR (by omega) w2 ew m1 m2' m3 ?_ hq 100 0 0 J L _ _ _ (by omega) (by omega) e gJ
  rcases hx with rfl | ⟨i, m', q1, q2, q3, rfl⟩
  · exact Or.inl rfl
  · have : nI m' = nI m := q1.symm.trans m2'
    have := (nI_eq (by omega) (by omega)).mp this
    exact Or.inr ⟨i, by omega, rfl⟩
end MT
