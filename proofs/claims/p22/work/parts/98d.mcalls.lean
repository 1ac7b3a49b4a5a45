/-! the reference's calls run, came, iron, welds, change, made, twelve: safety -/
def Gs_m (I J : mI) : Prop := (∀ a, (a < 64 ∨ 71 < a) → ¬ a = 54 → J a = I a) ∧ (∀ k, ¬ k = 0 → (k < 26 ∨ 42 < k) → J 54 k = I 54 k)
theorem Gs_m.rf {I : mI} : Gs_m I I := ⟨fun _ _ _ => rfl, fun _ _ _ => rfl⟩
theorem Gs_m.tr {I J K : mI} (h : Gs_m I J) (h2 : Gs_m J K) : Gs_m I K := ⟨fun a h1 h3 => (h2.1 a h1 h3).trans (h.1 a h1 h3), fun k h0 h1 => (h2.2 k h0 h1).trans (h.2 k h0 h1)⟩
theorem Gs_m.p4 {I J : mI} {k : Nat} {x : Int32} (h : Gs_m I J) (hk : k = 0 ∨ 26 ≤ k ∧ k ≤ 42) : Gs_m I (put J 54 k x) := ⟨fun a h1 h2 => by rw [pt_n h2]; exact h.1 a h1 h2, fun j h0 hj => by rw [pt_f (by omega)]; exact h.2 j h0 hj⟩
theorem Gs_m.pa {I J : mI} {a k : Nat} {x : Int32} (h : Gs_m I J) (ha : 64 ≤ a ∧ a ≤ 71) : Gs_m I (put J a k x) := ⟨fun b h1 h2 => by rw [pt_n (by omega)]; exact h.1 b h1 h2, fun j h0 hj => by rw [pt_m (by omega)]; exact h.2 j h0 hj⟩
theorem Gs_m.w {I J : mI} (h : Gs_m I J) : J 56 = I 56 := h.1 56 (by decide) (by decide)
theorem Gq.s {I J : mI} (h : Gq I J) : Gs_m I J := ⟨fun a h1 h2 => h.1 a (by omega) h2, fun k _ hk => h.2 k (by omega)⟩
theorem Gs_m.out {I J : mI} (h : Gs_m I J) : OutM I J := fun a ha => h.1 a (by omega) (by omega)
theorem Gs_m.rl {I J : mI} (h : Gs_m I J) : RlN I J := RlN.al (h.1 _ (by decide) (by decide)) (h.1 _ (by decide) (by decide)) (h.1 _ (by decide) (by decide)) (h.1 _ (by decide) (by decide)) (h.2 _ (by decide) (by decide)) (h.2 _ (by decide) (by decide))
theorem InvM.gs {I J : mI} {t : Nat} (h : InvM I t) (g : Gs_m I J) : InvM J t :=
  h.cg (g.1 _ (by decide) (by decide)) (g.1 _ (by decide) (by decide)) (g.1 _ (by decide) (by decide)) (g.1 _ (by decide) (by decide)) (g.1 _ (by decide) (by decide)) (g.2 _ (by decide) (by decide)) (g.2 _ (by decide) (by decide)) (g.2 _ (by decide) (by decide)) (g.2 _ (by decide) (by decide))
theorem InvM.ran {I J : mI} {t c : Nat} (h : InvM I t) (g : Gs_m I J) (hc : c ≤ 5) : InvM (put J 54 45 (nI c)) t := by
  have hJ := h.gs g
  have n : ∀ a, ¬ a = 54 → put J 54 45 (nI c) a = J a := fun a ha => pt_n ha
  have f : ∀ k, ¬ k = 45 → put J 54 45 (nI c) 54 k = J 54 k := fun k hk => pt_f hk
  have h1 := hJ.2.2.2.2.1
  have h2 := hJ.2.2.2.2.2
  refine ⟨by rw [n 56 (by decide)]; exact hJ.1, fun b hb z => ?_, by rw [f 7 (by decide)]; exact hJ.2.2.1, ⟨c, hc, pt_s⟩, ?_, ?_⟩
  · rw [n 58 (by decide)] at z
    rw [n 57 (by decide)]
    exact hJ.2.1 b hb z
  · unfold PlM
    rw [f 60 (by decide), n 56 (by decide), n 72 (by decide)]
    exact h1
  · unfold Stm
    rw [f 56 (by decide), n 77 (by decide)]
    exact h2
section MU
variable {d t : Nat} {S : mS} {I : mI} {L : mL} {R : mR} {Q : mQ}
theorem kpi (hS : Pm S) (hR : Pr R) (hq : ∀ J, Gs_m I J → Q .null S J L R) : EvM (d + 1) 202 [.ref 54] S I L R Q := by
  simp only [M202, E202_0, E202_1, E202_2, E202_3, E202_4, E202_7, E202_8, E202_11, E202_12, E202_13, E202_16, E202_17, E202_18, E202_19, E202_22, E202_25, pk54 hS, pk64 hS, pl64 hS, pa64 hS, pi64 hS, pk71 hS, pl71 hS, pa71 hS, pi71 hS, pr54_23 hR, pr54_49 hR, rfs, rfn, cs0, csi, csl, csr, csn, kti, ktl, ktr, ktn, ktv, ktf, true_and, and_true, and_self, ↓reduceIte, Nat.reduceAdd, Nat.reduceSub, Nat.reduceMul, Nat.reduceLT, Nat.reduceLeDiff, Nat.reduceEqDiff, true_or, or_true, false_or, or_false, not_true_eq_false, not_false_eq_true, reduceCtorEq, cmp_lt, cmp_gt, cmp_eq, Int32.reduceAdd, Int32.reduceSub, Int32.reduceMul, Int32.reduceLT, Int32.reduceToNatClampNeg, eq_self, ne_eq, Int64.reduceAdd, Int64.reduceSub, Int64.reduceMul, Int64.reduceLT, inb_is, pt, pt_m]
  refine hq _ ?_
  repeat (first | exact Gs_m.rf | refine Gs_m.pa ?_ (by decide))
theorem ap_lp_m {k c : Nat} (hS : Pm S) (hR : Pr R) (hc : c ≤ 5) (hk : k < 12) (ec : I 56 0 = nI c) (hq : ∀ x, Q (.int x) S I L R) : ∀ (q i : Nat) (x : Int32) (y : Value), i + q = c → Ev (d + 1) 203 4 [.ref 54, .int (nI k), .int x, .int (nI i), y] [] S I L R Q := by
  have z0 : inb 0 8060 = True := inb_nI (j := 0) (by decide) (by decide)
  intro q
  induction q with
  | zero =>
    intro i x y hi
    obtain rfl : i = c := by omega
    have e1 : (nI i < nI i) = False := eq_false (nI_nlt (by omega) (by omega))
    simp only [E203_4, E203_5, E203_6, E203_9, E203_10, E203_11, E203_55, E203_56, pk54 hS, pk56 hS, pl56 hS, pa56 hS, pi56 hS, pr54_3 hR, rfs, rfn, cs0, csi, csl, csr, csn, kti, ktl, ktr, ktn, ktv, ktf, true_and, and_true, and_self, ↓reduceIte, Nat.reduceAdd, Nat.reduceSub, Nat.reduceMul, Nat.reduceLT, Nat.reduceLeDiff, Nat.reduceEqDiff, true_or, or_true, false_or, or_false, not_true_eq_false, not_false_eq_true, reduceCtorEq, cmp_lt, cmp_gt, cmp_eq, Int32.reduceAdd, Int32.reduceSub, Int32.reduceMul, Int32.reduceLT, Int32.reduceToNatClampNeg, eq_self, ne_eq, Int64.reduceAdd, Int64.reduceSub, Int64.reduceMul, Int64.reduceLT, z0, ec, e1]
    exact hq _
  | succ q ih =>
    intro i x y hi
    have e1 : (nI i < nI c) = True := eq_true (nI_lt (by omega) (by omega))
    have a4 : inb (nI i) 5 = True := inb_nI (by omega) (by decide)
    have e5 : (5 : Int32) * nI k + nI i = nI (5 * k + i) := by rw [show (5 : Int32) = nI 5 from rfl, pk_mul, nI_add]
    have a5 : inb (nI (5 * k + i)) 60 = True := inb_nI (by omega) (by decide)
    simp only [E203_4, E203_5, E203_6, E203_9, E203_10, E203_11, E203_14, E203_15, E203_18, E203_19, E203_20, E203_21, E203_24, E203_25, E203_26, E203_27, E203_28, E203_29, E203_30, E203_31, E203_33, pk54 hS, pk56 hS, pl56 hS, pa56 hS, pi56 hS, pk64 hS, pl64 hS, pa64 hS, pi64 hS, pk71 hS, pl71 hS, pa71 hS, pi71 hS, pr54_3 hR, pr54_23 hR, pr54_49 hR, rfs, rfn, cs0, csi, csl, csr, csn, kti, ktl, ktr, ktn, ktv, ktf, true_and, and_true, and_self, ↓reduceIte, Nat.reduceAdd, Nat.reduceSub, Nat.reduceMul, Nat.reduceLT, Nat.reduceLeDiff, Nat.reduceEqDiff, true_or, or_true, false_or, or_false, not_true_eq_false, not_false_eq_true, reduceCtorEq, cmp_lt, cmp_gt, cmp_eq, Int32.reduceAdd, Int32.reduceSub, Int32.reduceMul, Int32.reduceLT, Int32.reduceToNatClampNeg, eq_self, ne_eq, Int64.reduceAdd, Int64.reduceSub, Int64.reduceMul, Int64.reduceLT, ec, e1, a4, z0, e5, a5]
    simp only [E203_34, E203_36, E203_39, E203_41, E203_42, E203_45, E203_47, E203_48, E203_49, E203_52, rfs, rfn, cs0, csi, csl, csr, csn, kti, ktl, ktr, ktn, ktv, ktf, true_and, and_true, and_self, ↓reduceIte, Nat.reduceAdd, Nat.reduceSub, Nat.reduceMul, Nat.reduceLT, Nat.reduceLeDiff, Nat.reduceEqDiff, true_or, or_true, false_or, or_false, not_true_eq_false, not_false_eq_true, reduceCtorEq, cmp_lt, cmp_gt, cmp_eq, Int32.reduceAdd, Int32.reduceSub, Int32.reduceMul, Int32.reduceLT, Int32.reduceToNatClampNeg, eq_self, ne_eq, Int64.reduceAdd, Int64.reduceSub, Int64.reduceMul, Int64.reduceLT, nI_1]
    repeat' apply iteB
    all_goals exact ih (i + 1) _ _ (by omega)
theorem apt {k c : Nat} (hS : Pm S) (hR : Pr R) (hc : c ≤ 5) (hk : k < 12) (ec : I 56 0 = nI c) (hq : ∀ x, Q (.int x) S I L R) : EvM (d + 1) 203 [.ref 54, .int (nI k)] S I L R Q := by
  simp only [M203, E203_0, E203_1, E203_2, E203_3, rfs, rfn, cs0, csi, csl, csr, csn, kti, ktl, ktr, ktn, ktv, ktf, true_and, and_true, and_self, ↓reduceIte, Nat.reduceAdd, Nat.reduceSub, Nat.reduceMul, Nat.reduceLT, Nat.reduceLeDiff, Nat.reduceEqDiff, true_or, or_true, false_or, or_false, not_true_eq_false, not_false_eq_true, reduceCtorEq, cmp_lt, cmp_gt, cmp_eq, Int32.reduceAdd, Int32.reduceSub, Int32.reduceMul, Int32.reduceLT, Int32.reduceToNatClampNeg, eq_self, ne_eq, Int64.reduceAdd, Int64.reduceSub, Int64.reduceMul, Int64.reduceLT]
  exact ap_lp_m (d := d) hS hR hc hk ec hq c 0 0 _ (by omega)
theorem m_run {r : Int32} (hS : Pm S) (hR : Pr R) (h : InvM I t) (hq : ∀ v J L', InvM J t → OutM I J → RlN I J → Q (.int v) S J L' R) : EvM (d + 6) 197 [.ref 54, .int r] S I L R Q := by
  obtain ⟨w, w1, e, _⟩ := h.1.2.2.2.2
  obtain ⟨c, c1, c2, ec⟩ := h.1.1
  have z0 : inb 0 8060 = True := inb_nI (j := 0) (by decide) (by decide)
  cases g : inB r.toInt64 0 ((nI w).toInt64 - 1)
  · simp only [M197, E197_0, E197_1, E197_2, E197_5, E197_6, E197_7, E197_10, E197_13, E197_14, E197_16, E197_19, isr hS hR, pt_m, e, g, bI_f, tel2 hS hR, pk54 hS, pk56 hS, pl56 hS, pa56 hS, pi56 hS, pr54_3 hR, rfs, rfn, cs0, csi, csl, csr, csn, kti, ktl, ktr, ktn, ktv, ktf, true_and, and_true, and_self, ↓reduceIte, Nat.reduceAdd, Nat.reduceSub, Nat.reduceMul, Nat.reduceLT, Nat.reduceLeDiff, Nat.reduceEqDiff, true_or, or_true, false_or, or_false, not_true_eq_false, not_false_eq_true, reduceCtorEq, cmp_lt, cmp_gt, cmp_eq, Int32.reduceAdd, Int32.reduceSub, Int32.reduceMul, Int32.reduceLT, Int32.reduceToNatClampNeg, eq_self, ne_eq, Int64.reduceAdd, Int64.reduceSub, Int64.reduceMul, Int64.reduceLT, pt]
    exact hq _ _ _ h.p0.tel (by repeat (first | exact OutM.rf | apply telF_o | refine OutM.pt ?_ (by decide) (by decide))) (by repeat (first | exact RlN.rf | apply RlN.tel | refine RlN.p4 ?_ (by decide) | refine RlN.pa ?_ (by decide)))
  · obtain ⟨i, i1, rfl⟩ := inC (by omega) g
    simp only [M197, E197_0, E197_1, E197_2, E197_5, E197_6, E197_7, E197_10, E197_13, E197_14, E197_16, E197_19, E197_20, E197_21, E197_22, E197_25, E197_26, E197_27, E197_28, isr hS hR, pt_m, e, g, bI_t, n1_0, pk54 hS, pk56 hS, pl56 hS, pa56 hS, pi56 hS, pr54_3 hR, rfs, rfn, cs0, csi, csl, csr, csn, kti, ktl, ktr, ktn, ktv, ktf, true_and, and_true, and_self, ↓reduceIte, Nat.reduceAdd, Nat.reduceSub, Nat.reduceMul, Nat.reduceLT, Nat.reduceLeDiff, Nat.reduceEqDiff, true_or, or_true, false_or, or_false, not_true_eq_false, not_false_eq_true, reduceCtorEq, cmp_lt, cmp_gt, cmp_eq, Int32.reduceAdd, Int32.reduceSub, Int32.reduceMul, Int32.reduceLT, Int32.reduceToNatClampNeg, eq_self, ne_eq, Int64.reduceAdd, Int64.reduceSub, Int64.reduceMul, Int64.reduceLT, pt]
    have gK : Gs_m I (put (put I 54 0 0) 54 42 (-1)) := Gs_m.p4 (Gs_m.p4 Gs_m.rf (by decide)) (by decide)
    generalize put (put I 54 0 0) 54 42 (-1) = K at gK
    refine gth (d := d) (n := w) hS hR (by rw [gK.w]; exact h.1) i1 w1 (by rw [gK.w]; exact e) (Or.inl rfl) (fun J L' gJ hg => ?_)
    obtain ⟨n, n1, hg⟩ := hg
    have gI := gK.tr gJ.s
    have J6 := gI.w
    simp only [E197_0, E197_1, E197_2, E197_5, E197_6, E197_7, E197_10, E197_13, E197_14, E197_16, E197_19, E197_20, E197_21, E197_22, E197_25, E197_26, E197_27, E197_28, E197_31, E197_32, E197_33, E197_36, E197_37, E197_38, E197_41, E197_42, E197_43, E197_44, E197_45, E197_48, E197_49, E197_52, E197_53, E197_54, E197_57, E197_58, E197_59, E197_60, E197_61, E197_64, E197_65, E197_66, E197_69, E197_70, E197_71, E197_72, E197_75, E197_78, E197_79, E197_82, E197_83, E197_84, E197_87, E197_88, E197_89, E197_92, E197_93, E197_94, E197_97, E197_98, E197_99, E197_102, E197_103, E197_104, E197_107, E197_108, E197_109, E197_112, E197_113, E197_114, E197_117, E197_118, E197_119, E197_122, E197_123, E197_124, E197_127, E197_128, E197_129, E197_132, E197_133, E197_134, E197_137, E197_138, E197_139, E197_142, E197_144, E197_145, E197_148, E197_149, E197_150, E197_153, E197_155, E197_156, E197_159, E197_160, E197_161, E197_164, E197_166, E197_167, E197_170, E197_171, E197_172, E197_175, E197_177, E197_178, E197_181, E197_182, E197_183, E197_186, E197_188, E197_189, E197_192, E197_193, E197_194, E197_197, E197_199, E197_200, E197_203, E197_204, E197_205, E197_206, E197_209, E197_212, telI hS hR (n := n) (by omega), pk54 hS, pk56 hS, pl56 hS, pa56 hS, pi56 hS, pk64 hS, pl64 hS, pa64 hS, pi64 hS, pk66 hS, pl66 hS, pa66 hS, pi66 hS, pk68 hS, pl68 hS, pa68 hS, pi68 hS, pk69 hS, pl69 hS, pa69 hS, pi69 hS, pk70 hS, pl70 hS, pa70 hS, pi70 hS, pr54_3 hR, pr54_23 hR, pr54_25 hR, pr54_46 hR, pr54_47 hR, pr54_48 hR, rfs, rfn, cs0, csi, csl, csr, csn, kti, ktl, ktr, ktn, ktv, ktf, true_and, and_true, and_self, ↓reduceIte, Nat.reduceAdd, Nat.reduceSub, Nat.reduceMul, Nat.reduceLT, Nat.reduceLeDiff, Nat.reduceEqDiff, true_or, or_true, false_or, or_false, not_true_eq_false, not_false_eq_true, reduceCtorEq, cmp_lt, cmp_gt, cmp_eq, Int32.reduceAdd, Int32.reduceSub, Int32.reduceMul, Int32.reduceLT, Int32.reduceToNatClampNeg, eq_self, ne_eq, Int64.reduceAdd, Int64.reduceSub, Int64.reduceMul, Int64.reduceLT, z0, J6, ec, inb_is, pt, pt_m, pt_f, hg]
    have hr := h.ran gI c2
    have oR : OutM I (put J 54 45 (nI c)) := OutM.pt gI.out (by decide) (by decide)
    have rR : RlN I (put J 54 45 (nI c)) := RlN.p4 gI.rl (by decide)
    generalize put J 54 45 (nI c) = K2 at hr oR rR ⊢
    have go : ∀ K3, Gs_m K2 K3 → InvM (telF K3 (nI n)) t ∧ OutM I (telF K3 (nI n)) ∧ RlN I (telF K3 (nI n)) := fun K3 g3 => ⟨InvM.tel (hr.gs g3), telF_o (oR.tr g3.out), (rR.tr g3.rl).tel⟩
    refine hq _ _ _ (go _ ?_).1 (go _ ?_).2.1 (go _ ?_).2.2
    all_goals repeat (first | exact Gs_m.rf | refine Gs_m.pa ?_ (by decide))
theorem m_came {x : Int32} (hS : Pm S) (hR : Pr R) (h : InvM I t) (hq : ∀ v J L', InvM J t → OutM I J → RlN I J → Q (.int v) S J L' R) : EvM (d + 2) 198 [.ref 54, .int x] S I L R Q := by
  have z1 : inb 11 8060 = True := inb_nI (j := 11) (by decide) (by decide)
  have z2 : inb 12 8060 = True := inb_nI (j := 12) (by decide) (by decide)
  have z3 : inb 13 8060 = True := inb_nI (j := 13) (by decide) (by decide)
  have y0 : inb 0 12 = True := inb_nI (j := 0) (by decide) (by decide)
  have y1 : inb 1 12 = True := inb_nI (j := 1) (by decide) (by decide)
  have hJ := h.p0 (x := 0)
  have oJ : OutM I (put I 54 0 0) := (by repeat (first | exact OutM.rf | apply telF_o | refine OutM.pt ?_ (by decide) (by decide)))
  have rJ : RlN I (put I 54 0 0) := (by repeat (first | exact RlN.rf | apply RlN.tel | refine RlN.p4 ?_ (by decide) | refine RlN.pa ?_ (by decide)))
  by_cases g0 : I 54 45 = 0
  · have g0' : (I 54 45 = 0) = True := eq_true g0
    simp only [M198, E198_0, E198_1, E198_2, E198_5, E198_6, E198_9, E198_24, E198_27, pk54 hS, rfs, rfn, cs0, csi, csl, csr, csn, kti, ktl, ktr, ktn, ktv, ktf, true_and, and_true, and_self, ↓reduceIte, Nat.reduceAdd, Nat.reduceSub, Nat.reduceMul, Nat.reduceLT, Nat.reduceLeDiff, Nat.reduceEqDiff, true_or, or_true, false_or, or_false, not_true_eq_false, not_false_eq_true, reduceCtorEq, cmp_lt, cmp_gt, cmp_eq, Int32.reduceAdd, Int32.reduceSub, Int32.reduceMul, Int32.reduceLT, Int32.reduceToNatClampNeg, eq_self, ne_eq, Int64.reduceAdd, Int64.reduceSub, Int64.reduceMul, Int64.reduceLT, pt, pt_f, g0']
    exact hq _ _ _ hJ oJ rJ
  cases g : inB x.toInt64 0 13
  · simp only [M198, E198_0, E198_1, E198_2, E198_5, E198_6, E198_9, E198_12, E198_13, E198_14, E198_15, E198_18, E198_21, E198_24, E198_27, inn, g, bI_f, pk54 hS, rfs, rfn, cs0, csi, csl, csr, csn, kti, ktl, ktr, ktn, ktv, ktf, true_and, and_true, and_self, ↓reduceIte, Nat.reduceAdd, Nat.reduceSub, Nat.reduceMul, Nat.reduceLT, Nat.reduceLeDiff, Nat.reduceEqDiff, true_or, or_true, false_or, or_false, not_true_eq_false, not_false_eq_true, reduceCtorEq, cmp_lt, cmp_gt, cmp_eq, Int32.reduceAdd, Int32.reduceSub, Int32.reduceMul, Int32.reduceLT, Int32.reduceToNatClampNeg, eq_self, ne_eq, Int64.reduceAdd, Int64.reduceSub, Int64.reduceMul, Int64.reduceLT, pt, pt_f, g0]
    exact hq _ _ _ hJ oJ rJ
  obtain ⟨i, _, i1, rfl⟩ := inN (a := 0) (b := 13) g rfl rfl (by decide)
  simp only [M198, E198_0, E198_1, E198_2, E198_5, E198_6, E198_9, E198_12, E198_13, E198_14, E198_15, E198_18, E198_21, inn, g, bI_t, n1_0, pk54 hS, rfs, rfn, cs0, csi, csl, csr, csn, kti, ktl, ktr, ktn, ktv, ktf, true_and, and_true, and_self, ↓reduceIte, Nat.reduceAdd, Nat.reduceSub, Nat.reduceMul, Nat.reduceLT, Nat.reduceLeDiff, Nat.reduceEqDiff, true_or, or_true, false_or, or_false, not_true_eq_false, not_false_eq_true, reduceCtorEq, cmp_lt, cmp_gt, cmp_eq, Int32.reduceAdd, Int32.reduceSub, Int32.reduceMul, Int32.reduceLT, Int32.reduceToNatClampNeg, eq_self, ne_eq, Int64.reduceAdd, Int64.reduceSub, Int64.reduceMul, Int64.reduceLT, pt, pt_f, g0]
  by_cases g2 : i = 12
  · subst g2
    have q : (nI 12 = 12) = True := eq_true rfl
    simp only [E198_28, E198_29, E198_31, E198_34, E198_35, E198_38, E198_40, E198_41, E198_42, E198_45, E198_46, E198_47, E198_48, E198_95, pk54 hS, pk56 hS, pl56 hS, pa56 hS, pi56 hS, pk69 hS, pl69 hS, pa69 hS, pi69 hS, pr54_3 hR, pr54_47 hR, rfs, rfn, cs0, csi, csl, csr, csn, kti, ktl, ktr, ktn, ktv, ktf, true_and, and_true, and_self, ↓reduceIte, Nat.reduceAdd, Nat.reduceSub, Nat.reduceMul, Nat.reduceLT, Nat.reduceLeDiff, Nat.reduceEqDiff, true_or, or_true, false_or, or_false, not_true_eq_false, not_false_eq_true, reduceCtorEq, cmp_lt, cmp_gt, cmp_eq, Int32.reduceAdd, Int32.reduceSub, Int32.reduceMul, Int32.reduceLT, Int32.reduceToNatClampNeg, eq_self, ne_eq, Int64.reduceAdd, Int64.reduceSub, Int64.reduceMul, Int64.reduceLT, z1, y0, q]
    exact hq _ _ _ hJ oJ rJ
  have g2' : (nI i = 12) = False := eq_false (fun z => g2 ((nI_eq (a := i) (b := 12) (by omega) (by decide)).mp z))
  by_cases g3 : i = 13
  · subst g3
    have q : (nI 13 = 13) = True := eq_true rfl
    simp only [E198_28, E198_29, E198_31, E198_51, E198_52, E198_54, E198_57, E198_58, E198_61, E198_63, E198_64, E198_65, E198_68, E198_69, E198_70, E198_71, E198_72, E198_75, E198_77, E198_78, E198_79, E198_82, E198_83, E198_84, E198_85, E198_86, E198_95, pk54 hS, pk56 hS, pl56 hS, pa56 hS, pi56 hS, pk69 hS, pl69 hS, pa69 hS, pi69 hS, pr54_3 hR, pr54_47 hR, rfs, rfn, cs0, csi, csl, csr, csn, kti, ktl, ktr, ktn, ktv, ktf, true_and, and_true, and_self, ↓reduceIte, Nat.reduceAdd, Nat.reduceSub, Nat.reduceMul, Nat.reduceLT, Nat.reduceLeDiff, Nat.reduceEqDiff, true_or, or_true, false_or, or_false, not_true_eq_false, not_false_eq_true, reduceCtorEq, cmp_lt, cmp_gt, cmp_eq, Int32.reduceAdd, Int32.reduceSub, Int32.reduceMul, Int32.reduceLT, Int32.reduceToNatClampNeg, eq_self, ne_eq, Int64.reduceAdd, Int64.reduceSub, Int64.reduceMul, Int64.reduceLT, z2, z3, y0, y1, g2', q]
    exact hq _ _ _ hJ oJ rJ
  have g3' : (nI i = 13) = False := eq_false (fun z => g3 ((nI_eq (a := i) (b := 13) (by omega) (by decide)).mp z))
  have a4 : inb (nI i) 12 = True := inb_nI (by omega) (by decide)
  simp only [E198_28, E198_29, E198_31, E198_51, E198_52, E198_54, E198_89, E198_90, E198_93, E198_94, E198_95, pk54 hS, pk69 hS, pl69 hS, pa69 hS, pi69 hS, pr54_47 hR, rfs, rfn, cs0, csi, csl, csr, csn, kti, ktl, ktr, ktn, ktv, ktf, true_and, and_true, and_self, ↓reduceIte, Nat.reduceAdd, Nat.reduceSub, Nat.reduceMul, Nat.reduceLT, Nat.reduceLeDiff, Nat.reduceEqDiff, true_or, or_true, false_or, or_false, not_true_eq_false, not_false_eq_true, reduceCtorEq, cmp_lt, cmp_gt, cmp_eq, Int32.reduceAdd, Int32.reduceSub, Int32.reduceMul, Int32.reduceLT, Int32.reduceToNatClampNeg, eq_self, ne_eq, Int64.reduceAdd, Int64.reduceSub, Int64.reduceMul, Int64.reduceLT, g2', g3', a4]
  exact hq _ _ _ hJ oJ rJ
theorem m_iron {x : Int32} (hS : Pm S) (hR : Pr R) (h : InvM I t) (hq : ∀ v J L', InvM J t → OutM I J → RlN I J → Q (.int v) S J L' R) : EvM (d + 2) 199 [.ref 54, .int x] S I L R Q := by
  obtain ⟨c, c1, ec⟩ := h.2.2.2.1
  have hJ := h.p0 (x := 0)
  have oJ : OutM I (put I 54 0 0) := (by repeat (first | exact OutM.rf | apply telF_o | refine OutM.pt ?_ (by decide) (by decide)))
  have rJ : RlN I (put I 54 0 0) := (by repeat (first | exact RlN.rf | apply RlN.tel | refine RlN.p4 ?_ (by decide) | refine RlN.pa ?_ (by decide)))
  cases g : inB x.toInt64 0 ((nI c).toInt64 - 1)
  · simp only [M199, E199_0, E199_1, E199_2, E199_5, E199_6, E199_7, E199_8, E199_9, E199_12, E199_13, E199_14, E199_15, E199_18, E199_21, E199_22, E199_25, E199_26, E199_27, E199_30, E199_31, inn, ec, g, bI_f, pk54 hS, rfs, rfn, cs0, csi, csl, csr, csn, kti, ktl, ktr, ktn, ktv, ktf, true_and, and_true, and_self, ↓reduceIte, Nat.reduceAdd, Nat.reduceSub, Nat.reduceMul, Nat.reduceLT, Nat.reduceLeDiff, Nat.reduceEqDiff, true_or, or_true, false_or, or_false, not_true_eq_false, not_false_eq_true, reduceCtorEq, cmp_lt, cmp_gt, cmp_eq, Int32.reduceAdd, Int32.reduceSub, Int32.reduceMul, Int32.reduceLT, Int32.reduceToNatClampNeg, eq_self, ne_eq, Int64.reduceAdd, Int64.reduceSub, Int64.reduceMul, Int64.reduceLT, pt, pt_f]
    exact hq _ _ _ hJ oJ rJ
  obtain ⟨i, i1, rfl⟩ := inC (by omega) g
  have a4 : inb (nI i) 5 = True := inb_nI (by omega) (by decide)
  simp only [M199, E199_0, E199_1, E199_2, E199_5, E199_6, E199_7, E199_8, E199_9, E199_12, E199_13, E199_14, E199_15, E199_18, E199_21, E199_22, E199_25, E199_26, E199_27, E199_30, E199_31, inn, ec, g, bI_t, n1_0, pk54 hS, pk68 hS, pl68 hS, pa68 hS, pi68 hS, pr54_46 hR, rfs, rfn, cs0, csi, csl, csr, csn, kti, ktl, ktr, ktn, ktv, ktf, true_and, and_true, and_self, ↓reduceIte, Nat.reduceAdd, Nat.reduceSub, Nat.reduceMul, Nat.reduceLT, Nat.reduceLeDiff, Nat.reduceEqDiff, true_or, or_true, false_or, or_false, not_true_eq_false, not_false_eq_true, reduceCtorEq, cmp_lt, cmp_gt, cmp_eq, Int32.reduceAdd, Int32.reduceSub, Int32.reduceMul, Int32.reduceLT, Int32.reduceToNatClampNeg, eq_self, ne_eq, Int64.reduceAdd, Int64.reduceSub, Int64.reduceMul, Int64.reduceLT, pt, pt_f, a4]
  exact hq _ _ _ hJ oJ rJ
def lw (k : Nat) : Int64 := [1, 100, 10000, 1000000, 100000000].getD k 1
theorem lw_s : ∀ k, k < 4 → lw k * 100 = lw (k + 1) := by decide
theorem lw_p : ∀ k, k < 5 → 0 < lw k := by decide
theorem l_ne0 {b : Int64} (h : 0 < b) : (b = 0) = False := eq_false (fun z => by rw [z] at h; exact absurd h (by decide))
theorem lrem_eq (x y : Int64) : x - x / y * y = x % y := by
  apply Int64.toInt_inj.mp
  have h1 := Int64.le_toInt (x % y)
  have h2 := Int64.toInt_lt (x % y)
  rw [Int64.toInt_sub, Int64.toInt_mul, Int64.toInt_div, Int.bmod_mul_bmod, Int.sub_bmod_bmod, Int.mul_comm (x.toInt.tdiv y.toInt), ← Int.tmod_def, ← Int64.toInt_mod]
  exact Int.bmod_eq_of_le_mul_two (by omega) (by omega)
theorem gcd_lp {x : Int32} {u v : Int64} (hq : ∀ a b y z, (a = 0) = False → Ev (d + 1) 200 113 [.ref 54, .int x, .long u, nv, .long v, nv, .long a, nv, .long b, nv, y, z] [] S I L R Q) : ∀ (n : Nat) (a b : Int64) (y z : Value), b.toInt ≤ (n : Int) → (0 < b ∨ (a = 0) = False) → Ev (d + 1) 200 88 [.ref 54, .int x, .long u, nv, .long v, nv, .long a, nv, .long b, nv, y, z] [] S I L R Q := by
  intro n
  induction n with
  | zero =>
    intro a b y z hb h
    have g : ¬ 0 < b := fun g => by
      rw [Int64.lt_iff_toInt_lt] at g
      have : (0 : Int64).toInt = 0 := rfl
      omega
    rw [E200_88]
    simp only [E200_90, E200_91, E200_92, rfs, rfn, cs0, csi, csl, csr, csn, kti, ktl, ktr, ktn, ktv, ktf, true_and, and_true, and_self, ↓reduceIte, Nat.reduceAdd, Nat.reduceSub, Nat.reduceMul, Nat.reduceLT, Nat.reduceLeDiff, Nat.reduceEqDiff, true_or, or_true, false_or, or_false, not_true_eq_false, not_false_eq_true, reduceCtorEq, cmp_lt, cmp_gt, cmp_eq, Int32.reduceAdd, Int32.reduceSub, Int32.reduceMul, Int32.reduceLT, Int32.reduceToNatClampNeg, eq_self, ne_eq, Int64.reduceAdd, Int64.reduceSub, Int64.reduceMul, Int64.reduceLT, g]
    exact hq a b y z (h.resolve_left g)
  | succ n ih =>
    intro a b y z hb h
    rw [E200_88]
    by_cases g : 0 < b
    · have e := l_ne0 g
      simp only [E200_90, E200_91, E200_92, E200_95, E200_97, E200_99, E200_100, E200_102, E200_104, E200_106, E200_108, E200_110, rfs, rfn, cs0, csi, csl, csr, csn, kti, ktl, ktr, ktn, ktv, ktf, true_and, and_true, and_self, ↓reduceIte, Nat.reduceAdd, Nat.reduceSub, Nat.reduceMul, Nat.reduceLT, Nat.reduceLeDiff, Nat.reduceEqDiff, true_or, or_true, false_or, or_false, not_true_eq_false, not_false_eq_true, reduceCtorEq, cmp_lt, cmp_gt, cmp_eq, Int32.reduceAdd, Int32.reduceSub, Int32.reduceMul, Int32.reduceLT, Int32.reduceToNatClampNeg, eq_self, ne_eq, Int64.reduceAdd, Int64.reduceSub, Int64.reduceMul, Int64.reduceLT, g, e]
      refine ih b (a - a / b * b) _ _ ?_ (Or.inr e)
      have g' := g
      rw [Int64.lt_iff_toInt_lt] at g'
      have z0 : (0 : Int64).toInt = 0 := rfl
      rw [z0] at g'
      have := Int.tmod_lt_of_pos a.toInt g'
      rw [lrem_eq, Int64.toInt_mod]
      omega
    · simp only [E200_90, E200_91, E200_92, rfs, rfn, cs0, csi, csl, csr, csn, kti, ktl, ktr, ktn, ktv, ktf, true_and, and_true, and_self, ↓reduceIte, Nat.reduceAdd, Nat.reduceSub, Nat.reduceMul, Nat.reduceLT, Nat.reduceLeDiff, Nat.reduceEqDiff, true_or, or_true, false_or, or_false, not_true_eq_false, not_false_eq_true, reduceCtorEq, cmp_lt, cmp_gt, cmp_eq, Int32.reduceAdd, Int32.reduceSub, Int32.reduceMul, Int32.reduceLT, Int32.reduceToNatClampNeg, eq_self, ne_eq, Int64.reduceAdd, Int64.reduceSub, Int64.reduceMul, Int64.reduceLT, g]
      exact hq a b y z (h.resolve_left g)
theorem mw_lp {x : Int32} (hS : Pm S) (hR : Pr R) (hq : ∀ u v y z, 0 < v → Ev (d + 1) 200 81 [.ref 54, .int x, .long u, nv, .long v, nv, y, z, nv, nv, nv, nv] [] S I L R Q) : ∀ (q i k : Nat) (u v : Int64) (z : Value), i + q = 4 → k ≤ i → v = lw k → Ev (d + 1) 200 34 [.ref 54, .int x, .long u, nv, .long v, nv, .int (nI i), z, nv, nv, nv, nv] [] S I L R Q := by
  have y9 : inb 9 12 = True := inb_nI (j := 9) (by decide) (by decide)
  intro q
  induction q with
  | zero =>
    intro i k u v z hi hk hv
    obtain rfl : i = 4 := by omega
    have e1 : (nI 4 < (4 : Int32)) = False := eq_false (by decide)
    rw [E200_34]
    simp only [E200_36, E200_37, rfs, rfn, cs0, csi, csl, csr, csn, kti, ktl, ktr, ktn, ktv, ktf, true_and, and_true, and_self, ↓reduceIte, Nat.reduceAdd, Nat.reduceSub, Nat.reduceMul, Nat.reduceLT, Nat.reduceLeDiff, Nat.reduceEqDiff, true_or, or_true, false_or, or_false, not_true_eq_false, not_false_eq_true, reduceCtorEq, cmp_lt, cmp_gt, cmp_eq, Int32.reduceAdd, Int32.reduceSub, Int32.reduceMul, Int32.reduceLT, Int32.reduceToNatClampNeg, eq_self, ne_eq, Int64.reduceAdd, Int64.reduceSub, Int64.reduceMul, Int64.reduceLT, e1]
    exact hq u v _ _ (by rw [hv]; exact lw_p k (by omega))
  | succ q ih =>
    intro i k u v z hi hk hv
    have e1 : (nI i < (4 : Int32)) = True := eq_true (nI_lt (a := i) (b := 4) (by omega) (by decide))
    have a4 : inb (nI i) 5 = True := inb_nI (by omega) (by decide)
    rw [E200_34]
    simp only [E200_36, E200_37, E200_40, E200_41, E200_44, E200_46, E200_47, E200_49, E200_50, E200_51, E200_52, E200_53, E200_56, E200_57, E200_58, E200_61, E200_63, E200_64, E200_65, E200_66, E200_67, E200_69, E200_72, E200_73, E200_75, E200_78, pk54 hS, pk69 hS, pl69 hS, pa69 hS, pi69 hS, pk70 hS, pl70 hS, pa70 hS, pi70 hS, pr54_47 hR, pr54_48 hR, rfs, rfn, cs0, csi, csl, csr, csn, kti, ktl, ktr, ktn, ktv, ktf, true_and, and_true, and_self, ↓reduceIte, Nat.reduceAdd, Nat.reduceSub, Nat.reduceMul, Nat.reduceLT, Nat.reduceLeDiff, Nat.reduceEqDiff, true_or, or_true, false_or, or_false, not_true_eq_false, not_false_eq_true, reduceCtorEq, cmp_lt, cmp_gt, cmp_eq, Int32.reduceAdd, Int32.reduceSub, Int32.reduceMul, Int32.reduceLT, Int32.reduceToNatClampNeg, eq_self, ne_eq, Int64.reduceAdd, Int64.reduceSub, Int64.reduceMul, Int64.reduceLT, e1, y9, a4, nI_1]
    apply iteB
    all_goals first
      | exact ih (i + 1) (k + 1) _ _ _ (by omega) (by omega) (by rw [hv, lw_s k (by omega)])
      | exact ih (i + 1) k _ _ _ (by omega) (by omega) hv
theorem m_welds {x : Int32} (hS : Pm S) (hR : Pr R) (h : InvM I t) (hq : ∀ v J L', InvM J t → OutM I J → RlN I J → Q (.long v) S J L' R) : EvM (d + 2) 200 [.ref 54, .int x] S I L R Q := by
  have hJ := h.p0 (x := 0)
  have oJ : OutM I (put I 54 0 0) := (by repeat (first | exact OutM.rf | apply telF_o | refine OutM.pt ?_ (by decide) (by decide)))
  have rJ : RlN I (put I 54 0 0) := (by repeat (first | exact RlN.rf | apply RlN.tel | refine RlN.p4 ?_ (by decide) | refine RlN.pa ?_ (by decide)))
  by_cases g0 : I 54 45 = 0
  · have g0' : (I 54 45 = 0) = True := eq_true g0
    simp only [M200, E200_0, E200_1, E200_2, E200_5, E200_6, E200_9, E200_22, E200_25, pk54 hS, rfs, rfn, cs0, csi, csl, csr, csn, kti, ktl, ktr, ktn, ktv, ktf, true_and, and_true, and_self, ↓reduceIte, Nat.reduceAdd, Nat.reduceSub, Nat.reduceMul, Nat.reduceLT, Nat.reduceLeDiff, Nat.reduceEqDiff, true_or, or_true, false_or, or_false, not_true_eq_false, not_false_eq_true, reduceCtorEq, cmp_lt, cmp_gt, cmp_eq, Int32.reduceAdd, Int32.reduceSub, Int32.reduceMul, Int32.reduceLT, Int32.reduceToNatClampNeg, eq_self, ne_eq, Int64.reduceAdd, Int64.reduceSub, Int64.reduceMul, Int64.reduceLT, pt, pt_f, g0']
    exact hq _ _ _ hJ oJ rJ
  cases g : inB x.toInt64 0 1
  · simp only [M200, E200_0, E200_1, E200_2, E200_5, E200_6, E200_9, E200_12, E200_13, E200_14, E200_15, E200_16, E200_19, E200_22, E200_25, inn, g, bI_f, pk54 hS, rfs, rfn, cs0, csi, csl, csr, csn, kti, ktl, ktr, ktn, ktv, ktf, true_and, and_true, and_self, ↓reduceIte, Nat.reduceAdd, Nat.reduceSub, Nat.reduceMul, Nat.reduceLT, Nat.reduceLeDiff, Nat.reduceEqDiff, true_or, or_true, false_or, or_false, not_true_eq_false, not_false_eq_true, reduceCtorEq, cmp_lt, cmp_gt, cmp_eq, Int32.reduceAdd, Int32.reduceSub, Int32.reduceMul, Int32.reduceLT, Int32.reduceToNatClampNeg, eq_self, ne_eq, Int64.reduceAdd, Int64.reduceSub, Int64.reduceMul, Int64.reduceLT, pt, pt_f, g0]
    exact hq _ _ _ hJ oJ rJ
  simp only [M200, E200_0, E200_1, E200_2, E200_5, E200_6, E200_9, E200_12, E200_13, E200_14, E200_15, E200_16, E200_19, E200_22, E200_25, E200_26, E200_27, E200_28, E200_29, E200_31, E200_32, inn, g, bI_t, n1_0, pk54 hS, rfs, rfn, cs0, csi, csl, csr, csn, kti, ktl, ktr, ktn, ktv, ktf, true_and, and_true, and_self, ↓reduceIte, Nat.reduceAdd, Nat.reduceSub, Nat.reduceMul, Nat.reduceLT, Nat.reduceLeDiff, Nat.reduceEqDiff, true_or, or_true, false_or, or_false, not_true_eq_false, not_false_eq_true, reduceCtorEq, cmp_lt, cmp_gt, cmp_eq, Int32.reduceAdd, Int32.reduceSub, Int32.reduceMul, Int32.reduceLT, Int32.reduceToNatClampNeg, eq_self, ne_eq, Int64.reduceAdd, Int64.reduceSub, Int64.reduceMul, Int64.reduceLT, pt, pt_f, g0]
  refine mw_lp (d := d + 1) hS hR (fun u v y z hv => ?_) 4 0 0 1 1 _ (by omega) (by omega) rfl
  simp only [E200_81, E200_82, E200_84, E200_86, rfs, rfn, cs0, csi, csl, csr, csn, kti, ktl, ktr, ktn, ktv, ktf, true_and, and_true, and_self, ↓reduceIte, Nat.reduceAdd, Nat.reduceSub, Nat.reduceMul, Nat.reduceLT, Nat.reduceLeDiff, Nat.reduceEqDiff, true_or, or_true, false_or, or_false, not_true_eq_false, not_false_eq_true, reduceCtorEq, cmp_lt, cmp_gt, cmp_eq, Int32.reduceAdd, Int32.reduceSub, Int32.reduceMul, Int32.reduceLT, Int32.reduceToNatClampNeg, eq_self, ne_eq, Int64.reduceAdd, Int64.reduceSub, Int64.reduceMul, Int64.reduceLT]
  refine gcd_lp (d := d + 1) (fun a b y z ha => ?_) v.toInt.toNat u v _ _ (by omega) (Or.inl hv)
  simp only [E200_113, E200_114, E200_117, E200_118, E200_120, E200_121, E200_124, E200_126, E200_128, E200_129, rfs, rfn, cs0, csi, csl, csr, csn, kti, ktl, ktr, ktn, ktv, ktf, true_and, and_true, and_self, ↓reduceIte, Nat.reduceAdd, Nat.reduceSub, Nat.reduceMul, Nat.reduceLT, Nat.reduceLeDiff, Nat.reduceEqDiff, true_or, or_true, false_or, or_false, not_true_eq_false, not_false_eq_true, reduceCtorEq, cmp_lt, cmp_gt, cmp_eq, Int32.reduceAdd, Int32.reduceSub, Int32.reduceMul, Int32.reduceLT, Int32.reduceToNatClampNeg, eq_self, ne_eq, Int64.reduceAdd, Int64.reduceSub, Int64.reduceMul, Int64.reduceLT, ha]
  repeat' apply iteB
  all_goals exact hq _ _ _ hJ oJ rJ
theorem cel2 : ∀ c, c < 17 → ((nI c).toInt64 - 2).toInt = (c : Int) - 2 := by decide
theorem inE {x : Int32} {c : Nat} (hc : c < 17) (h : inB x.toInt64 0 ((nI c).toInt64 - 2) = true) : ∃ n, n + 1 < c ∧ x = nI n := by
  have := inI h (a := 0) (b := (c : Int) - 2) rfl (cel2 c hc)
  exact ⟨x.toInt.toNat, by omega, ti_nI (z := x.toInt) rfl (by omega) (by omega)⟩
theorem m_change {r i : Int32} (hS : Pm S) (hR : Pr R) (h : InvM I t) (hq : ∀ v J L', InvM J t → OutM I J → RlN I J → Q (.int v) S J L' R) : EvM (d + 6) 201 [.ref 54, .int r, .int i] S I L R Q := by
  obtain ⟨w, w1, e, hT⟩ := h.1.2.2.2.2
  obtain ⟨c, c1, c2, ec⟩ := h.1.1
  have hJ := h.p0 (x := 0)
  have oJ : OutM I (put I 54 0 0) := (by repeat (first | exact OutM.rf | apply telF_o | refine OutM.pt ?_ (by decide) (by decide)))
  have rJ : RlN I (put I 54 0 0) := (by repeat (first | exact RlN.rf | apply RlN.tel | refine RlN.p4 ?_ (by decide) | refine RlN.pa ?_ (by decide)))
  cases g : inB r.toInt64 0 ((nI w).toInt64 - 1)
  · simp only [M201, E201_0, E201_1, E201_2, E201_5, E201_6, E201_7, E201_10, E201_40, E201_41, isr hS hR, pt_m, e, g, bI_f, pk54 hS, pk56 hS, pl56 hS, pa56 hS, pi56 hS, pr54_3 hR, rfs, rfn, cs0, csi, csl, csr, csn, kti, ktl, ktr, ktn, ktv, ktf, true_and, and_true, and_self, ↓reduceIte, Nat.reduceAdd, Nat.reduceSub, Nat.reduceMul, Nat.reduceLT, Nat.reduceLeDiff, Nat.reduceEqDiff, true_or, or_true, false_or, or_false, not_true_eq_false, not_false_eq_true, reduceCtorEq, cmp_lt, cmp_gt, cmp_eq, Int32.reduceAdd, Int32.reduceSub, Int32.reduceMul, Int32.reduceLT, Int32.reduceToNatClampNeg, eq_self, ne_eq, Int64.reduceAdd, Int64.reduceSub, Int64.reduceMul, Int64.reduceLT, pt]
    exact hq _ _ _ hJ oJ rJ
  obtain ⟨j, j1, rfl⟩ := inC (by omega) g
  obtain ⟨m, m1, m2, _⟩ := hT j j1
  have m2' : I 56 (60 + 1000 * j) = nI m := m2
  have t2 : (60 : Int32) + 1000 * nI j = nI (60 + 1000 * j) := by rw [show (1000 : Int32) = nI 1000 from rfl, show (60 : Int32) = nI 60 from rfl, pk_mul, nI_add]
  have f3 : inb (nI (60 + 1000 * j)) 8060 = True := inb_nI (by omega) (by decide)
  have f4 : (nI (60 + 1000 * j)).toNatClampNeg = 60 + 1000 * j := nI_clamp (by omega)
  cases g2 : inB i.toInt64 0 ((nI m).toInt64 - 2)
  · simp only [M201, E201_0, E201_1, E201_2, E201_5, E201_6, E201_7, E201_10, E201_13, E201_14, E201_15, E201_16, E201_17, E201_20, E201_22, E201_25, E201_26, E201_27, E201_28, E201_29, E201_30, E201_33, E201_34, E201_37, E201_40, E201_41, isr hS hR, inn, pt_m, e, g, g2, bI_f, bI_t, n1_0, pk54 hS, pk56 hS, pl56 hS, pa56 hS, pi56 hS, pr54_3 hR, rfs, rfn, cs0, csi, csl, csr, csn, kti, ktl, ktr, ktn, ktv, ktf, true_and, and_true, and_self, ↓reduceIte, Nat.reduceAdd, Nat.reduceSub, Nat.reduceMul, Nat.reduceLT, Nat.reduceLeDiff, Nat.reduceEqDiff, true_or, or_true, false_or, or_false, not_true_eq_false, not_false_eq_true, reduceCtorEq, cmp_lt, cmp_gt, cmp_eq, Int32.reduceAdd, Int32.reduceSub, Int32.reduceMul, Int32.reduceLT, Int32.reduceToNatClampNeg, eq_self, ne_eq, Int64.reduceAdd, Int64.reduceSub, Int64.reduceMul, Int64.reduceLT, pt, t2, f3, f4, m2']
    exact hq _ _ _ hJ oJ rJ
  obtain ⟨k, k1, rfl⟩ := inE (by omega) g2
  simp only [M201, E201_0, E201_1, E201_2, E201_5, E201_6, E201_7, E201_10, E201_13, E201_14, E201_15, E201_16, E201_17, E201_20, E201_22, E201_25, E201_26, E201_27, E201_28, E201_29, E201_30, E201_33, E201_34, E201_37, E201_42, E201_43, E201_44, E201_47, E201_48, E201_49, E201_50, isr hS hR, inn, pt_m, e, g, g2, bI_t, n1_0, pk54 hS, pk56 hS, pl56 hS, pa56 hS, pi56 hS, pr54_3 hR, rfs, rfn, cs0, csi, csl, csr, csn, kti, ktl, ktr, ktn, ktv, ktf, true_and, and_true, and_self, ↓reduceIte, Nat.reduceAdd, Nat.reduceSub, Nat.reduceMul, Nat.reduceLT, Nat.reduceLeDiff, Nat.reduceEqDiff, true_or, or_true, false_or, or_false, not_true_eq_false, not_false_eq_true, reduceCtorEq, cmp_lt, cmp_gt, cmp_eq, Int32.reduceAdd, Int32.reduceSub, Int32.reduceMul, Int32.reduceLT, Int32.reduceToNatClampNeg, eq_self, ne_eq, Int64.reduceAdd, Int64.reduceSub, Int64.reduceMul, Int64.reduceLT, pt, t2, f3, f4, m2']
  have gK : Gs_m I (put (put I 54 0 0) 54 42 (-1)) := Gs_m.p4 (Gs_m.p4 Gs_m.rf (by decide)) (by decide)
  generalize put (put I 54 0 0) 54 42 (-1) = K at gK
  refine gth (d := d) (n := w) hS hR (by rw [gK.w]; exact h.1) j1 w1 (by rw [gK.w]; exact e) (Or.inl rfl) (fun J L' gJ _ => ?_)
  have gI := gK.tr gJ.s
  simp only [E201_50, E201_53, E201_54, E201_57, E201_58, E201_59, E201_62, E201_64, E201_65, E201_68, E201_70, E201_71, E201_74, E201_76, E201_77, E201_80, E201_82, E201_83, pk54 hS, rfs, rfn, cs0, csi, csl, csr, csn, kti, ktl, ktr, ktn, ktv, ktf, true_and, and_true, and_self, ↓reduceIte, Nat.reduceAdd, Nat.reduceSub, Nat.reduceMul, Nat.reduceLT, Nat.reduceLeDiff, Nat.reduceEqDiff, true_or, or_true, false_or, or_false, not_true_eq_false, not_false_eq_true, reduceCtorEq, cmp_lt, cmp_gt, cmp_eq, Int32.reduceAdd, Int32.reduceSub, Int32.reduceMul, Int32.reduceLT, Int32.reduceToNatClampNeg, eq_self, ne_eq, Int64.reduceAdd, Int64.reduceSub, Int64.reduceMul, Int64.reduceLT]
  refine kpi hS hR (fun J2 q2 => ?_)
  have gI2 := gI.tr q2
  simp only [E201_83, E201_86, E201_87, E201_88, E201_89, pk54 hS, rfs, rfn, cs0, csi, csl, csr, csn, kti, ktl, ktr, ktn, ktv, ktf, true_and, and_true, and_self, ↓reduceIte, Nat.reduceAdd, Nat.reduceSub, Nat.reduceMul, Nat.reduceLT, Nat.reduceLeDiff, Nat.reduceEqDiff, true_or, or_true, false_or, or_false, not_true_eq_false, not_false_eq_true, reduceCtorEq, cmp_lt, cmp_gt, cmp_eq, Int32.reduceAdd, Int32.reduceSub, Int32.reduceMul, Int32.reduceLT, Int32.reduceToNatClampNeg, eq_self, ne_eq, Int64.reduceAdd, Int64.reduceSub, Int64.reduceMul, Int64.reduceLT]
  refine gth (d := d) (n := w) hS hR (by rw [gI2.w]; exact h.1) j1 w1 (by rw [gI2.w]; exact e) (Or.inr ⟨k, m, by rw [gI2.w]; exact m2', m1, k1, rfl⟩) (fun J3 L3 q3 _ => ?_)
  have gI3 := gI2.tr q3.s
  have hA : ∀ z, Ev (d + 6) 201 148 [.ref 54, .int (nI j), .int (nI k), .int (J 54 36), .int (J 54 37), .int (J 54 38), .int (J 54 39), .int (J 54 40), z] [] S J3 L3 R Q := by
    intro z
    simp only [E201_148, E201_149, E201_150, pk54 hS, rfs, rfn, cs0, csi, csl, csr, csn, kti, ktl, ktr, ktn, ktv, ktf, true_and, and_true, and_self, ↓reduceIte, Nat.reduceAdd, Nat.reduceSub, Nat.reduceMul, Nat.reduceLT, Nat.reduceLeDiff, Nat.reduceEqDiff, true_or, or_true, false_or, or_false, not_true_eq_false, not_false_eq_true, reduceCtorEq, cmp_lt, cmp_gt, cmp_eq, Int32.reduceAdd, Int32.reduceSub, Int32.reduceMul, Int32.reduceLT, Int32.reduceToNatClampNeg, eq_self, ne_eq, Int64.reduceAdd, Int64.reduceSub, Int64.reduceMul, Int64.reduceLT]
    refine apt (k := 0) hS hR c2 (by decide) (by rw [gI3.w]; exact ec) (fun x => ?_)
    simp only [E201_150, E201_153, E201_156, E201_157, E201_160, E201_161, rfs, rfn, cs0, csi, csl, csr, csn, kti, ktl, ktr, ktn, ktv, ktf, true_and, and_true, and_self, ↓reduceIte, Nat.reduceAdd, Nat.reduceSub, Nat.reduceMul, Nat.reduceLT, Nat.reduceLeDiff, Nat.reduceEqDiff, true_or, or_true, false_or, or_false, not_true_eq_false, not_false_eq_true, reduceCtorEq, cmp_lt, cmp_gt, cmp_eq, Int32.reduceAdd, Int32.reduceSub, Int32.reduceMul, Int32.reduceLT, Int32.reduceToNatClampNeg, eq_self, ne_eq, Int64.reduceAdd, Int64.reduceSub, Int64.reduceMul, Int64.reduceLT]
    repeat' apply iteB
    all_goals exact hq _ _ _ (h.gs gI3) gI3.out gI3.rl
  simp only [E201_89, E201_92, E201_93, E201_94, E201_97, E201_100, E201_102, E201_103, E201_106, E201_109, E201_111, E201_112, E201_115, E201_118, E201_120, E201_121, E201_124, E201_127, E201_129, E201_130, E201_133, E201_136, E201_137, E201_140, E201_141, E201_143, E201_145, E201_160, E201_161, pk54 hS, rfs, rfn, cs0, csi, csl, csr, csn, kti, ktl, ktr, ktn, ktv, ktf, true_and, and_true, and_self, ↓reduceIte, Nat.reduceAdd, Nat.reduceSub, Nat.reduceMul, Nat.reduceLT, Nat.reduceLeDiff, Nat.reduceEqDiff, true_or, or_true, false_or, or_false, not_true_eq_false, not_false_eq_true, reduceCtorEq, cmp_lt, cmp_gt, cmp_eq, Int32.reduceAdd, Int32.reduceSub, Int32.reduceMul, Int32.reduceLT, Int32.reduceToNatClampNeg, eq_self, ne_eq, Int64.reduceAdd, Int64.reduceSub, Int64.reduceMul, Int64.reduceLT, n1_0]
  repeat' apply iteB
  all_goals first
    | exact hq _ _ _ (h.gs gI3) gI3.out gI3.rl
    | exact hA _
theorem md_lp {x a b : Int32} {m : Int64} {c : Nat} (hS : Pm S) (hR : Pr R) (hc : c ≤ 5) : ∀ (j : Nat) (v : Int32) (I : mI) (y : Value), j ≤ c → (∀ J v y, (∀ a, ¬ a = 71 → J a = I a) → Ev (d + 1) 204 100 [.ref 54, .int x, .int a, .int b, .int (nI c), .long m, nv, .int v, .int (nI 0 - 1), y] [] S J L R Q) → (∀ J, (∀ a, ¬ a = 71 → J a = I a) → Q (.int (-1)) S J L R) → Ev (d + 1) 204 58 [.ref 54, .int x, .int a, .int b, .int (nI c), .long m, nv, .int v, .int (nI j - 1), y] [] S I L R Q := by
  have n10 : ((10 : Int32) = 0) = False := eq_false (by decide)
  intro j
  induction j with
  | zero =>
    intro v I y hj h1 h2
    have e1 : (nI 0 - 1 < (0 : Int32)) = True := eq_true (by decide)
    simp only [E204_58, E204_60, rfs, rfn, cs0, csi, csl, csr, csn, kti, ktl, ktr, ktn, ktv, ktf, true_and, and_true, and_self, ↓reduceIte, Nat.reduceAdd, Nat.reduceSub, Nat.reduceMul, Nat.reduceLT, Nat.reduceLeDiff, Nat.reduceEqDiff, true_or, or_true, false_or, or_false, not_true_eq_false, not_false_eq_true, reduceCtorEq, cmp_lt, cmp_gt, cmp_eq, Int32.reduceAdd, Int32.reduceSub, Int32.reduceMul, Int32.reduceLT, Int32.reduceToNatClampNeg, eq_self, ne_eq, Int64.reduceAdd, Int64.reduceSub, Int64.reduceMul, Int64.reduceLT, e1]
    exact h1 I v y (fun _ _ => rfl)
  | succ j ih =>
    intro v I y hj h1 h2
    have e1 : (nI j < (0 : Int32)) = False := eq_false (nI_pos (by omega))
    have a4 : inb (nI j) 60 = True := inb_nI (by omega) (by decide)
    rw [E204_58]
    by_cases g : v - v / 10 * 10 = 0
    · have g' : (v - v / 10 * 10 = 0) = True := eq_true g
      simp only [E204_60, E204_63, E204_64, E204_67, E204_69, E204_71, E204_73, E204_74, E204_75, E204_77, E204_79, E204_80, E204_82, E204_83, E204_86, E204_88, E204_89, E204_92, E204_93, pk54 hS, pk71 hS, pl71 hS, pa71 hS, pi71 hS, pr54_49 hR, rfs, rfn, cs0, csi, csl, csr, csn, kti, ktl, ktr, ktn, ktv, ktf, true_and, and_true, and_self, ↓reduceIte, Nat.reduceAdd, Nat.reduceSub, Nat.reduceMul, Nat.reduceLT, Nat.reduceLeDiff, Nat.reduceEqDiff, true_or, or_true, false_or, or_false, not_true_eq_false, not_false_eq_true, reduceCtorEq, cmp_lt, cmp_gt, cmp_eq, Int32.reduceAdd, Int32.reduceSub, Int32.reduceMul, Int32.reduceLT, Int32.reduceToNatClampNeg, eq_self, ne_eq, Int64.reduceAdd, Int64.reduceSub, Int64.reduceMul, Int64.reduceLT, nI_m1, e1, a4, n10, pt, pt_s, g']
      exact h2 _ (fun a ha => pt_n ha)
    · simp only [E204_60, E204_63, E204_64, E204_67, E204_69, E204_71, E204_73, E204_74, E204_75, E204_77, E204_79, E204_80, E204_82, E204_83, E204_86, E204_88, E204_89, E204_92, E204_93, E204_94, E204_97, pk54 hS, pk71 hS, pl71 hS, pa71 hS, pi71 hS, pr54_49 hR, rfs, rfn, cs0, csi, csl, csr, csn, kti, ktl, ktr, ktn, ktv, ktf, true_and, and_true, and_self, ↓reduceIte, Nat.reduceAdd, Nat.reduceSub, Nat.reduceMul, Nat.reduceLT, Nat.reduceLeDiff, Nat.reduceEqDiff, true_or, or_true, false_or, or_false, not_true_eq_false, not_false_eq_true, reduceCtorEq, cmp_lt, cmp_gt, cmp_eq, Int32.reduceAdd, Int32.reduceSub, Int32.reduceMul, Int32.reduceLT, Int32.reduceToNatClampNeg, eq_self, ne_eq, Int64.reduceAdd, Int64.reduceSub, Int64.reduceMul, Int64.reduceLT, nI_m1, nI_a1, e1, a4, n10, pt, pt_s, g]
      exact ih _ _ _ (by omega) (fun J v y hJ => h1 J v y (fun a ha => (hJ a ha).trans (pt_n ha))) (fun J hJ => h2 J (fun a ha => (hJ a ha).trans (pt_n ha)))
theorem mr_lp {x a b : Int32} {m : Int64} {c w : Nat} {V : Int32} {I0 : mI} (hS : Pm S) (hR : Pr R) (hc : c ≤ 5) (h : Rw (I0 56)) (w1 : w ≤ 8) (e : I0 56 1 = nI w) (ec : I0 56 0 = nI c) (hq : ∀ v J L', Gs_m I0 J → Q (.int v) S J L' R) : ∀ (q i : Nat) (bs : Int32) (J : mI) (L : mL), i + q = w → Gs_m I0 J → Ev (d + 6) 204 118 [.ref 54, .int x, .int a, .int b, .int (nI c), .long m, nv, .int V, .int bs, .int (nI i)] [] S J L R Q := by
  have z1 : inb 1 8060 = True := inb_nI (j := 1) (by decide) (by decide)
  intro q
  induction q with
  | zero =>
    intro i bs J L hi gJ
    obtain rfl : i = w := by omega
    have J6 := gJ.w
    have e1 : (nI i < nI i) = False := eq_false (nI_nlt (by omega) (by omega))
    simp only [E204_118, E204_120, E204_121, E204_124, E204_125, E204_126, E204_187, E204_189, pk54 hS, pk56 hS, pl56 hS, pa56 hS, pi56 hS, pr54_3 hR, rfs, rfn, cs0, csi, csl, csr, csn, kti, ktl, ktr, ktn, ktv, ktf, true_and, and_true, and_self, ↓reduceIte, Nat.reduceAdd, Nat.reduceSub, Nat.reduceMul, Nat.reduceLT, Nat.reduceLeDiff, Nat.reduceEqDiff, true_or, or_true, false_or, or_false, not_true_eq_false, not_false_eq_true, reduceCtorEq, cmp_lt, cmp_gt, cmp_eq, Int32.reduceAdd, Int32.reduceSub, Int32.reduceMul, Int32.reduceLT, Int32.reduceToNatClampNeg, eq_self, ne_eq, Int64.reduceAdd, Int64.reduceSub, Int64.reduceMul, Int64.reduceLT, z1, J6, e, e1]
    exact hq _ _ _ gJ
  | succ q ih =>
    intro i bs J L hi gJ
    have J6 := gJ.w
    have e1 : (nI i < nI w) = True := eq_true (nI_lt (by omega) (by omega))
    simp only [E204_118, E204_120, E204_121, E204_124, E204_125, E204_126, E204_129, E204_130, E204_132, E204_133, pk54 hS, pk56 hS, pl56 hS, pa56 hS, pi56 hS, pr54_3 hR, rfs, rfn, cs0, csi, csl, csr, csn, kti, ktl, ktr, ktn, ktv, ktf, true_and, and_true, and_self, ↓reduceIte, Nat.reduceAdd, Nat.reduceSub, Nat.reduceMul, Nat.reduceLT, Nat.reduceLeDiff, Nat.reduceEqDiff, true_or, or_true, false_or, or_false, not_true_eq_false, not_false_eq_true, reduceCtorEq, cmp_lt, cmp_gt, cmp_eq, Int32.reduceAdd, Int32.reduceSub, Int32.reduceMul, Int32.reduceLT, Int32.reduceToNatClampNeg, eq_self, ne_eq, Int64.reduceAdd, Int64.reduceSub, Int64.reduceMul, Int64.reduceLT, z1, J6, e, e1]
    refine gth (d := d) (n := w) hS hR (by rw [J6]; exact h) (by omega) w1 (by rw [J6]; exact e) (Or.inl rfl) (fun J2 L2 q2 _ => ?_)
    have g2 := gJ.tr q2.s
    simp only [E204_133, E204_136, E204_138, E204_139, E204_140, pk54 hS, rfs, rfn, cs0, csi, csl, csr, csn, kti, ktl, ktr, ktn, ktv, ktf, true_and, and_true, and_self, ↓reduceIte, Nat.reduceAdd, Nat.reduceSub, Nat.reduceMul, Nat.reduceLT, Nat.reduceLeDiff, Nat.reduceEqDiff, true_or, or_true, false_or, or_false, not_true_eq_false, not_false_eq_true, reduceCtorEq, cmp_lt, cmp_gt, cmp_eq, Int32.reduceAdd, Int32.reduceSub, Int32.reduceMul, Int32.reduceLT, Int32.reduceToNatClampNeg, eq_self, ne_eq, Int64.reduceAdd, Int64.reduceSub, Int64.reduceMul, Int64.reduceLT]
    refine apt (k := 0) hS hR hc (by decide) (by rw [g2.w]; exact ec) (fun y => ?_)
    simp only [E204_140, E204_143, E204_146, E204_147, E204_150, E204_151, E204_154, E204_155, E204_158, E204_159, E204_162, E204_163, E204_166, E204_167, E204_170, E204_171, E204_173, E204_174, E204_177, E204_178, E204_179, E204_181, E204_184, pk54 hS, rfs, rfn, cs0, csi, csl, csr, csn, kti, ktl, ktr, ktn, ktv, ktf, true_and, and_true, and_self, ↓reduceIte, Nat.reduceAdd, Nat.reduceSub, Nat.reduceMul, Nat.reduceLT, Nat.reduceLeDiff, Nat.reduceEqDiff, true_or, or_true, false_or, or_false, not_true_eq_false, not_false_eq_true, reduceCtorEq, cmp_lt, cmp_gt, cmp_eq, Int32.reduceAdd, Int32.reduceSub, Int32.reduceMul, Int32.reduceLT, Int32.reduceToNatClampNeg, eq_self, ne_eq, Int64.reduceAdd, Int64.reduceSub, Int64.reduceMul, Int64.reduceLT, nI_1]
    repeat' apply iteB
    all_goals exact ih (i + 1) _ _ _ (by omega) g2
theorem m_made {x a b : Int32} (hS : Pm S) (hR : Pr R) (h : InvM I t) (hq : ∀ v J L', InvM J t → OutM I J → RlN I J → Q (.int v) S J L' R) : EvM (d + 6) 204 [.ref 54, .int x, .int a, .int b] S I L R Q := by
  obtain ⟨w, w1, e, _⟩ := h.1.2.2.2.2
  obtain ⟨c, c1, c2, ec⟩ := h.1.1
  have z0 : inb 0 8060 = True := inb_nI (j := 0) (by decide) (by decide)
  have g0 : Gs_m I (put I 54 0 0) := Gs_m.p4 Gs_m.rf (by decide)
  simp only [M204, E204_0, E204_1, E204_2, E204_5, E204_6, E204_9, E204_10, E204_11, E204_13, E204_14, E204_16, E204_17, E204_18, E204_19, E204_21, E204_22, E204_25, E204_26, E204_27, E204_28, E204_30, E204_33, E204_36, E204_37, E204_38, E204_39, E204_41, E204_44, E204_47, E204_48, E204_49, E204_50, E204_52, E204_54, E204_55, E204_56, inn, pk54 hS, pk56 hS, pl56 hS, pa56 hS, pi56 hS, pr54_3 hR, rfs, rfn, cs0, csi, csl, csr, csn, kti, ktl, ktr, ktn, ktv, ktf, true_and, and_true, and_self, ↓reduceIte, Nat.reduceAdd, Nat.reduceSub, Nat.reduceMul, Nat.reduceLT, Nat.reduceLeDiff, Nat.reduceEqDiff, true_or, or_true, false_or, or_false, not_true_eq_false, not_false_eq_true, reduceCtorEq, cmp_lt, cmp_gt, cmp_eq, Int32.reduceAdd, Int32.reduceSub, Int32.reduceMul, Int32.reduceLT, Int32.reduceToNatClampNeg, eq_self, ne_eq, Int64.reduceAdd, Int64.reduceSub, Int64.reduceMul, Int64.reduceLT, z0, pt, pt_m, ec]
  have key : ∀ m y, Ev (d + 6) 204 58 [.ref 54, .int x, .int a, .int b, .int (nI c), .long m, nv, .int x, .int (nI c - 1), y] [] S (put I 54 0 0) L R Q := by
    intro m y
    refine md_lp (d := d + 5) hS hR c2 c x _ y (Nat.le_refl c) (fun J v y hJ => ?_) (fun J hJ => ?_)
    · have gJ : Gs_m I J := g0.tr ⟨fun a h1 h2 => hJ a (by omega), fun k _ _ => by rw [hJ 54 (by decide)]⟩
      have gK : Gs_m I (put J 54 42 (-1)) := Gs_m.p4 gJ (by decide)
      by_cases g : v = 0
      · have g' : (v = 0) = True := eq_true g
        simp only [E204_100, E204_102, E204_107, E204_108, E204_110, E204_111, E204_112, E204_115, E204_116, pk54 hS, rfs, rfn, cs0, csi, csl, csr, csn, kti, ktl, ktr, ktn, ktv, ktf, true_and, and_true, and_self, ↓reduceIte, Nat.reduceAdd, Nat.reduceSub, Nat.reduceMul, Nat.reduceLT, Nat.reduceLeDiff, Nat.reduceEqDiff, true_or, or_true, false_or, or_false, not_true_eq_false, not_false_eq_true, reduceCtorEq, cmp_lt, cmp_gt, cmp_eq, Int32.reduceAdd, Int32.reduceSub, Int32.reduceMul, Int32.reduceLT, Int32.reduceToNatClampNeg, eq_self, ne_eq, Int64.reduceAdd, Int64.reduceSub, Int64.reduceMul, Int64.reduceLT, g', pt]
        exact mr_lp (d := d) (w := w) hS hR c2 h.1 w1 e ec (fun v J L' q => hq v J L' (h.gs q) q.out q.rl) w 0 0 _ _ (by omega) gK
      · simp only [E204_100, E204_102, E204_105, E204_106, rfs, rfn, cs0, csi, csl, csr, csn, kti, ktl, ktr, ktn, ktv, ktf, true_and, and_true, and_self, ↓reduceIte, Nat.reduceAdd, Nat.reduceSub, Nat.reduceMul, Nat.reduceLT, Nat.reduceLeDiff, Nat.reduceEqDiff, true_or, or_true, false_or, or_false, not_true_eq_false, not_false_eq_true, reduceCtorEq, cmp_lt, cmp_gt, cmp_eq, Int32.reduceAdd, Int32.reduceSub, Int32.reduceMul, Int32.reduceLT, Int32.reduceToNatClampNeg, eq_self, ne_eq, Int64.reduceAdd, Int64.reduceSub, Int64.reduceMul, Int64.reduceLT, g]
        exact hq _ _ _ (h.gs gJ) gJ.out gJ.rl
    · have gJ : Gs_m I J := g0.tr ⟨fun a h1 h2 => hJ a (by omega), fun k _ _ => by rw [hJ 54 (by decide)]⟩
      exact hq _ _ _ (h.gs gJ) gJ.out gJ.rl
  repeat' apply iteB
  all_goals first
    | exact hq _ _ _ (h.gs g0) g0.out g0.rl
    | exact key _ _
theorem tk_lp {k : Nat} (hS : Pm S) (hR : Pr R) (hk : k < 12) {v1 v2 v3 v4 v5 v6 : Value} : ∀ (q i : Nat) (I : mI) (y : Value), i + q = 5 → (∀ J, (∀ a, ¬ a = 71 → J a = I a) → Ev (d + 1) 205 119 [.ref 54, v1, v2, v3, v4, v5, v6, .int (nI k), .int (nI 5), y] [] S J L R Q) → Ev (d + 1) 205 88 [.ref 54, v1, v2, v3, v4, v5, v6, .int (nI k), .int (nI i), y] [] S I L R Q := by
  intro q
  induction q with
  | zero =>
    intro i I y hi h1
    obtain rfl : i = 5 := by omega
    have e1 : (nI 5 < (5 : Int32)) = False := eq_false (by decide)
    simp only [E205_88, E205_90, E205_91, rfs, rfn, cs0, csi, csl, csr, csn, kti, ktl, ktr, ktn, ktv, ktf, true_and, and_true, and_self, ↓reduceIte, Nat.reduceAdd, Nat.reduceSub, Nat.reduceMul, Nat.reduceLT, Nat.reduceLeDiff, Nat.reduceEqDiff, true_or, or_true, false_or, or_false, not_true_eq_false, not_false_eq_true, reduceCtorEq, cmp_lt, cmp_gt, cmp_eq, Int32.reduceAdd, Int32.reduceSub, Int32.reduceMul, Int32.reduceLT, Int32.reduceToNatClampNeg, eq_self, ne_eq, Int64.reduceAdd, Int64.reduceSub, Int64.reduceMul, Int64.reduceLT, e1]
    exact h1 I (fun _ _ => rfl)
  | succ q ih =>
    intro i I y hi h1
    have e1 : (nI i < (5 : Int32)) = True := eq_true (nI_lt (a := i) (b := 5) (by omega) (by decide))
    have a4 : inb (nI i) 5 = True := inb_nI (by omega) (by decide)
    have e5 : (5 : Int32) * nI k + nI i = nI (5 * k + i) := by rw [show (5 : Int32) = nI 5 from rfl, pk_mul, nI_add]
    have a5 : inb (nI (5 * k + i)) 60 = True := inb_nI (by omega) (by decide)
    rw [E205_88]
    simp only [E205_90, E205_91, E205_94, E205_95, E205_98, E205_99, E205_101, E205_102, E205_104, E205_105, E205_106, E205_109, E205_111, E205_112, E205_113, E205_116, pk54 hS, pk64 hS, pl64 hS, pa64 hS, pi64 hS, pk71 hS, pl71 hS, pa71 hS, pi71 hS, pr54_23 hR, pr54_49 hR, rfs, rfn, cs0, csi, csl, csr, csn, kti, ktl, ktr, ktn, ktv, ktf, true_and, and_true, and_self, ↓reduceIte, Nat.reduceAdd, Nat.reduceSub, Nat.reduceMul, Nat.reduceLT, Nat.reduceLeDiff, Nat.reduceEqDiff, true_or, or_true, false_or, or_false, not_true_eq_false, not_false_eq_true, reduceCtorEq, cmp_lt, cmp_gt, cmp_eq, Int32.reduceAdd, Int32.reduceSub, Int32.reduceMul, Int32.reduceLT, Int32.reduceToNatClampNeg, eq_self, ne_eq, Int64.reduceAdd, Int64.reduceSub, Int64.reduceMul, Int64.reduceLT, e1, a4, e5, a5, nI_1, pt]
    exact ih (i + 1) _ _ (by omega) (fun J hJ => h1 J (fun a ha => (hJ a ha).trans (pt_n ha)))
theorem ti_lp {k c : Nat} (hS : Pm S) (hR : Pr R) (hk : k < 12) (hc : c ≤ 5) (ec : I 56 0 = nI c) {v1 v2 v3 v4 : Value} {v5 : Int32} (h1 : ∀ x y, Ev (d + 2) 205 177 [.ref 54, v1, v2, v3, v4, .int v5, .int x, .int (nI k), .int (nI k), y] [] S I L R Q) : ∀ (q i : Nat) (x : Int32) (y : Value), i + q = k → Ev (d + 2) 205 140 [.ref 54, v1, v2, v3, v4, .int v5, .int x, .int (nI k), .int (nI i), y] [] S I L R Q := by
  intro q
  induction q with
  | zero =>
    intro i x y hi
    obtain rfl : i = k := by omega
    have e1 : (nI i < nI i) = False := eq_false (nI_nlt (by omega) (by omega))
    simp only [E205_140, E205_142, E205_144, rfs, rfn, cs0, csi, csl, csr, csn, kti, ktl, ktr, ktn, ktv, ktf, true_and, and_true, and_self, ↓reduceIte, Nat.reduceAdd, Nat.reduceSub, Nat.reduceMul, Nat.reduceLT, Nat.reduceLeDiff, Nat.reduceEqDiff, true_or, or_true, false_or, or_false, not_true_eq_false, not_false_eq_true, reduceCtorEq, cmp_lt, cmp_gt, cmp_eq, Int32.reduceAdd, Int32.reduceSub, Int32.reduceMul, Int32.reduceLT, Int32.reduceToNatClampNeg, eq_self, ne_eq, Int64.reduceAdd, Int64.reduceSub, Int64.reduceMul, Int64.reduceLT, e1]
    exact h1 x y
  | succ q ih =>
    intro i x y hi
    have e1 : (nI i < nI k) = True := eq_true (nI_lt (by omega) (by omega))
    simp only [E205_140, E205_142, E205_144, E205_147, E205_148, E205_150, pk54 hS, rfs, rfn, cs0, csi, csl, csr, csn, kti, ktl, ktr, ktn, ktv, ktf, true_and, and_true, and_self, ↓reduceIte, Nat.reduceAdd, Nat.reduceSub, Nat.reduceMul, Nat.reduceLT, Nat.reduceLeDiff, Nat.reduceEqDiff, true_or, or_true, false_or, or_false, not_true_eq_false, not_false_eq_true, reduceCtorEq, cmp_lt, cmp_gt, cmp_eq, Int32.reduceAdd, Int32.reduceSub, Int32.reduceMul, Int32.reduceLT, Int32.reduceToNatClampNeg, eq_self, ne_eq, Int64.reduceAdd, Int64.reduceSub, Int64.reduceMul, Int64.reduceLT, e1]
    refine apt (k := i) hS hR hc (by omega) ec (fun z => ?_)
    simp only [E205_150, E205_153, E205_155, E205_157, E205_159, E205_162, E205_164, E205_167, E205_169, E205_171, E205_174, rfs, rfn, cs0, csi, csl, csr, csn, kti, ktl, ktr, ktn, ktv, ktf, true_and, and_true, and_self, ↓reduceIte, Nat.reduceAdd, Nat.reduceSub, Nat.reduceMul, Nat.reduceLT, Nat.reduceLeDiff, Nat.reduceEqDiff, true_or, or_true, false_or, or_false, not_true_eq_false, not_false_eq_true, reduceCtorEq, cmp_lt, cmp_gt, cmp_eq, Int32.reduceAdd, Int32.reduceSub, Int32.reduceMul, Int32.reduceLT, Int32.reduceToNatClampNeg, eq_self, ne_eq, Int64.reduceAdd, Int64.reduceSub, Int64.reduceMul, Int64.reduceLT, nI_1]
    repeat' apply iteB
    all_goals exact ih (i + 1) _ _ (by omega)
theorem tp_lp_m {c : Nat} {x4 x5 x6 : Int32} (hS : Pm S) (hR : Pr R) (hc : c ≤ 5) (ec : I 56 0 = nI c) {v1 v2 v3 : Value} {y : Value} (hq : ∀ v, Q (.int v) S I L R) : ∀ (q i : Nat) (x : Int32), i + q = 12 → Ev (d + 2) 205 200 [.ref 54, v1, v2, v3, .int x4, .int x5, .int x6, .int x, .int (nI i), y] [] S I L R Q := by
  intro q
  induction q with
  | zero =>
    intro i x hi
    obtain rfl : i = 12 := by omega
    have e1 : (nI 12 < (12 : Int32)) = False := eq_false (by decide)
    simp only [E205_200, E205_202, E205_204, E205_232, E205_234, E205_237, E205_239, E205_242, E205_244, E205_245, E205_248, E205_250, E205_253, E205_255, rfs, rfn, cs0, csi, csl, csr, csn, kti, ktl, ktr, ktn, ktv, ktf, true_and, and_true, and_self, ↓reduceIte, Nat.reduceAdd, Nat.reduceSub, Nat.reduceMul, Nat.reduceLT, Nat.reduceLeDiff, Nat.reduceEqDiff, true_or, or_true, false_or, or_false, not_true_eq_false, not_false_eq_true, reduceCtorEq, cmp_lt, cmp_gt, cmp_eq, Int32.reduceAdd, Int32.reduceSub, Int32.reduceMul, Int32.reduceLT, Int32.reduceToNatClampNeg, eq_self, ne_eq, Int64.reduceAdd, Int64.reduceSub, Int64.reduceMul, Int64.reduceLT, e1]
    repeat' apply iteB
    all_goals exact hq _
  | succ q ih =>
    intro i x hi
    have e1 : (nI i < (12 : Int32)) = True := eq_true (nI_lt (a := i) (b := 12) (by omega) (by decide))
    simp only [E205_200, E205_202, E205_204, E205_207, E205_209, E205_210, E205_212, pk54 hS, rfs, rfn, cs0, csi, csl, csr, csn, kti, ktl, ktr, ktn, ktv, ktf, true_and, and_true, and_self, ↓reduceIte, Nat.reduceAdd, Nat.reduceSub, Nat.reduceMul, Nat.reduceLT, Nat.reduceLeDiff, Nat.reduceEqDiff, true_or, or_true, false_or, or_false, not_true_eq_false, not_false_eq_true, reduceCtorEq, cmp_lt, cmp_gt, cmp_eq, Int32.reduceAdd, Int32.reduceSub, Int32.reduceMul, Int32.reduceLT, Int32.reduceToNatClampNeg, eq_self, ne_eq, Int64.reduceAdd, Int64.reduceSub, Int64.reduceMul, Int64.reduceLT, e1]
    refine apt (k := i) hS hR hc (by omega) ec (fun z => ?_)
    simp only [E205_212, E205_215, E205_218, E205_219, E205_222, E205_223, E205_224, E205_226, E205_229, rfs, rfn, cs0, csi, csl, csr, csn, kti, ktl, ktr, ktn, ktv, ktf, true_and, and_true, and_self, ↓reduceIte, Nat.reduceAdd, Nat.reduceSub, Nat.reduceMul, Nat.reduceLT, Nat.reduceLeDiff, Nat.reduceEqDiff, true_or, or_true, false_or, or_false, not_true_eq_false, not_false_eq_true, reduceCtorEq, cmp_lt, cmp_gt, cmp_eq, Int32.reduceAdd, Int32.reduceSub, Int32.reduceMul, Int32.reduceLT, Int32.reduceToNatClampNeg, eq_self, ne_eq, Int64.reduceAdd, Int64.reduceSub, Int64.reduceMul, Int64.reduceLT, nI_1]
    repeat' apply iteB
    all_goals exact ih (i + 1) _ (by omega)
theorem to_lp_m {r c w : Nat} {x2 x3 x4 : Int32} {I0 : mI} (hS : Pm S) (hR : Pr R) (hr : r < w) (hc : c ≤ 5) (h : Rw (I0 56)) (w1 : w ≤ 8) (e : I0 56 1 = nI w) (ec : I0 56 0 = nI c) (hq : ∀ v J L', Gs_m I0 J → Q (.int v) S J L' R) : ∀ (q k : Nat) (x5 x6 : Int32) (J : mI) (L : mL) (y8 y9 : Value), k + q = 12 → Gs_m I0 J → Ev (d + 6) 205 72 [.ref 54, .int (nI r), .int x2, .int x3, .int x4, .int x5, .int x6, .int (nI k), y8, y9] [] S J L R Q := by
  intro q
  induction q with
  | zero =>
    intro k x5 x6 J L y8 y9 hk gJ
    obtain rfl : k = 12 := by omega
    have e1 : (nI 12 < (12 : Int32)) = False := eq_false (by decide)
    simp only [E205_72, E205_74, E205_76, E205_183, E205_184, E205_185, E205_188, E205_189, E205_190, E205_191, pk54 hS, rfs, rfn, cs0, csi, csl, csr, csn, kti, ktl, ktr, ktn, ktv, ktf, true_and, and_true, and_self, ↓reduceIte, Nat.reduceAdd, Nat.reduceSub, Nat.reduceMul, Nat.reduceLT, Nat.reduceLeDiff, Nat.reduceEqDiff, true_or, or_true, false_or, or_false, not_true_eq_false, not_false_eq_true, reduceCtorEq, cmp_lt, cmp_gt, cmp_eq, Int32.reduceAdd, Int32.reduceSub, Int32.reduceMul, Int32.reduceLT, Int32.reduceToNatClampNeg, eq_self, ne_eq, Int64.reduceAdd, Int64.reduceSub, Int64.reduceMul, Int64.reduceLT, e1, pt]
    have gK : Gs_m I0 (put J 54 42 (-1)) := Gs_m.p4 gJ (by decide)
    refine gth (d := d) (n := w) hS hR (by rw [gK.w]; exact h) hr w1 (by rw [gK.w]; exact e) (Or.inl rfl) (fun J2 L2 q2 _ => ?_)
    have g2 := gK.tr q2.s
    simp only [E205_191, E205_194, E205_195, E205_197, E205_198, rfs, rfn, cs0, csi, csl, csr, csn, kti, ktl, ktr, ktn, ktv, ktf, true_and, and_true, and_self, ↓reduceIte, Nat.reduceAdd, Nat.reduceSub, Nat.reduceMul, Nat.reduceLT, Nat.reduceLeDiff, Nat.reduceEqDiff, true_or, or_true, false_or, or_false, not_true_eq_false, not_false_eq_true, reduceCtorEq, cmp_lt, cmp_gt, cmp_eq, Int32.reduceAdd, Int32.reduceSub, Int32.reduceMul, Int32.reduceLT, Int32.reduceToNatClampNeg, eq_self, ne_eq, Int64.reduceAdd, Int64.reduceSub, Int64.reduceMul, Int64.reduceLT]
    exact tp_lp_m (d := d + 4) hS hR hc (by rw [g2.w]; exact ec) (fun v => hq v _ _ g2) 12 0 0 (by omega)
  | succ q ih =>
    intro k x5 x6 J L y8 y9 hk gJ
    have e1 : (nI k < (12 : Int32)) = True := eq_true (nI_lt (a := k) (b := 12) (by omega) (by decide))
    simp only [E205_72, E205_74, E205_76, E205_79, E205_80, E205_81, E205_82, pk54 hS, rfs, rfn, cs0, csi, csl, csr, csn, kti, ktl, ktr, ktn, ktv, ktf, true_and, and_true, and_self, ↓reduceIte, Nat.reduceAdd, Nat.reduceSub, Nat.reduceMul, Nat.reduceLT, Nat.reduceLeDiff, Nat.reduceEqDiff, true_or, or_true, false_or, or_false, not_true_eq_false, not_false_eq_true, reduceCtorEq, cmp_lt, cmp_gt, cmp_eq, Int32.reduceAdd, Int32.reduceSub, Int32.reduceMul, Int32.reduceLT, Int32.reduceToNatClampNeg, eq_self, ne_eq, Int64.reduceAdd, Int64.reduceSub, Int64.reduceMul, Int64.reduceLT, e1]
    refine gth (d := d) (n := w) hS hR (by rw [gJ.w]; exact h) hr w1 (by rw [gJ.w]; exact e) (Or.inl rfl) (fun J2 L2 q2 _ => ?_)
    have g2 := gJ.tr q2.s
    simp only [E205_82, E205_85, E205_86, rfs, rfn, cs0, csi, csl, csr, csn, kti, ktl, ktr, ktn, ktv, ktf, true_and, and_true, and_self, ↓reduceIte, Nat.reduceAdd, Nat.reduceSub, Nat.reduceMul, Nat.reduceLT, Nat.reduceLeDiff, Nat.reduceEqDiff, true_or, or_true, false_or, or_false, not_true_eq_false, not_false_eq_true, reduceCtorEq, cmp_lt, cmp_gt, cmp_eq, Int32.reduceAdd, Int32.reduceSub, Int32.reduceMul, Int32.reduceLT, Int32.reduceToNatClampNeg, eq_self, ne_eq, Int64.reduceAdd, Int64.reduceSub, Int64.reduceMul, Int64.reduceLT]
    refine tk_lp (d := d + 5) hS hR (k := k) (by omega) 5 0 _ _ (by omega) (fun J3 h3 => ?_)
    have g3 : Gs_m I0 J3 := g2.tr ⟨fun a h1 h2 => h3 a (by omega), fun k _ _ => by rw [h3 54 (by decide)]⟩
    simp only [E205_119, E205_121, E205_122, E205_123, pk54 hS, rfs, rfn, cs0, csi, csl, csr, csn, kti, ktl, ktr, ktn, ktv, ktf, true_and, and_true, and_self, ↓reduceIte, Nat.reduceAdd, Nat.reduceSub, Nat.reduceMul, Nat.reduceLT, Nat.reduceLeDiff, Nat.reduceEqDiff, true_or, or_true, false_or, or_false, not_true_eq_false, not_false_eq_true, reduceCtorEq, cmp_lt, cmp_gt, cmp_eq, Int32.reduceAdd, Int32.reduceSub, Int32.reduceMul, Int32.reduceLT, Int32.reduceToNatClampNeg, eq_self, ne_eq, Int64.reduceAdd, Int64.reduceSub, Int64.reduceMul, Int64.reduceLT]
    refine apt (k := 0) hS hR hc (by decide) (by rw [g3.w]; exact ec) (fun z => ?_)
    simp only [E205_123, E205_126, E205_129, E205_130, E205_133, E205_134, E205_135, E205_137, E205_138, rfs, rfn, cs0, csi, csl, csr, csn, kti, ktl, ktr, ktn, ktv, ktf, true_and, and_true, and_self, ↓reduceIte, Nat.reduceAdd, Nat.reduceSub, Nat.reduceMul, Nat.reduceLT, Nat.reduceLeDiff, Nat.reduceEqDiff, true_or, or_true, false_or, or_false, not_true_eq_false, not_false_eq_true, reduceCtorEq, cmp_lt, cmp_gt, cmp_eq, Int32.reduceAdd, Int32.reduceSub, Int32.reduceMul, Int32.reduceLT, Int32.reduceToNatClampNeg, eq_self, ne_eq, Int64.reduceAdd, Int64.reduceSub, Int64.reduceMul, Int64.reduceLT]
    apply iteB
    all_goals
      refine ti_lp (d := d + 4) hS hR (k := k) (by omega) hc (by rw [g3.w]; exact ec) (fun x y => ?_) k 0 _ _ (by omega)
      simp only [E205_177, E205_180, rfs, rfn, cs0, csi, csl, csr, csn, kti, ktl, ktr, ktn, ktv, ktf, true_and, and_true, and_self, ↓reduceIte, Nat.reduceAdd, Nat.reduceSub, Nat.reduceMul, Nat.reduceLT, Nat.reduceLeDiff, Nat.reduceEqDiff, true_or, or_true, false_or, or_false, not_true_eq_false, not_false_eq_true, reduceCtorEq, cmp_lt, cmp_gt, cmp_eq, Int32.reduceAdd, Int32.reduceSub, Int32.reduceMul, Int32.reduceLT, Int32.reduceToNatClampNeg, eq_self, ne_eq, Int64.reduceAdd, Int64.reduceSub, Int64.reduceMul, Int64.reduceLT, nI_1]
      exact ih (k + 1) _ _ _ _ _ _ (by omega) g3
theorem m_twelve {r a b z : Int32} (hS : Pm S) (hR : Pr R) (h : InvM I t) (hq : ∀ v J L', InvM J t → OutM I J → RlN I J → Q (.int v) S J L' R) : EvM (d + 6) 205 [.ref 54, .int r, .int a, .int b, .int z] S I L R Q := by
  obtain ⟨w, w1, e, hT⟩ := h.1.2.2.2.2
  obtain ⟨c, c1, c2, ec⟩ := h.1.1
  have g0 : Gs_m I (put I 54 0 0) := Gs_m.p4 Gs_m.rf (by decide)
  cases g : inB r.toInt64 0 ((nI w).toInt64 - 1)
  · simp only [M205, E205_0, E205_1, E205_2, E205_5, E205_6, E205_7, E205_10, E205_50, E205_51, isr hS hR, pt_m, e, g, bI_f, pk54 hS, pk56 hS, pl56 hS, pa56 hS, pi56 hS, pr54_3 hR, rfs, rfn, cs0, csi, csl, csr, csn, kti, ktl, ktr, ktn, ktv, ktf, true_and, and_true, and_self, ↓reduceIte, Nat.reduceAdd, Nat.reduceSub, Nat.reduceMul, Nat.reduceLT, Nat.reduceLeDiff, Nat.reduceEqDiff, true_or, or_true, false_or, or_false, not_true_eq_false, not_false_eq_true, reduceCtorEq, cmp_lt, cmp_gt, cmp_eq, Int32.reduceAdd, Int32.reduceSub, Int32.reduceMul, Int32.reduceLT, Int32.reduceToNatClampNeg, eq_self, ne_eq, Int64.reduceAdd, Int64.reduceSub, Int64.reduceMul, Int64.reduceLT, pt]
    exact hq _ _ _ (h.gs g0) g0.out g0.rl
  obtain ⟨j, j1, rfl⟩ := inC (by omega) g
  simp only [M205, E205_0, E205_1, E205_2, E205_5, E205_6, E205_7, E205_10, E205_13, E205_14, E205_15, E205_16, E205_19, E205_22, E205_25, E205_26, E205_27, E205_28, E205_31, E205_34, E205_37, E205_39, E205_40, E205_41, E205_44, E205_47, E205_50, E205_51, E205_52, E205_53, E205_54, E205_57, E205_58, E205_59, E205_60, E205_63, E205_64, E205_66, E205_67, E205_69, E205_70, isr hS hR, inn, pt_m, e, g, bI_t, n1_0, pk54 hS, pk56 hS, pl56 hS, pa56 hS, pi56 hS, pr54_3 hR, rfs, rfn, cs0, csi, csl, csr, csn, kti, ktl, ktr, ktn, ktv, ktf, true_and, and_true, and_self, ↓reduceIte, Nat.reduceAdd, Nat.reduceSub, Nat.reduceMul, Nat.reduceLT, Nat.reduceLeDiff, Nat.reduceEqDiff, true_or, or_true, false_or, or_false, not_true_eq_false, not_false_eq_true, reduceCtorEq, cmp_lt, cmp_gt, cmp_eq, Int32.reduceAdd, Int32.reduceSub, Int32.reduceMul, Int32.reduceLT, Int32.reduceToNatClampNeg, eq_self, ne_eq, Int64.reduceAdd, Int64.reduceSub, Int64.reduceMul, Int64.reduceLT, pt]
  repeat' apply iteB
  all_goals first
    | exact hq _ _ _ (h.gs g0) g0.out g0.rl
    | exact to_lp_m (d := d) (w := w) hS hR j1 c2 h.1 w1 e ec (fun v J L' q => hq v J L' (h.gs q) q.out q.rl) 12 0 0 0 _ _ _ _ (by omega) (Gs_m.p4 g0 (by decide))
end MU
