/-! the law's loop and its cases: both systems keep their invariants and the relation; what is compared is alike -/
theorem InvM.x {I J : mI} {t : Nat} (h : InvM I t) (o : OutX I J) : InvM J t := h.cg (o 56 (by decide)) (o 57 (by decide)) (o 58 (by decide)) (o 72 (by decide)) (o 77 (by decide)) (by rw [o 54 (by decide)]) (by rw [o 54 (by decide)]) (by rw [o 54 (by decide)]) (by rw [o 54 (by decide)])
theorem XC.out {S : mS} {I J : mI} {R : mR} {t : Nat} (h : XC S I R t) (o : OutM I J) : XC S J R t := ⟨h.1, h.2.1.out o, h.2.2⟩
def LX (len t : Nat) (S : mS) (I : mI) (R : mR) : Prop := XC S I R t ∧ InvM I t ∧ S.2.2.1 0 = 19 ∧ S.2.2.2 0 = len ∧ Rel I R ∧ ExB I R ∧ HdR I
theorem LX.i0 {len t : Nat} {S : mS} {I : mI} {R : mR} (F : LX len t S I R) : okI S 0 = True := eq_true ⟨by have := F.1.1.1.1; omega, Or.inr F.2.2.1⟩
theorem LX.e {len t : Nat} {S S' : mS} {I : mI} {R : mR} (F : LX len t S I R) (ex : Ext S S') : S'.2.2.1 0 = 19 ∧ S'.2.2.2 0 = len := by
  have h := ex.2 0 (by have := F.1.1.1.1; omega)
  exact ⟨h.1.trans F.2.2.1, h.2.trans F.2.2.2.1⟩
theorem okI19 {S : mS} (h : S.2.2.1 0 = 19) (hS : Pm S) : okI S 0 = True := eq_true ⟨by have := hS.1; omega, Or.inr h⟩
theorem img_eq {k : Int32} : (if k < 0 ∨ ¬ k < 2 then (-1 : Int32) else 0) = if inB k.toInt64 0 1 then 0 else -1 := by
  have e0 : k.toInt64 < 0 ↔ k < 0 := by rw [Int64.lt_iff_toInt_lt, Int32.toInt_toInt64, Int32.lt_iff_toInt_lt]; exact Iff.rfl
  have e1 : (1 : Int64) < k.toInt64 ↔ ¬ k < 2 := by
    rw [Int64.lt_iff_toInt_lt, Int32.toInt_toInt64, Int32.lt_iff_toInt_lt]
    show (1 : Int) < k.toInt ↔ ¬ k.toInt < 2
    omega
  unfold inB
  by_cases g1 : k < 0
  · rw [if_pos (Or.inl g1), if_neg (fun z => (of_decide_eq_true z).1 (e0.mpr g1))]
  · by_cases g2 : k < 2
    · rw [if_neg (fun z => z.elim g1 (fun z => z g2)), if_pos (decide_eq_true ⟨fun z => g1 (e0.mp z), fun z => e1.mp z g2⟩)]
    · rw [if_pos (Or.inr g2), if_neg (fun z => (of_decide_eq_true z).2 (e1.mpr g2))]
section LW
variable {d len t : Nat} {S : mS} {I : mI} {L : mL} {R : mR}
theorem lk_wide (ht : t < 512) (hl : len < 2 ^ 31) (h6 : 6 * t + 6 ≤ len) (F : LX len t S I R) (hn : ∀ S' I' L' R', LX len (t + 1) S' I' R' → Ev (d + 40) 248 921 [.ref 0, .ref 4, .ref 54, .int (nI (6 * t))] [] S' I' L' R' lawQ) : Ev (d + 40) 248 164 [.ref 0, .ref 4, .ref 54, .int (nI (6 * t))] [] S I L R lawQ := by
  have b1 : inb (nI (6 * t + 1)) len = True := inb_nI (by omega) (by omega)
  have k0 := F.i0
  have l0 := F.2.2.2.1
  have hS := F.1.1.1
  simp only [E248_164, E248_164n, E248_165, E248_166, E248_167, E248_168, E248_169, E248_170, pk4 hS, rfs, rfn, cs0, csi, csl, csr, csn, kti, ktl, ktr, ktn, ktv, ktf, true_and, and_true, and_self, ↓reduceIte, Nat.reduceAdd, Nat.reduceSub, Nat.reduceMul, Nat.reduceLT, Nat.reduceLeDiff, Nat.reduceEqDiff, true_or, or_true, false_or, or_false, not_true_eq_false, not_false_eq_true, reduceCtorEq, cmp_lt, cmp_gt, cmp_eq, Int32.reduceAdd, Int32.reduceSub, Int32.reduceMul, Int32.reduceLT, Int32.reduceToNatClampNeg, eq_self, ne_eq, Int64.reduceAdd, Int64.reduceSub, Int64.reduceMul, Int64.reduceLT, k0, l0, nI_1, b1]
  refine x_wide (d := d + 15) F.1 (fun v S1 I1 L1 R1 X1 ex o1 ru n1 => ?_)
  obtain ⟨q0, q1⟩ := F.e ex
  have k1 := okI19 q0 X1.1.1
  have hS1 := X1.1.1
  have e0 : I1 0 = I 0 := o1 0 (by decide)
  simp only [E248_173, E248_174, E248_174n, E248_175, E248_176, E248_177, E248_178, E248_179, E248_180, pk54 hS1, rfs, rfn, cs0, csi, csl, csr, csn, kti, ktl, ktr, ktn, ktv, ktf, true_and, and_true, and_self, ↓reduceIte, Nat.reduceAdd, Nat.reduceSub, Nat.reduceMul, Nat.reduceLT, Nat.reduceLeDiff, Nat.reduceEqDiff, true_or, or_true, false_or, or_false, not_true_eq_false, not_false_eq_true, reduceCtorEq, cmp_lt, cmp_gt, cmp_eq, Int32.reduceAdd, Int32.reduceSub, Int32.reduceMul, Int32.reduceLT, Int32.reduceToNatClampNeg, eq_self, ne_eq, Int64.reduceAdd, Int64.reduceSub, Int64.reduceMul, Int64.reduceLT, k1, q1, e0, nI_1, b1]
  refine m_wide (d := d + 37) hS1 X1.1.2 (F.2.1.x o1) (fun w J L2 M1 o2 n2 => ?_)
  obtain ⟨rfl, r⟩ := r_wide F.1 F.2.2.2.2.1 o1 n1 o2 n2
  have rb := b_wide F.1 F.2.2.2.2.1 F.2.2.2.2.2.1 F.2.1 o1 n1 o2 n2
  simp only [E248_183, E248_184, rfs, rfn, cs0, csi, csl, csr, csn, kti, ktl, ktr, ktn, ktv, ktf, true_and, and_true, and_self, ↓reduceIte, Nat.reduceAdd, Nat.reduceSub, Nat.reduceMul, Nat.reduceLT, Nat.reduceLeDiff, Nat.reduceEqDiff, true_or, or_true, false_or, or_false, not_true_eq_false, not_false_eq_true, reduceCtorEq, cmp_lt, cmp_gt, cmp_eq, Int32.reduceAdd, Int32.reduceSub, Int32.reduceMul, Int32.reduceLT, Int32.reduceToNatClampNeg, eq_self, ne_eq, Int64.reduceAdd, Int64.reduceSub, Int64.reduceMul, Int64.reduceLT]
  have hd := F.2.2.2.2.2.2.go ru.hd o2
  exact hn S1 J _ R1 ⟨X1.out o2, M1.mono (by omega), q0, q1, r, rb, hd⟩
theorem lk_bar (ht : t < 512) (hl : len < 2 ^ 31) (h6 : 6 * t + 6 ≤ len) (F : LX len t S I R) (hn : ∀ S' I' L' R', LX len (t + 1) S' I' R' → Ev (d + 40) 248 921 [.ref 0, .ref 4, .ref 54, .int (nI (6 * t))] [] S' I' L' R' lawQ) : Ev (d + 40) 248 187 [.ref 0, .ref 4, .ref 54, .int (nI (6 * t))] [] S I L R lawQ := by
  have b1 : inb (nI (6 * t + 1)) len = True := inb_nI (by omega) (by omega)
  have b2 : inb (nI (6 * t + 2)) len = True := inb_nI (by omega) (by omega)
  have e2 : nI (6 * t) + 2 = nI (6 * t + 2) := by rw [show (2 : Int32) = nI 2 from rfl, nI_add]
  have k0 := F.i0
  have l0 := F.2.2.2.1
  have hS := F.1.1.1
  simp only [E248_187, E248_187n, E248_188, E248_189, E248_190, E248_191, E248_192, E248_193, E248_194, E248_195, E248_196, E248_197, E248_198, pk4 hS, rfs, rfn, cs0, csi, csl, csr, csn, kti, ktl, ktr, ktn, ktv, ktf, true_and, and_true, and_self, ↓reduceIte, Nat.reduceAdd, Nat.reduceSub, Nat.reduceMul, Nat.reduceLT, Nat.reduceLeDiff, Nat.reduceEqDiff, true_or, or_true, false_or, or_false, not_true_eq_false, not_false_eq_true, reduceCtorEq, cmp_lt, cmp_gt, cmp_eq, Int32.reduceAdd, Int32.reduceSub, Int32.reduceMul, Int32.reduceLT, Int32.reduceToNatClampNeg, eq_self, ne_eq, Int64.reduceAdd, Int64.reduceSub, Int64.reduceMul, Int64.reduceLT, k0, l0, nI_1, b1, b2, e2]
  refine x_bar (d := d + 15) F.1 (fun v S1 I1 L1 R1 X1 ex o1 ru n1 => ?_)
  obtain ⟨q0, q1⟩ := F.e ex
  have k1 := okI19 q0 X1.1.1
  have hS1 := X1.1.1
  have e0 : I1 0 = I 0 := o1 0 (by decide)
  simp only [E248_201, E248_202, E248_202n, E248_203, E248_204, E248_205, E248_206, E248_207, E248_208, E248_209, E248_210, E248_211, E248_212, E248_213, pk54 hS1, rfs, rfn, cs0, csi, csl, csr, csn, kti, ktl, ktr, ktn, ktv, ktf, true_and, and_true, and_self, ↓reduceIte, Nat.reduceAdd, Nat.reduceSub, Nat.reduceMul, Nat.reduceLT, Nat.reduceLeDiff, Nat.reduceEqDiff, true_or, or_true, false_or, or_false, not_true_eq_false, not_false_eq_true, reduceCtorEq, cmp_lt, cmp_gt, cmp_eq, Int32.reduceAdd, Int32.reduceSub, Int32.reduceMul, Int32.reduceLT, Int32.reduceToNatClampNeg, eq_self, ne_eq, Int64.reduceAdd, Int64.reduceSub, Int64.reduceMul, Int64.reduceLT, k1, q1, e0, nI_1, b1, b2, e2]
  refine m_bar (d := d + 35) hS1 X1.1.2 (F.2.1.x o1) (fun w J L2 M1 o2 n2 => ?_)
  obtain ⟨rfl, r⟩ := r_bar F.1 F.2.2.2.2.1 o1 n1 o2 n2
  have rb := b_bar F.1 F.2.2.2.2.1 F.2.2.2.2.2.1 F.2.1 o1 n1 o2 n2
  simp only [E248_216, E248_217, rfs, rfn, cs0, csi, csl, csr, csn, kti, ktl, ktr, ktn, ktv, ktf, true_and, and_true, and_self, ↓reduceIte, Nat.reduceAdd, Nat.reduceSub, Nat.reduceMul, Nat.reduceLT, Nat.reduceLeDiff, Nat.reduceEqDiff, true_or, or_true, false_or, or_false, not_true_eq_false, not_false_eq_true, reduceCtorEq, cmp_lt, cmp_gt, cmp_eq, Int32.reduceAdd, Int32.reduceSub, Int32.reduceMul, Int32.reduceLT, Int32.reduceToNatClampNeg, eq_self, ne_eq, Int64.reduceAdd, Int64.reduceSub, Int64.reduceMul, Int64.reduceLT]
  have hd := F.2.2.2.2.2.2.go ru.hd o2
  exact hn S1 J _ R1 ⟨X1.out o2, M1.mono (by omega), q0, q1, r, rb, hd⟩
theorem lk_shape (ht : t < 512) (hl : len < 2 ^ 31) (h6 : 6 * t + 6 ≤ len) (F : LX len t S I R) (hn : ∀ S' I' L' R', LX len (t + 1) S' I' R' → Ev (d + 40) 248 921 [.ref 0, .ref 4, .ref 54, .int (nI (6 * t))] [] S' I' L' R' lawQ) : Ev (d + 40) 248 220 [.ref 0, .ref 4, .ref 54, .int (nI (6 * t))] [] S I L R lawQ := by
  have b1 : inb (nI (6 * t + 1)) len = True := inb_nI (by omega) (by omega)
  have b2 : inb (nI (6 * t + 2)) len = True := inb_nI (by omega) (by omega)
  have e2 : nI (6 * t) + 2 = nI (6 * t + 2) := by rw [show (2 : Int32) = nI 2 from rfl, nI_add]
  have k0 := F.i0
  have l0 := F.2.2.2.1
  have hS := F.1.1.1
  simp only [E248_220, E248_220n, E248_221, E248_222, E248_223, E248_224, E248_225, E248_226, E248_227, E248_228, E248_229, E248_230, E248_231, pk4 hS, rfs, rfn, cs0, csi, csl, csr, csn, kti, ktl, ktr, ktn, ktv, ktf, true_and, and_true, and_self, ↓reduceIte, Nat.reduceAdd, Nat.reduceSub, Nat.reduceMul, Nat.reduceLT, Nat.reduceLeDiff, Nat.reduceEqDiff, true_or, or_true, false_or, or_false, not_true_eq_false, not_false_eq_true, reduceCtorEq, cmp_lt, cmp_gt, cmp_eq, Int32.reduceAdd, Int32.reduceSub, Int32.reduceMul, Int32.reduceLT, Int32.reduceToNatClampNeg, eq_self, ne_eq, Int64.reduceAdd, Int64.reduceSub, Int64.reduceMul, Int64.reduceLT, k0, l0, nI_1, b1, b2, e2]
  refine x_shape (d := d + 15) F.1 (fun v S1 I1 L1 R1 X1 ex o1 ru n1 => ?_)
  obtain ⟨q0, q1⟩ := F.e ex
  have k1 := okI19 q0 X1.1.1
  have hS1 := X1.1.1
  have e0 : I1 0 = I 0 := o1 0 (by decide)
  simp only [E248_234, E248_235, E248_235n, E248_236, E248_237, E248_238, E248_239, E248_240, E248_241, E248_242, E248_243, E248_244, E248_245, E248_246, pk54 hS1, rfs, rfn, cs0, csi, csl, csr, csn, kti, ktl, ktr, ktn, ktv, ktf, true_and, and_true, and_self, ↓reduceIte, Nat.reduceAdd, Nat.reduceSub, Nat.reduceMul, Nat.reduceLT, Nat.reduceLeDiff, Nat.reduceEqDiff, true_or, or_true, false_or, or_false, not_true_eq_false, not_false_eq_true, reduceCtorEq, cmp_lt, cmp_gt, cmp_eq, Int32.reduceAdd, Int32.reduceSub, Int32.reduceMul, Int32.reduceLT, Int32.reduceToNatClampNeg, eq_self, ne_eq, Int64.reduceAdd, Int64.reduceSub, Int64.reduceMul, Int64.reduceLT, k1, q1, e0, nI_1, b1, b2, e2]
  refine m_shape (d := d + 35) hS1 X1.1.2 (F.2.1.x o1) (fun w J L2 M1 o2 n2 => ?_)
  obtain ⟨rfl, r⟩ := r_shape F.1 F.2.2.2.2.1 o1 n1 o2 n2
  have rb := b_shape F.1 F.2.2.2.2.1 F.2.2.2.2.2.1 F.2.1 o1 n1 o2 n2
  simp only [E248_249, E248_250, rfs, rfn, cs0, csi, csl, csr, csn, kti, ktl, ktr, ktn, ktv, ktf, true_and, and_true, and_self, ↓reduceIte, Nat.reduceAdd, Nat.reduceSub, Nat.reduceMul, Nat.reduceLT, Nat.reduceLeDiff, Nat.reduceEqDiff, true_or, or_true, false_or, or_false, not_true_eq_false, not_false_eq_true, reduceCtorEq, cmp_lt, cmp_gt, cmp_eq, Int32.reduceAdd, Int32.reduceSub, Int32.reduceMul, Int32.reduceLT, Int32.reduceToNatClampNeg, eq_self, ne_eq, Int64.reduceAdd, Int64.reduceSub, Int64.reduceMul, Int64.reduceLT]
  have hd := F.2.2.2.2.2.2.go ru.hd o2
  exact hn S1 J _ R1 ⟨X1.out o2, M1.mono (by omega), q0, q1, r, rb, hd⟩
theorem lk_tongs (ht : t < 512) (hl : len < 2 ^ 31) (h6 : 6 * t + 6 ≤ len) (F : LX len t S I R) (hn : ∀ S' I' L' R', LX len (t + 1) S' I' R' → Ev (d + 40) 248 921 [.ref 0, .ref 4, .ref 54, .int (nI (6 * t))] [] S' I' L' R' lawQ) : Ev (d + 40) 248 253 [.ref 0, .ref 4, .ref 54, .int (nI (6 * t))] [] S I L R lawQ := by
  have b1 : inb (nI (6 * t + 1)) len = True := inb_nI (by omega) (by omega)
  have k0 := F.i0
  have l0 := F.2.2.2.1
  have hS := F.1.1.1
  simp only [E248_253, E248_253n, E248_254, E248_255, E248_256, E248_257, E248_258, E248_259, pk4 hS, rfs, rfn, cs0, csi, csl, csr, csn, kti, ktl, ktr, ktn, ktv, ktf, true_and, and_true, and_self, ↓reduceIte, Nat.reduceAdd, Nat.reduceSub, Nat.reduceMul, Nat.reduceLT, Nat.reduceLeDiff, Nat.reduceEqDiff, true_or, or_true, false_or, or_false, not_true_eq_false, not_false_eq_true, reduceCtorEq, cmp_lt, cmp_gt, cmp_eq, Int32.reduceAdd, Int32.reduceSub, Int32.reduceMul, Int32.reduceLT, Int32.reduceToNatClampNeg, eq_self, ne_eq, Int64.reduceAdd, Int64.reduceSub, Int64.reduceMul, Int64.reduceLT, k0, l0, nI_1, b1]
  refine x_tongs (d := d + 15) F.1 (fun v S1 I1 L1 R1 X1 ex o1 ru n1 => ?_)
  obtain ⟨q0, q1⟩ := F.e ex
  have k1 := okI19 q0 X1.1.1
  have hS1 := X1.1.1
  have e0 : I1 0 = I 0 := o1 0 (by decide)
  simp only [E248_262, E248_263, E248_263n, E248_264, E248_265, E248_266, E248_267, E248_268, E248_269, pk54 hS1, rfs, rfn, cs0, csi, csl, csr, csn, kti, ktl, ktr, ktn, ktv, ktf, true_and, and_true, and_self, ↓reduceIte, Nat.reduceAdd, Nat.reduceSub, Nat.reduceMul, Nat.reduceLT, Nat.reduceLeDiff, Nat.reduceEqDiff, true_or, or_true, false_or, or_false, not_true_eq_false, not_false_eq_true, reduceCtorEq, cmp_lt, cmp_gt, cmp_eq, Int32.reduceAdd, Int32.reduceSub, Int32.reduceMul, Int32.reduceLT, Int32.reduceToNatClampNeg, eq_self, ne_eq, Int64.reduceAdd, Int64.reduceSub, Int64.reduceMul, Int64.reduceLT, k1, q1, e0, nI_1, b1]
  refine m_tongs (d := d + 37) hS1 X1.1.2 (F.2.1.x o1) (fun w J L2 M1 o2 n2 => ?_)
  obtain ⟨rfl, r⟩ := r_tongs F.1 F.2.2.2.2.1 o1 n1 o2 n2
  have rb := b_tongs F.1 F.2.2.2.2.1 F.2.2.2.2.2.1 F.2.1 o1 n1 o2 n2
  simp only [E248_272, E248_273, rfs, rfn, cs0, csi, csl, csr, csn, kti, ktl, ktr, ktn, ktv, ktf, true_and, and_true, and_self, ↓reduceIte, Nat.reduceAdd, Nat.reduceSub, Nat.reduceMul, Nat.reduceLT, Nat.reduceLeDiff, Nat.reduceEqDiff, true_or, or_true, false_or, or_false, not_true_eq_false, not_false_eq_true, reduceCtorEq, cmp_lt, cmp_gt, cmp_eq, Int32.reduceAdd, Int32.reduceSub, Int32.reduceMul, Int32.reduceLT, Int32.reduceToNatClampNeg, eq_self, ne_eq, Int64.reduceAdd, Int64.reduceSub, Int64.reduceMul, Int64.reduceLT]
  have hd := F.2.2.2.2.2.2.go ru.hd o2
  exact hn S1 J _ R1 ⟨X1.out o2, M1.mono (by omega), q0, q1, r, rb, hd⟩
theorem lk_terms (ht : t < 512) (hl : len < 2 ^ 31) (h6 : 6 * t + 6 ≤ len) (F : LX len t S I R) (hn : ∀ S' I' L' R', LX len (t + 1) S' I' R' → Ev (d + 40) 248 921 [.ref 0, .ref 4, .ref 54, .int (nI (6 * t))] [] S' I' L' R' lawQ) : Ev (d + 40) 248 276 [.ref 0, .ref 4, .ref 54, .int (nI (6 * t))] [] S I L R lawQ := by
  have b1 : inb (nI (6 * t + 1)) len = True := inb_nI (by omega) (by omega)
  have b2 : inb (nI (6 * t + 2)) len = True := inb_nI (by omega) (by omega)
  have e2 : nI (6 * t) + 2 = nI (6 * t + 2) := by rw [show (2 : Int32) = nI 2 from rfl, nI_add]
  have k0 := F.i0
  have l0 := F.2.2.2.1
  have hS := F.1.1.1
  simp only [E248_276, E248_276n, E248_277, E248_278, E248_279, E248_280, E248_281, E248_282, E248_283, E248_284, E248_285, E248_286, E248_287, pk4 hS, rfs, rfn, cs0, csi, csl, csr, csn, kti, ktl, ktr, ktn, ktv, ktf, true_and, and_true, and_self, ↓reduceIte, Nat.reduceAdd, Nat.reduceSub, Nat.reduceMul, Nat.reduceLT, Nat.reduceLeDiff, Nat.reduceEqDiff, true_or, or_true, false_or, or_false, not_true_eq_false, not_false_eq_true, reduceCtorEq, cmp_lt, cmp_gt, cmp_eq, Int32.reduceAdd, Int32.reduceSub, Int32.reduceMul, Int32.reduceLT, Int32.reduceToNatClampNeg, eq_self, ne_eq, Int64.reduceAdd, Int64.reduceSub, Int64.reduceMul, Int64.reduceLT, k0, l0, nI_1, b1, b2, e2]
  refine x_terms (d := d + 15) F.1 (fun v S1 I1 L1 R1 X1 ex o1 ru n1 => ?_)
  obtain ⟨q0, q1⟩ := F.e ex
  have k1 := okI19 q0 X1.1.1
  have hS1 := X1.1.1
  have e0 : I1 0 = I 0 := o1 0 (by decide)
  simp only [E248_290, E248_291, E248_291n, E248_292, E248_293, E248_294, E248_295, E248_296, E248_297, E248_298, E248_299, E248_300, E248_301, E248_302, pk54 hS1, rfs, rfn, cs0, csi, csl, csr, csn, kti, ktl, ktr, ktn, ktv, ktf, true_and, and_true, and_self, ↓reduceIte, Nat.reduceAdd, Nat.reduceSub, Nat.reduceMul, Nat.reduceLT, Nat.reduceLeDiff, Nat.reduceEqDiff, true_or, or_true, false_or, or_false, not_true_eq_false, not_false_eq_true, reduceCtorEq, cmp_lt, cmp_gt, cmp_eq, Int32.reduceAdd, Int32.reduceSub, Int32.reduceMul, Int32.reduceLT, Int32.reduceToNatClampNeg, eq_self, ne_eq, Int64.reduceAdd, Int64.reduceSub, Int64.reduceMul, Int64.reduceLT, k1, q1, e0, nI_1, b1, b2, e2]
  refine m_terms (d := d + 37) hS1 X1.1.2 (F.2.1.x o1) (fun w J L2 M1 o2 n2 => ?_)
  obtain ⟨rfl, r⟩ := r_terms F.1 F.2.2.2.2.1 o1 n1 o2 n2
  have rb := b_terms F.1 F.2.2.2.2.1 F.2.2.2.2.2.1 F.2.1 o1 n1 o2 n2
  simp only [E248_305, E248_306, rfs, rfn, cs0, csi, csl, csr, csn, kti, ktl, ktr, ktn, ktv, ktf, true_and, and_true, and_self, ↓reduceIte, Nat.reduceAdd, Nat.reduceSub, Nat.reduceMul, Nat.reduceLT, Nat.reduceLeDiff, Nat.reduceEqDiff, true_or, or_true, false_or, or_false, not_true_eq_false, not_false_eq_true, reduceCtorEq, cmp_lt, cmp_gt, cmp_eq, Int32.reduceAdd, Int32.reduceSub, Int32.reduceMul, Int32.reduceLT, Int32.reduceToNatClampNeg, eq_self, ne_eq, Int64.reduceAdd, Int64.reduceSub, Int64.reduceMul, Int64.reduceLT]
  have hd := F.2.2.2.2.2.2.go ru.hd o2
  exact hn S1 J _ R1 ⟨X1.out o2, M1.mono (by omega), q0, q1, r, rb, hd⟩
theorem lk_feed (ht : t < 512) (hl : len < 2 ^ 31) (h6 : 6 * t + 6 ≤ len) (F : LX len t S I R) (hn : ∀ S' I' L' R', LX len (t + 1) S' I' R' → Ev (d + 40) 248 921 [.ref 0, .ref 4, .ref 54, .int (nI (6 * t))] [] S' I' L' R' lawQ) : Ev (d + 40) 248 309 [.ref 0, .ref 4, .ref 54, .int (nI (6 * t))] [] S I L R lawQ := by
  have b1 : inb (nI (6 * t + 1)) len = True := inb_nI (by omega) (by omega)
  have b2 : inb (nI (6 * t + 2)) len = True := inb_nI (by omega) (by omega)
  have b3 : inb (nI (6 * t + 3)) len = True := inb_nI (by omega) (by omega)
  have b4 : inb (nI (6 * t + 4)) len = True := inb_nI (by omega) (by omega)
  have b5 : inb (nI (6 * t + 5)) len = True := inb_nI (by omega) (by omega)
  have e2 : nI (6 * t) + 2 = nI (6 * t + 2) := by rw [show (2 : Int32) = nI 2 from rfl, nI_add]
  have e3 : nI (6 * t) + 3 = nI (6 * t + 3) := by rw [show (3 : Int32) = nI 3 from rfl, nI_add]
  have e4 : nI (6 * t) + 4 = nI (6 * t + 4) := by rw [show (4 : Int32) = nI 4 from rfl, nI_add]
  have e5 : nI (6 * t) + 5 = nI (6 * t + 5) := by rw [show (5 : Int32) = nI 5 from rfl, nI_add]
  have k0 := F.i0
  have l0 := F.2.2.2.1
  have hS := F.1.1.1
  simp only [E248_309, E248_309n, E248_310, E248_311, E248_312, E248_313, E248_314, E248_315, E248_316, E248_317, E248_318, E248_319, E248_320, E248_321, E248_322, E248_323, E248_324, E248_325, E248_326, E248_327, E248_328, E248_329, E248_330, E248_331, E248_332, E248_333, E248_334, E248_335, pk4 hS, rfs, rfn, cs0, csi, csl, csr, csn, kti, ktl, ktr, ktn, ktv, ktf, true_and, and_true, and_self, ↓reduceIte, Nat.reduceAdd, Nat.reduceSub, Nat.reduceMul, Nat.reduceLT, Nat.reduceLeDiff, Nat.reduceEqDiff, true_or, or_true, false_or, or_false, not_true_eq_false, not_false_eq_true, reduceCtorEq, cmp_lt, cmp_gt, cmp_eq, Int32.reduceAdd, Int32.reduceSub, Int32.reduceMul, Int32.reduceLT, Int32.reduceToNatClampNeg, eq_self, ne_eq, Int64.reduceAdd, Int64.reduceSub, Int64.reduceMul, Int64.reduceLT, k0, l0, nI_1, b1, b2, b3, b4, b5, e2, e3, e4, e5]
  refine x_feed (d := d + 15) F.1 (fun v S1 I1 L1 R1 X1 ex o1 ru n1 => ?_)
  obtain ⟨q0, q1⟩ := F.e ex
  have k1 := okI19 q0 X1.1.1
  have hS1 := X1.1.1
  have e0 : I1 0 = I 0 := o1 0 (by decide)
  simp only [E248_338, E248_339, E248_339n, E248_340, E248_341, E248_342, E248_343, E248_344, E248_345, E248_346, E248_347, E248_348, E248_349, E248_350, E248_351, E248_352, E248_353, E248_354, E248_355, E248_356, E248_357, E248_358, E248_359, E248_360, E248_361, E248_362, E248_363, E248_364, E248_365, pk54 hS1, rfs, rfn, cs0, csi, csl, csr, csn, kti, ktl, ktr, ktn, ktv, ktf, true_and, and_true, and_self, ↓reduceIte, Nat.reduceAdd, Nat.reduceSub, Nat.reduceMul, Nat.reduceLT, Nat.reduceLeDiff, Nat.reduceEqDiff, true_or, or_true, false_or, or_false, not_true_eq_false, not_false_eq_true, reduceCtorEq, cmp_lt, cmp_gt, cmp_eq, Int32.reduceAdd, Int32.reduceSub, Int32.reduceMul, Int32.reduceLT, Int32.reduceToNatClampNeg, eq_self, ne_eq, Int64.reduceAdd, Int64.reduceSub, Int64.reduceMul, Int64.reduceLT, k1, q1, e0, nI_1, b1, b2, b3, b4, b5, e2, e3, e4, e5]
  refine m_feed (d := d + 37) hS1 X1.1.2 (F.2.1.x o1) (fun w J L2 M1 o2 n2 => ?_)
  obtain ⟨rfl, r⟩ := r_feed F.1 F.2.2.2.2.1 o1 n1 o2 n2
  have rb := b_feed F.1 F.2.2.2.2.1 F.2.2.2.2.2.1 F.2.1 o1 n1 o2 n2
  simp only [E248_368, E248_369, rfs, rfn, cs0, csi, csl, csr, csn, kti, ktl, ktr, ktn, ktv, ktf, true_and, and_true, and_self, ↓reduceIte, Nat.reduceAdd, Nat.reduceSub, Nat.reduceMul, Nat.reduceLT, Nat.reduceLeDiff, Nat.reduceEqDiff, true_or, or_true, false_or, or_false, not_true_eq_false, not_false_eq_true, reduceCtorEq, cmp_lt, cmp_gt, cmp_eq, Int32.reduceAdd, Int32.reduceSub, Int32.reduceMul, Int32.reduceLT, Int32.reduceToNatClampNeg, eq_self, ne_eq, Int64.reduceAdd, Int64.reduceSub, Int64.reduceMul, Int64.reduceLT]
  have hd := F.2.2.2.2.2.2.go ru.hd o2
  exact hn S1 J _ R1 ⟨X1.out o2, M1.mono (by omega), q0, q1, r, rb, hd⟩
theorem lk_end (ht : t < 512) (hl : len < 2 ^ 31) (h6 : 6 * t + 6 ≤ len) (F : LX len t S I R) (hn : ∀ S' I' L' R', LX len (t + 1) S' I' R' → Ev (d + 40) 248 921 [.ref 0, .ref 4, .ref 54, .int (nI (6 * t))] [] S' I' L' R' lawQ) : Ev (d + 40) 248 372 [.ref 0, .ref 4, .ref 54, .int (nI (6 * t))] [] S I L R lawQ := by
  have b1 : inb (nI (6 * t + 1)) len = True := inb_nI (by omega) (by omega)
  have k0 := F.i0
  have l0 := F.2.2.2.1
  have hS := F.1.1.1
  simp only [E248_372, E248_372n, E248_373, E248_374, E248_375, E248_376, E248_377, E248_378, pk4 hS, rfs, rfn, cs0, csi, csl, csr, csn, kti, ktl, ktr, ktn, ktv, ktf, true_and, and_true, and_self, ↓reduceIte, Nat.reduceAdd, Nat.reduceSub, Nat.reduceMul, Nat.reduceLT, Nat.reduceLeDiff, Nat.reduceEqDiff, true_or, or_true, false_or, or_false, not_true_eq_false, not_false_eq_true, reduceCtorEq, cmp_lt, cmp_gt, cmp_eq, Int32.reduceAdd, Int32.reduceSub, Int32.reduceMul, Int32.reduceLT, Int32.reduceToNatClampNeg, eq_self, ne_eq, Int64.reduceAdd, Int64.reduceSub, Int64.reduceMul, Int64.reduceLT, k0, l0, nI_1, b1]
  refine x_end (d := d + 15) F.1 (fun v S1 I1 L1 R1 X1 ex o1 ru n1 => ?_)
  obtain ⟨q0, q1⟩ := F.e ex
  have k1 := okI19 q0 X1.1.1
  have hS1 := X1.1.1
  have e0 : I1 0 = I 0 := o1 0 (by decide)
  simp only [E248_381, E248_382, E248_382n, E248_383, E248_384, E248_385, E248_386, E248_387, E248_388, pk54 hS1, rfs, rfn, cs0, csi, csl, csr, csn, kti, ktl, ktr, ktn, ktv, ktf, true_and, and_true, and_self, ↓reduceIte, Nat.reduceAdd, Nat.reduceSub, Nat.reduceMul, Nat.reduceLT, Nat.reduceLeDiff, Nat.reduceEqDiff, true_or, or_true, false_or, or_false, not_true_eq_false, not_false_eq_true, reduceCtorEq, cmp_lt, cmp_gt, cmp_eq, Int32.reduceAdd, Int32.reduceSub, Int32.reduceMul, Int32.reduceLT, Int32.reduceToNatClampNeg, eq_self, ne_eq, Int64.reduceAdd, Int64.reduceSub, Int64.reduceMul, Int64.reduceLT, k1, q1, e0, nI_1, b1]
  refine m_end (d := d + 38) hS1 X1.1.2 (F.2.1.x o1) (fun w J L2 M1 o2 n2 => ?_)
  obtain ⟨rfl, r⟩ := r_end F.1 F.2.2.2.2.1 o1 n1 o2 n2
  have rb := b_end F.1 F.2.2.2.2.1 F.2.2.2.2.2.1 F.2.1 o1 n1 o2 n2
  simp only [E248_391, E248_392, rfs, rfn, cs0, csi, csl, csr, csn, kti, ktl, ktr, ktn, ktv, ktf, true_and, and_true, and_self, ↓reduceIte, Nat.reduceAdd, Nat.reduceSub, Nat.reduceMul, Nat.reduceLT, Nat.reduceLeDiff, Nat.reduceEqDiff, true_or, or_true, false_or, or_false, not_true_eq_false, not_false_eq_true, reduceCtorEq, cmp_lt, cmp_gt, cmp_eq, Int32.reduceAdd, Int32.reduceSub, Int32.reduceMul, Int32.reduceLT, Int32.reduceToNatClampNeg, eq_self, ne_eq, Int64.reduceAdd, Int64.reduceSub, Int64.reduceMul, Int64.reduceLT]
  have hd := F.2.2.2.2.2.2.go ru.hd o2
  exact hn S1 J _ R1 ⟨X1.out o2, M1.mono (by omega), q0, q1, r, rb, hd⟩
theorem lk_row (ht : t < 512) (hl : len < 2 ^ 31) (h6 : 6 * t + 6 ≤ len) (F : LX len t S I R) (hn : ∀ S' I' L' R', LX len (t + 1) S' I' R' → Ev (d + 40) 248 921 [.ref 0, .ref 4, .ref 54, .int (nI (6 * t))] [] S' I' L' R' lawQ) : Ev (d + 40) 248 395 [.ref 0, .ref 4, .ref 54, .int (nI (6 * t))] [] S I L R lawQ := by
  have k0 := F.i0
  have l0 := F.2.2.2.1
  have hS := F.1.1.1
  simp only [E248_395, E248_395n, E248_396, pk4 hS, rfs, rfn, cs0, csi, csl, csr, csn, kti, ktl, ktr, ktn, ktv, ktf, true_and, and_true, and_self, ↓reduceIte, Nat.reduceAdd, Nat.reduceSub, Nat.reduceMul, Nat.reduceLT, Nat.reduceLeDiff, Nat.reduceEqDiff, true_or, or_true, false_or, or_false, not_true_eq_false, not_false_eq_true, reduceCtorEq, cmp_lt, cmp_gt, cmp_eq, Int32.reduceAdd, Int32.reduceSub, Int32.reduceMul, Int32.reduceLT, Int32.reduceToNatClampNeg, eq_self, ne_eq, Int64.reduceAdd, Int64.reduceSub, Int64.reduceMul, Int64.reduceLT, k0, l0, nI_1]
  refine x_row (d := d + 15) F.1 (fun v S1 I1 L1 R1 X1 ex o1 ru n1 => ?_)
  obtain ⟨q0, q1⟩ := F.e ex
  have k1 := okI19 q0 X1.1.1
  have hS1 := X1.1.1
  have e0 : I1 0 = I 0 := o1 0 (by decide)
  simp only [E248_399, E248_400, E248_400n, E248_401, pk54 hS1, rfs, rfn, cs0, csi, csl, csr, csn, kti, ktl, ktr, ktn, ktv, ktf, true_and, and_true, and_self, ↓reduceIte, Nat.reduceAdd, Nat.reduceSub, Nat.reduceMul, Nat.reduceLT, Nat.reduceLeDiff, Nat.reduceEqDiff, true_or, or_true, false_or, or_false, not_true_eq_false, not_false_eq_true, reduceCtorEq, cmp_lt, cmp_gt, cmp_eq, Int32.reduceAdd, Int32.reduceSub, Int32.reduceMul, Int32.reduceLT, Int32.reduceToNatClampNeg, eq_self, ne_eq, Int64.reduceAdd, Int64.reduceSub, Int64.reduceMul, Int64.reduceLT, k1, q1, e0, nI_1]
  refine m_row (d := d + 37) hS1 X1.1.2 (F.2.1.x o1) (fun w J L2 M1 o2 m7 n2 => ?_)
  obtain ⟨rfl, r⟩ := r_row F.1 F.2.2.2.2.1 o1 n1 o2 m7 n2
  have rb := b_row F.1 F.2.2.2.2.1 F.2.2.2.2.2.1 F.2.1 o1 n1 o2 n2
  simp only [E248_404, E248_405, rfs, rfn, cs0, csi, csl, csr, csn, kti, ktl, ktr, ktn, ktv, ktf, true_and, and_true, and_self, ↓reduceIte, Nat.reduceAdd, Nat.reduceSub, Nat.reduceMul, Nat.reduceLT, Nat.reduceLeDiff, Nat.reduceEqDiff, true_or, or_true, false_or, or_false, not_true_eq_false, not_false_eq_true, reduceCtorEq, cmp_lt, cmp_gt, cmp_eq, Int32.reduceAdd, Int32.reduceSub, Int32.reduceMul, Int32.reduceLT, Int32.reduceToNatClampNeg, eq_self, ne_eq, Int64.reduceAdd, Int64.reduceSub, Int64.reduceMul, Int64.reduceLT]
  have hd := F.2.2.2.2.2.2.go ru.hd o2
  exact hn S1 J _ R1 ⟨X1.out o2, M1.mono (by omega), q0, q1, r, rb, hd⟩
theorem lk_recipe (ht : t < 512) (hl : len < 2 ^ 31) (h6 : 6 * t + 6 ≤ len) (F : LX len t S I R) (hn : ∀ S' I' L' R', LX len (t + 1) S' I' R' → Ev (d + 40) 248 921 [.ref 0, .ref 4, .ref 54, .int (nI (6 * t))] [] S' I' L' R' lawQ) : Ev (d + 40) 248 408 [.ref 0, .ref 4, .ref 54, .int (nI (6 * t))] [] S I L R lawQ := by
  have k0 := F.i0
  have l0 := F.2.2.2.1
  have hS := F.1.1.1
  simp only [E248_408, E248_408n, E248_409, pk4 hS, rfs, rfn, cs0, csi, csl, csr, csn, kti, ktl, ktr, ktn, ktv, ktf, true_and, and_true, and_self, ↓reduceIte, Nat.reduceAdd, Nat.reduceSub, Nat.reduceMul, Nat.reduceLT, Nat.reduceLeDiff, Nat.reduceEqDiff, true_or, or_true, false_or, or_false, not_true_eq_false, not_false_eq_true, reduceCtorEq, cmp_lt, cmp_gt, cmp_eq, Int32.reduceAdd, Int32.reduceSub, Int32.reduceMul, Int32.reduceLT, Int32.reduceToNatClampNeg, eq_self, ne_eq, Int64.reduceAdd, Int64.reduceSub, Int64.reduceMul, Int64.reduceLT, k0, l0, nI_1]
  refine x_recipe (d := d + 15) F.1 (fun v S1 I1 L1 R1 X1 ex o1 ru n1 => ?_)
  obtain ⟨q0, q1⟩ := F.e ex
  have k1 := okI19 q0 X1.1.1
  have hS1 := X1.1.1
  have e0 : I1 0 = I 0 := o1 0 (by decide)
  simp only [E248_412, E248_413, E248_413n, E248_414, pk54 hS1, rfs, rfn, cs0, csi, csl, csr, csn, kti, ktl, ktr, ktn, ktv, ktf, true_and, and_true, and_self, ↓reduceIte, Nat.reduceAdd, Nat.reduceSub, Nat.reduceMul, Nat.reduceLT, Nat.reduceLeDiff, Nat.reduceEqDiff, true_or, or_true, false_or, or_false, not_true_eq_false, not_false_eq_true, reduceCtorEq, cmp_lt, cmp_gt, cmp_eq, Int32.reduceAdd, Int32.reduceSub, Int32.reduceMul, Int32.reduceLT, Int32.reduceToNatClampNeg, eq_self, ne_eq, Int64.reduceAdd, Int64.reduceSub, Int64.reduceMul, Int64.reduceLT, k1, q1, e0, nI_1]
  refine m_recB (d := d + 30) (Z := put I 4 3 0) hS1 X1.1.2 (F.2.1.x o1) (Byt.of F.2.2.2.2.2.1.2.2.2 F.2.2.2.2.1.2.2.1 o1) (fun w J L2 M1 o2 n2 n3 => ?_)
  have r := r_recipe F.1 F.2.2.2.2.1 o1 ⟨n1.1, n1.2.1⟩ o2 n2
  obtain ⟨rfl, rb⟩ := b_recipe F.1 F.2.2.2.2.1 F.2.2.2.2.2.1 F.2.1 o1 n1.1 n1.2.2 o2 n2 n3 M1
  simp only [E248_417, E248_418, rfs, rfn, cs0, csi, csl, csr, csn, kti, ktl, ktr, ktn, ktv, ktf, true_and, and_true, and_self, ↓reduceIte, Nat.reduceAdd, Nat.reduceSub, Nat.reduceMul, Nat.reduceLT, Nat.reduceLeDiff, Nat.reduceEqDiff, true_or, or_true, false_or, or_false, not_true_eq_false, not_false_eq_true, reduceCtorEq, cmp_lt, cmp_gt, cmp_eq, Int32.reduceAdd, Int32.reduceSub, Int32.reduceMul, Int32.reduceLT, Int32.reduceToNatClampNeg, eq_self, ne_eq, Int64.reduceAdd, Int64.reduceSub, Int64.reduceMul, Int64.reduceLT]
  have hd := F.2.2.2.2.2.2.go ru.hd o2
  exact hn S1 J _ R1 ⟨X1.out o2, M1.mono (by omega), q0, q1, r, rb, hd⟩
theorem lk_fault (ht : t < 512) (hl : len < 2 ^ 31) (h6 : 6 * t + 6 ≤ len) (F : LX len t S I R) (hn : ∀ S' I' L' R', LX len (t + 1) S' I' R' → Ev (d + 40) 248 921 [.ref 0, .ref 4, .ref 54, .int (nI (6 * t))] [] S' I' L' R' lawQ) : Ev (d + 40) 248 421 [.ref 0, .ref 4, .ref 54, .int (nI (6 * t))] [] S I L R lawQ := by
  have k0 := F.i0
  have l0 := F.2.2.2.1
  have hS := F.1.1.1
  simp only [E248_421, E248_421n, E248_422, pk4 hS, rfs, rfn, cs0, csi, csl, csr, csn, kti, ktl, ktr, ktn, ktv, ktf, true_and, and_true, and_self, ↓reduceIte, Nat.reduceAdd, Nat.reduceSub, Nat.reduceMul, Nat.reduceLT, Nat.reduceLeDiff, Nat.reduceEqDiff, true_or, or_true, false_or, or_false, not_true_eq_false, not_false_eq_true, reduceCtorEq, cmp_lt, cmp_gt, cmp_eq, Int32.reduceAdd, Int32.reduceSub, Int32.reduceMul, Int32.reduceLT, Int32.reduceToNatClampNeg, eq_self, ne_eq, Int64.reduceAdd, Int64.reduceSub, Int64.reduceMul, Int64.reduceLT, k0, l0, nI_1]
  refine x_fault (d := d + 15) F.1 (fun v S1 I1 L1 R1 X1 ex o1 ru n1 => ?_)
  obtain ⟨q0, q1⟩ := F.e ex
  have k1 := okI19 q0 X1.1.1
  have hS1 := X1.1.1
  have e0 : I1 0 = I 0 := o1 0 (by decide)
  simp only [E248_425, E248_426, E248_426n, E248_427, pk54 hS1, rfs, rfn, cs0, csi, csl, csr, csn, kti, ktl, ktr, ktn, ktv, ktf, true_and, and_true, and_self, ↓reduceIte, Nat.reduceAdd, Nat.reduceSub, Nat.reduceMul, Nat.reduceLT, Nat.reduceLeDiff, Nat.reduceEqDiff, true_or, or_true, false_or, or_false, not_true_eq_false, not_false_eq_true, reduceCtorEq, cmp_lt, cmp_gt, cmp_eq, Int32.reduceAdd, Int32.reduceSub, Int32.reduceMul, Int32.reduceLT, Int32.reduceToNatClampNeg, eq_self, ne_eq, Int64.reduceAdd, Int64.reduceSub, Int64.reduceMul, Int64.reduceLT, k1, q1, e0, nI_1]
  refine m_fault (d := d + 38) hS1 X1.1.2 (F.2.1.x o1) (fun w J L2 M1 o2 n2 => ?_)
  obtain ⟨rfl, rb⟩ := b_fault F.1 F.2.2.2.2.1 F.2.2.2.2.2.1 F.2.1 o1 n1 o2 n2
  have r := F.2.2.2.2.1.keep F.1 o1 n1.1 o2 n2.1
  simp only [E248_430, E248_431, rfs, rfn, cs0, csi, csl, csr, csn, kti, ktl, ktr, ktn, ktv, ktf, true_and, and_true, and_self, ↓reduceIte, Nat.reduceAdd, Nat.reduceSub, Nat.reduceMul, Nat.reduceLT, Nat.reduceLeDiff, Nat.reduceEqDiff, true_or, or_true, false_or, or_false, not_true_eq_false, not_false_eq_true, reduceCtorEq, cmp_lt, cmp_gt, cmp_eq, Int32.reduceAdd, Int32.reduceSub, Int32.reduceMul, Int32.reduceLT, Int32.reduceToNatClampNeg, eq_self, ne_eq, Int64.reduceAdd, Int64.reduceSub, Int64.reduceMul, Int64.reduceLT]
  have hd := F.2.2.2.2.2.2.go ru.hd o2
  exact hn S1 J _ R1 ⟨X1.out o2, M1.mono (by omega), q0, q1, r, rb, hd⟩
theorem lk_steps (ht : t < 512) (hl : len < 2 ^ 31) (h6 : 6 * t + 6 ≤ len) (F : LX len t S I R) (hn : ∀ S' I' L' R', LX len (t + 1) S' I' R' → Ev (d + 40) 248 921 [.ref 0, .ref 4, .ref 54, .int (nI (6 * t))] [] S' I' L' R' lawQ) : Ev (d + 40) 248 434 [.ref 0, .ref 4, .ref 54, .int (nI (6 * t))] [] S I L R lawQ := by
  have b1 : inb (nI (6 * t + 1)) len = True := inb_nI (by omega) (by omega)
  have k0 := F.i0
  have l0 := F.2.2.2.1
  have hS := F.1.1.1
  simp only [E248_434, E248_434n, E248_435, E248_436, E248_437, E248_438, E248_439, E248_440, pk4 hS, rfs, rfn, cs0, csi, csl, csr, csn, kti, ktl, ktr, ktn, ktv, ktf, true_and, and_true, and_self, ↓reduceIte, Nat.reduceAdd, Nat.reduceSub, Nat.reduceMul, Nat.reduceLT, Nat.reduceLeDiff, Nat.reduceEqDiff, true_or, or_true, false_or, or_false, not_true_eq_false, not_false_eq_true, reduceCtorEq, cmp_lt, cmp_gt, cmp_eq, Int32.reduceAdd, Int32.reduceSub, Int32.reduceMul, Int32.reduceLT, Int32.reduceToNatClampNeg, eq_self, ne_eq, Int64.reduceAdd, Int64.reduceSub, Int64.reduceMul, Int64.reduceLT, k0, l0, nI_1, b1]
  refine x_steps (d := d + 15) F.1 (fun v S1 I1 L1 R1 X1 ex o1 ru n1 => ?_)
  obtain ⟨q0, q1⟩ := F.e ex
  have k1 := okI19 q0 X1.1.1
  have hS1 := X1.1.1
  have e0 : I1 0 = I 0 := o1 0 (by decide)
  simp only [E248_443, E248_444, E248_444n, E248_445, E248_446, E248_447, E248_448, E248_449, E248_450, pk54 hS1, rfs, rfn, cs0, csi, csl, csr, csn, kti, ktl, ktr, ktn, ktv, ktf, true_and, and_true, and_self, ↓reduceIte, Nat.reduceAdd, Nat.reduceSub, Nat.reduceMul, Nat.reduceLT, Nat.reduceLeDiff, Nat.reduceEqDiff, true_or, or_true, false_or, or_false, not_true_eq_false, not_false_eq_true, reduceCtorEq, cmp_lt, cmp_gt, cmp_eq, Int32.reduceAdd, Int32.reduceSub, Int32.reduceMul, Int32.reduceLT, Int32.reduceToNatClampNeg, eq_self, ne_eq, Int64.reduceAdd, Int64.reduceSub, Int64.reduceMul, Int64.reduceLT, k1, q1, e0, nI_1, b1]
  refine m_steps (d := d + 36) hS1 X1.1.2 (F.2.1.x o1) (fun w J L2 M1 o2 n2 => ?_)
  obtain ⟨rfl, rb⟩ := b_steps F.1 F.2.2.2.2.1 F.2.2.2.2.2.1 F.2.1 o1 n1 o2 n2
  have r := F.2.2.2.2.1.keep F.1 o1 n1.1 o2 n2.1
  simp only [E248_453, E248_454, rfs, rfn, cs0, csi, csl, csr, csn, kti, ktl, ktr, ktn, ktv, ktf, true_and, and_true, and_self, ↓reduceIte, Nat.reduceAdd, Nat.reduceSub, Nat.reduceMul, Nat.reduceLT, Nat.reduceLeDiff, Nat.reduceEqDiff, true_or, or_true, false_or, or_false, not_true_eq_false, not_false_eq_true, reduceCtorEq, cmp_lt, cmp_gt, cmp_eq, Int32.reduceAdd, Int32.reduceSub, Int32.reduceMul, Int32.reduceLT, Int32.reduceToNatClampNeg, eq_self, ne_eq, Int64.reduceAdd, Int64.reduceSub, Int64.reduceMul, Int64.reduceLT]
  have hd := F.2.2.2.2.2.2.go ru.hd o2
  exact hn S1 J _ R1 ⟨X1.out o2, M1.mono (by omega), q0, q1, r, rb, hd⟩
theorem lk_run (ht : t < 512) (hl : len < 2 ^ 31) (h6 : 6 * t + 6 ≤ len) (F : LX len t S I R) (hn : ∀ S' I' L' R', LX len (t + 1) S' I' R' → Ev (d + 40) 248 921 [.ref 0, .ref 4, .ref 54, .int (nI (6 * t))] [] S' I' L' R' lawQ) : Ev (d + 40) 248 457 [.ref 0, .ref 4, .ref 54, .int (nI (6 * t))] [] S I L R lawQ := by
  have b1 : inb (nI (6 * t + 1)) len = True := inb_nI (by omega) (by omega)
  have k0 := F.i0
  have l0 := F.2.2.2.1
  have hS := F.1.1.1
  simp only [E248_457, E248_457n, E248_458, E248_459, E248_460, E248_461, E248_462, E248_463, pk4 hS, rfs, rfn, cs0, csi, csl, csr, csn, kti, ktl, ktr, ktn, ktv, ktf, true_and, and_true, and_self, ↓reduceIte, Nat.reduceAdd, Nat.reduceSub, Nat.reduceMul, Nat.reduceLT, Nat.reduceLeDiff, Nat.reduceEqDiff, true_or, or_true, false_or, or_false, not_true_eq_false, not_false_eq_true, reduceCtorEq, cmp_lt, cmp_gt, cmp_eq, Int32.reduceAdd, Int32.reduceSub, Int32.reduceMul, Int32.reduceLT, Int32.reduceToNatClampNeg, eq_self, ne_eq, Int64.reduceAdd, Int64.reduceSub, Int64.reduceMul, Int64.reduceLT, k0, l0, nI_1, b1]
  refine x_run (d := d + 15) F.1 (fun v S1 I1 L1 R1 X1 ex o1 ru n1 => ?_)
  obtain ⟨q0, q1⟩ := F.e ex
  have k1 := okI19 q0 X1.1.1
  have hS1 := X1.1.1
  have e0 : I1 0 = I 0 := o1 0 (by decide)
  simp only [E248_466, E248_467, E248_467n, E248_468, E248_469, E248_470, E248_471, E248_472, E248_473, pk54 hS1, rfs, rfn, cs0, csi, csl, csr, csn, kti, ktl, ktr, ktn, ktv, ktf, true_and, and_true, and_self, ↓reduceIte, Nat.reduceAdd, Nat.reduceSub, Nat.reduceMul, Nat.reduceLT, Nat.reduceLeDiff, Nat.reduceEqDiff, true_or, or_true, false_or, or_false, not_true_eq_false, not_false_eq_true, reduceCtorEq, cmp_lt, cmp_gt, cmp_eq, Int32.reduceAdd, Int32.reduceSub, Int32.reduceMul, Int32.reduceLT, Int32.reduceToNatClampNeg, eq_self, ne_eq, Int64.reduceAdd, Int64.reduceSub, Int64.reduceMul, Int64.reduceLT, k1, q1, e0, nI_1, b1]
  refine run_law (d := d + 33) F.1 F.2.2.2.2.1 F.2.2.2.2.2.1 F.2.2.2.2.2.2 (F.2.1.x o1) hS1 X1.1.2 o1 n1.2 (fun J L2 M1 o2 n2 => ?_)
  have r := F.2.2.2.2.1.keep F.1 o1 n1.1 o2 n2
  have rb := F.2.2.2.2.2.1.go F.1 o1 (RcX.no n1.1) o2 (RmX.n n2)
  simp only [E248_476, E248_477, rfs, rfn, cs0, csi, csl, csr, csn, kti, ktl, ktr, ktn, ktv, ktf, true_and, and_true, and_self, ↓reduceIte, Nat.reduceAdd, Nat.reduceSub, Nat.reduceMul, Nat.reduceLT, Nat.reduceLeDiff, Nat.reduceEqDiff, true_or, or_true, false_or, or_false, not_true_eq_false, not_false_eq_true, reduceCtorEq, cmp_lt, cmp_gt, cmp_eq, Int32.reduceAdd, Int32.reduceSub, Int32.reduceMul, Int32.reduceLT, Int32.reduceToNatClampNeg, eq_self, ne_eq, Int64.reduceAdd, Int64.reduceSub, Int64.reduceMul, Int64.reduceLT]
  have hd := F.2.2.2.2.2.2.go ru o2
  exact hn S1 J _ R1 ⟨X1.out o2, M1.mono (by omega), q0, q1, r, rb, hd⟩
theorem lk_came (ht : t < 512) (hl : len < 2 ^ 31) (h6 : 6 * t + 6 ≤ len) (F : LX len t S I R) (hn : ∀ S' I' L' R', LX len (t + 1) S' I' R' → Ev (d + 40) 248 921 [.ref 0, .ref 4, .ref 54, .int (nI (6 * t))] [] S' I' L' R' lawQ) : Ev (d + 40) 248 480 [.ref 0, .ref 4, .ref 54, .int (nI (6 * t))] [] S I L R lawQ := by
  have b1 : inb (nI (6 * t + 1)) len = True := inb_nI (by omega) (by omega)
  have k0 := F.i0
  have l0 := F.2.2.2.1
  have hS := F.1.1.1
  simp only [E248_480, E248_480n, E248_481, E248_482, E248_483, E248_484, E248_485, E248_486, pk4 hS, rfs, rfn, cs0, csi, csl, csr, csn, kti, ktl, ktr, ktn, ktv, ktf, true_and, and_true, and_self, ↓reduceIte, Nat.reduceAdd, Nat.reduceSub, Nat.reduceMul, Nat.reduceLT, Nat.reduceLeDiff, Nat.reduceEqDiff, true_or, or_true, false_or, or_false, not_true_eq_false, not_false_eq_true, reduceCtorEq, cmp_lt, cmp_gt, cmp_eq, Int32.reduceAdd, Int32.reduceSub, Int32.reduceMul, Int32.reduceLT, Int32.reduceToNatClampNeg, eq_self, ne_eq, Int64.reduceAdd, Int64.reduceSub, Int64.reduceMul, Int64.reduceLT, k0, l0, nI_1, b1]
  refine x_came (d := d + 15) F.1 (fun v S1 I1 L1 R1 X1 ex o1 ru n1 => ?_)
  obtain ⟨q0, q1⟩ := F.e ex
  have k1 := okI19 q0 X1.1.1
  have hS1 := X1.1.1
  have e0 : I1 0 = I 0 := o1 0 (by decide)
  simp only [E248_489, E248_490, E248_490n, E248_491, E248_492, E248_493, E248_494, E248_495, E248_496, pk54 hS1, rfs, rfn, cs0, csi, csl, csr, csn, kti, ktl, ktr, ktn, ktv, ktf, true_and, and_true, and_self, ↓reduceIte, Nat.reduceAdd, Nat.reduceSub, Nat.reduceMul, Nat.reduceLT, Nat.reduceLeDiff, Nat.reduceEqDiff, true_or, or_true, false_or, or_false, not_true_eq_false, not_false_eq_true, reduceCtorEq, cmp_lt, cmp_gt, cmp_eq, Int32.reduceAdd, Int32.reduceSub, Int32.reduceMul, Int32.reduceLT, Int32.reduceToNatClampNeg, eq_self, ne_eq, Int64.reduceAdd, Int64.reduceSub, Int64.reduceMul, Int64.reduceLT, k1, q1, e0, nI_1, b1]
  refine m_came (d := d + 37) hS1 X1.1.2 (F.2.1.x o1) (fun w J L2 M1 o2 n2 => ?_)
  have r := F.2.2.2.2.1.keep F.1 o1 n1 o2 n2
  have rb := F.2.2.2.2.2.1.go F.1 o1 (RcX.no n1) o2 (RmX.n n2)
  simp only [E248_499, E248_500, rfs, rfn, cs0, csi, csl, csr, csn, kti, ktl, ktr, ktn, ktv, ktf, true_and, and_true, and_self, ↓reduceIte, Nat.reduceAdd, Nat.reduceSub, Nat.reduceMul, Nat.reduceLT, Nat.reduceLeDiff, Nat.reduceEqDiff, true_or, or_true, false_or, or_false, not_true_eq_false, not_false_eq_true, reduceCtorEq, cmp_lt, cmp_gt, cmp_eq, Int32.reduceAdd, Int32.reduceSub, Int32.reduceMul, Int32.reduceLT, Int32.reduceToNatClampNeg, eq_self, ne_eq, Int64.reduceAdd, Int64.reduceSub, Int64.reduceMul, Int64.reduceLT]
  have hd := F.2.2.2.2.2.2.go ru.hd o2
  exact hn S1 J _ R1 ⟨X1.out o2, M1.mono (by omega), q0, q1, r, rb, hd⟩
theorem lk_iron (ht : t < 512) (hl : len < 2 ^ 31) (h6 : 6 * t + 6 ≤ len) (F : LX len t S I R) (hn : ∀ S' I' L' R', LX len (t + 1) S' I' R' → Ev (d + 40) 248 921 [.ref 0, .ref 4, .ref 54, .int (nI (6 * t))] [] S' I' L' R' lawQ) : Ev (d + 40) 248 503 [.ref 0, .ref 4, .ref 54, .int (nI (6 * t))] [] S I L R lawQ := by
  have b1 : inb (nI (6 * t + 1)) len = True := inb_nI (by omega) (by omega)
  have k0 := F.i0
  have l0 := F.2.2.2.1
  have hS := F.1.1.1
  simp only [E248_503, E248_503n, E248_504, E248_505, E248_506, E248_507, E248_508, E248_509, pk4 hS, rfs, rfn, cs0, csi, csl, csr, csn, kti, ktl, ktr, ktn, ktv, ktf, true_and, and_true, and_self, ↓reduceIte, Nat.reduceAdd, Nat.reduceSub, Nat.reduceMul, Nat.reduceLT, Nat.reduceLeDiff, Nat.reduceEqDiff, true_or, or_true, false_or, or_false, not_true_eq_false, not_false_eq_true, reduceCtorEq, cmp_lt, cmp_gt, cmp_eq, Int32.reduceAdd, Int32.reduceSub, Int32.reduceMul, Int32.reduceLT, Int32.reduceToNatClampNeg, eq_self, ne_eq, Int64.reduceAdd, Int64.reduceSub, Int64.reduceMul, Int64.reduceLT, k0, l0, nI_1, b1]
  refine x_iron (d := d + 15) F.1 (fun v S1 I1 L1 R1 X1 ex o1 ru n1 => ?_)
  obtain ⟨q0, q1⟩ := F.e ex
  have k1 := okI19 q0 X1.1.1
  have hS1 := X1.1.1
  have e0 : I1 0 = I 0 := o1 0 (by decide)
  simp only [E248_512, E248_513, E248_513n, E248_514, E248_515, E248_516, E248_517, E248_518, E248_519, pk54 hS1, rfs, rfn, cs0, csi, csl, csr, csn, kti, ktl, ktr, ktn, ktv, ktf, true_and, and_true, and_self, ↓reduceIte, Nat.reduceAdd, Nat.reduceSub, Nat.reduceMul, Nat.reduceLT, Nat.reduceLeDiff, Nat.reduceEqDiff, true_or, or_true, false_or, or_false, not_true_eq_false, not_false_eq_true, reduceCtorEq, cmp_lt, cmp_gt, cmp_eq, Int32.reduceAdd, Int32.reduceSub, Int32.reduceMul, Int32.reduceLT, Int32.reduceToNatClampNeg, eq_self, ne_eq, Int64.reduceAdd, Int64.reduceSub, Int64.reduceMul, Int64.reduceLT, k1, q1, e0, nI_1, b1]
  refine m_iron (d := d + 37) hS1 X1.1.2 (F.2.1.x o1) (fun w J L2 M1 o2 n2 => ?_)
  have r := F.2.2.2.2.1.keep F.1 o1 n1 o2 n2
  have rb := F.2.2.2.2.2.1.go F.1 o1 (RcX.no n1) o2 (RmX.n n2)
  simp only [E248_522, E248_523, rfs, rfn, cs0, csi, csl, csr, csn, kti, ktl, ktr, ktn, ktv, ktf, true_and, and_true, and_self, ↓reduceIte, Nat.reduceAdd, Nat.reduceSub, Nat.reduceMul, Nat.reduceLT, Nat.reduceLeDiff, Nat.reduceEqDiff, true_or, or_true, false_or, or_false, not_true_eq_false, not_false_eq_true, reduceCtorEq, cmp_lt, cmp_gt, cmp_eq, Int32.reduceAdd, Int32.reduceSub, Int32.reduceMul, Int32.reduceLT, Int32.reduceToNatClampNeg, eq_self, ne_eq, Int64.reduceAdd, Int64.reduceSub, Int64.reduceMul, Int64.reduceLT]
  have hd := F.2.2.2.2.2.2.go ru.hd o2
  exact hn S1 J _ R1 ⟨X1.out o2, M1.mono (by omega), q0, q1, r, rb, hd⟩
theorem lk_welds (ht : t < 512) (hl : len < 2 ^ 31) (h6 : 6 * t + 6 ≤ len) (F : LX len t S I R) (hn : ∀ S' I' L' R', LX len (t + 1) S' I' R' → Ev (d + 40) 248 921 [.ref 0, .ref 4, .ref 54, .int (nI (6 * t))] [] S' I' L' R' lawQ) : Ev (d + 40) 248 526 [.ref 0, .ref 4, .ref 54, .int (nI (6 * t))] [] S I L R lawQ := by
  have b1 : inb (nI (6 * t + 1)) len = True := inb_nI (by omega) (by omega)
  have k0 := F.i0
  have l0 := F.2.2.2.1
  have hS := F.1.1.1
  simp only [E248_526, E248_526n, E248_527, E248_528, E248_529, E248_530, E248_531, E248_532, pk4 hS, rfs, rfn, cs0, csi, csl, csr, csn, kti, ktl, ktr, ktn, ktv, ktf, true_and, and_true, and_self, ↓reduceIte, Nat.reduceAdd, Nat.reduceSub, Nat.reduceMul, Nat.reduceLT, Nat.reduceLeDiff, Nat.reduceEqDiff, true_or, or_true, false_or, or_false, not_true_eq_false, not_false_eq_true, reduceCtorEq, cmp_lt, cmp_gt, cmp_eq, Int32.reduceAdd, Int32.reduceSub, Int32.reduceMul, Int32.reduceLT, Int32.reduceToNatClampNeg, eq_self, ne_eq, Int64.reduceAdd, Int64.reduceSub, Int64.reduceMul, Int64.reduceLT, k0, l0, nI_1, b1]
  refine x_welds (d := d + 15) F.1 (fun v S1 I1 L1 R1 X1 ex o1 ru n1 => ?_)
  obtain ⟨q0, q1⟩ := F.e ex
  have k1 := okI19 q0 X1.1.1
  have hS1 := X1.1.1
  have e0 : I1 0 = I 0 := o1 0 (by decide)
  simp only [E248_535, E248_536, E248_536n, E248_537, E248_538, E248_539, E248_540, E248_541, E248_542, pk54 hS1, rfs, rfn, cs0, csi, csl, csr, csn, kti, ktl, ktr, ktn, ktv, ktf, true_and, and_true, and_self, ↓reduceIte, Nat.reduceAdd, Nat.reduceSub, Nat.reduceMul, Nat.reduceLT, Nat.reduceLeDiff, Nat.reduceEqDiff, true_or, or_true, false_or, or_false, not_true_eq_false, not_false_eq_true, reduceCtorEq, cmp_lt, cmp_gt, cmp_eq, Int32.reduceAdd, Int32.reduceSub, Int32.reduceMul, Int32.reduceLT, Int32.reduceToNatClampNeg, eq_self, ne_eq, Int64.reduceAdd, Int64.reduceSub, Int64.reduceMul, Int64.reduceLT, k1, q1, e0, nI_1, b1]
  refine m_welds (d := d + 37) hS1 X1.1.2 (F.2.1.x o1) (fun w J L2 M1 o2 n2 => ?_)
  have r := F.2.2.2.2.1.keep F.1 o1 n1 o2 n2
  have rb := F.2.2.2.2.2.1.go F.1 o1 (RcX.no n1) o2 (RmX.n n2)
  simp only [E248_545, E248_546, rfs, rfn, cs0, csi, csl, csr, csn, kti, ktl, ktr, ktn, ktv, ktf, true_and, and_true, and_self, ↓reduceIte, Nat.reduceAdd, Nat.reduceSub, Nat.reduceMul, Nat.reduceLT, Nat.reduceLeDiff, Nat.reduceEqDiff, true_or, or_true, false_or, or_false, not_true_eq_false, not_false_eq_true, reduceCtorEq, cmp_lt, cmp_gt, cmp_eq, Int32.reduceAdd, Int32.reduceSub, Int32.reduceMul, Int32.reduceLT, Int32.reduceToNatClampNeg, eq_self, ne_eq, Int64.reduceAdd, Int64.reduceSub, Int64.reduceMul, Int64.reduceLT]
  have hd := F.2.2.2.2.2.2.go ru.hd o2
  exact hn S1 J _ R1 ⟨X1.out o2, M1.mono (by omega), q0, q1, r, rb, hd⟩
theorem lk_heats (ht : t < 512) (hl : len < 2 ^ 31) (h6 : 6 * t + 6 ≤ len) (F : LX len t S I R) (hn : ∀ S' I' L' R', LX len (t + 1) S' I' R' → Ev (d + 40) 248 921 [.ref 0, .ref 4, .ref 54, .int (nI (6 * t))] [] S' I' L' R' lawQ) : Ev (d + 40) 248 549 [.ref 0, .ref 4, .ref 54, .int (nI (6 * t))] [] S I L R lawQ := by
  have k0 := F.i0
  have l0 := F.2.2.2.1
  have hS := F.1.1.1
  simp only [E248_549, E248_549n, E248_550, pk4 hS, rfs, rfn, cs0, csi, csl, csr, csn, kti, ktl, ktr, ktn, ktv, ktf, true_and, and_true, and_self, ↓reduceIte, Nat.reduceAdd, Nat.reduceSub, Nat.reduceMul, Nat.reduceLT, Nat.reduceLeDiff, Nat.reduceEqDiff, true_or, or_true, false_or, or_false, not_true_eq_false, not_false_eq_true, reduceCtorEq, cmp_lt, cmp_gt, cmp_eq, Int32.reduceAdd, Int32.reduceSub, Int32.reduceMul, Int32.reduceLT, Int32.reduceToNatClampNeg, eq_self, ne_eq, Int64.reduceAdd, Int64.reduceSub, Int64.reduceMul, Int64.reduceLT, k0, l0, nI_1]
  refine x_heats (d := d + 15) F.1 (fun v S1 I1 L1 R1 X1 ex o1 ru n1 => ?_)
  obtain ⟨q0, q1⟩ := F.e ex
  have k1 := okI19 q0 X1.1.1
  have hS1 := X1.1.1
  have e0 : I1 0 = I 0 := o1 0 (by decide)
  simp only [E248_553, E248_554, E248_554n, E248_555, pk54 hS1, rfs, rfn, cs0, csi, csl, csr, csn, kti, ktl, ktr, ktn, ktv, ktf, true_and, and_true, and_self, ↓reduceIte, Nat.reduceAdd, Nat.reduceSub, Nat.reduceMul, Nat.reduceLT, Nat.reduceLeDiff, Nat.reduceEqDiff, true_or, or_true, false_or, or_false, not_true_eq_false, not_false_eq_true, reduceCtorEq, cmp_lt, cmp_gt, cmp_eq, Int32.reduceAdd, Int32.reduceSub, Int32.reduceMul, Int32.reduceLT, Int32.reduceToNatClampNeg, eq_self, ne_eq, Int64.reduceAdd, Int64.reduceSub, Int64.reduceMul, Int64.reduceLT, k1, q1, e0, nI_1]
  refine m_heats (d := d + 30) ht hS1 X1.1.2 (F.2.1.x o1) (fun w J L2 M1 o2 n2 => ?_)
  have r := F.2.2.2.2.1.keep F.1 o1 n1 o2 n2
  have rb := F.2.2.2.2.2.1.go F.1 o1 (RcX.no n1) o2 (RmX.n n2)
  simp only [E248_558, E248_559, rfs, rfn, cs0, csi, csl, csr, csn, kti, ktl, ktr, ktn, ktv, ktf, true_and, and_true, and_self, ↓reduceIte, Nat.reduceAdd, Nat.reduceSub, Nat.reduceMul, Nat.reduceLT, Nat.reduceLeDiff, Nat.reduceEqDiff, true_or, or_true, false_or, or_false, not_true_eq_false, not_false_eq_true, reduceCtorEq, cmp_lt, cmp_gt, cmp_eq, Int32.reduceAdd, Int32.reduceSub, Int32.reduceMul, Int32.reduceLT, Int32.reduceToNatClampNeg, eq_self, ne_eq, Int64.reduceAdd, Int64.reduceSub, Int64.reduceMul, Int64.reduceLT]
  have hd := F.2.2.2.2.2.2.go ru.hd o2
  exact hn S1 J _ R1 ⟨X1.out o2, M1, q0, q1, r, rb, hd⟩
theorem lk_plan (ht : t < 512) (hl : len < 2 ^ 31) (h6 : 6 * t + 6 ≤ len) (F : LX len t S I R) (hn : ∀ S' I' L' R', LX len (t + 1) S' I' R' → Ev (d + 40) 248 921 [.ref 0, .ref 4, .ref 54, .int (nI (6 * t))] [] S' I' L' R' lawQ) : Ev (d + 40) 248 562 [.ref 0, .ref 4, .ref 54, .int (nI (6 * t))] [] S I L R lawQ := by
  have b1 : inb (nI (6 * t + 1)) len = True := inb_nI (by omega) (by omega)
  have b2 : inb (nI (6 * t + 2)) len = True := inb_nI (by omega) (by omega)
  have e2 : nI (6 * t) + 2 = nI (6 * t + 2) := by rw [show (2 : Int32) = nI 2 from rfl, nI_add]
  have k0 := F.i0
  have l0 := F.2.2.2.1
  have hS := F.1.1.1
  simp only [E248_562, E248_562n, E248_563, E248_564, E248_565, E248_566, E248_567, E248_568, E248_569, E248_570, E248_571, E248_572, E248_573, pk4 hS, rfs, rfn, cs0, csi, csl, csr, csn, kti, ktl, ktr, ktn, ktv, ktf, true_and, and_true, and_self, ↓reduceIte, Nat.reduceAdd, Nat.reduceSub, Nat.reduceMul, Nat.reduceLT, Nat.reduceLeDiff, Nat.reduceEqDiff, true_or, or_true, false_or, or_false, not_true_eq_false, not_false_eq_true, reduceCtorEq, cmp_lt, cmp_gt, cmp_eq, Int32.reduceAdd, Int32.reduceSub, Int32.reduceMul, Int32.reduceLT, Int32.reduceToNatClampNeg, eq_self, ne_eq, Int64.reduceAdd, Int64.reduceSub, Int64.reduceMul, Int64.reduceLT, k0, l0, nI_1, b1, b2, e2]
  refine x_plan (d := d + 15) F.1 (fun v S1 I1 L1 R1 X1 ex o1 ru n1 => ?_)
  obtain ⟨q0, q1⟩ := F.e ex
  have k1 := okI19 q0 X1.1.1
  have hS1 := X1.1.1
  have e0 : I1 0 = I 0 := o1 0 (by decide)
  simp only [E248_576, E248_577, E248_577n, E248_578, E248_579, E248_580, E248_581, E248_582, E248_583, E248_584, E248_585, E248_586, E248_587, E248_588, pk54 hS1, rfs, rfn, cs0, csi, csl, csr, csn, kti, ktl, ktr, ktn, ktv, ktf, true_and, and_true, and_self, ↓reduceIte, Nat.reduceAdd, Nat.reduceSub, Nat.reduceMul, Nat.reduceLT, Nat.reduceLeDiff, Nat.reduceEqDiff, true_or, or_true, false_or, or_false, not_true_eq_false, not_false_eq_true, reduceCtorEq, cmp_lt, cmp_gt, cmp_eq, Int32.reduceAdd, Int32.reduceSub, Int32.reduceMul, Int32.reduceLT, Int32.reduceToNatClampNeg, eq_self, ne_eq, Int64.reduceAdd, Int64.reduceSub, Int64.reduceMul, Int64.reduceLT, k1, q1, e0, nI_1, b1, b2, e2]
  refine m_plan (d := d + 30) ht hS1 X1.1.2 (F.2.1.x o1) (fun w J L2 M1 o2 n2 => ?_)
  have r := F.2.2.2.2.1.keep F.1 o1 n1 o2 n2
  have rb := F.2.2.2.2.2.1.go F.1 o1 (RcX.no n1) o2 (RmX.n n2)
  simp only [E248_591, E248_592, rfs, rfn, cs0, csi, csl, csr, csn, kti, ktl, ktr, ktn, ktv, ktf, true_and, and_true, and_self, ↓reduceIte, Nat.reduceAdd, Nat.reduceSub, Nat.reduceMul, Nat.reduceLT, Nat.reduceLeDiff, Nat.reduceEqDiff, true_or, or_true, false_or, or_false, not_true_eq_false, not_false_eq_true, reduceCtorEq, cmp_lt, cmp_gt, cmp_eq, Int32.reduceAdd, Int32.reduceSub, Int32.reduceMul, Int32.reduceLT, Int32.reduceToNatClampNeg, eq_self, ne_eq, Int64.reduceAdd, Int64.reduceSub, Int64.reduceMul, Int64.reduceLT]
  have hd := F.2.2.2.2.2.2.go ru.hd o2
  exact hn S1 J _ R1 ⟨X1.out o2, M1, q0, q1, r, rb, hd⟩
theorem lk_reached (ht : t < 512) (hl : len < 2 ^ 31) (h6 : 6 * t + 6 ≤ len) (F : LX len t S I R) (hn : ∀ S' I' L' R', LX len (t + 1) S' I' R' → Ev (d + 40) 248 921 [.ref 0, .ref 4, .ref 54, .int (nI (6 * t))] [] S' I' L' R' lawQ) : Ev (d + 40) 248 595 [.ref 0, .ref 4, .ref 54, .int (nI (6 * t))] [] S I L R lawQ := by
  have b1 : inb (nI (6 * t + 1)) len = True := inb_nI (by omega) (by omega)
  have k0 := F.i0
  have l0 := F.2.2.2.1
  have hS := F.1.1.1
  simp only [E248_595, E248_595n, E248_596, E248_597, E248_598, E248_599, E248_600, E248_601, pk4 hS, rfs, rfn, cs0, csi, csl, csr, csn, kti, ktl, ktr, ktn, ktv, ktf, true_and, and_true, and_self, ↓reduceIte, Nat.reduceAdd, Nat.reduceSub, Nat.reduceMul, Nat.reduceLT, Nat.reduceLeDiff, Nat.reduceEqDiff, true_or, or_true, false_or, or_false, not_true_eq_false, not_false_eq_true, reduceCtorEq, cmp_lt, cmp_gt, cmp_eq, Int32.reduceAdd, Int32.reduceSub, Int32.reduceMul, Int32.reduceLT, Int32.reduceToNatClampNeg, eq_self, ne_eq, Int64.reduceAdd, Int64.reduceSub, Int64.reduceMul, Int64.reduceLT, k0, l0, nI_1, b1]
  refine x_reached (d := d + 15) F.1 (fun v S1 I1 L1 R1 X1 ex o1 ru n1 => ?_)
  obtain ⟨q0, q1⟩ := F.e ex
  have k1 := okI19 q0 X1.1.1
  have hS1 := X1.1.1
  have e0 : I1 0 = I 0 := o1 0 (by decide)
  simp only [E248_604, E248_605, E248_605n, E248_606, E248_607, E248_608, E248_609, E248_610, E248_611, pk54 hS1, rfs, rfn, cs0, csi, csl, csr, csn, kti, ktl, ktr, ktn, ktv, ktf, true_and, and_true, and_self, ↓reduceIte, Nat.reduceAdd, Nat.reduceSub, Nat.reduceMul, Nat.reduceLT, Nat.reduceLeDiff, Nat.reduceEqDiff, true_or, or_true, false_or, or_false, not_true_eq_false, not_false_eq_true, reduceCtorEq, cmp_lt, cmp_gt, cmp_eq, Int32.reduceAdd, Int32.reduceSub, Int32.reduceMul, Int32.reduceLT, Int32.reduceToNatClampNeg, eq_self, ne_eq, Int64.reduceAdd, Int64.reduceSub, Int64.reduceMul, Int64.reduceLT, k1, q1, e0, nI_1, b1]
  refine m_reached (d := d + 32) ht hS1 X1.1.2 (F.2.1.x o1) (fun w J L2 M1 o2 n2 => ?_)
  have r := F.2.2.2.2.1.keep F.1 o1 n1 o2 n2
  have rb := F.2.2.2.2.2.1.go F.1 o1 (RcX.no n1) o2 (RmX.n n2)
  simp only [E248_614, E248_615, rfs, rfn, cs0, csi, csl, csr, csn, kti, ktl, ktr, ktn, ktv, ktf, true_and, and_true, and_self, ↓reduceIte, Nat.reduceAdd, Nat.reduceSub, Nat.reduceMul, Nat.reduceLT, Nat.reduceLeDiff, Nat.reduceEqDiff, true_or, or_true, false_or, or_false, not_true_eq_false, not_false_eq_true, reduceCtorEq, cmp_lt, cmp_gt, cmp_eq, Int32.reduceAdd, Int32.reduceSub, Int32.reduceMul, Int32.reduceLT, Int32.reduceToNatClampNeg, eq_self, ne_eq, Int64.reduceAdd, Int64.reduceSub, Int64.reduceMul, Int64.reduceLT]
  have hd := F.2.2.2.2.2.2.go ru.hd o2
  exact hn S1 J _ R1 ⟨X1.out o2, M1, q0, q1, r, rb, hd⟩
theorem lk_even (ht : t < 512) (hl : len < 2 ^ 31) (h6 : 6 * t + 6 ≤ len) (F : LX len t S I R) (hn : ∀ S' I' L' R', LX len (t + 1) S' I' R' → Ev (d + 40) 248 921 [.ref 0, .ref 4, .ref 54, .int (nI (6 * t))] [] S' I' L' R' lawQ) : Ev (d + 40) 248 618 [.ref 0, .ref 4, .ref 54, .int (nI (6 * t))] [] S I L R lawQ := by
  have k0 := F.i0
  have l0 := F.2.2.2.1
  have hS := F.1.1.1
  simp only [E248_618, E248_618n, E248_619, pk4 hS, rfs, rfn, cs0, csi, csl, csr, csn, kti, ktl, ktr, ktn, ktv, ktf, true_and, and_true, and_self, ↓reduceIte, Nat.reduceAdd, Nat.reduceSub, Nat.reduceMul, Nat.reduceLT, Nat.reduceLeDiff, Nat.reduceEqDiff, true_or, or_true, false_or, or_false, not_true_eq_false, not_false_eq_true, reduceCtorEq, cmp_lt, cmp_gt, cmp_eq, Int32.reduceAdd, Int32.reduceSub, Int32.reduceMul, Int32.reduceLT, Int32.reduceToNatClampNeg, eq_self, ne_eq, Int64.reduceAdd, Int64.reduceSub, Int64.reduceMul, Int64.reduceLT, k0, l0, nI_1]
  refine x_even (d := d + 15) F.1 (fun v S1 I1 L1 R1 X1 ex o1 ru n1 => ?_)
  obtain ⟨q0, q1⟩ := F.e ex
  have k1 := okI19 q0 X1.1.1
  have hS1 := X1.1.1
  have e0 : I1 0 = I 0 := o1 0 (by decide)
  simp only [E248_622, E248_623, E248_623n, E248_624, pk54 hS1, rfs, rfn, cs0, csi, csl, csr, csn, kti, ktl, ktr, ktn, ktv, ktf, true_and, and_true, and_self, ↓reduceIte, Nat.reduceAdd, Nat.reduceSub, Nat.reduceMul, Nat.reduceLT, Nat.reduceLeDiff, Nat.reduceEqDiff, true_or, or_true, false_or, or_false, not_true_eq_false, not_false_eq_true, reduceCtorEq, cmp_lt, cmp_gt, cmp_eq, Int32.reduceAdd, Int32.reduceSub, Int32.reduceMul, Int32.reduceLT, Int32.reduceToNatClampNeg, eq_self, ne_eq, Int64.reduceAdd, Int64.reduceSub, Int64.reduceMul, Int64.reduceLT, k1, q1, e0, nI_1]
  refine m_even (d := d + 32) ht hS1 X1.1.2 (F.2.1.x o1) (fun w J L2 M1 o2 n2 => ?_)
  have r := F.2.2.2.2.1.keep F.1 o1 n1 o2 n2
  have rb := F.2.2.2.2.2.1.go F.1 o1 (RcX.no n1) o2 (RmX.n n2)
  simp only [E248_627, E248_628, rfs, rfn, cs0, csi, csl, csr, csn, kti, ktl, ktr, ktn, ktv, ktf, true_and, and_true, and_self, ↓reduceIte, Nat.reduceAdd, Nat.reduceSub, Nat.reduceMul, Nat.reduceLT, Nat.reduceLeDiff, Nat.reduceEqDiff, true_or, or_true, false_or, or_false, not_true_eq_false, not_false_eq_true, reduceCtorEq, cmp_lt, cmp_gt, cmp_eq, Int32.reduceAdd, Int32.reduceSub, Int32.reduceMul, Int32.reduceLT, Int32.reduceToNatClampNeg, eq_self, ne_eq, Int64.reduceAdd, Int64.reduceSub, Int64.reduceMul, Int64.reduceLT]
  have hd := F.2.2.2.2.2.2.go ru.hd o2
  exact hn S1 J _ R1 ⟨X1.out o2, M1, q0, q1, r, rb, hd⟩
theorem lk_change (ht : t < 512) (hl : len < 2 ^ 31) (h6 : 6 * t + 6 ≤ len) (F : LX len t S I R) (hn : ∀ S' I' L' R', LX len (t + 1) S' I' R' → Ev (d + 40) 248 921 [.ref 0, .ref 4, .ref 54, .int (nI (6 * t))] [] S' I' L' R' lawQ) : Ev (d + 40) 248 631 [.ref 0, .ref 4, .ref 54, .int (nI (6 * t))] [] S I L R lawQ := by
  have b1 : inb (nI (6 * t + 1)) len = True := inb_nI (by omega) (by omega)
  have b2 : inb (nI (6 * t + 2)) len = True := inb_nI (by omega) (by omega)
  have e2 : nI (6 * t) + 2 = nI (6 * t + 2) := by rw [show (2 : Int32) = nI 2 from rfl, nI_add]
  have k0 := F.i0
  have l0 := F.2.2.2.1
  have hS := F.1.1.1
  simp only [E248_631, E248_631n, E248_632, E248_633, E248_634, E248_635, E248_636, E248_637, E248_638, E248_639, E248_640, E248_641, E248_642, pk4 hS, rfs, rfn, cs0, csi, csl, csr, csn, kti, ktl, ktr, ktn, ktv, ktf, true_and, and_true, and_self, ↓reduceIte, Nat.reduceAdd, Nat.reduceSub, Nat.reduceMul, Nat.reduceLT, Nat.reduceLeDiff, Nat.reduceEqDiff, true_or, or_true, false_or, or_false, not_true_eq_false, not_false_eq_true, reduceCtorEq, cmp_lt, cmp_gt, cmp_eq, Int32.reduceAdd, Int32.reduceSub, Int32.reduceMul, Int32.reduceLT, Int32.reduceToNatClampNeg, eq_self, ne_eq, Int64.reduceAdd, Int64.reduceSub, Int64.reduceMul, Int64.reduceLT, k0, l0, nI_1, b1, b2, e2]
  refine x_change (d := d + 15) F.1 (fun v S1 I1 L1 R1 X1 ex o1 ru n1 => ?_)
  obtain ⟨q0, q1⟩ := F.e ex
  have k1 := okI19 q0 X1.1.1
  have hS1 := X1.1.1
  have e0 : I1 0 = I 0 := o1 0 (by decide)
  simp only [E248_645, E248_646, E248_646n, E248_647, E248_648, E248_649, E248_650, E248_651, E248_652, E248_653, E248_654, E248_655, E248_656, E248_657, pk54 hS1, rfs, rfn, cs0, csi, csl, csr, csn, kti, ktl, ktr, ktn, ktv, ktf, true_and, and_true, and_self, ↓reduceIte, Nat.reduceAdd, Nat.reduceSub, Nat.reduceMul, Nat.reduceLT, Nat.reduceLeDiff, Nat.reduceEqDiff, true_or, or_true, false_or, or_false, not_true_eq_false, not_false_eq_true, reduceCtorEq, cmp_lt, cmp_gt, cmp_eq, Int32.reduceAdd, Int32.reduceSub, Int32.reduceMul, Int32.reduceLT, Int32.reduceToNatClampNeg, eq_self, ne_eq, Int64.reduceAdd, Int64.reduceSub, Int64.reduceMul, Int64.reduceLT, k1, q1, e0, nI_1, b1, b2, e2]
  refine change_law (d := d + 33) F.1 F.2.2.2.2.1 F.2.2.2.2.2.1 F.2.2.2.2.2.2 (F.2.1.x o1) hS1 X1.1.2 o1 n1.2 (fun J L2 M1 o2 n2 => ?_)
  have r := F.2.2.2.2.1.keep F.1 o1 n1.1 o2 n2
  have rb := F.2.2.2.2.2.1.go F.1 o1 (RcX.no n1.1) o2 (RmX.n n2)
  simp only [E248_660, E248_661, rfs, rfn, cs0, csi, csl, csr, csn, kti, ktl, ktr, ktn, ktv, ktf, true_and, and_true, and_self, ↓reduceIte, Nat.reduceAdd, Nat.reduceSub, Nat.reduceMul, Nat.reduceLT, Nat.reduceLeDiff, Nat.reduceEqDiff, true_or, or_true, false_or, or_false, not_true_eq_false, not_false_eq_true, reduceCtorEq, cmp_lt, cmp_gt, cmp_eq, Int32.reduceAdd, Int32.reduceSub, Int32.reduceMul, Int32.reduceLT, Int32.reduceToNatClampNeg, eq_self, ne_eq, Int64.reduceAdd, Int64.reduceSub, Int64.reduceMul, Int64.reduceLT]
  have hd := F.2.2.2.2.2.2.go ru.hd o2
  exact hn S1 J _ R1 ⟨X1.out o2, M1.mono (by omega), q0, q1, r, rb, hd⟩
theorem lk_made (ht : t < 512) (hl : len < 2 ^ 31) (h6 : 6 * t + 6 ≤ len) (F : LX len t S I R) (hn : ∀ S' I' L' R', LX len (t + 1) S' I' R' → Ev (d + 40) 248 921 [.ref 0, .ref 4, .ref 54, .int (nI (6 * t))] [] S' I' L' R' lawQ) : Ev (d + 40) 248 664 [.ref 0, .ref 4, .ref 54, .int (nI (6 * t))] [] S I L R lawQ := by
  have b1 : inb (nI (6 * t + 1)) len = True := inb_nI (by omega) (by omega)
  have b2 : inb (nI (6 * t + 2)) len = True := inb_nI (by omega) (by omega)
  have b3 : inb (nI (6 * t + 3)) len = True := inb_nI (by omega) (by omega)
  have e2 : nI (6 * t) + 2 = nI (6 * t + 2) := by rw [show (2 : Int32) = nI 2 from rfl, nI_add]
  have e3 : nI (6 * t) + 3 = nI (6 * t + 3) := by rw [show (3 : Int32) = nI 3 from rfl, nI_add]
  have k0 := F.i0
  have l0 := F.2.2.2.1
  have hS := F.1.1.1
  simp only [E248_664, E248_664n, E248_665, E248_666, E248_667, E248_668, E248_669, E248_670, E248_671, E248_672, E248_673, E248_674, E248_675, E248_676, E248_677, E248_678, E248_679, E248_680, pk4 hS, rfs, rfn, cs0, csi, csl, csr, csn, kti, ktl, ktr, ktn, ktv, ktf, true_and, and_true, and_self, ↓reduceIte, Nat.reduceAdd, Nat.reduceSub, Nat.reduceMul, Nat.reduceLT, Nat.reduceLeDiff, Nat.reduceEqDiff, true_or, or_true, false_or, or_false, not_true_eq_false, not_false_eq_true, reduceCtorEq, cmp_lt, cmp_gt, cmp_eq, Int32.reduceAdd, Int32.reduceSub, Int32.reduceMul, Int32.reduceLT, Int32.reduceToNatClampNeg, eq_self, ne_eq, Int64.reduceAdd, Int64.reduceSub, Int64.reduceMul, Int64.reduceLT, k0, l0, nI_1, b1, b2, b3, e2, e3]
  refine x_made (d := d + 15) F.1 (fun v S1 I1 L1 R1 X1 ex o1 ru n1 => ?_)
  obtain ⟨q0, q1⟩ := F.e ex
  have k1 := okI19 q0 X1.1.1
  have hS1 := X1.1.1
  have e0 : I1 0 = I 0 := o1 0 (by decide)
  simp only [E248_683, E248_683n, E248_684, E248_685, E248_686, E248_687, E248_688, E248_689, E248_690, E248_691, E248_692, E248_693, E248_694, E248_695, E248_696, E248_697, E248_698, E248_699, pk54 hS1, rfs, rfn, cs0, csi, csl, csr, csn, kti, ktl, ktr, ktn, ktv, ktf, true_and, and_true, and_self, ↓reduceIte, Nat.reduceAdd, Nat.reduceSub, Nat.reduceMul, Nat.reduceLT, Nat.reduceLeDiff, Nat.reduceEqDiff, true_or, or_true, false_or, or_false, not_true_eq_false, not_false_eq_true, reduceCtorEq, cmp_lt, cmp_gt, cmp_eq, Int32.reduceAdd, Int32.reduceSub, Int32.reduceMul, Int32.reduceLT, Int32.reduceToNatClampNeg, eq_self, ne_eq, Int64.reduceAdd, Int64.reduceSub, Int64.reduceMul, Int64.reduceLT, k1, q1, e0, nI_1, b1, b2, b3, e2, e3]
  refine made_law (d := d + 33) F.1 F.2.2.2.2.1 F.2.2.2.2.2.1 F.2.2.2.2.2.2 (F.2.1.x o1) hS1 X1.1.2 o1 n1.2 (fun J L2 M1 o2 n2 => ?_)
  have r := F.2.2.2.2.1.keep F.1 o1 n1.1 o2 n2
  have rb := F.2.2.2.2.2.1.go F.1 o1 (RcX.no n1.1) o2 (RmX.n n2)
  simp only [E248_702, E248_705, E248_706, rfs, rfn, cs0, csi, csl, csr, csn, kti, ktl, ktr, ktn, ktv, ktf, true_and, and_true, and_self, ↓reduceIte, Nat.reduceAdd, Nat.reduceSub, Nat.reduceMul, Nat.reduceLT, Nat.reduceLeDiff, Nat.reduceEqDiff, true_or, or_true, false_or, or_false, not_true_eq_false, not_false_eq_true, reduceCtorEq, cmp_lt, cmp_gt, cmp_eq, Int32.reduceAdd, Int32.reduceSub, Int32.reduceMul, Int32.reduceLT, Int32.reduceToNatClampNeg, eq_self, ne_eq, Int64.reduceAdd, Int64.reduceSub, Int64.reduceMul, Int64.reduceLT]
  have hd := F.2.2.2.2.2.2.go ru.hd o2
  exact hn S1 J _ R1 ⟨X1.out o2, M1.mono (by omega), q0, q1, r, rb, hd⟩
theorem lk_twelve (ht : t < 512) (hl : len < 2 ^ 31) (h6 : 6 * t + 6 ≤ len) (F : LX len t S I R) (hn : ∀ S' I' L' R', LX len (t + 1) S' I' R' → Ev (d + 40) 248 921 [.ref 0, .ref 4, .ref 54, .int (nI (6 * t))] [] S' I' L' R' lawQ) : Ev (d + 40) 248 707 [.ref 0, .ref 4, .ref 54, .int (nI (6 * t))] [] S I L R lawQ := by
  have b1 : inb (nI (6 * t + 1)) len = True := inb_nI (by omega) (by omega)
  have b2 : inb (nI (6 * t + 2)) len = True := inb_nI (by omega) (by omega)
  have b3 : inb (nI (6 * t + 3)) len = True := inb_nI (by omega) (by omega)
  have b4 : inb (nI (6 * t + 4)) len = True := inb_nI (by omega) (by omega)
  have e2 : nI (6 * t) + 2 = nI (6 * t + 2) := by rw [show (2 : Int32) = nI 2 from rfl, nI_add]
  have e3 : nI (6 * t) + 3 = nI (6 * t + 3) := by rw [show (3 : Int32) = nI 3 from rfl, nI_add]
  have e4 : nI (6 * t) + 4 = nI (6 * t + 4) := by rw [show (4 : Int32) = nI 4 from rfl, nI_add]
  have k0 := F.i0
  have l0 := F.2.2.2.1
  have hS := F.1.1.1
  simp only [E248_707, E248_707n, E248_708, E248_709, E248_710, E248_711, E248_712, E248_713, E248_714, E248_715, E248_716, E248_717, E248_718, E248_719, E248_720, E248_721, E248_722, E248_723, E248_724, E248_725, E248_726, E248_727, E248_728, pk4 hS, rfs, rfn, cs0, csi, csl, csr, csn, kti, ktl, ktr, ktn, ktv, ktf, true_and, and_true, and_self, ↓reduceIte, Nat.reduceAdd, Nat.reduceSub, Nat.reduceMul, Nat.reduceLT, Nat.reduceLeDiff, Nat.reduceEqDiff, true_or, or_true, false_or, or_false, not_true_eq_false, not_false_eq_true, reduceCtorEq, cmp_lt, cmp_gt, cmp_eq, Int32.reduceAdd, Int32.reduceSub, Int32.reduceMul, Int32.reduceLT, Int32.reduceToNatClampNeg, eq_self, ne_eq, Int64.reduceAdd, Int64.reduceSub, Int64.reduceMul, Int64.reduceLT, k0, l0, nI_1, b1, b2, b3, b4, e2, e3, e4]
  refine x_twelve (d := d + 15) F.1 (fun v S1 I1 L1 R1 X1 ex o1 ru n1 => ?_)
  obtain ⟨q0, q1⟩ := F.e ex
  have k1 := okI19 q0 X1.1.1
  have hS1 := X1.1.1
  have e0 : I1 0 = I 0 := o1 0 (by decide)
  simp only [E248_731, E248_732, E248_732n, E248_733, E248_734, E248_735, E248_736, E248_737, E248_738, E248_739, E248_740, E248_741, E248_742, E248_743, E248_744, E248_745, E248_746, E248_747, E248_748, E248_749, E248_750, E248_751, E248_752, E248_753, pk54 hS1, rfs, rfn, cs0, csi, csl, csr, csn, kti, ktl, ktr, ktn, ktv, ktf, true_and, and_true, and_self, ↓reduceIte, Nat.reduceAdd, Nat.reduceSub, Nat.reduceMul, Nat.reduceLT, Nat.reduceLeDiff, Nat.reduceEqDiff, true_or, or_true, false_or, or_false, not_true_eq_false, not_false_eq_true, reduceCtorEq, cmp_lt, cmp_gt, cmp_eq, Int32.reduceAdd, Int32.reduceSub, Int32.reduceMul, Int32.reduceLT, Int32.reduceToNatClampNeg, eq_self, ne_eq, Int64.reduceAdd, Int64.reduceSub, Int64.reduceMul, Int64.reduceLT, k1, q1, e0, nI_1, b1, b2, b3, b4, e2, e3, e4]
  refine twelve_law (d := d + 33) F.1 F.2.2.2.2.1 F.2.2.2.2.2.1 F.2.2.2.2.2.2 (F.2.1.x o1) hS1 X1.1.2 o1 n1.2 (fun J L2 M1 o2 n2 => ?_)
  have r := F.2.2.2.2.1.keep F.1 o1 n1.1 o2 n2
  have rb := F.2.2.2.2.2.1.go F.1 o1 (RcX.no n1.1) o2 (RmX.n n2)
  simp only [E248_756, E248_757, rfs, rfn, cs0, csi, csl, csr, csn, kti, ktl, ktr, ktn, ktv, ktf, true_and, and_true, and_self, ↓reduceIte, Nat.reduceAdd, Nat.reduceSub, Nat.reduceMul, Nat.reduceLT, Nat.reduceLeDiff, Nat.reduceEqDiff, true_or, or_true, false_or, or_false, not_true_eq_false, not_false_eq_true, reduceCtorEq, cmp_lt, cmp_gt, cmp_eq, Int32.reduceAdd, Int32.reduceSub, Int32.reduceMul, Int32.reduceLT, Int32.reduceToNatClampNeg, eq_self, ne_eq, Int64.reduceAdd, Int64.reduceSub, Int64.reduceMul, Int64.reduceLT]
  have hd := F.2.2.2.2.2.2.go ru.hd o2
  exact hn S1 J _ R1 ⟨X1.out o2, M1.mono (by omega), q0, q1, r, rb, hd⟩
theorem lk_piece (ht : t < 512) (hl : len < 2 ^ 31) (h6 : 6 * t + 6 ≤ len) (F : LX len t S I R) (hn : ∀ S' I' L' R', LX len (t + 1) S' I' R' → Ev (d + 40) 248 921 [.ref 0, .ref 4, .ref 54, .int (nI (6 * t))] [] S' I' L' R' lawQ) : Ev (d + 40) 248 760 [.ref 0, .ref 4, .ref 54, .int (nI (6 * t))] [] S I L R lawQ := by
  have b1 : inb (nI (6 * t + 1)) len = True := inb_nI (by omega) (by omega)
  have b2 : inb (nI (6 * t + 2)) len = True := inb_nI (by omega) (by omega)
  have e2 : nI (6 * t) + 2 = nI (6 * t + 2) := by rw [show (2 : Int32) = nI 2 from rfl, nI_add]
  have k0 := F.i0
  have l0 := F.2.2.2.1
  have hS := F.1.1.1
  simp only [E248_760, E248_760n, E248_761, E248_762, E248_763, E248_764, E248_765, E248_766, E248_767, E248_768, E248_769, E248_770, E248_771, pk4 hS, rfs, rfn, cs0, csi, csl, csr, csn, kti, ktl, ktr, ktn, ktv, ktf, true_and, and_true, and_self, ↓reduceIte, Nat.reduceAdd, Nat.reduceSub, Nat.reduceMul, Nat.reduceLT, Nat.reduceLeDiff, Nat.reduceEqDiff, true_or, or_true, false_or, or_false, not_true_eq_false, not_false_eq_true, reduceCtorEq, cmp_lt, cmp_gt, cmp_eq, Int32.reduceAdd, Int32.reduceSub, Int32.reduceMul, Int32.reduceLT, Int32.reduceToNatClampNeg, eq_self, ne_eq, Int64.reduceAdd, Int64.reduceSub, Int64.reduceMul, Int64.reduceLT, k0, l0, nI_1, b1, b2, e2]
  refine x_piece (d := d + 15) F.1 (fun v S1 I1 L1 R1 X1 ex o1 ru n1 => ?_)
  obtain ⟨q0, q1⟩ := F.e ex
  have k1 := okI19 q0 X1.1.1
  have hS1 := X1.1.1
  have e0 : I1 0 = I 0 := o1 0 (by decide)
  simp only [E248_774, E248_775, E248_775n, E248_776, E248_777, E248_778, E248_779, E248_780, E248_781, E248_782, E248_783, E248_784, E248_785, E248_786, pk54 hS1, rfs, rfn, cs0, csi, csl, csr, csn, kti, ktl, ktr, ktn, ktv, ktf, true_and, and_true, and_self, ↓reduceIte, Nat.reduceAdd, Nat.reduceSub, Nat.reduceMul, Nat.reduceLT, Nat.reduceLeDiff, Nat.reduceEqDiff, true_or, or_true, false_or, or_false, not_true_eq_false, not_false_eq_true, reduceCtorEq, cmp_lt, cmp_gt, cmp_eq, Int32.reduceAdd, Int32.reduceSub, Int32.reduceMul, Int32.reduceLT, Int32.reduceToNatClampNeg, eq_self, ne_eq, Int64.reduceAdd, Int64.reduceSub, Int64.reduceMul, Int64.reduceLT, k1, q1, e0, nI_1, b1, b2, e2]
  refine m_piece (d := d + 37) hS1 X1.1.2 (F.2.1.x o1) (fun w J L2 M1 o2 n2 => ?_)
  obtain ⟨rfl, r⟩ := r_piece F.1 F.2.2.2.2.1 o1 n1 o2 n2
  have rb := b_piece F.1 F.2.2.2.2.1 F.2.2.2.2.2.1 F.2.1 o1 n1 o2 n2
  simp only [E248_789, E248_790, rfs, rfn, cs0, csi, csl, csr, csn, kti, ktl, ktr, ktn, ktv, ktf, true_and, and_true, and_self, ↓reduceIte, Nat.reduceAdd, Nat.reduceSub, Nat.reduceMul, Nat.reduceLT, Nat.reduceLeDiff, Nat.reduceEqDiff, true_or, or_true, false_or, or_false, not_true_eq_false, not_false_eq_true, reduceCtorEq, cmp_lt, cmp_gt, cmp_eq, Int32.reduceAdd, Int32.reduceSub, Int32.reduceMul, Int32.reduceLT, Int32.reduceToNatClampNeg, eq_self, ne_eq, Int64.reduceAdd, Int64.reduceSub, Int64.reduceMul, Int64.reduceLT]
  have hd := F.2.2.2.2.2.2.go ru.hd o2
  exact hn S1 J _ R1 ⟨X1.out o2, M1.mono (by omega), q0, q1, r, rb, hd⟩
theorem lk_soonest (ht : t < 512) (hl : len < 2 ^ 31) (h6 : 6 * t + 6 ≤ len) (F : LX len t S I R) (hn : ∀ S' I' L' R', LX len (t + 1) S' I' R' → Ev (d + 40) 248 921 [.ref 0, .ref 4, .ref 54, .int (nI (6 * t))] [] S' I' L' R' lawQ) : Ev (d + 40) 248 793 [.ref 0, .ref 4, .ref 54, .int (nI (6 * t))] [] S I L R lawQ := by
  have b1 : inb (nI (6 * t + 1)) len = True := inb_nI (by omega) (by omega)
  have b2 : inb (nI (6 * t + 2)) len = True := inb_nI (by omega) (by omega)
  have e2 : nI (6 * t) + 2 = nI (6 * t + 2) := by rw [show (2 : Int32) = nI 2 from rfl, nI_add]
  have k0 := F.i0
  have l0 := F.2.2.2.1
  have hS := F.1.1.1
  simp only [E248_793, E248_793n, E248_794, E248_795, E248_796, E248_797, E248_798, E248_799, E248_800, E248_801, E248_802, E248_803, E248_804, pk4 hS, rfs, rfn, cs0, csi, csl, csr, csn, kti, ktl, ktr, ktn, ktv, ktf, true_and, and_true, and_self, ↓reduceIte, Nat.reduceAdd, Nat.reduceSub, Nat.reduceMul, Nat.reduceLT, Nat.reduceLeDiff, Nat.reduceEqDiff, true_or, or_true, false_or, or_false, not_true_eq_false, not_false_eq_true, reduceCtorEq, cmp_lt, cmp_gt, cmp_eq, Int32.reduceAdd, Int32.reduceSub, Int32.reduceMul, Int32.reduceLT, Int32.reduceToNatClampNeg, eq_self, ne_eq, Int64.reduceAdd, Int64.reduceSub, Int64.reduceMul, Int64.reduceLT, k0, l0, nI_1, b1, b2, e2]
  refine x_soonest (d := d + 15) F.1 (fun v S1 I1 L1 R1 X1 ex o1 ru n1 => ?_)
  obtain ⟨q0, q1⟩ := F.e ex
  have k1 := okI19 q0 X1.1.1
  have hS1 := X1.1.1
  have e0 : I1 0 = I 0 := o1 0 (by decide)
  simp only [E248_807, E248_808, E248_808n, E248_809, E248_810, E248_811, E248_812, E248_813, E248_814, E248_815, E248_816, E248_817, E248_818, E248_819, pk54 hS1, rfs, rfn, cs0, csi, csl, csr, csn, kti, ktl, ktr, ktn, ktv, ktf, true_and, and_true, and_self, ↓reduceIte, Nat.reduceAdd, Nat.reduceSub, Nat.reduceMul, Nat.reduceLT, Nat.reduceLeDiff, Nat.reduceEqDiff, true_or, or_true, false_or, or_false, not_true_eq_false, not_false_eq_true, reduceCtorEq, cmp_lt, cmp_gt, cmp_eq, Int32.reduceAdd, Int32.reduceSub, Int32.reduceMul, Int32.reduceLT, Int32.reduceToNatClampNeg, eq_self, ne_eq, Int64.reduceAdd, Int64.reduceSub, Int64.reduceMul, Int64.reduceLT, k1, q1, e0, nI_1, b1, b2, e2]
  refine m_soonest (d := d + 35) hS1 X1.1.2 (F.2.1.x o1) (fun w J L2 M1 o2 n2 => ?_)
  have r := F.2.2.2.2.1.keep F.1 o1 n1 o2 n2
  have rb := F.2.2.2.2.2.1.go F.1 o1 (RcX.no n1) o2 (RmX.n n2)
  simp only [E248_822, E248_823, rfs, rfn, cs0, csi, csl, csr, csn, kti, ktl, ktr, ktn, ktv, ktf, true_and, and_true, and_self, ↓reduceIte, Nat.reduceAdd, Nat.reduceSub, Nat.reduceMul, Nat.reduceLT, Nat.reduceLeDiff, Nat.reduceEqDiff, true_or, or_true, false_or, or_false, not_true_eq_false, not_false_eq_true, reduceCtorEq, cmp_lt, cmp_gt, cmp_eq, Int32.reduceAdd, Int32.reduceSub, Int32.reduceMul, Int32.reduceLT, Int32.reduceToNatClampNeg, eq_self, ne_eq, Int64.reduceAdd, Int64.reduceSub, Int64.reduceMul, Int64.reduceLT]
  have hd := F.2.2.2.2.2.2.go ru.hd o2
  exact hn S1 J _ R1 ⟨X1.out o2, M1.mono (by omega), q0, q1, r, rb, hd⟩
theorem lk_striker (ht : t < 512) (hl : len < 2 ^ 31) (h6 : 6 * t + 6 ≤ len) (F : LX len t S I R) (hn : ∀ S' I' L' R', LX len (t + 1) S' I' R' → Ev (d + 40) 248 921 [.ref 0, .ref 4, .ref 54, .int (nI (6 * t))] [] S' I' L' R' lawQ) : Ev (d + 40) 248 826 [.ref 0, .ref 4, .ref 54, .int (nI (6 * t))] [] S I L R lawQ := by
  have k0 := F.i0
  have l0 := F.2.2.2.1
  have hS := F.1.1.1
  simp only [E248_826, E248_826n, E248_827, pk4 hS, rfs, rfn, cs0, csi, csl, csr, csn, kti, ktl, ktr, ktn, ktv, ktf, true_and, and_true, and_self, ↓reduceIte, Nat.reduceAdd, Nat.reduceSub, Nat.reduceMul, Nat.reduceLT, Nat.reduceLeDiff, Nat.reduceEqDiff, true_or, or_true, false_or, or_false, not_true_eq_false, not_false_eq_true, reduceCtorEq, cmp_lt, cmp_gt, cmp_eq, Int32.reduceAdd, Int32.reduceSub, Int32.reduceMul, Int32.reduceLT, Int32.reduceToNatClampNeg, eq_self, ne_eq, Int64.reduceAdd, Int64.reduceSub, Int64.reduceMul, Int64.reduceLT, k0, l0, nI_1]
  refine x_striker (d := d + 15) F.1 (fun v S1 I1 L1 R1 X1 ex o1 ru n1 => ?_)
  obtain ⟨q0, q1⟩ := F.e ex
  have k1 := okI19 q0 X1.1.1
  have hS1 := X1.1.1
  have e0 : I1 0 = I 0 := o1 0 (by decide)
  simp only [E248_830, E248_831, E248_831n, E248_832, pk54 hS1, rfs, rfn, cs0, csi, csl, csr, csn, kti, ktl, ktr, ktn, ktv, ktf, true_and, and_true, and_self, ↓reduceIte, Nat.reduceAdd, Nat.reduceSub, Nat.reduceMul, Nat.reduceLT, Nat.reduceLeDiff, Nat.reduceEqDiff, true_or, or_true, false_or, or_false, not_true_eq_false, not_false_eq_true, reduceCtorEq, cmp_lt, cmp_gt, cmp_eq, Int32.reduceAdd, Int32.reduceSub, Int32.reduceMul, Int32.reduceLT, Int32.reduceToNatClampNeg, eq_self, ne_eq, Int64.reduceAdd, Int64.reduceSub, Int64.reduceMul, Int64.reduceLT, k1, q1, e0, nI_1]
  refine m_striker (d := d + 30) ht hS1 X1.1.2 (F.2.1.x o1) (fun w J L2 M1 o2 n2 => ?_)
  have r := F.2.2.2.2.1.keep F.1 o1 n1 o2 n2
  have rb := F.2.2.2.2.2.1.go F.1 o1 (RcX.no n1) o2 (RmX.n n2)
  simp only [E248_835, E248_836, rfs, rfn, cs0, csi, csl, csr, csn, kti, ktl, ktr, ktn, ktv, ktf, true_and, and_true, and_self, ↓reduceIte, Nat.reduceAdd, Nat.reduceSub, Nat.reduceMul, Nat.reduceLT, Nat.reduceLeDiff, Nat.reduceEqDiff, true_or, or_true, false_or, or_false, not_true_eq_false, not_false_eq_true, reduceCtorEq, cmp_lt, cmp_gt, cmp_eq, Int32.reduceAdd, Int32.reduceSub, Int32.reduceMul, Int32.reduceLT, Int32.reduceToNatClampNeg, eq_self, ne_eq, Int64.reduceAdd, Int64.reduceSub, Int64.reduceMul, Int64.reduceLT]
  have hd := F.2.2.2.2.2.2.go ru.hd o2
  exact hn S1 J _ R1 ⟨X1.out o2, M1, q0, q1, r, rb, hd⟩
theorem lk_image (ht : t < 512) (hl : len < 2 ^ 31) (h6 : 6 * t + 6 ≤ len) (F : LX len t S I R) (hn : ∀ S' I' L' R', LX len (t + 1) S' I' R' → Ev (d + 40) 248 921 [.ref 0, .ref 4, .ref 54, .int (nI (6 * t))] [] S' I' L' R' lawQ) : Ev (d + 40) 248 839 [.ref 0, .ref 4, .ref 54, .int (nI (6 * t))] [] S I L R lawQ := by
  have b1 : inb (nI (6 * t + 1)) len = True := inb_nI (by omega) (by omega)
  have k0 := F.i0
  have l0 := F.2.2.2.1
  have hS := F.1.1.1
  simp only [E248_839, E248_839n, E248_840, E248_841, E248_842, E248_843, E248_844, E248_845, pk4 hS, rfs, rfn, cs0, csi, csl, csr, csn, kti, ktl, ktr, ktn, ktv, ktf, true_and, and_true, and_self, ↓reduceIte, Nat.reduceAdd, Nat.reduceSub, Nat.reduceMul, Nat.reduceLT, Nat.reduceLeDiff, Nat.reduceEqDiff, true_or, or_true, false_or, or_false, not_true_eq_false, not_false_eq_true, reduceCtorEq, cmp_lt, cmp_gt, cmp_eq, Int32.reduceAdd, Int32.reduceSub, Int32.reduceMul, Int32.reduceLT, Int32.reduceToNatClampNeg, eq_self, ne_eq, Int64.reduceAdd, Int64.reduceSub, Int64.reduceMul, Int64.reduceLT, k0, l0, nI_1, b1]
  refine x_image (d := d + 15) F.1 (fun S1 I1 L1 R1 X1 ex o1 ru n1 => ?_)
  obtain ⟨q0, q1⟩ := F.e ex
  have k1 := okI19 q0 X1.1.1
  have hS1 := X1.1.1
  have e0 : I1 0 = I 0 := o1 0 (by decide)
  simp only [E248_848, E248_849, E248_849n, E248_850, E248_851, E248_852, E248_853, E248_854, E248_855, pk54 hS1, rfs, rfn, cs0, csi, csl, csr, csn, kti, ktl, ktr, ktn, ktv, ktf, true_and, and_true, and_self, ↓reduceIte, Nat.reduceAdd, Nat.reduceSub, Nat.reduceMul, Nat.reduceLT, Nat.reduceLeDiff, Nat.reduceEqDiff, true_or, or_true, false_or, or_false, not_true_eq_false, not_false_eq_true, reduceCtorEq, cmp_lt, cmp_gt, cmp_eq, Int32.reduceAdd, Int32.reduceSub, Int32.reduceMul, Int32.reduceLT, Int32.reduceToNatClampNeg, eq_self, ne_eq, Int64.reduceAdd, Int64.reduceSub, Int64.reduceMul, Int64.reduceLT, k1, q1, e0, nI_1, b1]
  refine m_image (d := d + 37) hS1 X1.1.2 (F.2.1.x o1) (fun J L2 M1 o2 n2 => ?_)
  have r := r_image F.1 F.2.2.2.2.1 o1 n1 o2 n2
  have rb := b_image F.1 F.2.2.2.2.1 F.2.2.2.2.2.1 F.2.1 o1 n1 o2 n2
  simp only [E248_858, E248_859, rfs, rfn, cs0, csi, csl, csr, csn, kti, ktl, ktr, ktn, ktv, ktf, true_and, and_true, and_self, ↓reduceIte, Nat.reduceAdd, Nat.reduceSub, Nat.reduceMul, Nat.reduceLT, Nat.reduceLeDiff, Nat.reduceEqDiff, true_or, or_true, false_or, or_false, not_true_eq_false, not_false_eq_true, reduceCtorEq, cmp_lt, cmp_gt, cmp_eq, Int32.reduceAdd, Int32.reduceSub, Int32.reduceMul, Int32.reduceLT, Int32.reduceToNatClampNeg, eq_self, ne_eq, Int64.reduceAdd, Int64.reduceSub, Int64.reduceMul, Int64.reduceLT]
  have hd := F.2.2.2.2.2.2.go ru.hd o2
  exact hn S1 J _ R1 ⟨X1.out o2, M1.mono (by omega), q0, q1, r, rb, hd⟩
theorem lk_back (ht : t < 512) (hl : len < 2 ^ 31) (h6 : 6 * t + 6 ≤ len) (F : LX len t S I R) (hn : ∀ S' I' L' R', LX len (t + 1) S' I' R' → Ev (d + 40) 248 921 [.ref 0, .ref 4, .ref 54, .int (nI (6 * t))] [] S' I' L' R' lawQ) : Ev (d + 40) 248 862 [.ref 0, .ref 4, .ref 54, .int (nI (6 * t))] [] S I L R lawQ := by
  have b1 : inb (nI (6 * t + 1)) len = True := inb_nI (by omega) (by omega)
  have k0 := F.i0
  have l0 := F.2.2.2.1
  have hS := F.1.1.1
  simp only [E248_862, E248_862n, E248_863, E248_864, E248_865, E248_866, E248_867, E248_868, pk4 hS, rfs, rfn, cs0, csi, csl, csr, csn, kti, ktl, ktr, ktn, ktv, ktf, true_and, and_true, and_self, ↓reduceIte, Nat.reduceAdd, Nat.reduceSub, Nat.reduceMul, Nat.reduceLT, Nat.reduceLeDiff, Nat.reduceEqDiff, true_or, or_true, false_or, or_false, not_true_eq_false, not_false_eq_true, reduceCtorEq, cmp_lt, cmp_gt, cmp_eq, Int32.reduceAdd, Int32.reduceSub, Int32.reduceMul, Int32.reduceLT, Int32.reduceToNatClampNeg, eq_self, ne_eq, Int64.reduceAdd, Int64.reduceSub, Int64.reduceMul, Int64.reduceLT, k0, l0, nI_1, b1]
  refine x_back (d := d + 15) F.1 (fun v S1 I1 L1 R1 X1 ex o1 ru n1 => ?_)
  obtain ⟨q0, q1⟩ := F.e ex
  have k1 := okI19 q0 X1.1.1
  have hS1 := X1.1.1
  have e0 : I1 0 = I 0 := o1 0 (by decide)
  simp only [E248_871, E248_872, E248_872n, E248_873, E248_874, E248_875, E248_876, E248_877, E248_878, pk54 hS1, rfs, rfn, cs0, csi, csl, csr, csn, kti, ktl, ktr, ktn, ktv, ktf, true_and, and_true, and_self, ↓reduceIte, Nat.reduceAdd, Nat.reduceSub, Nat.reduceMul, Nat.reduceLT, Nat.reduceLeDiff, Nat.reduceEqDiff, true_or, or_true, false_or, or_false, not_true_eq_false, not_false_eq_true, reduceCtorEq, cmp_lt, cmp_gt, cmp_eq, Int32.reduceAdd, Int32.reduceSub, Int32.reduceMul, Int32.reduceLT, Int32.reduceToNatClampNeg, eq_self, ne_eq, Int64.reduceAdd, Int64.reduceSub, Int64.reduceMul, Int64.reduceLT, k1, q1, e0, nI_1, b1]
  refine m_back (d := d + 37) hS1 X1.1.2 (F.2.1.x o1) (fun w J L2 M1 o2 n2 => ?_)
  obtain ⟨rfl, r⟩ := r_back F.1 F.2.2.2.2.1 o1 n1 o2 n2
  have rb := b_back F.1 F.2.2.2.2.1 F.2.2.2.2.2.1 F.2.1 o1 n1 o2 n2
  simp only [E248_881, E248_882, rfs, rfn, cs0, csi, csl, csr, csn, kti, ktl, ktr, ktn, ktv, ktf, true_and, and_true, and_self, ↓reduceIte, Nat.reduceAdd, Nat.reduceSub, Nat.reduceMul, Nat.reduceLT, Nat.reduceLeDiff, Nat.reduceEqDiff, true_or, or_true, false_or, or_false, not_true_eq_false, not_false_eq_true, reduceCtorEq, cmp_lt, cmp_gt, cmp_eq, Int32.reduceAdd, Int32.reduceSub, Int32.reduceMul, Int32.reduceLT, Int32.reduceToNatClampNeg, eq_self, ne_eq, Int64.reduceAdd, Int64.reduceSub, Int64.reduceMul, Int64.reduceLT]
  have hd := F.2.2.2.2.2.2.go ru.hd o2
  exact hn S1 J _ R1 ⟨X1.out o2, M1.mono (by omega), q0, q1, r, rb, hd⟩
theorem lk_count (ht : t < 512) (hl : len < 2 ^ 31) (h6 : 6 * t + 6 ≤ len) (F : LX len t S I R) (hn : ∀ S' I' L' R', LX len (t + 1) S' I' R' → Ev (d + 40) 248 921 [.ref 0, .ref 4, .ref 54, .int (nI (6 * t))] [] S' I' L' R' lawQ) : Ev (d + 40) 248 885 [.ref 0, .ref 4, .ref 54, .int (nI (6 * t))] [] S I L R lawQ := by
  have b1 : inb (nI (6 * t + 1)) len = True := inb_nI (by omega) (by omega)
  have k0 := F.i0
  have l0 := F.2.2.2.1
  have hS := F.1.1.1
  simp only [E248_885, E248_885n, E248_886, E248_887, E248_888, E248_889, E248_890, E248_891, pk4 hS, rfs, rfn, cs0, csi, csl, csr, csn, kti, ktl, ktr, ktn, ktv, ktf, true_and, and_true, and_self, ↓reduceIte, Nat.reduceAdd, Nat.reduceSub, Nat.reduceMul, Nat.reduceLT, Nat.reduceLeDiff, Nat.reduceEqDiff, true_or, or_true, false_or, or_false, not_true_eq_false, not_false_eq_true, reduceCtorEq, cmp_lt, cmp_gt, cmp_eq, Int32.reduceAdd, Int32.reduceSub, Int32.reduceMul, Int32.reduceLT, Int32.reduceToNatClampNeg, eq_self, ne_eq, Int64.reduceAdd, Int64.reduceSub, Int64.reduceMul, Int64.reduceLT, k0, l0, nI_1, b1]
  refine x_count (d := d + 15) F.1 (fun v S1 I1 L1 R1 X1 ex o1 ru n1 => ?_)
  obtain ⟨q0, q1⟩ := F.e ex
  have k1 := okI19 q0 X1.1.1
  have hS1 := X1.1.1
  have e0 : I1 0 = I 0 := o1 0 (by decide)
  simp only [E248_894, E248_895, E248_895n, E248_896, E248_897, E248_898, E248_899, E248_900, E248_901, pk54 hS1, rfs, rfn, cs0, csi, csl, csr, csn, kti, ktl, ktr, ktn, ktv, ktf, true_and, and_true, and_self, ↓reduceIte, Nat.reduceAdd, Nat.reduceSub, Nat.reduceMul, Nat.reduceLT, Nat.reduceLeDiff, Nat.reduceEqDiff, true_or, or_true, false_or, or_false, not_true_eq_false, not_false_eq_true, reduceCtorEq, cmp_lt, cmp_gt, cmp_eq, Int32.reduceAdd, Int32.reduceSub, Int32.reduceMul, Int32.reduceLT, Int32.reduceToNatClampNeg, eq_self, ne_eq, Int64.reduceAdd, Int64.reduceSub, Int64.reduceMul, Int64.reduceLT, k1, q1, e0, nI_1, b1]
  refine m_count (d := d + 38) hS1 X1.1.2 (F.2.1.x o1) (fun w J L2 M1 o2 n2 => ?_)
  have r := F.2.2.2.2.1.keep F.1 o1 n1 o2 n2
  have rb := F.2.2.2.2.2.1.go F.1 o1 (RcX.no n1) o2 (RmX.n n2)
  simp only [E248_904, E248_905, rfs, rfn, cs0, csi, csl, csr, csn, kti, ktl, ktr, ktn, ktv, ktf, true_and, and_true, and_self, ↓reduceIte, Nat.reduceAdd, Nat.reduceSub, Nat.reduceMul, Nat.reduceLT, Nat.reduceLeDiff, Nat.reduceEqDiff, true_or, or_true, false_or, or_false, not_true_eq_false, not_false_eq_true, reduceCtorEq, cmp_lt, cmp_gt, cmp_eq, Int32.reduceAdd, Int32.reduceSub, Int32.reduceMul, Int32.reduceLT, Int32.reduceToNatClampNeg, eq_self, ne_eq, Int64.reduceAdd, Int64.reduceSub, Int64.reduceMul, Int64.reduceLT]
  have hd := F.2.2.2.2.2.2.go ru.hd o2
  exact hn S1 J _ R1 ⟨X1.out o2, M1.mono (by omega), q0, q1, r, rb, hd⟩
theorem lk_status (ht : t < 512) (hl : len < 2 ^ 31) (h6 : 6 * t + 6 ≤ len) (F : LX len t S I R) (hn : ∀ S' I' L' R', LX len (t + 1) S' I' R' → Ev (d + 40) 248 921 [.ref 0, .ref 4, .ref 54, .int (nI (6 * t))] [] S' I' L' R' lawQ) : Ev (d + 40) 248 908 [.ref 0, .ref 4, .ref 54, .int (nI (6 * t))] [] S I L R lawQ := by
  have k0 := F.i0
  have l0 := F.2.2.2.1
  have hS := F.1.1.1
  simp only [E248_908, E248_908n, E248_909, pk4 hS, rfs, rfn, cs0, csi, csl, csr, csn, kti, ktl, ktr, ktn, ktv, ktf, true_and, and_true, and_self, ↓reduceIte, Nat.reduceAdd, Nat.reduceSub, Nat.reduceMul, Nat.reduceLT, Nat.reduceLeDiff, Nat.reduceEqDiff, true_or, or_true, false_or, or_false, not_true_eq_false, not_false_eq_true, reduceCtorEq, cmp_lt, cmp_gt, cmp_eq, Int32.reduceAdd, Int32.reduceSub, Int32.reduceMul, Int32.reduceLT, Int32.reduceToNatClampNeg, eq_self, ne_eq, Int64.reduceAdd, Int64.reduceSub, Int64.reduceMul, Int64.reduceLT, k0, l0, nI_1]
  refine x_status (d := d + 15) F.1 (fun v S1 I1 L1 R1 X1 ex o1 ru n1 => ?_)
  obtain ⟨q0, q1⟩ := F.e ex
  have k1 := okI19 q0 X1.1.1
  have hS1 := X1.1.1
  have e0 : I1 0 = I 0 := o1 0 (by decide)
  simp only [E248_912, E248_913, E248_913n, E248_914, pk54 hS1, rfs, rfn, cs0, csi, csl, csr, csn, kti, ktl, ktr, ktn, ktv, ktf, true_and, and_true, and_self, ↓reduceIte, Nat.reduceAdd, Nat.reduceSub, Nat.reduceMul, Nat.reduceLT, Nat.reduceLeDiff, Nat.reduceEqDiff, true_or, or_true, false_or, or_false, not_true_eq_false, not_false_eq_true, reduceCtorEq, cmp_lt, cmp_gt, cmp_eq, Int32.reduceAdd, Int32.reduceSub, Int32.reduceMul, Int32.reduceLT, Int32.reduceToNatClampNeg, eq_self, ne_eq, Int64.reduceAdd, Int64.reduceSub, Int64.reduceMul, Int64.reduceLT, k1, q1, e0, nI_1]
  refine m_status (d := d + 38) hS1 X1.1.2 (F.2.1.x o1) (fun w J L2 M1 o2 n2 => ?_)
  have r := F.2.2.2.2.1.keep F.1 o1 n1 o2 n2
  have rb := F.2.2.2.2.2.1.go F.1 o1 (RcX.no n1) o2 (RmX.n n2)
  simp only [E248_917, E248_918, rfs, rfn, cs0, csi, csl, csr, csn, kti, ktl, ktr, ktn, ktv, ktf, true_and, and_true, and_self, ↓reduceIte, Nat.reduceAdd, Nat.reduceSub, Nat.reduceMul, Nat.reduceLT, Nat.reduceLeDiff, Nat.reduceEqDiff, true_or, or_true, false_or, or_false, not_true_eq_false, not_false_eq_true, reduceCtorEq, cmp_lt, cmp_gt, cmp_eq, Int32.reduceAdd, Int32.reduceSub, Int32.reduceMul, Int32.reduceLT, Int32.reduceToNatClampNeg, eq_self, ne_eq, Int64.reduceAdd, Int64.reduceSub, Int64.reduceMul, Int64.reduceLT]
  have hd := F.2.2.2.2.2.2.go ru.hd o2
  exact hn S1 J _ R1 ⟨X1.out o2, M1.mono (by omega), q0, q1, r, rb, hd⟩
end LW
def swT (k : Nat) : Nat := ([164, 187, 220, 253, 276, 309, 372, 395, 408, 421, 434, 457, 480, 503, 526, 549, 562, 595, 618, 631, 664, 707, 760, 793, 826, 839, 862, 885, 908, 921, 921, 921] : List Nat).getD k 921
theorem sw_law : ∀ k, k < 32 → (if (nI k).toInt < 0 ∨ 0 + (([164, 187, 220, 253, 276, 309, 372, 395, 408, 421, 434, 457, 480, 503, 526, 549, 562, 595, 618, 631, 664, 707, 760, 793, 826, 839, 862, 885, 908] : List Int).length : Int) ≤ (nI k).toInt then 921 else (([164, 187, 220, 253, 276, 309, 372, 395, 408, 421, 434, 457, 480, 503, 526, 549, 562, 595, 618, 631, 664, 707, 760, 793, 826, 839, 862, 885, 908] : List Int).getD ((nI k).toInt - 0).toNat 0).toNat) = swT k := by decide +kernel
theorem yWs : (13 + yW 3) + (13 + yW 4) + (13 + yW 5) ≤ 1000000 := by decide
theorem law_lp {d len : Nat} (hlen : len ≤ 3072) : ∀ (N t : Nat) (S : mS) (I : mI) (L : mL) (R : mR), t + N = 513 → LX len t S I R → Ev (d + 40) 248 18 [.ref 0, .ref 4, .ref 54, .int (nI (6 * t))] [] S I L R lawQ := by
  intro N
  induction N with
  | zero =>
    intro t S I L R hN F
    have k0 := F.i0
    have k0A : okA S 0 := ⟨by have := F.1.1.1.1; omega, by rw [F.2.2.1]; decide⟩
    have l0 := F.2.2.2.1
    have e : (nI len - 6 < nI (6 * t)) = True := eq_true (by
      rw [Int32.lt_iff_toInt_lt, nI_toInt (by omega), Int32.toInt_sub, nI_toInt (by omega)]
      show ((len : Int) - 6).bmod (2 ^ 32) < _
      rw [Int.bmod_def]
      split <;> omega)
    simp only [E248_18, E248_19, E248_20, E248_21, E248_23, E248_24, E248_927, E248_928, rfs, rfn, cs0, csi, csl, csr, csn, kti, ktl, ktr, ktn, ktv, ktf, true_and, and_true, and_self, ↓reduceIte, Nat.reduceAdd, Nat.reduceSub, Nat.reduceMul, Nat.reduceLT, Nat.reduceLeDiff, Nat.reduceEqDiff, true_or, or_true, false_or, or_false, not_true_eq_false, not_false_eq_true, reduceCtorEq, cmp_lt, cmp_gt, cmp_eq, Int32.reduceAdd, Int32.reduceSub, Int32.reduceMul, Int32.reduceLT, Int32.reduceToNatClampNeg, eq_self, ne_eq, Int64.reduceAdd, Int64.reduceSub, Int64.reduceMul, Int64.reduceLT, k0A, l0, e, lawQ]
    obtain ⟨m1, m2⟩ := F.1.2.2
    have := yWs
    exact ⟨by omega, by omega⟩
  | succ N ih =>
    intro t S I L R hN F
    have k0 := F.i0
    have k0A : okA S 0 := ⟨by have := F.1.1.1.1; omega, by rw [F.2.2.1]; decide⟩
    have l0 := F.2.2.2.1
    by_cases g : 6 * t + 6 ≤ len
    case neg =>
      have e : (nI len - 6 < nI (6 * t)) = True := eq_true (by
        rw [Int32.lt_iff_toInt_lt, nI_toInt (by omega), Int32.toInt_sub, nI_toInt (by omega)]
        show ((len : Int) - 6).bmod (2 ^ 32) < _
        rw [Int.bmod_def]
        split <;> omega)
      simp only [E248_18, E248_19, E248_20, E248_21, E248_23, E248_24, E248_927, E248_928, rfs, rfn, cs0, csi, csl, csr, csn, kti, ktl, ktr, ktn, ktv, ktf, true_and, and_true, and_self, ↓reduceIte, Nat.reduceAdd, Nat.reduceSub, Nat.reduceMul, Nat.reduceLT, Nat.reduceLeDiff, Nat.reduceEqDiff, true_or, or_true, false_or, or_false, not_true_eq_false, not_false_eq_true, reduceCtorEq, cmp_lt, cmp_gt, cmp_eq, Int32.reduceAdd, Int32.reduceSub, Int32.reduceMul, Int32.reduceLT, Int32.reduceToNatClampNeg, eq_self, ne_eq, Int64.reduceAdd, Int64.reduceSub, Int64.reduceMul, Int64.reduceLT, k0A, l0, e, lawQ]
      obtain ⟨m1, m2⟩ := F.1.2.2
      have := yWs
      exact ⟨by omega, by omega⟩
    have e : (nI len - 6 < nI (6 * t)) = False := eq_false (by
      rw [Int32.lt_iff_toInt_lt, nI_toInt (by omega), Int32.toInt_sub, nI_toInt (by omega)]
      show ¬ ((len : Int) - 6).bmod (2 ^ 32) < _
      rw [Int.bmod_def]
      split <;> omega)
    have ht : t < 512 := by omega
    have b0 : inb (nI (6 * t)) len = True := inb_nI (by omega) (by omega)
    have hn : ∀ S' I' L' R', LX len (t + 1) S' I' R' → Ev (d + 40) 248 921 [.ref 0, .ref 4, .ref 54, .int (nI (6 * t))] [] S' I' L' R' lawQ := fun S' I' L' R' F' => by
      have e6 : nI (6 * t) + 6 = nI (6 * (t + 1)) := by
        rw [show (6 : Int32) = nI 6 from rfl, nI_add]
        congr 1
      simp only [E248_921, E248_924, rfs, rfn, cs0, csi, csl, csr, csn, kti, ktl, ktr, ktn, ktv, ktf, true_and, and_true, and_self, ↓reduceIte, Nat.reduceAdd, Nat.reduceSub, Nat.reduceMul, Nat.reduceLT, Nat.reduceLeDiff, Nat.reduceEqDiff, true_or, or_true, false_or, or_false, not_true_eq_false, not_false_eq_true, reduceCtorEq, cmp_lt, cmp_gt, cmp_eq, Int32.reduceAdd, Int32.reduceSub, Int32.reduceMul, Int32.reduceLT, Int32.reduceToNatClampNeg, eq_self, ne_eq, Int64.reduceAdd, Int64.reduceSub, Int64.reduceMul, Int64.reduceLT, e6]
      exact ih (t + 1) S' I' L' R' (by omega) F'
    obtain ⟨k, hk32, ek⟩ : ∃ k, k < 32 ∧ I 0 (6 * t) &&& 31 = nI k := ⟨_, Nat.mod_lt _ (by decide), pk_and (I 0 (6 * t)) 5 (by decide)⟩
    have e5 : (nI (6 * t)).toNatClampNeg = 6 * t := nI_clamp (by omega)
    simp only [E248_18, E248_19, E248_20, E248_21, E248_23, E248_24, E248_27, E248_28, E248_29, E248_30, E248_32, E248_33, rfs, rfn, cs0, csi, csl, csr, csn, kti, ktl, ktr, ktn, ktv, ktf, true_and, and_true, and_self, ↓reduceIte, Nat.reduceAdd, Nat.reduceSub, Nat.reduceMul, Nat.reduceLT, Nat.reduceLeDiff, Nat.reduceEqDiff, true_or, or_true, false_or, or_false, not_true_eq_false, not_false_eq_true, reduceCtorEq, cmp_lt, cmp_gt, cmp_eq, Int32.reduceAdd, Int32.reduceSub, Int32.reduceMul, Int32.reduceLT, Int32.reduceToNatClampNeg, eq_self, ne_eq, Int64.reduceAdd, Int64.reduceSub, Int64.reduceMul, Int64.reduceLT, k0, k0A, l0, e, b0, e5, ek, sw_law k hk32]
    match k, hk32 with
    | 0, _ => exact lk_wide ht (by omega) g F hn
    | 1, _ => exact lk_bar ht (by omega) g F hn
    | 2, _ => exact lk_shape ht (by omega) g F hn
    | 3, _ => exact lk_tongs ht (by omega) g F hn
    | 4, _ => exact lk_terms ht (by omega) g F hn
    | 5, _ => exact lk_feed ht (by omega) g F hn
    | 6, _ => exact lk_end ht (by omega) g F hn
    | 7, _ => exact lk_row ht (by omega) g F hn
    | 8, _ => exact lk_recipe ht (by omega) g F hn
    | 9, _ => exact lk_fault ht (by omega) g F hn
    | 10, _ => exact lk_steps ht (by omega) g F hn
    | 11, _ => exact lk_run ht (by omega) g F hn
    | 12, _ => exact lk_came ht (by omega) g F hn
    | 13, _ => exact lk_iron ht (by omega) g F hn
    | 14, _ => exact lk_welds ht (by omega) g F hn
    | 15, _ => exact lk_heats ht (by omega) g F hn
    | 16, _ => exact lk_plan ht (by omega) g F hn
    | 17, _ => exact lk_reached ht (by omega) g F hn
    | 18, _ => exact lk_even ht (by omega) g F hn
    | 19, _ => exact lk_change ht (by omega) g F hn
    | 20, _ => exact lk_made ht (by omega) g F hn
    | 21, _ => exact lk_twelve ht (by omega) g F hn
    | 22, _ => exact lk_piece ht (by omega) g F hn
    | 23, _ => exact lk_soonest ht (by omega) g F hn
    | 24, _ => exact lk_striker ht (by omega) g F hn
    | 25, _ => exact lk_image ht (by omega) g F hn
    | 26, _ => exact lk_back ht (by omega) g F hn
    | 27, _ => exact lk_count ht (by omega) g F hn
    | 28, _ => exact lk_status ht (by omega) g F hn
    | 29, _ => exact hn S I L R ⟨⟨F.1.1, F.1.2.1, F.1.2.2.mono (by omega)⟩, F.2.1.mono (by omega), F.2.2⟩
    | 30, _ => exact hn S I L R ⟨⟨F.1.1, F.1.2.1, F.1.2.2.mono (by omega)⟩, F.2.1.mono (by omega), F.2.2⟩
    | 31, _ => exact hn S I L R ⟨⟨F.1.1, F.1.2.1, F.1.2.2.mono (by omega)⟩, F.2.1.mono (by omega), F.2.2⟩
    | k + 32, h9 => exact absurd h9 (by omega)
/-! where both begin -/
theorem rowC_w : Rw rowC := by
  refine ⟨⟨4, by decide, by decide, by decide⟩, ⟨⟨1022, by decide, by decide⟩, ⟨3, by decide, by decide⟩, fun k hk => ?_⟩, fun k hk => ?_, ⟨0, by decide, by decide, fun p hp => absurd hp (by omega)⟩, ⟨0, by decide, by decide, fun p hp => absurd hp (by omega)⟩⟩
  · rcases (by omega : k = 0 ∨ k = 1 ∨ k = 2 ∨ k = 3 ∨ k = 4) with rfl | rfl | rfl | rfl | rfl
    · exact ⟨3, by decide, by decide⟩
    · exact ⟨3, by decide, by decide⟩
    · exact ⟨5, by decide, by decide⟩
    · exact ⟨1, by decide, by decide⟩
    · exact ⟨20, by decide, by decide⟩
  · refine ⟨⟨3, by decide, by decide, ?_⟩, ⟨3, by decide, by decide, ?_⟩⟩
    all_goals rcases (by omega : k = 0 ∨ k = 1 ∨ k = 2 ∨ k = 3 ∨ k = 4) with rfl | rfl | rfl | rfl | rfl <;> decide
theorem fsh_lx {len : Nat} {xs : Nat → Int32} {S : mS} {I : mI} {R : mR} (F : Fsh len xs S I R) : LX len 0 S I R := by
  obtain ⟨⟨⟨hS, hR⟩, hn, hu⟩, hI, hN, ⟨hk, hl⟩, hx⟩ := F
  have n39 : ∀ c, (c = 3 ∨ c = 4 ∨ c = 5) → R 39 c = none := fun c hc => by
    rcases hc with rfl | rfl | rfl
    · exact fn39_3 hN
    · exact fn39_4 hN
    · exact fn39_5 hN
  have n12 : ∀ j, j < 2 → R 12 j = none := fun j hj => by
    rcases (by omega : j = 0 ∨ j = 1) with rfl | rfl
    · exact fn12_0 hN
    · exact fn12_1 hN
  have n9 : ∀ j, j < 8 → R 9 j = none := fun j hj => by
    rcases (by omega : j = 0 ∨ j = 1 ∨ j = 2 ∨ j = 3 ∨ j = 4 ∨ j = 5 ∨ j = 6 ∨ j = 7) with rfl | rfl | rfl | rfl | rfl | rfl | rfl | rfl
    · exact fn9_0 hN
    · exact fn9_1 hN
    · exact fn9_2 hN
    · exact fn9_3 hN
    · exact fn9_4 hN
    · exact fn9_5 hN
    · exact fn9_6 hN
    · exact fn9_7 hN
  refine ⟨⟨⟨hS, hR⟩, ⟨⟨0, by decide, fi4_3 hI⟩, fun _ => 0, ⟨⟨4, by decide, fi5_0 hI⟩, ⟨0, by decide, fi5_9 hI⟩, ⟨0, by decide, fi5_6 hI, fun i hi => absurd hi (by omega)⟩, fun i q hi hq => ?_⟩, fun j y hj hy => ?_, fun c P hc hP => ?_⟩, ⟨by omega, ?_⟩⟩, ⟨by rw [fc56 hI]; exact rowC_w, fun b hb z => ?_, ⟨0, by decide, fi54_7 hI⟩, ⟨0, by decide, fi54_45 hI⟩, Or.inl (fi54_60 hI), ⟨0, by decide, fi54_56 hI, fun v hv => ⟨0, by decide, ?_⟩⟩⟩, hk, hl, ⟨⟨fc1 hI, fc2 hI⟩, ⟨?_, ?_, ?_, fun c c5 => ?_, fun p p8 => ?_⟩, TpR.z (fi4_3 hI) (fi54_7 hI), fun j hj => ⟨fun _ => congrFun (fz58 hI) j, fun y hy => ?_⟩⟩, ⟨⟨by rw [fi5_6 hI, fc56 hI]; decide, fun i r q h1 _ h3 _ => ?_⟩, fun j y hj hy => ?_, by rw [fi14_5 hI, fi54_12 hI], fun k => by rw [fz13 hI]; show (0 : Int32) = (0 : Int32).toInt8.toInt32; decide⟩, fi20_9 hI, fi26_9 hI, fi32_9 hI⟩
  · rw [n9 i hi] at hq
    cases hq
  · rw [n12 j hj] at hy
    cases hy
  · rw [n39 c hc] at hP
    cases hP
  · rw [hu]
    have h1 : nn (R 12 0) 49 ≤ 49 := nn_le
    have h2 : nn (R 12 1) 49 ≤ 49 := nn_le
    have h3 : nn (R 39 3) (13 + yW 3) ≤ 13 + yW 3 := nn_le
    have h4 : nn (R 39 4) (13 + yW 4) ≤ 13 + yW 4 := nn_le
    have h5 : nn (R 39 5) (13 + yW 5) ≤ 13 + yW 5 := nn_le
    omega
  · exact absurd (congrFun (fz58 hI) b) z
  · exact congrFun (fz77 hI) v
  · rw [fi5_0 hI, fc56 hI]; decide
  · rw [fi5_3 hI, fc56 hI]; decide
  · rw [fi5_9 hI, fc56 hI]; decide
  · rw [fc6 hI, fc7 hI, fc8 hI, fc56 hI]
    rcases (by omega : c = 0 ∨ c = 1 ∨ c = 2 ∨ c = 3 ∨ c = 4) with rfl | rfl | rfl | rfl | rfl <;> decide
  · rw [fz10 hI, fz11 hI, fc56 hI]
    rcases (by omega : p = 0 ∨ p = 1 ∨ p = 2 ∨ p = 3 ∨ p = 4 ∨ p = 5 ∨ p = 6 ∨ p = 7) with rfl | rfl | rfl | rfl | rfl | rfl | rfl | rfl <;> decide
  · rw [n12 j hj] at hy
    cases hy
  · have := (nI_eq (a := 0) (b := r) (by decide) (by omega)).mp ((fi5_6 hI).symm.trans h1)
    omega
  · rw [n12 j hj] at hy
    cases hy
theorem law_ok (len : Nat) (xs : Nat → Int32) (hL : len ≤ 3072) : EvM 1000 248 [.ref 0] (iS len) (iI xs) iL iR lawQ := law_start (d := 996) (fun S I Lm R F => law_lp (d := 960) hL 513 0 S I Lm R rfl (fsh_lx F))
