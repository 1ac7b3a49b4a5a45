/-! the reference: heats, plan, reached, even, striker -/
theorem InvM.pl {I J : mI} {t st : Nat} (h : InvM I t) (f : FrP I J) (hp : PlM J) (hr : Rst J 59049 st) (hst : st ≤ 8000000 * (t + 1)) : InvM J (t + 1) := by
  refine ⟨by rw [f.1 56 (by decide) (by decide)]; exact h.1, fun b hb z => ?_, by rw [f.2 7 (by decide) (by decide) (by decide) (by decide)]; exact h.2.2.1, by rw [f.2 45 (by decide) (by decide) (by decide) (by decide)]; exact h.2.2.2.1, hp, st, hst, hr⟩
  rw [f.1 58 (by decide) (by decide)] at z
  rw [f.1 57 (by decide) (by decide)]
  exact h.2.1 b hb z
theorem FrP.rl {I J : mI} (f : FrP I J) : RlN I J := RlN.al (f.1 _ (by decide) (by decide)) (f.1 _ (by decide) (by decide)) (f.1 _ (by decide) (by decide)) (f.1 _ (by decide) (by decide)) (f.2 _ (by decide) (by decide) (by decide) (by decide)) (f.2 _ (by decide) (by decide) (by decide) (by decide))
theorem FrP.o {I J : mI} (f : FrP I J) : OutM I J := fun a ha => f.1 a (by omega) (by omega)
theorem PlN.m {I : mI} (h : PlN I) : PlM I := Or.inr ⟨h.1, h.2⟩
theorem Stm.r {I : mI} {t : Nat} (h : Stm I t) : ∃ st, st ≤ 8000000 * t ∧ Rst I 59049 st := h
theorem PlN.h {I J : mI} (h : PlN I) (e60 : J 54 60 = I 54 60) (e0 : J 56 = I 56) (e2 : J 72 = I 72) : PlN J := by
  unfold PlN Wt
  rw [e60, e0, e2]
  exact h
theorem sub9 : ∀ x, x < 46 → ∀ a, a < 46 → inB (nI x - nI a).toInt64 0 6 = decide (a ≤ x ∧ x ≤ a + 6) := by decide +kernel
section AS
variable {d t c : Nat} {S : mS} {I : mI} {L : mL} {R : mR} {Q : mQ}
theorem irX {x : Int32} {i : Nat} (hS : Pm S) (hR : Pr R) (hc : c = 3 ∨ c = 4 ∨ c = 5) (hw : Wt I c) (hi : i < c) (hq : ∀ v, Q (.int v) S I L R) : EvM (d + 1) 209 [.ref 54, .int x, .int (nI i)] S I L R Q := by
  have e3 : inb (nI i) 5 = True := inb_nI (by omega) (by decide)
  have e4 : (nI i).toNatClampNeg = i := nI_clamp (by omega)
  have hwi := hw i hi
  have hb := wtO hc i hi
  have n0 : (nI (wt c i) = 0) = False := eq_false (nI_ne0 hb.1 (by omega))
  have n9 : ((9 : Int32) = 0) = False := eq_false (by decide)
  simp only [M209, E209_0, E209_1, E209_2, E209_5, E209_6, E209_7, E209_8, E209_10, E209_11, E209_12, E209_13, rfs, rfn, cs0, csi, csl, csr, csn, kti, ktl, ktr, ktn, ktv, ktf, true_and, and_true, and_self, ↓reduceIte, Nat.reduceAdd, Nat.reduceSub, Nat.reduceMul, Nat.reduceLT, Nat.reduceLeDiff, Nat.reduceEqDiff, true_or, or_true, false_or, or_false, not_true_eq_false, not_false_eq_true, reduceCtorEq, cmp_lt, cmp_gt, cmp_eq, Int32.reduceAdd, Int32.reduceSub, Int32.reduceMul, Int32.reduceLT, Int32.reduceToNatClampNeg, eq_self, ne_eq, Int64.reduceAdd, Int64.reduceSub, Int64.reduceMul, Int64.reduceLT, pk54 hS, pk72 hS, pl72 hS, pa72 hS, pi72 hS, pr54_50 hR, e3, e4, hwi, n0, n9]
  exact hq _
theorem m_heats (ht : t < 512) (hS : Pm S) (hR : Pr R) (h : InvM I t) (hq : ∀ v J L', InvM J (t + 1) → OutM I J → RlN I J → Q (.int v) S J L' R) : EvM (d + 9) 219 [.ref 54] S I L R Q := by
  have h0 : InvM (put I 54 0 0) t := h.p0
  have o0 : OutM I (put I 54 0 0) := (by repeat (first | exact OutM.rf | apply telF_o | refine OutM.pt ?_ (by decide) (by decide)))
  have r0 : RlN I (put I 54 0 0) := (by repeat (first | exact RlN.rf | apply RlN.tel | refine RlN.p4 ?_ (by decide) | refine RlN.pa ?_ (by decide)))
  simp only [M219, E219_0, E219_1, E219_2, E219_5, E219_6, pk54 hS, rfs, rfn, cs0, csi, csl, csr, csn, kti, ktl, ktr, ktn, ktv, ktf, true_and, and_true, and_self, ↓reduceIte, Nat.reduceAdd, Nat.reduceSub, Nat.reduceMul, Nat.reduceLT, Nat.reduceLeDiff, Nat.reduceEqDiff, true_or, or_true, false_or, or_false, not_true_eq_false, not_false_eq_true, reduceCtorEq, cmp_lt, cmp_gt, cmp_eq, Int32.reduceAdd, Int32.reduceSub, Int32.reduceMul, Int32.reduceLT, Int32.reduceToNatClampNeg, eq_self, ne_eq, Int64.reduceAdd, Int64.reduceSub, Int64.reduceMul, Int64.reduceLT, pt]
  generalize put I 54 0 0 = I0 at h0 o0 r0 ⊢
  obtain ⟨st, s1, s2⟩ := h0.2.2.2.2.2.r
  refine fpl (d := d) (st := st) hS hR h0.1 h0.2.2.2.2.1 s2 (by omega) (fun J st' k1 k2 k3 k4 => ?_)
  simp only [E219_9, E219_10, E219_13, pk54 hS, rfs, rfn, cs0, csi, csl, csr, csn, kti, ktl, ktr, ktn, ktv, ktf, true_and, and_true, and_self, ↓reduceIte, Nat.reduceAdd, Nat.reduceSub, Nat.reduceMul, Nat.reduceLT, Nat.reduceLeDiff, Nat.reduceEqDiff, true_or, or_true, false_or, or_false, not_true_eq_false, not_false_eq_true, reduceCtorEq, cmp_lt, cmp_gt, cmp_eq, Int32.reduceAdd, Int32.reduceSub, Int32.reduceMul, Int32.reduceLT, Int32.reduceToNatClampNeg, eq_self, ne_eq, Int64.reduceAdd, Int64.reduceSub, Int64.reduceMul, Int64.reduceLT]
  exact hq _ J _ (h0.pl k3 k4.m k1 (by omega)) (o0.tr k3.o) (r0.tr k3.rl)
theorem m_plan {i x : Int32} (ht : t < 512) (hS : Pm S) (hR : Pr R) (h : InvM I t) (hq : ∀ v J L', InvM J (t + 1) → OutM I J → RlN I J → Q (.int v) S J L' R) : EvM (d + 9) 220 [.ref 54, .int i, .int x] S I L R Q := by
  have h0 : InvM (put I 54 0 0) t := h.p0
  have o0 : OutM I (put I 54 0 0) := (by repeat (first | exact OutM.rf | apply telF_o | refine OutM.pt ?_ (by decide) (by decide)))
  have r0 : RlN I (put I 54 0 0) := (by repeat (first | exact RlN.rf | apply RlN.tel | refine RlN.p4 ?_ (by decide) | refine RlN.pa ?_ (by decide)))
  simp only [M220, E220_0, E220_1, E220_2, E220_5, E220_6, pk54 hS, rfs, rfn, cs0, csi, csl, csr, csn, kti, ktl, ktr, ktn, ktv, ktf, true_and, and_true, and_self, ↓reduceIte, Nat.reduceAdd, Nat.reduceSub, Nat.reduceMul, Nat.reduceLT, Nat.reduceLeDiff, Nat.reduceEqDiff, true_or, or_true, false_or, or_false, not_true_eq_false, not_false_eq_true, reduceCtorEq, cmp_lt, cmp_gt, cmp_eq, Int32.reduceAdd, Int32.reduceSub, Int32.reduceMul, Int32.reduceLT, Int32.reduceToNatClampNeg, eq_self, ne_eq, Int64.reduceAdd, Int64.reduceSub, Int64.reduceMul, Int64.reduceLT, pt]
  generalize put I 54 0 0 = I0 at h0 o0 r0 ⊢
  obtain ⟨st, s1, s2⟩ := h0.2.2.2.2.2.r
  refine fpl (d := d) (st := st) hS hR h0.1 h0.2.2.2.2.1 s2 (by omega) (fun J st' k1 k2 k3 k4 => ?_)
  have fin : ∀ v, Q (.int v) S J L R := fun v => hq v J _ (h0.pl k3 k4.m k1 (by omega)) (o0.tr k3.o) (r0.tr k3.rl)
  obtain ⟨e60, c, e0, c3, c5, W⟩ := k4
  cases g : inB i.toInt64 0 ((J 54 60).toInt64 - 1)
  · simp only [E220_9, E220_10, E220_11, E220_12, E220_13, E220_16, E220_17, E220_18, E220_19, E220_22, E220_39, E220_40, inn, pk54 hS, rfs, rfn, cs0, csi, csl, csr, csn, kti, ktl, ktr, ktn, ktv, ktf, true_and, and_true, and_self, ↓reduceIte, Nat.reduceAdd, Nat.reduceSub, Nat.reduceMul, Nat.reduceLT, Nat.reduceLeDiff, Nat.reduceEqDiff, true_or, or_true, false_or, or_false, not_true_eq_false, not_false_eq_true, reduceCtorEq, cmp_lt, cmp_gt, cmp_eq, Int32.reduceAdd, Int32.reduceSub, Int32.reduceMul, Int32.reduceLT, Int32.reduceToNatClampNeg, eq_self, ne_eq, Int64.reduceAdd, Int64.reduceSub, Int64.reduceMul, Int64.reduceLT, g, bI_f]
    exact fin _
  · have g' := g
    obtain ⟨n, n6, rfl⟩ : ∃ n, n < 6 ∧ i = nI n := by
      rcases e60 with e60 | ⟨h, h6, e60⟩
      · rw [e60] at g
        have := inI g (a := 0) (b := -2) rfl (by decide)
        omega
      · rw [e60] at g
        obtain ⟨n, n1, n2⟩ := inC (c := h) (by omega) g
        exact ⟨n, by omega, n2⟩
    have a0 : inb (nI n) 7 = True := inb_nI (by omega) (by decide)
    have a1 : inb (nI (n + 1)) 7 = True := inb_nI (by omega) (by decide)
    by_cases hx : x = -1
    · have hx' : (x = -1) = True := eq_true hx
      simp only [E220_9, E220_10, E220_11, E220_12, E220_13, E220_16, E220_17, E220_18, E220_19, E220_22, E220_25, E220_26, E220_27, E220_41, E220_42, E220_43, E220_46, E220_47, E220_50, E220_51, E220_52, E220_68, inn, pk54 hS, pk79 hS, pl79 hS, pa79 hS, pi79 hS, pr54_61 hR, rfs, rfn, cs0, csi, csl, csr, csn, kti, ktl, ktr, ktn, ktv, ktf, true_and, and_true, and_self, ↓reduceIte, Nat.reduceAdd, Nat.reduceSub, Nat.reduceMul, Nat.reduceLT, Nat.reduceLeDiff, Nat.reduceEqDiff, true_or, or_true, false_or, or_false, not_true_eq_false, not_false_eq_true, reduceCtorEq, cmp_lt, cmp_gt, cmp_eq, Int32.reduceAdd, Int32.reduceSub, Int32.reduceMul, Int32.reduceLT, Int32.reduceToNatClampNeg, eq_self, ne_eq, Int64.reduceAdd, Int64.reduceSub, Int64.reduceMul, Int64.reduceLT, g', bI_t, n1_0, hx', a0]
      exact fin _
    · cases g2 : inB x.toInt64 0 ((J 56 0).toInt64 - 1)
      · simp only [E220_9, E220_10, E220_11, E220_12, E220_13, E220_16, E220_17, E220_18, E220_19, E220_22, E220_25, E220_26, E220_27, E220_30, E220_31, E220_32, E220_33, E220_36, E220_39, E220_40, inn, isc hS hR, pk54 hS, rfs, rfn, cs0, csi, csl, csr, csn, kti, ktl, ktr, ktn, ktv, ktf, true_and, and_true, and_self, ↓reduceIte, Nat.reduceAdd, Nat.reduceSub, Nat.reduceMul, Nat.reduceLT, Nat.reduceLeDiff, Nat.reduceEqDiff, true_or, or_true, false_or, or_false, not_true_eq_false, not_false_eq_true, reduceCtorEq, cmp_lt, cmp_gt, cmp_eq, Int32.reduceAdd, Int32.reduceSub, Int32.reduceMul, Int32.reduceLT, Int32.reduceToNatClampNeg, eq_self, ne_eq, Int64.reduceAdd, Int64.reduceSub, Int64.reduceMul, Int64.reduceLT, g', g2, bI_t, bI_f, n1_0, hx]
        exact fin _
      · have g3 := g2
        rw [e0] at g3
        obtain ⟨m, m1, rfl⟩ := inC (by omega) g3
        simp only [E220_9, E220_10, E220_11, E220_12, E220_13, E220_16, E220_17, E220_18, E220_19, E220_22, E220_25, E220_26, E220_27, E220_30, E220_31, E220_32, E220_33, E220_36, E220_41, E220_42, E220_43, E220_55, E220_56, E220_57, E220_60, E220_61, E220_62, E220_63, E220_64, E220_65, inn, isc hS hR, pk54 hS, pk80 hS, pl80 hS, pa80 hS, pi80 hS, pr54_62 hR, rfs, rfn, cs0, csi, csl, csr, csn, kti, ktl, ktr, ktn, ktv, ktf, true_and, and_true, and_self, ↓reduceIte, Nat.reduceAdd, Nat.reduceSub, Nat.reduceMul, Nat.reduceLT, Nat.reduceLeDiff, Nat.reduceEqDiff, true_or, or_true, false_or, or_false, not_true_eq_false, not_false_eq_true, reduceCtorEq, cmp_lt, cmp_gt, cmp_eq, Int32.reduceAdd, Int32.reduceSub, Int32.reduceMul, Int32.reduceLT, Int32.reduceToNatClampNeg, eq_self, ne_eq, Int64.reduceAdd, Int64.reduceSub, Int64.reduceMul, Int64.reduceLT, g', g2, bI_t, n1_0, hx, nI_1, a1]
        refine irX hS hR (c345 c3 c5) W m1 (fun v => ?_)
        simp only [E220_68, rfs, rfn, cs0, csi, csl, csr, csn, kti, ktl, ktr, ktn, ktv, ktf, true_and, and_true, and_self, ↓reduceIte, Nat.reduceAdd, Nat.reduceSub, Nat.reduceMul, Nat.reduceLT, Nat.reduceLeDiff, Nat.reduceEqDiff, true_or, or_true, false_or, or_false, not_true_eq_false, not_false_eq_true, reduceCtorEq, cmp_lt, cmp_gt, cmp_eq, Int32.reduceAdd, Int32.reduceSub, Int32.reduceMul, Int32.reduceLT, Int32.reduceToNatClampNeg, eq_self, ne_eq, Int64.reduceAdd, Int64.reduceSub, Int64.reduceMul, Int64.reduceLT]
        exact fin _
theorem PlM.w {I J : mI} (h : PlM I) (e60 : J 54 60 = I 54 60) (e0 : J 56 0 = nI c) (c3 : 3 ≤ c) (c5 : c ≤ 5) (W : Wt J c) : PlM J := by
  rcases h with h | ⟨h, _⟩
  · exact Or.inl (e60.trans h)
  · exact Or.inr ⟨by rw [e60]; exact h, c, e0, c3, c5, W⟩
theorem rc_any {x : Int32} (hS : Pm S) (hR : Pr R) (hq : ∀ v, Q (.int v) S I L R) : ∀ (q v : Nat) (n : Int32), v + q = 59049 → Ev (d + 1) 214 69 [.ref 54, .int x, .int n, .int (nI v)] [] S I L R Q := by
  intro q
  induction q with
  | zero =>
    intro v n h1
    obtain rfl : v = 59049 := by omega
    have e : (nI 59049 < (59049 : Int32)) = False := eq_false (by decide)
    rw [E214_69]
    simp only [E214_70, E214_72, E214_94, E214_95, e, rfs, rfn, cs0, csi, csl, csr, csn, kti, ktl, ktr, ktn, ktv, ktf, true_and, and_true, and_self, ↓reduceIte, Nat.reduceAdd, Nat.reduceSub, Nat.reduceMul, Nat.reduceLT, Nat.reduceLeDiff, Nat.reduceEqDiff, true_or, or_true, false_or, or_false, not_true_eq_false, not_false_eq_true, reduceCtorEq, cmp_lt, cmp_gt, cmp_eq, Int32.reduceAdd, Int32.reduceSub, Int32.reduceMul, Int32.reduceLT, Int32.reduceToNatClampNeg, eq_self, ne_eq, Int64.reduceAdd, Int64.reduceSub, Int64.reduceMul, Int64.reduceLT]
    exact hq _
  | succ q ih =>
    intro v n h1
    have e1 : (nI v < (59049 : Int32)) = True := eq_true (nI_lt (a := v) (b := 59049) (by omega) (by decide))
    have v3 : inb (nI v) 59049 = True := inb_nI (by omega) (by decide)
    rw [E214_69]
    simp only [E214_70, E214_72, E214_75, E214_76, E214_77, E214_80, E214_81, E214_82, E214_83, E214_84, E214_85, E214_86, E214_87, E214_88, E214_91, pk54 hS, pk73 hS, pl73 hS, pa73 hS, pi73 hS, pr54_51 hR, e1, v3, rfs, rfn, cs0, csi, csl, csr, csn, kti, ktl, ktr, ktn, ktv, ktf, true_and, and_true, and_self, ↓reduceIte, Nat.reduceAdd, Nat.reduceSub, Nat.reduceMul, Nat.reduceLT, Nat.reduceLeDiff, Nat.reduceEqDiff, true_or, or_true, false_or, or_false, not_true_eq_false, not_false_eq_true, reduceCtorEq, cmp_lt, cmp_gt, cmp_eq, Int32.reduceAdd, Int32.reduceSub, Int32.reduceMul, Int32.reduceLT, Int32.reduceToNatClampNeg, eq_self, ne_eq, Int64.reduceAdd, Int64.reduceSub, Int64.reduceMul, Int64.reduceLT, nI_1]
    exact ih (v + 1) _ (by omega)
/-- weights laid: what stands then -/
theorem lay_w {I I1 : mI} (hr : Rw (I 56)) (e0 : I 56 0 = nI c) (a1 : ∀ a, ¬ a = 72 → I1 a = I a) (a2 : Wt I1 c) {B st : Nat} (e10 : I 56 10 = nI B) (hs : Rst I 59049 st) : PnS I1 c (I 56 3) B st ∧ FrP I I1 := by
  have i6 : I1 56 = I 56 := a1 56 (by decide)
  exact ⟨⟨⟨by rw [i6]; exact e0, by rw [i6], a2⟩, by rw [i6]; exact e10, by rw [a1 54 (by decide)]; exact hs.1, fun v hv => by rw [a1 77 (by decide)]; exact hs.2 v hv⟩, fun b b1 b2 => a1 b (by omega), fun k _ _ _ _ => by rw [a1 54 (by decide)]⟩
theorem m_reached {x : Int32} (ht : t < 512) (hS : Pm S) (hR : Pr R) (h : InvM I t) (hq : ∀ v J L', InvM J (t + 1) → OutM I J → RlN I J → Q (.int v) S J L' R) : EvM (d + 7) 214 [.ref 54, .int x] S I L R Q := by
  have h0 : InvM (put I 54 0 0) t := h.p0
  have o0 : OutM I (put I 54 0 0) := (by repeat (first | exact OutM.rf | apply telF_o | refine OutM.pt ?_ (by decide) (by decide)))
  have r0 : RlN I (put I 54 0 0) := (by repeat (first | exact RlN.rf | apply RlN.tel | refine RlN.p4 ?_ (by decide) | refine RlN.pa ?_ (by decide)))
  cases g : inB x.toInt64 0 6
  · simp only [M214, E214_0, E214_1, E214_2, E214_5, E214_6, E214_7, E214_8, E214_11, E214_14, E214_17, E214_18, inn, pk54 hS, rfs, rfn, cs0, csi, csl, csr, csn, kti, ktl, ktr, ktn, ktv, ktf, true_and, and_true, and_self, ↓reduceIte, Nat.reduceAdd, Nat.reduceSub, Nat.reduceMul, Nat.reduceLT, Nat.reduceLeDiff, Nat.reduceEqDiff, true_or, or_true, false_or, or_false, not_true_eq_false, not_false_eq_true, reduceCtorEq, cmp_lt, cmp_gt, cmp_eq, Int32.reduceAdd, Int32.reduceSub, Int32.reduceMul, Int32.reduceLT, Int32.reduceToNatClampNeg, eq_self, ne_eq, Int64.reduceAdd, Int64.reduceSub, Int64.reduceMul, Int64.reduceLT, pt, g, bI_f]
    exact hq _ _ _ (h0.mono (by omega)) o0 r0
  obtain ⟨n, n0, n6, rfl⟩ := inN (a := 0) (b := 6) g rfl rfl (by decide)
  simp only [M214, E214_0, E214_1, E214_2, E214_5, E214_6, E214_7, E214_8, E214_11, E214_14, inn, pk54 hS, rfs, rfn, cs0, csi, csl, csr, csn, kti, ktl, ktr, ktn, ktv, ktf, true_and, and_true, and_self, ↓reduceIte, Nat.reduceAdd, Nat.reduceSub, Nat.reduceMul, Nat.reduceLT, Nat.reduceLeDiff, Nat.reduceEqDiff, true_or, or_true, false_or, or_false, not_true_eq_false, not_false_eq_true, reduceCtorEq, cmp_lt, cmp_gt, cmp_eq, Int32.reduceAdd, Int32.reduceSub, Int32.reduceMul, Int32.reduceLT, Int32.reduceToNatClampNeg, eq_self, ne_eq, Int64.reduceAdd, Int64.reduceSub, Int64.reduceMul, Int64.reduceLT, pt, g, bI_t, n1_0]
  generalize put I 54 0 0 = I0 at h0 o0 r0 ⊢
  obtain ⟨st, s1, s2⟩ := h0.2.2.2.2.2.r
  by_cases lt : I0 54 59 < nI n
  · obtain ⟨c, c3, c5, e0⟩ := h0.1.1
    have hc := c345 c3 c5
    obtain ⟨B, B4, e10⟩ := h0.1.2.1.2.1
    have z10 : inb 10 8060 = True := inb_nI (j := 10) (by decide) (by decide)
    have c10 : Int32.toNatClampNeg 10 = 10 := rfl
    simp only [E214_19, E214_20, E214_23, E214_24, E214_27, E214_28, pk54 hS, rfs, rfn, cs0, csi, csl, csr, csn, kti, ktl, ktr, ktn, ktv, ktf, true_and, and_true, and_self, ↓reduceIte, Nat.reduceAdd, Nat.reduceSub, Nat.reduceMul, Nat.reduceLT, Nat.reduceLeDiff, Nat.reduceEqDiff, true_or, or_true, false_or, or_false, not_true_eq_false, not_false_eq_true, reduceCtorEq, cmp_lt, cmp_gt, cmp_eq, Int32.reduceAdd, Int32.reduceSub, Int32.reduceMul, Int32.reduceLT, Int32.reduceToNatClampNeg, eq_self, ne_eq, Int64.reduceAdd, Int64.reduceSub, Int64.reduceMul, Int64.reduceLT, lt]
    refine fwt (d := d + 5) hS hR hc e0 (fun I1 a1 a2 => ?_)
    obtain ⟨P1, F1⟩ := lay_w h0.1 e0 a1 a2 e10 s2
    have i6 : I1 56 = I0 56 := a1 56 (by decide)
    simp only [E214_31, E214_32, E214_33, E214_35, pk54 hS, rfs, rfn, cs0, csi, csl, csr, csn, kti, ktl, ktr, ktn, ktv, ktf, true_and, and_true, and_self, ↓reduceIte, Nat.reduceAdd, Nat.reduceSub, Nat.reduceMul, Nat.reduceLT, Nat.reduceLeDiff, Nat.reduceEqDiff, true_or, or_true, false_or, or_false, not_true_eq_false, not_false_eq_true, reduceCtorEq, cmp_lt, cmp_gt, cmp_eq, Int32.reduceAdd, Int32.reduceSub, Int32.reduceMul, Int32.reduceLT, Int32.reduceToNatClampNeg, eq_self, ne_eq, Int64.reduceAdd, Int64.reduceSub, Int64.reduceMul, Int64.reduceLT]
    refine rwa (A := 20) (d := d + 5) (Or.inl rfl) hS hR c5 P1.1.1 a2 (by rw [i6]; exact h0.1.2.2.1) (fun f f1 => ?_)
    have i10 := P1.2.1
    simp only [E214_38, E214_39, E214_42, E214_44, E214_45, E214_46, E214_47, pk54 hS, pk56 hS, pl56 hS, pa56 hS, pi56 hS, pr54_3 hR, rfs, rfn, cs0, csi, csl, csr, csn, kti, ktl, ktr, ktn, ktv, ktf, true_and, and_true, and_self, ↓reduceIte, Nat.reduceAdd, Nat.reduceSub, Nat.reduceMul, Nat.reduceLT, Nat.reduceLeDiff, Nat.reduceEqDiff, true_or, or_true, false_or, or_false, not_true_eq_false, not_false_eq_true, reduceCtorEq, cmp_lt, cmp_gt, cmp_eq, Int32.reduceAdd, Int32.reduceSub, Int32.reduceMul, Int32.reduceLT, Int32.reduceToNatClampNeg, eq_self, ne_eq, Int64.reduceAdd, Int64.reduceSub, Int64.reduceMul, Int64.reduceLT, z10, c10, i10]
    refine flT (d := d + 1) (c := c) (B := B) (nu := I0 56 3) (w := wt c) (last := n) (st := st) (r := f) hS hR (wtO hc) c5 (mvN hc) (by omega) f1 (by omega) (Or.inl rfl) (by omega) P1.1 P1.2.2 (fun I3 lev st3 hh v b1 b2 b3 b4 => ?_)
    have key : ∀ z, InvM (put I3 54 59 z) (t + 1) ∧ OutM I (put I3 54 59 z) ∧ RlN I (put I3 54 59 z) := fun z => by
      have F3 : FrP I0 (put I3 54 59 z) := FrP.p4 (F1.tr b4.f) (by decide)
      refine ⟨h0.pl (st := st3) F3 ?_ ⟨by rw [pt_f (by decide)]; exact b2.1, fun u hu => by rw [pt_n (by decide)]; exact b2.2 u hu⟩ (by omega), o0.tr F3.o, r0.tr F3.rl⟩
      refine h0.2.2.2.2.1.w (c := c) ?_ ?_ c3 c5 (fun i hi => ?_)
      · rw [pt_f (by decide), b4.2 60 (by decide) (by decide), a1 54 (by decide)]
      · rw [pt_n (by decide), b4.1 56 (by decide) (by decide) (by decide) (by decide)]; exact P1.1.1
      · rw [pt_n (by decide), b4.1 72 (by decide) (by decide) (by decide) (by decide)]; exact a2 i hi
    by_cases hv : v = -1
    · have hv' : (v = -1) = True := eq_true hv
      simp only [E214_50, E214_51, E214_52, E214_53, E214_54, E214_57, E214_58, E214_61, E214_62, E214_65, E214_66, E214_67, E214_68, pk54 hS, rfs, rfn, cs0, csi, csl, csr, csn, kti, ktl, ktr, ktn, ktv, ktf, true_and, and_true, and_self, ↓reduceIte, Nat.reduceAdd, Nat.reduceSub, Nat.reduceMul, Nat.reduceLT, Nat.reduceLeDiff, Nat.reduceEqDiff, true_or, or_true, false_or, or_false, not_true_eq_false, not_false_eq_true, reduceCtorEq, cmp_lt, cmp_gt, cmp_eq, Int32.reduceAdd, Int32.reduceSub, Int32.reduceMul, Int32.reduceLT, Int32.reduceToNatClampNeg, eq_self, ne_eq, Int64.reduceAdd, Int64.reduceSub, Int64.reduceMul, Int64.reduceLT, pt, hv']
      exact rc_any (d := d + 6) hS hR (fun v => hq v _ _ (key _).1 (key _).2.1 (key _).2.2) 59049 0 0 (by omega)
    · simp only [E214_50, E214_51, E214_52, E214_53, E214_54, E214_57, E214_58, E214_61, E214_62, E214_65, E214_66, E214_67, E214_68, pk54 hS, rfs, rfn, cs0, csi, csl, csr, csn, kti, ktl, ktr, ktn, ktv, ktf, true_and, and_true, and_self, ↓reduceIte, Nat.reduceAdd, Nat.reduceSub, Nat.reduceMul, Nat.reduceLT, Nat.reduceLeDiff, Nat.reduceEqDiff, true_or, or_true, false_or, or_false, not_true_eq_false, not_false_eq_true, reduceCtorEq, cmp_lt, cmp_gt, cmp_eq, Int32.reduceAdd, Int32.reduceSub, Int32.reduceMul, Int32.reduceLT, Int32.reduceToNatClampNeg, eq_self, ne_eq, Int64.reduceAdd, Int64.reduceSub, Int64.reduceMul, Int64.reduceLT, pt, hv]
      exact rc_any (d := d + 6) hS hR (fun v => hq v _ _ (key _).1 (key _).2.1 (key _).2.2) 59049 0 0 (by omega)
  · simp only [E214_19, E214_20, E214_23, E214_24, E214_65, E214_66, E214_67, E214_68, pk54 hS, rfs, rfn, cs0, csi, csl, csr, csn, kti, ktl, ktr, ktn, ktv, ktf, true_and, and_true, and_self, ↓reduceIte, Nat.reduceAdd, Nat.reduceSub, Nat.reduceMul, Nat.reduceLT, Nat.reduceLeDiff, Nat.reduceEqDiff, true_or, or_true, false_or, or_false, not_true_eq_false, not_false_eq_true, reduceCtorEq, cmp_lt, cmp_gt, cmp_eq, Int32.reduceAdd, Int32.reduceSub, Int32.reduceMul, Int32.reduceLT, Int32.reduceToNatClampNeg, eq_self, ne_eq, Int64.reduceAdd, Int64.reduceSub, Int64.reduceMul, Int64.reduceLT, lt]
    exact rc_any (d := d + 6) hS hR (fun v => hq v _ _ (h0.mono (by omega)) o0 r0) 59049 0 0 (by omega)
theorem m_striker (ht : t < 512) (hS : Pm S) (hR : Pr R) (h : InvM I t) (hq : ∀ v J L', InvM J (t + 1) → OutM I J → RlN I J → Q (.int v) S J L' R) : EvM (d + 9) 222 [.ref 54] S I L R Q := by
  have h0 : InvM (put I 54 0 0) t := h.p0
  have o0 : OutM I (put I 54 0 0) := (by repeat (first | exact OutM.rf | apply telF_o | refine OutM.pt ?_ (by decide) (by decide)))
  have r0 : RlN I (put I 54 0 0) := (by repeat (first | exact RlN.rf | apply RlN.tel | refine RlN.p4 ?_ (by decide) | refine RlN.pa ?_ (by decide)))
  simp only [M222, E222_0, E222_1, E222_2, E222_5, E222_6, pk54 hS, rfs, rfn, cs0, csi, csl, csr, csn, kti, ktl, ktr, ktn, ktv, ktf, true_and, and_true, and_self, ↓reduceIte, Nat.reduceAdd, Nat.reduceSub, Nat.reduceMul, Nat.reduceLT, Nat.reduceLeDiff, Nat.reduceEqDiff, true_or, or_true, false_or, or_false, not_true_eq_false, not_false_eq_true, reduceCtorEq, cmp_lt, cmp_gt, cmp_eq, Int32.reduceAdd, Int32.reduceSub, Int32.reduceMul, Int32.reduceLT, Int32.reduceToNatClampNeg, eq_self, ne_eq, Int64.reduceAdd, Int64.reduceSub, Int64.reduceMul, Int64.reduceLT, pt]
  generalize put I 54 0 0 = I0 at h0 o0 r0 ⊢
  obtain ⟨st, s1, s2⟩ := h0.2.2.2.2.2.r
  refine fpl (d := d) (st := st) hS hR h0.1 h0.2.2.2.2.1 s2 (by omega) (fun J st' k1 k2 k3 k4 => ?_)
  have hJ : InvM J (t + 1) := h0.pl k3 k4.m k1 (by omega)
  obtain ⟨e60, c, e0, c3, c5, W⟩ := k4
  have hc := c345 c3 c5
  by_cases e1 : J 54 60 = -1
  · have e1' := eq_true e1
    simp only [E222_9, E222_10, E222_13, E222_14, E222_17, E222_18, pk54 hS, rfs, rfn, cs0, csi, csl, csr, csn, kti, ktl, ktr, ktn, ktv, ktf, true_and, and_true, and_self, ↓reduceIte, Nat.reduceAdd, Nat.reduceSub, Nat.reduceMul, Nat.reduceLT, Nat.reduceLeDiff, Nat.reduceEqDiff, true_or, or_true, false_or, or_false, not_true_eq_false, not_false_eq_true, reduceCtorEq, cmp_lt, cmp_gt, cmp_eq, Int32.reduceAdd, Int32.reduceSub, Int32.reduceMul, Int32.reduceLT, Int32.reduceToNatClampNeg, eq_self, ne_eq, Int64.reduceAdd, Int64.reduceSub, Int64.reduceMul, Int64.reduceLT, e1']
    exact hq _ J _ hJ (o0.tr k3.o) (r0.tr k3.rl)
  obtain ⟨B, B4, e10⟩ := hJ.1.2.1.2.1
  have z10 : inb 10 8060 = True := inb_nI (j := 10) (by decide) (by decide)
  have c10 : Int32.toNatClampNeg 10 = 10 := rfl
  have hs : Rst (put J 54 59 (-1)) 59049 st' := ⟨by rw [pt_f (by decide)]; exact k1.1, fun u hu => by rw [pt_n (by decide)]; exact k1.2 u hu⟩
  have W' : Wt (put J 54 59 (-1)) c := fun i hi => by rw [pt_n (by decide)]; exact W i hi
  have q6 : put J 54 59 (-1) 56 = J 56 := pt_n (by decide)
  have Fa : FrP J (put J 54 59 (-1)) := FrP.p4 FrP.rf (by decide)
  have f60 : put J 54 59 (-1) 54 60 = J 54 60 := pt_f (by decide)
  simp only [E222_9, E222_10, E222_13, E222_14, E222_19, E222_20, E222_21, E222_24, E222_25, E222_26, E222_28, pk54 hS, rfs, rfn, cs0, csi, csl, csr, csn, kti, ktl, ktr, ktn, ktv, ktf, true_and, and_true, and_self, ↓reduceIte, Nat.reduceAdd, Nat.reduceSub, Nat.reduceMul, Nat.reduceLT, Nat.reduceLeDiff, Nat.reduceEqDiff, true_or, or_true, false_or, or_false, not_true_eq_false, not_false_eq_true, reduceCtorEq, cmp_lt, cmp_gt, cmp_eq, Int32.reduceAdd, Int32.reduceSub, Int32.reduceMul, Int32.reduceLT, Int32.reduceToNatClampNeg, eq_self, ne_eq, Int64.reduceAdd, Int64.reduceSub, Int64.reduceMul, Int64.reduceLT, e1, pt]
  generalize put J 54 59 (-1) = J1 at hs W' q6 Fa f60 ⊢
  have e0' : J1 56 0 = nI c := by rw [q6]; exact e0
  refine rwa (A := 20) (d := d + 7) (Or.inl rfl) hS hR c5 e0' W' (by rw [q6]; exact hJ.1.2.2.1) (fun f f1 => ?_)
  have i10 : J1 56 10 = nI B := by rw [q6]; exact e10
  simp only [E222_31, E222_32, E222_35, E222_37, E222_38, E222_39, E222_40, E222_41, E222_43, pk54 hS, pk56 hS, pl56 hS, pa56 hS, pi56 hS, pr54_3 hR, rfs, rfn, cs0, csi, csl, csr, csn, kti, ktl, ktr, ktn, ktv, ktf, true_and, and_true, and_self, ↓reduceIte, Nat.reduceAdd, Nat.reduceSub, Nat.reduceMul, Nat.reduceLT, Nat.reduceLeDiff, Nat.reduceEqDiff, true_or, or_true, false_or, or_false, not_true_eq_false, not_false_eq_true, reduceCtorEq, cmp_lt, cmp_gt, cmp_eq, Int32.reduceAdd, Int32.reduceSub, Int32.reduceMul, Int32.reduceLT, Int32.reduceToNatClampNeg, eq_self, ne_eq, Int64.reduceAdd, Int64.reduceSub, Int64.reduceMul, Int64.reduceLT, z10, c10, i10, nI_1]
  refine rwa (A := 30) (d := d + 7) (Or.inr rfl) hS hR c5 e0' W' (by rw [q6]; exact hJ.1.2.2.1) (fun t2 t1 => ?_)
  simp only [E222_46, E222_48, pk54 hS, rfs, rfn, cs0, csi, csl, csr, csn, kti, ktl, ktr, ktn, ktv, ktf, true_and, and_true, and_self, ↓reduceIte, Nat.reduceAdd, Nat.reduceSub, Nat.reduceMul, Nat.reduceLT, Nat.reduceLeDiff, Nat.reduceEqDiff, true_or, or_true, false_or, or_false, not_true_eq_false, not_false_eq_true, reduceCtorEq, cmp_lt, cmp_gt, cmp_eq, Int32.reduceAdd, Int32.reduceSub, Int32.reduceMul, Int32.reduceLT, Int32.reduceToNatClampNeg, eq_self, ne_eq, Int64.reduceAdd, Int64.reduceSub, Int64.reduceMul, Int64.reduceLT]
  refine flT (d := d + 3) (c := c) (B := B + 1) (nu := J1 56 3) (w := wt c) (last := 6) (st := st') (r := f) hS hR (wtO hc) c5 (mvN hc) (by omega) f1 (by decide) (Or.inr ⟨t2, t1, rfl⟩) (by omega) ⟨e0', rfl, W'⟩ hs (fun I3 lev st3 hh v b1 b2 b3 b4 => ?_)
  have b3' : st3 ≤ st' + 1771470 := b3
  have F3 : FrP I0 I3 := (k3.tr Fa).tr b4.f
  have K : InvM I3 (t + 1) := h0.pl (st := st3) F3 (by
    refine Or.inr ⟨?_, c, ?_, c3, c5, fun i hi => ?_⟩
    · rw [b4.2 60 (by decide) (by decide), f60]; exact e60
    · rw [b4.1 56 (by decide) (by decide) (by decide) (by decide)]; exact e0'
    · rw [b4.1 72 (by decide) (by decide) (by decide) (by decide)]; exact W' i hi) b2 (by omega)
  by_cases hv : v = -1
  · have hv' : (v = -1) = True := eq_true hv
    simp only [E222_51, E222_52, E222_53, E222_54, E222_57, E222_58, E222_61, E222_62, E222_65, E222_66, E222_67, pk54 hS, rfs, rfn, cs0, csi, csl, csr, csn, kti, ktl, ktr, ktn, ktv, ktf, true_and, and_true, and_self, ↓reduceIte, Nat.reduceAdd, Nat.reduceSub, Nat.reduceMul, Nat.reduceLT, Nat.reduceLeDiff, Nat.reduceEqDiff, true_or, or_true, false_or, or_false, not_true_eq_false, not_false_eq_true, reduceCtorEq, cmp_lt, cmp_gt, cmp_eq, Int32.reduceAdd, Int32.reduceSub, Int32.reduceMul, Int32.reduceLT, Int32.reduceToNatClampNeg, eq_self, ne_eq, Int64.reduceAdd, Int64.reduceSub, Int64.reduceMul, Int64.reduceLT, hv']
    exact hq _ I3 _ K (o0.tr F3.o) (r0.tr F3.rl)
  · simp only [E222_51, E222_52, E222_53, E222_54, E222_57, E222_58, E222_61, E222_62, E222_65, E222_66, E222_67, pk54 hS, rfs, rfn, cs0, csi, csl, csr, csn, kti, ktl, ktr, ktn, ktv, ktf, true_and, and_true, and_self, ↓reduceIte, Nat.reduceAdd, Nat.reduceSub, Nat.reduceMul, Nat.reduceLT, Nat.reduceLeDiff, Nat.reduceEqDiff, true_or, or_true, false_or, or_false, not_true_eq_false, not_false_eq_true, reduceCtorEq, cmp_lt, cmp_gt, cmp_eq, Int32.reduceAdd, Int32.reduceSub, Int32.reduceMul, Int32.reduceLT, Int32.reduceToNatClampNeg, eq_self, ne_eq, Int64.reduceAdd, Int64.reduceSub, Int64.reduceMul, Int64.reduceLT, hv]
    exact hq _ I3 _ K (o0.tr F3.o) (r0.tr F3.rl)
theorem ev1_lp {x1 : Int32} {y4 y5 : Value} (hS : Pm S) (hR : Pr R) (hc : c ≤ 5) (h0 : I 56 0 = nI c) (hi : RwI (I 56)) (hq : ∀ a, a ≤ 45 → Ev (d + 1) 221 53 [.ref 54, .int x1, .int (nI a), .int (nI c), y4, y5] [] S I L R Q) : ∀ (q i s : Nat), i + q = c → s ≤ 9 * i → Ev (d + 1) 221 25 [.ref 54, .int x1, .int (nI s), .int (nI i), y4, y5] [] S I L R Q := by
  have z0 : inb 0 8060 = True := inb_nI (j := 0) (by decide) (by decide)
  have c0 : Int32.toNatClampNeg 0 = 0 := rfl
  intro q
  induction q with
  | zero =>
    intro i s h1 h2
    obtain rfl : i = c := by omega
    have e0 : (nI i < nI i) = False := eq_false (nI_nlt (Nat.le_refl i) (by omega))
    rw [E221_25]
    simp only [E221_26, E221_27, E221_30, E221_31, E221_32, pk54 hS, pk56 hS, pl56 hS, pa56 hS, pi56 hS, pr54_3 hR, rfs, rfn, cs0, csi, csl, csr, csn, kti, ktl, ktr, ktn, ktv, ktf, true_and, and_true, and_self, ↓reduceIte, Nat.reduceAdd, Nat.reduceSub, Nat.reduceMul, Nat.reduceLT, Nat.reduceLeDiff, Nat.reduceEqDiff, true_or, or_true, false_or, or_false, not_true_eq_false, not_false_eq_true, reduceCtorEq, cmp_lt, cmp_gt, cmp_eq, Int32.reduceAdd, Int32.reduceSub, Int32.reduceMul, Int32.reduceLT, Int32.reduceToNatClampNeg, eq_self, ne_eq, Int64.reduceAdd, Int64.reduceSub, Int64.reduceMul, Int64.reduceLT, z0, c0, h0, e0]
    exact hq s (by omega)
  | succ q ih =>
    intro i s h1 h2
    have e1 : (nI i < nI c) = True := eq_true (nI_lt (by omega) (by omega))
    obtain ⟨_, x, _, x9, ex⟩ := hi i (by omega)
    have eA : (30 : Int32) + nI i = nI (30 + i) := by rw [show (30 : Int32) = nI 30 from rfl, nI_add]
    have b0 : inb (nI (30 + i)) 8060 = True := inb_nI (by omega) (by decide)
    have b1 : (nI (30 + i)).toNatClampNeg = 30 + i := nI_clamp (by omega)
    have es : nI s + nI x = nI (s + x) := by rw [nI_add]
    rw [E221_25]
    simp only [E221_26, E221_27, E221_30, E221_31, E221_32, E221_35, E221_36, E221_37, E221_40, E221_42, E221_43, E221_44, E221_45, E221_46, E221_47, E221_50, pk54 hS, pk56 hS, pl56 hS, pa56 hS, pi56 hS, pr54_3 hR, rfs, rfn, cs0, csi, csl, csr, csn, kti, ktl, ktr, ktn, ktv, ktf, true_and, and_true, and_self, ↓reduceIte, Nat.reduceAdd, Nat.reduceSub, Nat.reduceMul, Nat.reduceLT, Nat.reduceLeDiff, Nat.reduceEqDiff, true_or, or_true, false_or, or_false, not_true_eq_false, not_false_eq_true, reduceCtorEq, cmp_lt, cmp_gt, cmp_eq, Int32.reduceAdd, Int32.reduceSub, Int32.reduceMul, Int32.reduceLT, Int32.reduceToNatClampNeg, eq_self, ne_eq, Int64.reduceAdd, Int64.reduceSub, Int64.reduceMul, Int64.reduceLT, z0, c0, h0, e1, eA, b0, b1, ex, es, nI_1]
    exact ih (i + 1) (s + x) (by omega) (by omega)
theorem ev3_lp {x1 x2 : Int32} {k0 : Nat} (hS : Pm S) (hR : Pr R) (hc : c ≤ 5) (h0 : I 56 0 = nI c) (hw : Wt I c) (hk : k0 ≤ 8) (hq : ∀ r, r < 59049 → Ev (d + 1) 221 100 [.ref 54, .int x1, .int x2, .int (nI (k0 + 1)), .int (nI r), .int (nI c)] [] S I L R Q) : ∀ (q i s : Nat), i + q = c → s + 9 ^ q ≤ 9 ^ c → Ev (d + 1) 221 67 [.ref 54, .int x1, .int x2, .int (nI (k0 + 1)), .int (nI s), .int (nI i)] [] S I L R Q := by
  have z0 : inb 0 8060 = True := inb_nI (j := 0) (by decide) (by decide)
  have c0 : Int32.toNatClampNeg 0 = 0 := rfl
  have c9 : 9 ^ c ≤ 59049 := Nat.le_trans (Nat.pow_le_pow_right (by decide) hc) (by decide)
  intro q
  induction q with
  | zero =>
    intro i s h1 hs
    obtain rfl : i = c := by omega
    have e0 : (nI i < nI i) = False := eq_false (nI_nlt (Nat.le_refl i) (by omega))
    rw [Nat.pow_zero] at hs
    rw [E221_67]
    simp only [E221_69, E221_70, E221_73, E221_74, E221_75, pk54 hS, pk56 hS, pl56 hS, pa56 hS, pi56 hS, pr54_3 hR, rfs, rfn, cs0, csi, csl, csr, csn, kti, ktl, ktr, ktn, ktv, ktf, true_and, and_true, and_self, ↓reduceIte, Nat.reduceAdd, Nat.reduceSub, Nat.reduceMul, Nat.reduceLT, Nat.reduceLeDiff, Nat.reduceEqDiff, true_or, or_true, false_or, or_false, not_true_eq_false, not_false_eq_true, reduceCtorEq, cmp_lt, cmp_gt, cmp_eq, Int32.reduceAdd, Int32.reduceSub, Int32.reduceMul, Int32.reduceLT, Int32.reduceToNatClampNeg, eq_self, ne_eq, Int64.reduceAdd, Int64.reduceSub, Int64.reduceMul, Int64.reduceLT, z0, c0, h0, e0]
    exact hq s (by omega)
  | succ q ih =>
    intro i s h1 hs
    have e1 : (nI i < nI c) = True := eq_true (nI_lt (by omega) (by omega))
    have a0 : inb (nI i) 5 = True := inb_nI (by omega) (by decide)
    have a1 : (nI i).toNatClampNeg = i := nI_clamp (by omega)
    have wi := hw i (by omega)
    have hwi : wt c i = 9 ^ q := by
      unfold wt
      congr 1
      omega
    rw [hwi] at wi
    have es : nI s + nI (9 ^ q) * nI k0 = nI (s + 9 ^ q * k0) := by rw [pk_mul, nI_add]
    have m8 : 9 ^ q * k0 ≤ 9 ^ q * 8 := Nat.mul_le_mul_left _ hk
    rw [Nat.pow_succ] at hs
    rw [E221_67]
    simp only [E221_69, E221_70, E221_73, E221_74, E221_75, E221_78, E221_80, E221_81, E221_84, E221_86, E221_87, E221_88, E221_89, E221_90, E221_91, E221_92, E221_94, E221_97, pk54 hS, pk56 hS, pl56 hS, pa56 hS, pi56 hS, pk72 hS, pl72 hS, pa72 hS, pi72 hS, pr54_3 hR, pr54_50 hR, rfs, rfn, cs0, csi, csl, csr, csn, kti, ktl, ktr, ktn, ktv, ktf, true_and, and_true, and_self, ↓reduceIte, Nat.reduceAdd, Nat.reduceSub, Nat.reduceMul, Nat.reduceLT, Nat.reduceLeDiff, Nat.reduceEqDiff, true_or, or_true, false_or, or_false, not_true_eq_false, not_false_eq_true, reduceCtorEq, cmp_lt, cmp_gt, cmp_eq, Int32.reduceAdd, Int32.reduceSub, Int32.reduceMul, Int32.reduceLT, Int32.reduceToNatClampNeg, eq_self, ne_eq, Int64.reduceAdd, Int64.reduceSub, Int64.reduceMul, Int64.reduceLT, z0, c0, h0, e1, a0, a1, wi, nI_m1, es, nI_1]
    exact ih (i + 1) (s + 9 ^ q * k0) (by omega) (by omega)
theorem ev2_lp {a B tg st0 : Nat} {nu : Int32} (hS : Pm S) (hR : Pr R) (hc : c = 3 ∨ c = 4 ∨ c = 5) (hB : B < 2 ^ 24) (ha : a ≤ 45) (htg : tg < 59049) (hst : st0 + 1771470 * 3 < 2 ^ 32) : ∀ (q k n : Nat) (I : mI) (st : Nat) (y4 y5 : Value), k + q = 10 → 1 ≤ k → n ≤ 3 → (n = 0 ∨ (n ≤ k ∧ a ≤ c * (k - n))) → st ≤ st0 + 1771470 * n → PnS I c nu B st → (∀ v J st', PnS J c nu B st' → st' ≤ st0 + 1771470 * 3 → FrL I J → Q (.int v) S J L R) → Ev (d + 6) 221 55 [.ref 54, .int (nI tg), .int (nI a), .int (nI k), y4, y5] [] S I L R Q := by
  have z10 : inb 10 8060 = True := inb_nI (j := 10) (by decide) (by decide)
  have c10 : Int32.toNatClampNeg 10 = 10 := rfl
  have z0 : inb 0 8060 = True := inb_nI (j := 0) (by decide) (by decide)
  have c0 : Int32.toNatClampNeg 0 = 0 := rfl
  intro q
  induction q with
  | zero =>
    intro k n I st y4 y5 h1 h2 h3 h4 h5 hP hq
    obtain rfl : k = 10 := by omega
    have e : ((9 : Int32) < nI 10) = True := eq_true (by decide)
    rw [E221_55]
    simp only [E221_56, E221_58, E221_153, E221_154, rfs, rfn, cs0, csi, csl, csr, csn, kti, ktl, ktr, ktn, ktv, ktf, true_and, and_true, and_self, ↓reduceIte, Nat.reduceAdd, Nat.reduceSub, Nat.reduceMul, Nat.reduceLT, Nat.reduceLeDiff, Nat.reduceEqDiff, true_or, or_true, false_or, or_false, not_true_eq_false, not_false_eq_true, reduceCtorEq, cmp_lt, cmp_gt, cmp_eq, Int32.reduceAdd, Int32.reduceSub, Int32.reduceMul, Int32.reduceLT, Int32.reduceToNatClampNeg, eq_self, ne_eq, Int64.reduceAdd, Int64.reduceSub, Int64.reduceMul, Int64.reduceLT, e]
    exact hq _ I st hP (by omega) FrL.rf
  | succ q ih =>
    intro k n I st y4 y5 h1 h2 h3 h4 h5 hP hq
    obtain ⟨k0, rfl⟩ : ∃ k0, k = k0 + 1 := ⟨k - 1, by omega⟩
    have e : ((9 : Int32) < nI (k0 + 1)) = False := eq_false (by
      rw [show (9 : Int32) = nI 9 from rfl]
      exact nI_nlt (by omega) (by omega))
    have i0 := hP.1.1
    have i10 := hP.2.1
    rw [E221_55]
    simp only [E221_56, E221_58, E221_61, E221_62, E221_64, E221_65, rfs, rfn, cs0, csi, csl, csr, csn, kti, ktl, ktr, ktn, ktv, ktf, true_and, and_true, and_self, ↓reduceIte, Nat.reduceAdd, Nat.reduceSub, Nat.reduceMul, Nat.reduceLT, Nat.reduceLeDiff, Nat.reduceEqDiff, true_or, or_true, false_or, or_false, not_true_eq_false, not_false_eq_true, reduceCtorEq, cmp_lt, cmp_gt, cmp_eq, Int32.reduceAdd, Int32.reduceSub, Int32.reduceMul, Int32.reduceLT, Int32.reduceToNatClampNeg, eq_self, ne_eq, Int64.reduceAdd, Int64.reduceSub, Int64.reduceMul, Int64.reduceLT, e]
    refine ev3_lp (d := d + 5) (k0 := k0) hS hR (by omega) i0 hP.1.2.2 (by omega) (fun r r1 => ?_) c 0 0 (by omega) (by omega)
    have em : nI (k0 + 1) * nI c = nI ((k0 + 1) * c) := by rw [pk_mul]
    have ckc : (k0 + 1) * c ≤ 45 := by
      rcases hc with rfl | rfl | rfl <;> omega
    have hin := sub9 ((k0 + 1) * c) (by omega) a (by omega)
    by_cases gi : a ≤ (k0 + 1) * c ∧ (k0 + 1) * c ≤ a + 6
    · rw [decide_eq_true gi] at hin
      have n2 : n ≤ 2 := by
        rcases hc with rfl | rfl | rfl <;> omega
      simp only [E221_100, E221_101, E221_102, E221_105, E221_106, E221_107, E221_108, E221_109, E221_110, E221_112, E221_114, E221_115, E221_116, E221_119, E221_122, E221_125, E221_126, E221_128, E221_129, E221_132, E221_134, E221_135, E221_136, E221_138, inn, pk54 hS, pk56 hS, pl56 hS, pa56 hS, pi56 hS, pr54_3 hR, rfs, rfn, cs0, csi, csl, csr, csn, kti, ktl, ktr, ktn, ktv, ktf, true_and, and_true, and_self, ↓reduceIte, Nat.reduceAdd, Nat.reduceSub, Nat.reduceMul, Nat.reduceLT, Nat.reduceLeDiff, Nat.reduceEqDiff, true_or, or_true, false_or, or_false, not_true_eq_false, not_false_eq_true, reduceCtorEq, cmp_lt, cmp_gt, cmp_eq, Int32.reduceAdd, Int32.reduceSub, Int32.reduceMul, Int32.reduceLT, Int32.reduceToNatClampNeg, eq_self, ne_eq, Int64.reduceAdd, Int64.reduceSub, Int64.reduceMul, Int64.reduceLT, z0, c0, z10, c10, i0, i10, em, hin, bI_t, n1_0]
      refine flT (d := d) (c := c) (B := B) (nu := nu) (w := wt c) (last := 6) (st := st) (r := r) hS hR (wtO hc) (by omega) (mvN hc) hB r1 (by decide) (Or.inr ⟨tg, htg, rfl⟩) (by omega) hP.1 hP.2.2 (fun I3 lev st3 hh v b1 b2 b3 b4 => ?_)
      have b3' : st3 ≤ st + 1771470 := b3
      have P3 : PnS I3 c nu B st3 := ⟨hP.1.l b4, by rw [b4.1 56 (by decide) (by decide) (by decide) (by decide)]; exact hP.2.1, b2⟩
      by_cases hv : v = -1
      · have hv' : (v = -1) = True := eq_true hv
        simp only [E221_141, E221_142, E221_145, E221_146, E221_147, E221_150, rfs, rfn, cs0, csi, csl, csr, csn, kti, ktl, ktr, ktn, ktv, ktf, true_and, and_true, and_self, ↓reduceIte, Nat.reduceAdd, Nat.reduceSub, Nat.reduceMul, Nat.reduceLT, Nat.reduceLeDiff, Nat.reduceEqDiff, true_or, or_true, false_or, or_false, not_true_eq_false, not_false_eq_true, reduceCtorEq, cmp_lt, cmp_gt, cmp_eq, Int32.reduceAdd, Int32.reduceSub, Int32.reduceMul, Int32.reduceLT, Int32.reduceToNatClampNeg, eq_self, ne_eq, Int64.reduceAdd, Int64.reduceSub, Int64.reduceMul, Int64.reduceLT, hv', nI_1]
        refine ih (k0 + 1 + 1) (n + 1) I3 st3 _ _ (by omega) (by omega) (by omega) (Or.inr ⟨by omega, ?_⟩) (Nat.le_trans b3' (by rw [Nat.mul_succ]; omega)) P3 (fun v J st' w1 w2 w3 => hq v J st' w1 w2 (b4.tr w3))
        rcases hc with rfl | rfl | rfl <;> omega
      · simp only [E221_141, E221_142, E221_145, E221_146, rfs, rfn, cs0, csi, csl, csr, csn, kti, ktl, ktr, ktn, ktv, ktf, true_and, and_true, and_self, ↓reduceIte, Nat.reduceAdd, Nat.reduceSub, Nat.reduceMul, Nat.reduceLT, Nat.reduceLeDiff, Nat.reduceEqDiff, true_or, or_true, false_or, or_false, not_true_eq_false, not_false_eq_true, reduceCtorEq, cmp_lt, cmp_gt, cmp_eq, Int32.reduceAdd, Int32.reduceSub, Int32.reduceMul, Int32.reduceLT, Int32.reduceToNatClampNeg, eq_self, ne_eq, Int64.reduceAdd, Int64.reduceSub, Int64.reduceMul, Int64.reduceLT, hv]
        exact hq _ I3 st3 P3 (by omega) b4
    · rw [decide_eq_false gi] at hin
      simp only [E221_100, E221_101, E221_102, E221_105, E221_106, E221_107, E221_108, E221_109, E221_110, E221_112, E221_114, E221_115, E221_116, E221_119, E221_122, E221_147, E221_150, inn, pk54 hS, pk56 hS, pl56 hS, pa56 hS, pi56 hS, pr54_3 hR, rfs, rfn, cs0, csi, csl, csr, csn, kti, ktl, ktr, ktn, ktv, ktf, true_and, and_true, and_self, ↓reduceIte, Nat.reduceAdd, Nat.reduceSub, Nat.reduceMul, Nat.reduceLT, Nat.reduceLeDiff, Nat.reduceEqDiff, true_or, or_true, false_or, or_false, not_true_eq_false, not_false_eq_true, reduceCtorEq, cmp_lt, cmp_gt, cmp_eq, Int32.reduceAdd, Int32.reduceSub, Int32.reduceMul, Int32.reduceLT, Int32.reduceToNatClampNeg, eq_self, ne_eq, Int64.reduceAdd, Int64.reduceSub, Int64.reduceMul, Int64.reduceLT, z0, c0, i0, em, hin, bI_f, nI_1]
      refine ih (k0 + 1 + 1) n I st _ _ (by omega) (by omega) h3 ?_ h5 hP hq
      rcases hc with rfl | rfl | rfl <;> omega
theorem m_even (ht : t < 512) (hS : Pm S) (hR : Pr R) (h : InvM I t) (hq : ∀ v J L', InvM J (t + 1) → OutM I J → RlN I J → Q (.int v) S J L' R) : EvM (d + 7) 221 [.ref 54] S I L R Q := by
  have h0 : InvM (put I 54 0 0) t := h.p0
  have o0 : OutM I (put I 54 0 0) := (by repeat (first | exact OutM.rf | apply telF_o | refine OutM.pt ?_ (by decide) (by decide)))
  have r0 : RlN I (put I 54 0 0) := (by repeat (first | exact RlN.rf | apply RlN.tel | refine RlN.p4 ?_ (by decide) | refine RlN.pa ?_ (by decide)))
  simp only [M221, E221_0, E221_1, E221_2, E221_5, E221_6, pk54 hS, rfs, rfn, cs0, csi, csl, csr, csn, kti, ktl, ktr, ktn, ktv, ktf, true_and, and_true, and_self, ↓reduceIte, Nat.reduceAdd, Nat.reduceSub, Nat.reduceMul, Nat.reduceLT, Nat.reduceLeDiff, Nat.reduceEqDiff, true_or, or_true, false_or, or_false, not_true_eq_false, not_false_eq_true, reduceCtorEq, cmp_lt, cmp_gt, cmp_eq, Int32.reduceAdd, Int32.reduceSub, Int32.reduceMul, Int32.reduceLT, Int32.reduceToNatClampNeg, eq_self, ne_eq, Int64.reduceAdd, Int64.reduceSub, Int64.reduceMul, Int64.reduceLT, pt]
  generalize put I 54 0 0 = I0 at h0 o0 r0 ⊢
  obtain ⟨st, s1, s2⟩ := h0.2.2.2.2.2.r
  obtain ⟨c, c3, c5, e0⟩ := h0.1.1
  have hc := c345 c3 c5
  obtain ⟨B, B4, e10⟩ := h0.1.2.1.2.1
  refine fwt (d := d + 5) hS hR hc e0 (fun I1 a1 a2 => ?_)
  obtain ⟨P1, F1⟩ := lay_w h0.1 e0 a1 a2 e10 s2
  have i6 : I1 56 = I0 56 := a1 56 (by decide)
  have P2 : PnS (put I1 54 59 (-1)) c (I0 56 3) B st := P1.cg (pt_n (by decide)) (pt_n (by decide)) (pt_n (by decide)) (pt_f (by decide))
  have F2 : FrP I0 (put I1 54 59 (-1)) := FrP.p4 F1 (by decide)
  have q6 : put I1 54 59 (-1) 56 = I0 56 := by rw [pt_n (by decide), i6]
  have q60 : put I1 54 59 (-1) 54 60 = I0 54 60 := by rw [pt_f (by decide), a1 54 (by decide)]
  simp only [E221_9, E221_10, E221_11, E221_14, E221_15, E221_17, pk54 hS, rfs, rfn, cs0, csi, csl, csr, csn, kti, ktl, ktr, ktn, ktv, ktf, true_and, and_true, and_self, ↓reduceIte, Nat.reduceAdd, Nat.reduceSub, Nat.reduceMul, Nat.reduceLT, Nat.reduceLeDiff, Nat.reduceEqDiff, true_or, or_true, false_or, or_false, not_true_eq_false, not_false_eq_true, reduceCtorEq, cmp_lt, cmp_gt, cmp_eq, Int32.reduceAdd, Int32.reduceSub, Int32.reduceMul, Int32.reduceLT, Int32.reduceToNatClampNeg, eq_self, ne_eq, Int64.reduceAdd, Int64.reduceSub, Int64.reduceMul, Int64.reduceLT, pt]
  generalize put I1 54 59 (-1) = I2 at P2 F2 q6 q60 ⊢
  refine rwa (A := 30) (d := d + 5) (Or.inr rfl) hS hR c5 P2.1.1 P2.1.2.2 (by rw [q6]; exact h0.1.2.2.1) (fun tg t1 => ?_)
  simp only [E221_20, E221_21, E221_22, E221_23, E221_24, rfs, rfn, cs0, csi, csl, csr, csn, kti, ktl, ktr, ktn, ktv, ktf, true_and, and_true, and_self, ↓reduceIte, Nat.reduceAdd, Nat.reduceSub, Nat.reduceMul, Nat.reduceLT, Nat.reduceLeDiff, Nat.reduceEqDiff, true_or, or_true, false_or, or_false, not_true_eq_false, not_false_eq_true, reduceCtorEq, cmp_lt, cmp_gt, cmp_eq, Int32.reduceAdd, Int32.reduceSub, Int32.reduceMul, Int32.reduceLT, Int32.reduceToNatClampNeg, eq_self, ne_eq, Int64.reduceAdd, Int64.reduceSub, Int64.reduceMul, Int64.reduceLT]
  refine ev1_lp (d := d + 6) hS hR c5 P2.1.1 (by rw [q6]; exact h0.1.2.2.1) (fun a ha => ?_) c 0 0 (by omega) (by omega)
  simp only [E221_53, E221_54, rfs, rfn, cs0, csi, csl, csr, csn, kti, ktl, ktr, ktn, ktv, ktf, true_and, and_true, and_self, ↓reduceIte, Nat.reduceAdd, Nat.reduceSub, Nat.reduceMul, Nat.reduceLT, Nat.reduceLeDiff, Nat.reduceEqDiff, true_or, or_true, false_or, or_false, not_true_eq_false, not_false_eq_true, reduceCtorEq, cmp_lt, cmp_gt, cmp_eq, Int32.reduceAdd, Int32.reduceSub, Int32.reduceMul, Int32.reduceLT, Int32.reduceToNatClampNeg, eq_self, ne_eq, Int64.reduceAdd, Int64.reduceSub, Int64.reduceMul, Int64.reduceLT]
  refine ev2_lp (d := d + 1) (c := c) (B := B) (nu := I0 56 3) (st0 := st) hS hR hc (by omega) ha t1 (by omega) 9 1 0 I2 st _ _ (by omega) (by omega) (by omega) (Or.inl rfl) (by omega) P2 (fun v J st' w1 w2 w3 => ?_)
  have F3 : FrP I0 J := F2.tr w3.f
  refine hq v J _ (h0.pl (st := st') F3 (h0.2.2.2.2.1.w (c := c) ?_ w1.1.1 c3 c5 w1.1.2.2) w1.2.2 (by omega)) (o0.tr F3.o) (r0.tr F3.rl)
  rw [w3.2 60 (by decide) (by decide), q60]
end AS
