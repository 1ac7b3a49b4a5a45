/-! the reference: heats, plan, reached, even, striker: with content -/
theorem InvM.pl {I J : mI} {t st : Nat} (h : InvM I t) (f : FrP I J) (hp : PlM J ∧ RcM J) (hr : Rst J 59049 st) (hst : st ≤ 8000000 * (t + 1)) : InvM J (t + 1) := by
  refine ⟨by rw [f.1 56 (by decide) (by decide)]; exact h.1, fun b hb z => ?_, by rw [f.2 7 (by decide) (by decide) (by decide) (by decide)]; exact h.2.2.1, by rw [f.2 45 (by decide) (by decide) (by decide) (by decide)]; exact h.2.2.2.1, hp, st, hst, hr⟩
  rw [f.1 58 (by decide) (by decide)] at z
  rw [f.1 57 (by decide) (by decide)]
  exact h.2.1 b hb z
theorem FrP.rl {I J : mI} (f : FrP I J) : RlN I J := RlN.al (f.1 _ (by decide) (by decide)) (f.1 _ (by decide) (by decide)) (f.1 _ (by decide) (by decide)) (f.1 _ (by decide) (by decide)) (f.2 _ (by decide) (by decide) (by decide) (by decide))
theorem FrP.o {I J : mI} (f : FrP I J) : OutM I J := fun a ha => f.1 a (by omega) (by omega)
theorem PlN.m {I : mI} (h : PlN I) : PlM I := Or.inr ⟨h.1, h.2⟩
theorem Stm.r {I : mI} {t : Nat} (h : Stm I t) : ∃ st, st ≤ 8000000 * t ∧ Rst I 59049 st := h
theorem PlN.h {I J : mI} (h : PlN I) (e60 : J 54 60 = I 54 60) (e0 : J 56 = I 56) (e2 : J 72 = I 72) : PlN J := by
  unfold PlN Wt
  rw [e60, e0, e2]
  exact h
theorem sub9 : ∀ x, x < 46 → ∀ a, a < 46 → inB (nI x - nI a).toInt64 0 6 = decide (a ≤ x ∧ x ≤ a + 6) := by decide +kernel
theorem inBb {i b : Int32} (hb : b = -1 ∨ ∃ h, h ≤ 6 ∧ b = nI h) : inB i.toInt64 0 (b.toInt64 - 1) = true ↔ ¬ i < 0 ∧ i < b := by
  have e : (b.toInt64 - 1).toInt = b.toInt - 1 := by
    rcases hb with rfl | ⟨h, h6, rfl⟩
    · decide
    · rcases (by omega : h = 0 ∨ h = 1 ∨ h = 2 ∨ h = 3 ∨ h = 4 ∨ h = 5 ∨ h = 6) with rfl | rfl | rfl | rfl | rfl | rfl | rfl <;> decide
  have z1 : (0 : Int64).toInt = 0 := rfl
  have z2 : (0 : Int32).toInt = 0 := rfl
  unfold inB
  rw [decide_eq_true_iff, Int64.lt_iff_toInt_lt, Int64.lt_iff_toInt_lt, Int32.toInt_toInt64, e, Int32.lt_iff_toInt_lt, Int32.lt_iff_toInt_lt, z1, z2]
  omega
theorem n1lt {i : Int32} (h : ¬ i < 0) : ¬ i < -1 := fun z => h (by
  rw [Int32.lt_iff_toInt_lt] at z ⊢
  have a : (-1 : Int32).toInt = -1 := rfl
  have b : (0 : Int32).toInt = 0 := rfl
  omega)
theorem ltN {i : Int32} {h : Nat} (hh : h ≤ 6) (h0 : ¬ i < 0) (h1 : i < nI h) : ∃ n, n < h ∧ i = nI n := by
  rw [Int32.lt_iff_toInt_lt] at h0 h1
  have b : (0 : Int32).toInt = 0 := rfl
  rw [nI_toInt (by omega)] at h1
  exact ⟨i.toInt.toNat, by omega, ti_nI (z := i.toInt) rfl (by omega) (by omega)⟩
/-- what the reference keeps behind a question -/
theorem rcp {I J : mI} {c B th : Nat} {A A2 : Nat → Nat} (hK : StM I c A A2 th B) (f : FrP I J) (p : PlR c (nI th) B (rnum (wt c) A c) (rnum (wt c) A2 c) J) (l : LvQ I c (nI th) B (rnum (wt c) A c)) (k : (J 54 59 = I 54 59 ∧ J 73 = I 73) ∨ J 54 59 = -1) : RcM J := RcM.mk (hK.cg (f.1 56 (by decide) (by decide))) (k.elim (fun z => l.cg z.1 z.2) Or.inl) (fun _ => p)
theorem flz_min {c B r last t hh : Nat} {nu v : Int32} {I : mI} {lev : Nat → Nat} (h : Flz (nI t) c B r last (wt c) nu I lev hh v) (hl : last = 6) (ht : t < 59049) : MinH (wt c) c nu B r t v := by
  subst hl
  obtain ⟨_, _, l3, l4⟩ := h
  rcases l4 with ⟨z1, z2, z3⟩ | ⟨z1, t', u1, u2, u3, u4⟩
  · exact Or.inl ⟨z1, fun h hh q => z3 t ht rfl h hh ((LvD_lev h t).mp q)⟩
  · obtain rfl : t = t' := (nI_eq (by omega) (by omega)).mp u2
    exact Or.inr ⟨hh, l3, z1, (LvD_lev hh t).mpr u3, fun h' h1 q => u4 h' h1 ((LvD_lev h' t).mp q)⟩
/-- what is told of the PLAN -/
def PlU (c : Nat) (nu : Int32) (B r t : Nat) (i x v : Int32) : Prop := ∃ h, MinH (wt c) c nu B r t h ∧ ((((i < 0 ∨ ¬ i < h) ∨ (¬ x = -1 ∧ ¬ (¬ x < 0 ∧ x < nI c))) ∧ v = -1) ∨ (¬ i < 0 ∧ i < h ∧ ∃ H pc pr, H ≤ 6 ∧ h = nI H ∧ PlnS (wt c) c nu B r t H pc pr ∧ ((x = -1 ∧ v = nI (pc i.toNatClampNeg)) ∨ ∃ k, k < c ∧ x = nI k ∧ v = nI (dg (wt c) (pr i.toNatClampNeg) k))))
section AS
variable {d t c th B : Nat} {A A2 : Nat → Nat} {S : mS} {I : mI} {L : mL} {R : mR} {Q : mQ}
theorem StM.r (h : StM I c A A2 th B) : rnum (wt c) A c < 59049 ∧ rnum (wt c) A2 c < 59049 := by
  obtain ⟨hc, _, _, _, _, kA, kA2⟩ := h
  have b := (n9c hc).2
  exact ⟨by have a := (rn_dg hc (fun i hi => (kA i hi).2)).1; omega, by have a := (rn_dg hc (fun i hi => (kA2 i hi).2)).1; omega⟩
theorem m_heats (hK : StM I c A A2 th B) (ht : t < 512) (hS : Pm S) (hR : Pr R) (h : InvM I t) (hq : ∀ v J L', InvM J (t + 1) → OutM I J → RlN I J → MinH (wt c) c (nI th) B (rnum (wt c) A c) (rnum (wt c) A2 c) v → Q (.int v) S J L' R) : EvM (d + 9) 219 [.ref 54] S I L R Q := by
  have h0 : InvM (put I 54 0 0) t := h.p0
  have o0 : OutM I (put I 54 0 0) := (by repeat (first | exact OutM.rf | apply telF_o | refine OutM.pt ?_ (by decide) (by decide)))
  have r0 : RlN I (put I 54 0 0) := (by repeat (first | exact RlN.rf | apply RlN.tel | refine RlN.p4 ?_ (by decide) | refine RlN.pa ?_ (by decide)))
  have K0 : StM (put I 54 0 0) c A A2 th B := hK.cg (pt_n (by decide))
  simp only [M219, E219_0, E219_1, E219_2, E219_5, E219_6, pk54 hS, rfs, rfn, cs0, csi, csl, csr, csn, kti, ktl, ktr, ktn, ktv, ktf, true_and, and_true, and_self, ↓reduceIte, Nat.reduceAdd, Nat.reduceSub, Nat.reduceMul, Nat.reduceLT, Nat.reduceLeDiff, Nat.reduceEqDiff, true_or, or_true, false_or, or_false, not_true_eq_false, not_false_eq_true, reduceCtorEq, cmp_lt, cmp_gt, cmp_eq, Int32.reduceAdd, Int32.reduceSub, Int32.reduceMul, Int32.reduceLT, Int32.reduceToNatClampNeg, eq_self, ne_eq, Int64.reduceAdd, Int64.reduceSub, Int64.reduceMul, Int64.reduceLT, pt]
  generalize put I 54 0 0 = I0 at h0 o0 r0 K0 ⊢
  obtain ⟨st, s1, s2⟩ := h0.2.2.2.2.2.r
  have rc := h0.2.2.2.2.1.2 _ _ _ _ _ K0
  refine fpl (d := d) (st := st) K0 rc.2 hS hR h0.1 h0.2.2.2.2.1.1 s2 (by omega) (fun J st' k1 k2 k3 k4 k5 k6 => ?_)
  simp only [E219_9, E219_10, E219_13, pk54 hS, rfs, rfn, cs0, csi, csl, csr, csn, kti, ktl, ktr, ktn, ktv, ktf, true_and, and_true, and_self, ↓reduceIte, Nat.reduceAdd, Nat.reduceSub, Nat.reduceMul, Nat.reduceLT, Nat.reduceLeDiff, Nat.reduceEqDiff, true_or, or_true, false_or, or_false, not_true_eq_false, not_false_eq_true, reduceCtorEq, cmp_lt, cmp_gt, cmp_eq, Int32.reduceAdd, Int32.reduceSub, Int32.reduceMul, Int32.reduceLT, Int32.reduceToNatClampNeg, eq_self, ne_eq, Int64.reduceAdd, Int64.reduceSub, Int64.reduceMul, Int64.reduceLT]
  exact hq _ J _ (h0.pl k3 ⟨k4.m, rcp K0 k3 k5 rc.1 k6⟩ k1 (by omega)) (o0.tr k3.o) (r0.tr k3.rl) k5.1
theorem m_plan {i x : Int32} (hK : StM I c A A2 th B) (ht : t < 512) (hS : Pm S) (hR : Pr R) (h : InvM I t) (hq : ∀ v J L', InvM J (t + 1) → OutM I J → RlN I J → PlU c (nI th) B (rnum (wt c) A c) (rnum (wt c) A2 c) i x v → Q (.int v) S J L' R) : EvM (d + 9) 220 [.ref 54, .int i, .int x] S I L R Q := by
  have h0 : InvM (put I 54 0 0) t := h.p0
  have o0 : OutM I (put I 54 0 0) := (by repeat (first | exact OutM.rf | apply telF_o | refine OutM.pt ?_ (by decide) (by decide)))
  have r0 : RlN I (put I 54 0 0) := (by repeat (first | exact RlN.rf | apply RlN.tel | refine RlN.p4 ?_ (by decide) | refine RlN.pa ?_ (by decide)))
  have K0 : StM (put I 54 0 0) c A A2 th B := hK.cg (pt_n (by decide))
  simp only [M220, E220_0, E220_1, E220_2, E220_5, E220_6, pk54 hS, rfs, rfn, cs0, csi, csl, csr, csn, kti, ktl, ktr, ktn, ktv, ktf, true_and, and_true, and_self, ↓reduceIte, Nat.reduceAdd, Nat.reduceSub, Nat.reduceMul, Nat.reduceLT, Nat.reduceLeDiff, Nat.reduceEqDiff, true_or, or_true, false_or, or_false, not_true_eq_false, not_false_eq_true, reduceCtorEq, cmp_lt, cmp_gt, cmp_eq, Int32.reduceAdd, Int32.reduceSub, Int32.reduceMul, Int32.reduceLT, Int32.reduceToNatClampNeg, eq_self, ne_eq, Int64.reduceAdd, Int64.reduceSub, Int64.reduceMul, Int64.reduceLT, pt]
  generalize put I 54 0 0 = I0 at h0 o0 r0 K0 ⊢
  obtain ⟨st, s1, s2⟩ := h0.2.2.2.2.2.r
  have rc := h0.2.2.2.2.1.2 _ _ _ _ _ K0
  refine fpl (d := d) (st := st) K0 rc.2 hS hR h0.1 h0.2.2.2.2.1.1 s2 (by omega) (fun J st' k1 k2 k3 k4 k5 k6 => ?_)
  have fin : ∀ v, PlU c (nI th) B (rnum (wt c) A c) (rnum (wt c) A2 c) i x v → Q (.int v) S J L R := fun v hv => hq v J _ (h0.pl k3 ⟨k4.m, rcp K0 k3 k5 rc.1 k6⟩ k1 (by omega)) (o0.tr k3.o) (r0.tr k3.rl) hv
  obtain ⟨hc, e0, -, -, -, -, -⟩ := id (K0.cg (k3.1 56 (by decide) (by decide)))
  obtain ⟨mh, pl⟩ := id k5
  obtain ⟨e60, c', e0', c3, c5, W⟩ := k4
  obtain rfl : c' = c := (nI_eq (by omega) (by omega)).mp (e0'.symm.trans e0)
  cases g : inB i.toInt64 0 ((J 54 60).toInt64 - 1)
  · simp only [E220_9, E220_10, E220_11, E220_12, E220_13, E220_16, E220_17, E220_18, E220_19, E220_22, E220_39, E220_40, inn, pk54 hS, rfs, rfn, cs0, csi, csl, csr, csn, kti, ktl, ktr, ktn, ktv, ktf, true_and, and_true, and_self, ↓reduceIte, Nat.reduceAdd, Nat.reduceSub, Nat.reduceMul, Nat.reduceLT, Nat.reduceLeDiff, Nat.reduceEqDiff, true_or, or_true, false_or, or_false, not_true_eq_false, not_false_eq_true, reduceCtorEq, cmp_lt, cmp_gt, cmp_eq, Int32.reduceAdd, Int32.reduceSub, Int32.reduceMul, Int32.reduceLT, Int32.reduceToNatClampNeg, eq_self, ne_eq, Int64.reduceAdd, Int64.reduceSub, Int64.reduceMul, Int64.reduceLT, g, bI_f]
    refine fin _ ⟨_, mh, Or.inl ⟨Or.inl ?_, rfl⟩⟩
    refine Classical.byContradiction (fun z => ?_)
    have := (inBb e60).mpr ⟨fun y => z (Or.inl y), Classical.byContradiction (fun y => z (Or.inr y))⟩
    rw [this] at g
    cases g
  · obtain ⟨i0, i1⟩ := (inBb e60).mp g
    obtain ⟨H, H6, eH⟩ : ∃ H, H ≤ 6 ∧ J 54 60 = nI H := by
      rcases e60 with e60 | e60
      · rw [e60] at i1
        exact absurd i1 (n1lt i0)
      · exact e60
    have i1' := i1
    rw [eH] at i1'
    obtain ⟨n, n6, rfl⟩ := ltN H6 i0 i1'
    obtain ⟨pc, pr, p1, p2, p3⟩ := pl H H6 eH
    have q1 := p1 n n6
    obtain ⟨q2, q3⟩ := p2 n n6
    have nc : (nI n).toNatClampNeg = n := nI_clamp (by omega)
    have a0 : inb (nI n) 7 = True := inb_nI (by omega) (by decide)
    have a1 : inb (nI (n + 1)) 7 = True := inb_nI (by omega) (by decide)
    have nc1 : (nI (n + 1)).toNatClampNeg = n + 1 := nI_clamp (by omega)
    by_cases hx : x = -1
    · have hx' : (x = -1) = True := eq_true hx
      simp only [E220_9, E220_10, E220_11, E220_12, E220_13, E220_16, E220_17, E220_18, E220_19, E220_22, E220_25, E220_26, E220_27, E220_41, E220_42, E220_43, E220_46, E220_47, E220_50, E220_51, E220_52, E220_68, inn, pk54 hS, pk79 hS, pl79 hS, pa79 hS, pi79 hS, pr54_61 hR, rfs, rfn, cs0, csi, csl, csr, csn, kti, ktl, ktr, ktn, ktv, ktf, true_and, and_true, and_self, ↓reduceIte, Nat.reduceAdd, Nat.reduceSub, Nat.reduceMul, Nat.reduceLT, Nat.reduceLeDiff, Nat.reduceEqDiff, true_or, or_true, false_or, or_false, not_true_eq_false, not_false_eq_true, reduceCtorEq, cmp_lt, cmp_gt, cmp_eq, Int32.reduceAdd, Int32.reduceSub, Int32.reduceMul, Int32.reduceLT, Int32.reduceToNatClampNeg, eq_self, ne_eq, Int64.reduceAdd, Int64.reduceSub, Int64.reduceMul, Int64.reduceLT, g, bI_t, n1_0, hx', a0, nc, q1]
      exact fin _ ⟨_, mh, Or.inr ⟨i0, i1, H, pc, pr, H6, eH, p3, Or.inl ⟨hx, by rw [nc]⟩⟩⟩
    · cases g2 : inB x.toInt64 0 ((J 56 0).toInt64 - 1)
      · simp only [E220_9, E220_10, E220_11, E220_12, E220_13, E220_16, E220_17, E220_18, E220_19, E220_22, E220_25, E220_26, E220_27, E220_30, E220_31, E220_32, E220_33, E220_36, E220_39, E220_40, inn, isc hS hR, pk54 hS, rfs, rfn, cs0, csi, csl, csr, csn, kti, ktl, ktr, ktn, ktv, ktf, true_and, and_true, and_self, ↓reduceIte, Nat.reduceAdd, Nat.reduceSub, Nat.reduceMul, Nat.reduceLT, Nat.reduceLeDiff, Nat.reduceEqDiff, true_or, or_true, false_or, or_false, not_true_eq_false, not_false_eq_true, reduceCtorEq, cmp_lt, cmp_gt, cmp_eq, Int32.reduceAdd, Int32.reduceSub, Int32.reduceMul, Int32.reduceLT, Int32.reduceToNatClampNeg, eq_self, ne_eq, Int64.reduceAdd, Int64.reduceSub, Int64.reduceMul, Int64.reduceLT, g, g2, bI_t, bI_f, n1_0, hx]
        refine fin _ ⟨_, mh, Or.inl ⟨Or.inr ⟨hx, fun z => ?_⟩, rfl⟩⟩
        have := (inBb (Or.inr ⟨_, by omega, e0⟩)).mpr (show ¬ x < 0 ∧ x < J 56 0 by rw [e0]; exact z)
        rw [this] at g2
        cases g2
      · have g3 := (inBb (Or.inr ⟨_, by omega, e0⟩)).mp g2
        rw [e0] at g3
        obtain ⟨m, m1, rfl⟩ := ltN (by omega) g3.1 g3.2
        simp only [E220_9, E220_10, E220_11, E220_12, E220_13, E220_16, E220_17, E220_18, E220_19, E220_22, E220_25, E220_26, E220_27, E220_30, E220_31, E220_32, E220_33, E220_36, E220_41, E220_42, E220_43, E220_55, E220_56, E220_57, E220_60, E220_61, E220_62, E220_63, E220_64, E220_65, inn, isc hS hR, pk54 hS, pk80 hS, pl80 hS, pa80 hS, pi80 hS, pr54_62 hR, rfs, rfn, cs0, csi, csl, csr, csn, kti, ktl, ktr, ktn, ktv, ktf, true_and, and_true, and_self, ↓reduceIte, Nat.reduceAdd, Nat.reduceSub, Nat.reduceMul, Nat.reduceLT, Nat.reduceLeDiff, Nat.reduceEqDiff, true_or, or_true, false_or, or_false, not_true_eq_false, not_false_eq_true, reduceCtorEq, cmp_lt, cmp_gt, cmp_eq, Int32.reduceAdd, Int32.reduceSub, Int32.reduceMul, Int32.reduceLT, Int32.reduceToNatClampNeg, eq_self, ne_eq, Int64.reduceAdd, Int64.reduceSub, Int64.reduceMul, Int64.reduceLT, g, g2, bI_t, n1_0, hx, nI_1, a1, nc1, q3]
        rw [iro hS hR (⟨e0, rfl, W⟩ : RfI J c' (wt c') (J 56 3)) (wtO hc) (by omega) (by omega) m1]
        simp only [E220_68, rfs, rfn, cs0, csi, csl, csr, csn, kti, ktl, ktr, ktn, ktv, ktf, true_and, and_true, and_self, ↓reduceIte, Nat.reduceAdd, Nat.reduceSub, Nat.reduceMul, Nat.reduceLT, Nat.reduceLeDiff, Nat.reduceEqDiff, true_or, or_true, false_or, or_false, not_true_eq_false, not_false_eq_true, reduceCtorEq, cmp_lt, cmp_gt, cmp_eq, Int32.reduceAdd, Int32.reduceSub, Int32.reduceMul, Int32.reduceLT, Int32.reduceToNatClampNeg, eq_self, ne_eq, Int64.reduceAdd, Int64.reduceSub, Int64.reduceMul, Int64.reduceLT]
        exact fin _ ⟨_, mh, Or.inr ⟨i0, i1, H, pc, pr, H6, eH, p3, Or.inr ⟨m, m1, rfl, by rw [nc]⟩⟩⟩
theorem PlM.w {I J : mI} (h : PlM I) (e60 : J 54 60 = I 54 60) (e0 : J 56 0 = nI c) (c3 : 3 ≤ c) (c5 : c ≤ 5) (W : Wt J c) : PlM J := by
  rcases h with h | ⟨h, _⟩
  · exact Or.inl (e60.trans h)
  · exact Or.inr ⟨by rw [e60]; exact h, c, e0, c3, c5, W⟩
/-- how many rows there are at a level -/
theorem rcK_lp {n : Nat} {lev : Nat → Nat} (hn : n < 7) (hS : Pm S) (hR : Pr R) (lp : LvP I lev) (hq : Q (.int (nI (cnt (fun u => (lev u).testBit n) 59049))) S I L R) : ∀ (q v : Nat), v + q = 59049 → Ev (d + 1) 214 69 [.ref 54, .int (nI n), .int (nI (cnt (fun u => (lev u).testBit n) v)), .int (nI v)] [] S I L R Q := by
  intro q
  induction q with
  | zero =>
    intro v h1
    obtain rfl : v = 59049 := by omega
    have e : (nI 59049 < (59049 : Int32)) = False := eq_false (by decide)
    rw [E214_69]
    simp only [E214_70, E214_72, E214_94, E214_95, e, rfs, rfn, cs0, csi, csl, csr, csn, kti, ktl, ktr, ktn, ktv, ktf, true_and, and_true, and_self, ↓reduceIte, Nat.reduceAdd, Nat.reduceSub, Nat.reduceMul, Nat.reduceLT, Nat.reduceLeDiff, Nat.reduceEqDiff, true_or, or_true, false_or, or_false, not_true_eq_false, not_false_eq_true, reduceCtorEq, cmp_lt, cmp_gt, cmp_eq, Int32.reduceAdd, Int32.reduceSub, Int32.reduceMul, Int32.reduceLT, Int32.reduceToNatClampNeg, eq_self, ne_eq, Int64.reduceAdd, Int64.reduceSub, Int64.reduceMul, Int64.reduceLT]
    exact hq
  | succ q ih =>
    intro v h1
    have e1 : (nI v < (59049 : Int32)) = True := eq_true (nI_lt (a := v) (b := 59049) (by omega) (by decide))
    have v3 : inb (nI v) 59049 = True := inb_nI (by omega) (by decide)
    have v4 : (nI v).toNatClampNeg = v := nI_clamp (by omega)
    obtain ⟨t1, t2⟩ := lp v (by omega)
    have b := lq7 (lev v) t1 n hn
    have es : nI (cnt (fun u => (lev u).testBit n) v) + nI (if (lev v).testBit n = true then 1 else 0) = nI (cnt (fun u => (lev u).testBit n) (v + 1)) := by
      rw [nI_add]
      rfl
    rw [E214_69]
    simp only [E214_70, E214_72, E214_75, E214_76, E214_77, E214_80, E214_81, E214_82, E214_83, E214_84, E214_85, E214_86, E214_87, E214_88, E214_91, pk54 hS, pk73 hS, pl73 hS, pa73 hS, pi73 hS, pr54_51 hR, e1, v3, v4, t2, b, es, rfs, rfn, cs0, csi, csl, csr, csn, kti, ktl, ktr, ktn, ktv, ktf, true_and, and_true, and_self, ↓reduceIte, Nat.reduceAdd, Nat.reduceSub, Nat.reduceMul, Nat.reduceLT, Nat.reduceLeDiff, Nat.reduceEqDiff, true_or, or_true, false_or, or_false, not_true_eq_false, not_false_eq_true, reduceCtorEq, cmp_lt, cmp_gt, cmp_eq, Int32.reduceAdd, Int32.reduceSub, Int32.reduceMul, Int32.reduceLT, Int32.reduceToNatClampNeg, eq_self, ne_eq, Int64.reduceAdd, Int64.reduceSub, Int64.reduceMul, Int64.reduceLT, nI_1]
    exact ih (v + 1) (by omega)
/-- weights laid: what stands then -/
theorem lay_w {I I1 : mI} (hr : Rw (I 56)) (e0 : I 56 0 = nI c) (a1 : ∀ a, ¬ a = 72 → I1 a = I a) (a2 : Wt I1 c) {B st : Nat} (e10 : I 56 10 = nI B) (hs : Rst I 59049 st) : PnS I1 c (I 56 3) B st ∧ FrP I I1 := by
  have i6 : I1 56 = I 56 := a1 56 (by decide)
  exact ⟨⟨⟨by rw [i6]; exact e0, by rw [i6], a2⟩, by rw [i6]; exact e10, by rw [a1 54 (by decide)]; exact hs.1, fun v hv => by rw [a1 77 (by decide)]; exact hs.2 v hv⟩, fun b b1 b2 => a1 b (by omega), fun k _ _ _ _ => by rw [a1 54 (by decide)]⟩
theorem FrL.pr {I J : mI} {f t : Nat} {nu : Int32} (f1 : FrL I J) (p : PlR c nu B f t I) : PlR c nu B f t J := p.cg (f1.2 60 (by decide) (by decide)) (f1.1 79 (by decide) (by decide) (by decide) (by decide)) (f1.1 80 (by decide) (by decide) (by decide) (by decide))
theorem m_reached {x : Int32} (hK : StM I c A A2 th B) (ht : t < 512) (hS : Pm S) (hR : Pr R) (h : InvM I t) (hq : ∀ v J L', InvM J (t + 1) → OutM I J → RlN I J → ((inB x.toInt64 0 6 = false ∧ v = -1) ∨ ∃ n g, n ≤ 6 ∧ x = nI n ∧ (∀ k, k < 59049 → (g k = true ↔ Lev (wt c) c (nI th) B (rnum (wt c) A c) n k)) ∧ v = nI (cnt g 59049)) → Q (.int v) S J L' R) : EvM (d + 7) 214 [.ref 54, .int x] S I L R Q := by
  have h0 : InvM (put I 54 0 0) t := h.p0
  have o0 : OutM I (put I 54 0 0) := (by repeat (first | exact OutM.rf | apply telF_o | refine OutM.pt ?_ (by decide) (by decide)))
  have r0 : RlN I (put I 54 0 0) := (by repeat (first | exact RlN.rf | apply RlN.tel | refine RlN.p4 ?_ (by decide) | refine RlN.pa ?_ (by decide)))
  have K0 : StM (put I 54 0 0) c A A2 th B := hK.cg (pt_n (by decide))
  cases g : inB x.toInt64 0 6
  · simp only [M214, E214_0, E214_1, E214_2, E214_5, E214_6, E214_7, E214_8, E214_11, E214_14, E214_17, E214_18, inn, pk54 hS, rfs, rfn, cs0, csi, csl, csr, csn, kti, ktl, ktr, ktn, ktv, ktf, true_and, and_true, and_self, ↓reduceIte, Nat.reduceAdd, Nat.reduceSub, Nat.reduceMul, Nat.reduceLT, Nat.reduceLeDiff, Nat.reduceEqDiff, true_or, or_true, false_or, or_false, not_true_eq_false, not_false_eq_true, reduceCtorEq, cmp_lt, cmp_gt, cmp_eq, Int32.reduceAdd, Int32.reduceSub, Int32.reduceMul, Int32.reduceLT, Int32.reduceToNatClampNeg, eq_self, ne_eq, Int64.reduceAdd, Int64.reduceSub, Int64.reduceMul, Int64.reduceLT, pt, g, bI_f]
    exact hq _ _ _ (h0.mono (by omega)) o0 r0 (Or.inl ⟨g, rfl⟩)
  obtain ⟨n, n0, n6, rfl⟩ := inN (a := 0) (b := 6) g rfl rfl (by decide)
  simp only [M214, E214_0, E214_1, E214_2, E214_5, E214_6, E214_7, E214_8, E214_11, E214_14, inn, pk54 hS, rfs, rfn, cs0, csi, csl, csr, csn, kti, ktl, ktr, ktn, ktv, ktf, true_and, and_true, and_self, ↓reduceIte, Nat.reduceAdd, Nat.reduceSub, Nat.reduceMul, Nat.reduceLT, Nat.reduceLeDiff, Nat.reduceEqDiff, true_or, or_true, false_or, or_false, not_true_eq_false, not_false_eq_true, reduceCtorEq, cmp_lt, cmp_gt, cmp_eq, Int32.reduceAdd, Int32.reduceSub, Int32.reduceMul, Int32.reduceLT, Int32.reduceToNatClampNeg, eq_self, ne_eq, Int64.reduceAdd, Int64.reduceSub, Int64.reduceMul, Int64.reduceLT, pt, g, bI_t, n1_0]
  generalize put I 54 0 0 = I0 at h0 o0 r0 K0 ⊢
  obtain ⟨st, s1, s2⟩ := h0.2.2.2.2.2.r
  have rc := h0.2.2.2.2.1.2 _ _ _ _ _ K0
  obtain ⟨f1, -⟩ := K0.r
  by_cases lt : I0 54 59 < nI n
  · obtain ⟨hc, e0, e3, e10, B4, kA, -⟩ := id K0
    have c3 : 3 ≤ c := by omega
    have c5 : c ≤ 5 := by omega
    have B4' : B < 16 := B4
    have z10 : inb 10 8060 = True := inb_nI (j := 10) (by decide) (by decide)
    have c10 : Int32.toNatClampNeg 10 = 10 := rfl
    simp only [E214_19, E214_20, E214_23, E214_24, E214_27, E214_28, pk54 hS, rfs, rfn, cs0, csi, csl, csr, csn, kti, ktl, ktr, ktn, ktv, ktf, true_and, and_true, and_self, ↓reduceIte, Nat.reduceAdd, Nat.reduceSub, Nat.reduceMul, Nat.reduceLT, Nat.reduceLeDiff, Nat.reduceEqDiff, true_or, or_true, false_or, or_false, not_true_eq_false, not_false_eq_true, reduceCtorEq, cmp_lt, cmp_gt, cmp_eq, Int32.reduceAdd, Int32.reduceSub, Int32.reduceMul, Int32.reduceLT, Int32.reduceToNatClampNeg, eq_self, ne_eq, Int64.reduceAdd, Int64.reduceSub, Int64.reduceMul, Int64.reduceLT, lt]
    refine fwt (d := d + 5) hS hR hc e0 (fun I1 a1 a2 => ?_)
    obtain ⟨P1, F1⟩ := lay_w h0.1 e0 a1 a2 e10 s2
    have i6 : I1 56 = I0 56 := a1 56 (by decide)
    simp only [E214_31, E214_32, E214_33, E214_35, pk54 hS, rfs, rfn, cs0, csi, csl, csr, csn, kti, ktl, ktr, ktn, ktv, ktf, true_and, and_true, and_self, ↓reduceIte, Nat.reduceAdd, Nat.reduceSub, Nat.reduceMul, Nat.reduceLT, Nat.reduceLeDiff, Nat.reduceEqDiff, true_or, or_true, false_or, or_false, not_true_eq_false, not_false_eq_true, reduceCtorEq, cmp_lt, cmp_gt, cmp_eq, Int32.reduceAdd, Int32.reduceSub, Int32.reduceMul, Int32.reduceLT, Int32.reduceToNatClampNeg, eq_self, ne_eq, Int64.reduceAdd, Int64.reduceSub, Int64.reduceMul, Int64.reduceLT]
    refine rwaK (A := 20) (a := A) (d := d + 5) (Or.inl rfl) hS hR c5 P1.1.1 a2 (fun i hi => by rw [i6]; exact ⟨(kA i hi).1, (kA i hi).2.1⟩) ?_
    have i10 := P1.2.1
    simp only [E214_38, E214_39, E214_42, E214_44, E214_45, E214_46, E214_47, pk54 hS, pk56 hS, pl56 hS, pa56 hS, pi56 hS, pr54_3 hR, rfs, rfn, cs0, csi, csl, csr, csn, kti, ktl, ktr, ktn, ktv, ktf, true_and, and_true, and_self, ↓reduceIte, Nat.reduceAdd, Nat.reduceSub, Nat.reduceMul, Nat.reduceLT, Nat.reduceLeDiff, Nat.reduceEqDiff, true_or, or_true, false_or, or_false, not_true_eq_false, not_false_eq_true, reduceCtorEq, cmp_lt, cmp_gt, cmp_eq, Int32.reduceAdd, Int32.reduceSub, Int32.reduceMul, Int32.reduceLT, Int32.reduceToNatClampNeg, eq_self, ne_eq, Int64.reduceAdd, Int64.reduceSub, Int64.reduceMul, Int64.reduceLT, z10, c10, i10]
    refine flT (d := d + 1) (c := c) (B := B) (nu := I0 56 3) (w := wt c) (last := n) (st := st) (r := rnum (wt c) A c) hS hR (wtO hc) c5 (mvN hc) (by omega) f1 (by omega) (Or.inl rfl) (by omega) P1.1 P1.2.2 (fun I3 lev st3 hh v b1 b2 b3 b4 => ?_)
    obtain ⟨l1, l2, l3, l4⟩ := b1
    have l4' : v = -1 ∧ hh = n := by
      rcases l4 with ⟨z1, z2, _⟩ | ⟨_, t', u1, u2, _⟩
      · exact ⟨z1, z2⟩
      · exact absurd u2.symm (fun z => nI_pos (n := t') (by omega) (by rw [z]; decide))
    obtain ⟨rfl, rfl⟩ := l4'
    rw [e3] at l2
    have F3 : FrP I0 (put I3 54 59 (nI hh)) := FrP.p4 (F1.tr b4.f) (by decide)
    have LV : LvP (put I3 54 59 (nI hh)) lev := fun u hu => by rw [pt_n (by decide)]; exact l1 u hu
    have pn : ¬ (put I3 54 59 (nI hh)) 54 60 = -2 → PlR c (nI th) B (rnum (wt c) A c) (rnum (wt c) A2 c) (put I3 54 59 (nI hh)) := fun z => by
      have e60 : put I3 54 59 (nI hh) 54 60 = I0 54 60 := by rw [pt_f (by decide), b4.2 60 (by decide) (by decide), a1 54 (by decide)]
      refine (rc.2 (fun y => z (e60.trans y))).cg e60 ?_ ?_
      · rw [pt_n (by decide), b4.1 79 (by decide) (by decide) (by decide) (by decide), a1 79 (by decide)]
      · rw [pt_n (by decide), b4.1 80 (by decide) (by decide) (by decide) (by decide), a1 80 (by decide)]
    have key : InvM (put I3 54 59 (nI hh)) (t + 1) ∧ OutM I (put I3 54 59 (nI hh)) ∧ RlN I (put I3 54 59 (nI hh)) := by
      refine ⟨h0.pl (st := st3) F3 ⟨?_, RcM.mk (K0.cg (F3.1 56 (by decide) (by decide))) (Or.inr ⟨hh, lev, n6, pt_s, LV, fun u k hk => ?_⟩) pn⟩ ⟨by rw [pt_f (by decide)]; exact b2.1, fun u hu => by rw [pt_n (by decide)]; exact b2.2 u hu⟩ (by omega), o0.tr F3.o, r0.tr F3.rl⟩
      · refine h0.2.2.2.2.1.1.w (c := c) ?_ ?_ c3 c5 (fun i hi => ?_)
        · rw [pt_f (by decide), b4.2 60 (by decide) (by decide), a1 54 (by decide)]
        · rw [pt_n (by decide), b4.1 56 (by decide) (by decide) (by decide) (by decide)]; exact P1.1.1
        · rw [pt_n (by decide), b4.1 72 (by decide) (by decide) (by decide) (by decide)]; exact a2 i hi
      · rw [l2 u k]
        exact ⟨fun z => z.2, fun z => ⟨hk, z⟩⟩
    have tr : ((-1 : Int32) = -1) = True := eq_true rfl
    have lp := rcK_lp (d := d + 6) (n := hh) (lev := lev) (I := put I3 54 59 (nI hh)) (L := L) (Q := Q) (by omega) hS hR LV (hq _ _ _ key.1 key.2.1 key.2.2 (Or.inr ⟨hh, _, n6, rfl, fun k _ => ?_, rfl⟩)) 59049 0 (by omega)
    · simp only [E214_50, E214_51, E214_52, E214_53, E214_54, E214_57, E214_58, E214_61, E214_62, E214_65, E214_66, E214_67, E214_68, pk54 hS, rfs, rfn, cs0, csi, csl, csr, csn, kti, ktl, ktr, ktn, ktv, ktf, true_and, and_true, and_self, ↓reduceIte, Nat.reduceAdd, Nat.reduceSub, Nat.reduceMul, Nat.reduceLT, Nat.reduceLeDiff, Nat.reduceEqDiff, true_or, or_true, false_or, or_false, not_true_eq_false, not_false_eq_true, reduceCtorEq, cmp_lt, cmp_gt, cmp_eq, Int32.reduceAdd, Int32.reduceSub, Int32.reduceMul, Int32.reduceLT, Int32.reduceToNatClampNeg, eq_self, ne_eq, Int64.reduceAdd, Int64.reduceSub, Int64.reduceMul, Int64.reduceLT, pt, tr]
      exact lp
    · show (lev k).testBit hh = true ↔ _
      rw [l2 k hh]
      exact ⟨fun z => z.2, fun z => ⟨Nat.le_refl _, z⟩⟩
  · obtain ⟨h', lev, g1, g2, g3, g4⟩ : ∃ h' lev, h' ≤ 6 ∧ I0 54 59 = nI h' ∧ LvP I0 lev ∧ ∀ u k, k ≤ h' → ((lev u).testBit k = true ↔ Lev (wt c) c (nI th) B (rnum (wt c) A c) k u) := by
      rcases rc.1 with z | z
      · refine absurd ?_ lt
        rw [z, Int32.lt_iff_toInt_lt, nI_toInt (by omega)]
        have a : (-1 : Int32).toInt = -1 := rfl
        omega
      · exact z
    have nh : n ≤ h' := by
      rw [g2] at lt
      exact Nat.le_of_not_lt (fun z => lt (nI_lt z (by omega)))
    simp only [E214_19, E214_20, E214_23, E214_24, E214_65, E214_66, E214_67, E214_68, pk54 hS, rfs, rfn, cs0, csi, csl, csr, csn, kti, ktl, ktr, ktn, ktv, ktf, true_and, and_true, and_self, ↓reduceIte, Nat.reduceAdd, Nat.reduceSub, Nat.reduceMul, Nat.reduceLT, Nat.reduceLeDiff, Nat.reduceEqDiff, true_or, or_true, false_or, or_false, not_true_eq_false, not_false_eq_true, reduceCtorEq, cmp_lt, cmp_gt, cmp_eq, Int32.reduceAdd, Int32.reduceSub, Int32.reduceMul, Int32.reduceLT, Int32.reduceToNatClampNeg, eq_self, ne_eq, Int64.reduceAdd, Int64.reduceSub, Int64.reduceMul, Int64.reduceLT, lt]
    refine rcK_lp (d := d + 6) (n := n) (lev := lev) (by omega) hS hR g3 (hq _ _ _ (h0.mono (by omega)) o0 r0 (Or.inr ⟨n, _, n6, rfl, fun k _ => ?_, rfl⟩)) 59049 0 (by omega)
    exact g4 k n nh
theorem m_striker (hK : StM I c A A2 th B) (ht : t < 512) (hS : Pm S) (hR : Pr R) (h : InvM I t) (hq : ∀ v J L', InvM J (t + 1) → OutM I J → RlN I J → (∃ v1, MinH (wt c) c (nI th) B (rnum (wt c) A c) (rnum (wt c) A2 c) v1 ∧ ((v1 = -1 ∧ v = -1) ∨ (¬ v1 = -1 ∧ ∃ v2, MinH (wt c) c (nI th) (B + 1) (rnum (wt c) A c) (rnum (wt c) A2 c) v2 ∧ v = if v2 = -1 then -1 else v1 - v2))) → Q (.int v) S J L' R) : EvM (d + 9) 222 [.ref 54] S I L R Q := by
  have h0 : InvM (put I 54 0 0) t := h.p0
  have o0 : OutM I (put I 54 0 0) := (by repeat (first | exact OutM.rf | apply telF_o | refine OutM.pt ?_ (by decide) (by decide)))
  have r0 : RlN I (put I 54 0 0) := (by repeat (first | exact RlN.rf | apply RlN.tel | refine RlN.p4 ?_ (by decide) | refine RlN.pa ?_ (by decide)))
  have K0 : StM (put I 54 0 0) c A A2 th B := hK.cg (pt_n (by decide))
  simp only [M222, E222_0, E222_1, E222_2, E222_5, E222_6, pk54 hS, rfs, rfn, cs0, csi, csl, csr, csn, kti, ktl, ktr, ktn, ktv, ktf, true_and, and_true, and_self, ↓reduceIte, Nat.reduceAdd, Nat.reduceSub, Nat.reduceMul, Nat.reduceLT, Nat.reduceLeDiff, Nat.reduceEqDiff, true_or, or_true, false_or, or_false, not_true_eq_false, not_false_eq_true, reduceCtorEq, cmp_lt, cmp_gt, cmp_eq, Int32.reduceAdd, Int32.reduceSub, Int32.reduceMul, Int32.reduceLT, Int32.reduceToNatClampNeg, eq_self, ne_eq, Int64.reduceAdd, Int64.reduceSub, Int64.reduceMul, Int64.reduceLT, pt]
  generalize put I 54 0 0 = I0 at h0 o0 r0 K0 ⊢
  obtain ⟨st, s1, s2⟩ := h0.2.2.2.2.2.r
  have rc := h0.2.2.2.2.1.2 _ _ _ _ _ K0
  obtain ⟨f1, t1⟩ := K0.r
  refine fpl (d := d) (st := st) K0 rc.2 hS hR h0.1 h0.2.2.2.2.1.1 s2 (by omega) (fun J st' k1 k2 k3 k4 k5 k6 => ?_)
  have KJ : StM J c A A2 th B := K0.cg (k3.1 56 (by decide) (by decide))
  have hJ : InvM J (t + 1) := h0.pl k3 ⟨k4.m, rcp K0 k3 k5 rc.1 k6⟩ k1 (by omega)
  obtain ⟨hc, e0, e3, e10, B4, kA, kA2⟩ := id KJ
  obtain ⟨e60, c', e0', c3, c5, W⟩ := k4
  obtain rfl : c' = c := (nI_eq (by omega) (by omega)).mp (e0'.symm.trans e0)
  have B4' : B < 16 := B4
  by_cases e1 : J 54 60 = -1
  · have e1' := eq_true e1
    simp only [E222_9, E222_10, E222_13, E222_14, E222_17, E222_18, pk54 hS, rfs, rfn, cs0, csi, csl, csr, csn, kti, ktl, ktr, ktn, ktv, ktf, true_and, and_true, and_self, ↓reduceIte, Nat.reduceAdd, Nat.reduceSub, Nat.reduceMul, Nat.reduceLT, Nat.reduceLeDiff, Nat.reduceEqDiff, true_or, or_true, false_or, or_false, not_true_eq_false, not_false_eq_true, reduceCtorEq, cmp_lt, cmp_gt, cmp_eq, Int32.reduceAdd, Int32.reduceSub, Int32.reduceMul, Int32.reduceLT, Int32.reduceToNatClampNeg, eq_self, ne_eq, Int64.reduceAdd, Int64.reduceSub, Int64.reduceMul, Int64.reduceLT, e1']
    exact hq _ J _ hJ (o0.tr k3.o) (r0.tr k3.rl) ⟨_, k5.1, Or.inl ⟨e1, rfl⟩⟩
  have z10 : inb 10 8060 = True := inb_nI (j := 10) (by decide) (by decide)
  have c10 : Int32.toNatClampNeg 10 = 10 := rfl
  have hs : Rst (put J 54 59 (-1)) 59049 st' := ⟨by rw [pt_f (by decide)]; exact k1.1, fun u hu => by rw [pt_n (by decide)]; exact k1.2 u hu⟩
  have W' : Wt (put J 54 59 (-1)) c' := fun i hi => by rw [pt_n (by decide)]; exact W i hi
  have q6 : put J 54 59 (-1) 56 = J 56 := pt_n (by decide)
  have Fa : FrP J (put J 54 59 (-1)) := FrP.p4 FrP.rf (by decide)
  have f60 : put J 54 59 (-1) 54 60 = J 54 60 := pt_f (by decide)
  have f59 : put J 54 59 (-1) 54 59 = -1 := pt_s
  have PJ : PlR c' (nI th) B (rnum (wt c') A c') (rnum (wt c') A2 c') (put J 54 59 (-1)) := k5.cg f60 (pt_n (by decide)) (pt_n (by decide))
  simp only [E222_9, E222_10, E222_13, E222_14, E222_19, E222_20, E222_21, E222_24, E222_25, E222_26, E222_28, pk54 hS, rfs, rfn, cs0, csi, csl, csr, csn, kti, ktl, ktr, ktn, ktv, ktf, true_and, and_true, and_self, ↓reduceIte, Nat.reduceAdd, Nat.reduceSub, Nat.reduceMul, Nat.reduceLT, Nat.reduceLeDiff, Nat.reduceEqDiff, true_or, or_true, false_or, or_false, not_true_eq_false, not_false_eq_true, reduceCtorEq, cmp_lt, cmp_gt, cmp_eq, Int32.reduceAdd, Int32.reduceSub, Int32.reduceMul, Int32.reduceLT, Int32.reduceToNatClampNeg, eq_self, ne_eq, Int64.reduceAdd, Int64.reduceSub, Int64.reduceMul, Int64.reduceLT, e1, pt]
  generalize put J 54 59 (-1) = J1 at hs W' q6 Fa f60 f59 PJ ⊢
  have e0'' : J1 56 0 = nI c' := by rw [q6]; exact e0
  refine rwaK (A := 20) (a := A) (d := d + 7) (Or.inl rfl) hS hR c5 e0'' W' (fun i hi => by rw [q6]; exact ⟨(kA i hi).1, (kA i hi).2.1⟩) ?_
  have i10 : J1 56 10 = nI B := by rw [q6]; exact e10
  simp only [E222_31, E222_32, E222_35, E222_37, E222_38, E222_39, E222_40, E222_41, E222_43, pk54 hS, pk56 hS, pl56 hS, pa56 hS, pi56 hS, pr54_3 hR, rfs, rfn, cs0, csi, csl, csr, csn, kti, ktl, ktr, ktn, ktv, ktf, true_and, and_true, and_self, ↓reduceIte, Nat.reduceAdd, Nat.reduceSub, Nat.reduceMul, Nat.reduceLT, Nat.reduceLeDiff, Nat.reduceEqDiff, true_or, or_true, false_or, or_false, not_true_eq_false, not_false_eq_true, reduceCtorEq, cmp_lt, cmp_gt, cmp_eq, Int32.reduceAdd, Int32.reduceSub, Int32.reduceMul, Int32.reduceLT, Int32.reduceToNatClampNeg, eq_self, ne_eq, Int64.reduceAdd, Int64.reduceSub, Int64.reduceMul, Int64.reduceLT, z10, c10, i10, nI_1]
  refine rwaK (A := 30) (a := A2) (d := d + 7) (Or.inr rfl) hS hR c5 e0'' W' (fun i hi => by rw [q6]; exact ⟨(kA2 i hi).1, (kA2 i hi).2.1⟩) ?_
  simp only [E222_46, E222_48, pk54 hS, rfs, rfn, cs0, csi, csl, csr, csn, kti, ktl, ktr, ktn, ktv, ktf, true_and, and_true, and_self, ↓reduceIte, Nat.reduceAdd, Nat.reduceSub, Nat.reduceMul, Nat.reduceLT, Nat.reduceLeDiff, Nat.reduceEqDiff, true_or, or_true, false_or, or_false, not_true_eq_false, not_false_eq_true, reduceCtorEq, cmp_lt, cmp_gt, cmp_eq, Int32.reduceAdd, Int32.reduceSub, Int32.reduceMul, Int32.reduceLT, Int32.reduceToNatClampNeg, eq_self, ne_eq, Int64.reduceAdd, Int64.reduceSub, Int64.reduceMul, Int64.reduceLT]
  refine flT (d := d + 3) (c := c') (B := B + 1) (nu := J1 56 3) (w := wt c') (last := 6) (st := st') (r := rnum (wt c') A c') hS hR (wtO hc) c5 (mvN hc) (by omega) f1 (by decide) (Or.inr ⟨_, t1, rfl⟩) (by omega) ⟨e0'', rfl, W'⟩ hs (fun I3 lev st3 hh v b1 b2 b3 b4 => ?_)
  have b3' : st3 ≤ st' + 1771470 := b3
  have m2 := flz_min b1 rfl t1
  rw [q6, e3] at m2
  have F3 : FrP I0 I3 := (k3.tr Fa).tr b4.f
  have K : InvM I3 (t + 1) := h0.pl (st := st3) F3 (by
    refine ⟨Or.inr ⟨?_, c', ?_, c3, c5, fun i hi => ?_⟩, RcM.mk (K0.cg (F3.1 56 (by decide) (by decide))) (Or.inl ((b4.2 59 (by decide) (by decide)).trans f59)) (fun _ => b4.pr PJ)⟩
    · rw [b4.2 60 (by decide) (by decide), f60]; exact e60
    · rw [b4.1 56 (by decide) (by decide) (by decide) (by decide)]; exact e0''
    · rw [b4.1 72 (by decide) (by decide) (by decide) (by decide)]; exact W' i hi) b2 (by omega)
  have j60 : I3 54 60 = J 54 60 := (b4.2 60 (by decide) (by decide)).trans f60
  by_cases hv : v = -1
  · have hv' : (v = -1) = True := eq_true hv
    simp only [E222_51, E222_52, E222_53, E222_54, E222_57, E222_58, E222_61, E222_62, E222_65, E222_66, E222_67, pk54 hS, rfs, rfn, cs0, csi, csl, csr, csn, kti, ktl, ktr, ktn, ktv, ktf, true_and, and_true, and_self, ↓reduceIte, Nat.reduceAdd, Nat.reduceSub, Nat.reduceMul, Nat.reduceLT, Nat.reduceLeDiff, Nat.reduceEqDiff, true_or, or_true, false_or, or_false, not_true_eq_false, not_false_eq_true, reduceCtorEq, cmp_lt, cmp_gt, cmp_eq, Int32.reduceAdd, Int32.reduceSub, Int32.reduceMul, Int32.reduceLT, Int32.reduceToNatClampNeg, eq_self, ne_eq, Int64.reduceAdd, Int64.reduceSub, Int64.reduceMul, Int64.reduceLT, hv']
    exact hq _ I3 _ K (o0.tr F3.o) (r0.tr F3.rl) ⟨_, k5.1, Or.inr ⟨e1, v, m2, by rw [if_pos hv]⟩⟩
  · simp only [E222_51, E222_52, E222_53, E222_54, E222_57, E222_58, E222_61, E222_62, E222_65, E222_66, E222_67, pk54 hS, rfs, rfn, cs0, csi, csl, csr, csn, kti, ktl, ktr, ktn, ktv, ktf, true_and, and_true, and_self, ↓reduceIte, Nat.reduceAdd, Nat.reduceSub, Nat.reduceMul, Nat.reduceLT, Nat.reduceLeDiff, Nat.reduceEqDiff, true_or, or_true, false_or, or_false, not_true_eq_false, not_false_eq_true, reduceCtorEq, cmp_lt, cmp_gt, cmp_eq, Int32.reduceAdd, Int32.reduceSub, Int32.reduceMul, Int32.reduceLT, Int32.reduceToNatClampNeg, eq_self, ne_eq, Int64.reduceAdd, Int64.reduceSub, Int64.reduceMul, Int64.reduceLT, hv, j60]
    exact hq _ I3 _ K (o0.tr F3.o) (r0.tr F3.rl) ⟨_, k5.1, Or.inr ⟨e1, v, m2, by rw [if_neg hv]⟩⟩
theorem ev1K_lp {x1 : Int32} {a : Nat → Nat} {y4 y5 : Value} (hS : Pm S) (hR : Pr R) (hc : c ≤ 5) (h0 : I 56 0 = nI c) (hi : ∀ i, i < c → I 56 (30 + i) = nI (a i)) (hq : Ev (d + 1) 221 53 [.ref 54, .int x1, .int (nI (isum a c)), .int (nI c), y4, y5] [] S I L R Q) : ∀ (q i : Nat), i + q = c → Ev (d + 1) 221 25 [.ref 54, .int x1, .int (nI (isum a i)), .int (nI i), y4, y5] [] S I L R Q := by
  have z0 : inb 0 8060 = True := inb_nI (j := 0) (by decide) (by decide)
  have c0 : Int32.toNatClampNeg 0 = 0 := rfl
  intro q
  induction q with
  | zero =>
    intro i h1
    obtain rfl : i = c := by omega
    have e0 : (nI i < nI i) = False := eq_false (nI_nlt (Nat.le_refl i) (by omega))
    rw [E221_25]
    simp only [E221_26, E221_27, E221_30, E221_31, E221_32, pk54 hS, pk56 hS, pl56 hS, pa56 hS, pi56 hS, pr54_3 hR, rfs, rfn, cs0, csi, csl, csr, csn, kti, ktl, ktr, ktn, ktv, ktf, true_and, and_true, and_self, ↓reduceIte, Nat.reduceAdd, Nat.reduceSub, Nat.reduceMul, Nat.reduceLT, Nat.reduceLeDiff, Nat.reduceEqDiff, true_or, or_true, false_or, or_false, not_true_eq_false, not_false_eq_true, reduceCtorEq, cmp_lt, cmp_gt, cmp_eq, Int32.reduceAdd, Int32.reduceSub, Int32.reduceMul, Int32.reduceLT, Int32.reduceToNatClampNeg, eq_self, ne_eq, Int64.reduceAdd, Int64.reduceSub, Int64.reduceMul, Int64.reduceLT, z0, c0, h0, e0]
    exact hq
  | succ q ih =>
    intro i h1
    have e1 : (nI i < nI c) = True := eq_true (nI_lt (by omega) (by omega))
    have ex := hi i (by omega)
    have eA : (30 : Int32) + nI i = nI (30 + i) := by rw [show (30 : Int32) = nI 30 from rfl, nI_add]
    have b0 : inb (nI (30 + i)) 8060 = True := inb_nI (by omega) (by decide)
    have b1 : (nI (30 + i)).toNatClampNeg = 30 + i := nI_clamp (by omega)
    have es : nI (isum a i) + nI (a i) = nI (isum a (i + 1)) := by
      rw [nI_add]
      rfl
    rw [E221_25]
    simp only [E221_26, E221_27, E221_30, E221_31, E221_32, E221_35, E221_36, E221_37, E221_40, E221_42, E221_43, E221_44, E221_45, E221_46, E221_47, E221_50, pk54 hS, pk56 hS, pl56 hS, pa56 hS, pi56 hS, pr54_3 hR, rfs, rfn, cs0, csi, csl, csr, csn, kti, ktl, ktr, ktn, ktv, ktf, true_and, and_true, and_self, ↓reduceIte, Nat.reduceAdd, Nat.reduceSub, Nat.reduceMul, Nat.reduceLT, Nat.reduceLeDiff, Nat.reduceEqDiff, true_or, or_true, false_or, or_false, not_true_eq_false, not_false_eq_true, reduceCtorEq, cmp_lt, cmp_gt, cmp_eq, Int32.reduceAdd, Int32.reduceSub, Int32.reduceMul, Int32.reduceLT, Int32.reduceToNatClampNeg, eq_self, ne_eq, Int64.reduceAdd, Int64.reduceSub, Int64.reduceMul, Int64.reduceLT, z0, c0, h0, e1, eA, b0, b1, ex, es, nI_1]
    exact ih (i + 1) (by omega)
theorem ev3K_lp {x1 x2 : Int32} {k0 : Nat} (hS : Pm S) (hR : Pr R) (hc : c ≤ 5) (h0 : I 56 0 = nI c) (hw : Wt I c) (hq : Ev (d + 1) 221 100 [.ref 54, .int x1, .int x2, .int (nI (k0 + 1)), .int (nI (evr (wt c) c (k0 + 1))), .int (nI c)] [] S I L R Q) : ∀ (q i : Nat), i + q = c → Ev (d + 1) 221 67 [.ref 54, .int x1, .int x2, .int (nI (k0 + 1)), .int (nI (rnum (wt c) (fun _ => k0 + 1) i)), .int (nI i)] [] S I L R Q := by
  have z0 : inb 0 8060 = True := inb_nI (j := 0) (by decide) (by decide)
  have c0 : Int32.toNatClampNeg 0 = 0 := rfl
  intro q
  induction q with
  | zero =>
    intro i h1
    obtain rfl : i = c := by omega
    have e0 : (nI i < nI i) = False := eq_false (nI_nlt (Nat.le_refl i) (by omega))
    rw [E221_67]
    simp only [E221_69, E221_70, E221_73, E221_74, E221_75, pk54 hS, pk56 hS, pl56 hS, pa56 hS, pi56 hS, pr54_3 hR, rfs, rfn, cs0, csi, csl, csr, csn, kti, ktl, ktr, ktn, ktv, ktf, true_and, and_true, and_self, ↓reduceIte, Nat.reduceAdd, Nat.reduceSub, Nat.reduceMul, Nat.reduceLT, Nat.reduceLeDiff, Nat.reduceEqDiff, true_or, or_true, false_or, or_false, not_true_eq_false, not_false_eq_true, reduceCtorEq, cmp_lt, cmp_gt, cmp_eq, Int32.reduceAdd, Int32.reduceSub, Int32.reduceMul, Int32.reduceLT, Int32.reduceToNatClampNeg, eq_self, ne_eq, Int64.reduceAdd, Int64.reduceSub, Int64.reduceMul, Int64.reduceLT, z0, c0, h0, e0]
    exact hq
  | succ q ih =>
    intro i h1
    have e1 : (nI i < nI c) = True := eq_true (nI_lt (by omega) (by omega))
    have a0 : inb (nI i) 5 = True := inb_nI (by omega) (by decide)
    have a1 : (nI i).toNatClampNeg = i := nI_clamp (by omega)
    have wi := hw i (by omega)
    have es : nI (rnum (wt c) (fun _ => k0 + 1) i) + nI (wt c i) * nI k0 = nI (rnum (wt c) (fun _ => k0 + 1) (i + 1)) := by
      rw [pk_mul, nI_add]
      congr 1
      show _ = rnum (wt c) (fun _ => k0 + 1) i + (k0 + 1 - 1) * wt c i
      rw [Nat.add_sub_cancel, Nat.mul_comm]
    rw [E221_67]
    simp only [E221_69, E221_70, E221_73, E221_74, E221_75, E221_78, E221_80, E221_81, E221_84, E221_86, E221_87, E221_88, E221_89, E221_90, E221_91, E221_92, E221_94, E221_97, pk54 hS, pk56 hS, pl56 hS, pa56 hS, pi56 hS, pk72 hS, pl72 hS, pa72 hS, pi72 hS, pr54_3 hR, pr54_50 hR, rfs, rfn, cs0, csi, csl, csr, csn, kti, ktl, ktr, ktn, ktv, ktf, true_and, and_true, and_self, ↓reduceIte, Nat.reduceAdd, Nat.reduceSub, Nat.reduceMul, Nat.reduceLT, Nat.reduceLeDiff, Nat.reduceEqDiff, true_or, or_true, false_or, or_false, not_true_eq_false, not_false_eq_true, reduceCtorEq, cmp_lt, cmp_gt, cmp_eq, Int32.reduceAdd, Int32.reduceSub, Int32.reduceMul, Int32.reduceLT, Int32.reduceToNatClampNeg, eq_self, ne_eq, Int64.reduceAdd, Int64.reduceSub, Int64.reduceMul, Int64.reduceLT, z0, c0, h0, e1, a0, a1, wi, nI_m1, es, nI_1]
    exact ih (i + 1) (by omega)
theorem ev2K_lp {a B tg st0 : Nat} {nu : Int32} (hS : Pm S) (hR : Pr R) (hc : c = 3 ∨ c = 4 ∨ c = 5) (hB : B < 2 ^ 24) (ha : a ≤ 45) (hta : irn (wt c) tg c = a) (htg : tg < 59049) (hst : st0 + 1771470 * 3 < 2 ^ 32) : ∀ (q k n : Nat) (I : mI) (st : Nat) (y4 y5 : Value), k + q = 10 → 1 ≤ k → n ≤ 3 → (n = 0 ∨ (n ≤ k ∧ a ≤ c * (k - n))) → st ≤ st0 + 1771470 * n → PnS I c nu B st → (∀ k', 1 ≤ k' → k' < k → noL (wt c) c nu B (evr (wt c) c k') tg) → (∀ v J st', PnS J c nu B st' → st' ≤ st0 + 1771470 * 3 → FrL I J → EvA (wt c) c nu B tg v → Q (.int v) S J L R) → Ev (d + 6) 221 55 [.ref 54, .int (nI tg), .int (nI a), .int (nI k), y4, y5] [] S I L R Q := by
  have z10 : inb 10 8060 = True := inb_nI (j := 10) (by decide) (by decide)
  have c10 : Int32.toNatClampNeg 10 = 10 := rfl
  have z0 : inb 0 8060 = True := inb_nI (j := 0) (by decide) (by decide)
  have c0 : Int32.toNatClampNeg 0 = 0 := rfl
  intro q
  induction q with
  | zero =>
    intro k n I st y4 y5 h1 h2 h3 h4 h5 hP hno hq
    obtain rfl : k = 10 := by omega
    have e : ((9 : Int32) < nI 10) = True := eq_true (by decide)
    rw [E221_55]
    simp only [E221_56, E221_58, E221_153, E221_154, rfs, rfn, cs0, csi, csl, csr, csn, kti, ktl, ktr, ktn, ktv, ktf, true_and, and_true, and_self, ↓reduceIte, Nat.reduceAdd, Nat.reduceSub, Nat.reduceMul, Nat.reduceLT, Nat.reduceLeDiff, Nat.reduceEqDiff, true_or, or_true, false_or, or_false, not_true_eq_false, not_false_eq_true, reduceCtorEq, cmp_lt, cmp_gt, cmp_eq, Int32.reduceAdd, Int32.reduceSub, Int32.reduceMul, Int32.reduceLT, Int32.reduceToNatClampNeg, eq_self, ne_eq, Int64.reduceAdd, Int64.reduceSub, Int64.reduceMul, Int64.reduceLT, e]
    exact hq _ I st hP (by omega) FrL.rf (Or.inl ⟨rfl, fun k k1 k2 => hno k k1 (by omega)⟩)
  | succ q ih =>
    intro k n I st y4 y5 h1 h2 h3 h4 h5 hP hno hq
    obtain ⟨k0, rfl⟩ : ∃ k0, k = k0 + 1 := ⟨k - 1, by omega⟩
    have e : ((9 : Int32) < nI (k0 + 1)) = False := eq_false (by
      rw [show (9 : Int32) = nI 9 from rfl]
      exact nI_nlt (by omega) (by omega))
    have i0 := hP.1.1
    have i10 := hP.2.1
    obtain ⟨ev1, ev2⟩ := ev_n hc (k0 + 1) (by omega) (by omega)
    have r1 : evr (wt c) c (k0 + 1) < 59049 := by
      have := (n9c hc).2
      omega
    have nx : noL (wt c) c nu B (evr (wt c) c (k0 + 1)) tg → ∀ k', 1 ≤ k' → k' < k0 + 1 + 1 → noL (wt c) c nu B (evr (wt c) c k') tg := fun z k' k1 k2 => by
      by_cases y : k' = k0 + 1
      · rw [y]; exact z
      · exact hno k' k1 (by omega)
    rw [E221_55]
    simp only [E221_56, E221_58, E221_61, E221_62, E221_64, E221_65, rfs, rfn, cs0, csi, csl, csr, csn, kti, ktl, ktr, ktn, ktv, ktf, true_and, and_true, and_self, ↓reduceIte, Nat.reduceAdd, Nat.reduceSub, Nat.reduceMul, Nat.reduceLT, Nat.reduceLeDiff, Nat.reduceEqDiff, true_or, or_true, false_or, or_false, not_true_eq_false, not_false_eq_true, reduceCtorEq, cmp_lt, cmp_gt, cmp_eq, Int32.reduceAdd, Int32.reduceSub, Int32.reduceMul, Int32.reduceLT, Int32.reduceToNatClampNeg, eq_self, ne_eq, Int64.reduceAdd, Int64.reduceSub, Int64.reduceMul, Int64.reduceLT, e]
    refine ev3K_lp (d := d + 5) (k0 := k0) hS hR (by omega) i0 hP.1.2.2 ?_ c 0 (by omega)
    have em : nI (k0 + 1) * nI c = nI ((k0 + 1) * c) := by rw [pk_mul]
    have ckc : (k0 + 1) * c ≤ 45 := by
      rcases hc with rfl | rfl | rfl <;> omega
    have hin := sub9 ((k0 + 1) * c) (by omega) a (by omega)
    by_cases gi : a ≤ (k0 + 1) * c ∧ (k0 + 1) * c ≤ a + 6
    · rw [decide_eq_true gi] at hin
      have n2 : n ≤ 2 := by
        rcases hc with rfl | rfl | rfl <;> omega
      simp only [E221_100, E221_101, E221_102, E221_105, E221_106, E221_107, E221_108, E221_109, E221_110, E221_112, E221_114, E221_115, E221_116, E221_119, E221_122, E221_125, E221_126, E221_128, E221_129, E221_132, E221_134, E221_135, E221_136, E221_138, inn, pk54 hS, pk56 hS, pl56 hS, pa56 hS, pi56 hS, pr54_3 hR, rfs, rfn, cs0, csi, csl, csr, csn, kti, ktl, ktr, ktn, ktv, ktf, true_and, and_true, and_self, ↓reduceIte, Nat.reduceAdd, Nat.reduceSub, Nat.reduceMul, Nat.reduceLT, Nat.reduceLeDiff, Nat.reduceEqDiff, true_or, or_true, false_or, or_false, not_true_eq_false, not_false_eq_true, reduceCtorEq, cmp_lt, cmp_gt, cmp_eq, Int32.reduceAdd, Int32.reduceSub, Int32.reduceMul, Int32.reduceLT, Int32.reduceToNatClampNeg, eq_self, ne_eq, Int64.reduceAdd, Int64.reduceSub, Int64.reduceMul, Int64.reduceLT, z0, c0, z10, c10, i0, i10, em, hin, bI_t, n1_0]
      refine flT (d := d) (c := c) (B := B) (nu := nu) (w := wt c) (last := 6) (st := st) (r := evr (wt c) c (k0 + 1)) hS hR (wtO hc) (by omega) (mvN hc) hB r1 (by decide) (Or.inr ⟨tg, htg, rfl⟩) (by omega) hP.1 hP.2.2 (fun I3 lev st3 hh v b1 b2 b3 b4 => ?_)
      have b3' : st3 ≤ st + 1771470 := b3
      have m2 := flz_min b1 rfl htg
      have P3 : PnS I3 c nu B st3 := ⟨hP.1.l b4, by rw [b4.1 56 (by decide) (by decide) (by decide) (by decide)]; exact hP.2.1, b2⟩
      by_cases hv : v = -1
      · have hv' : (v = -1) = True := eq_true hv
        simp only [E221_141, E221_142, E221_145, E221_146, E221_147, E221_150, rfs, rfn, cs0, csi, csl, csr, csn, kti, ktl, ktr, ktn, ktv, ktf, true_and, and_true, and_self, ↓reduceIte, Nat.reduceAdd, Nat.reduceSub, Nat.reduceMul, Nat.reduceLT, Nat.reduceLeDiff, Nat.reduceEqDiff, true_or, or_true, false_or, or_false, not_true_eq_false, not_false_eq_true, reduceCtorEq, cmp_lt, cmp_gt, cmp_eq, Int32.reduceAdd, Int32.reduceSub, Int32.reduceMul, Int32.reduceLT, Int32.reduceToNatClampNeg, eq_self, ne_eq, Int64.reduceAdd, Int64.reduceSub, Int64.reduceMul, Int64.reduceLT, hv', nI_1]
        refine ih (k0 + 1 + 1) (n + 1) I3 st3 _ _ (by omega) (by omega) (by omega) (Or.inr ⟨by omega, ?_⟩) (Nat.le_trans b3' (by rw [Nat.mul_succ]; omega)) P3 (nx (m2.no.mp hv)) (fun v J st' w1 w2 w3 => hq v J st' w1 w2 (b4.tr w3))
        rcases hc with rfl | rfl | rfl <;> omega
      · simp only [E221_141, E221_142, E221_145, E221_146, rfs, rfn, cs0, csi, csl, csr, csn, kti, ktl, ktr, ktn, ktv, ktf, true_and, and_true, and_self, ↓reduceIte, Nat.reduceAdd, Nat.reduceSub, Nat.reduceMul, Nat.reduceLT, Nat.reduceLeDiff, Nat.reduceEqDiff, true_or, or_true, false_or, or_false, not_true_eq_false, not_false_eq_true, reduceCtorEq, cmp_lt, cmp_gt, cmp_eq, Int32.reduceAdd, Int32.reduceSub, Int32.reduceMul, Int32.reduceLT, Int32.reduceToNatClampNeg, eq_self, ne_eq, Int64.reduceAdd, Int64.reduceSub, Int64.reduceMul, Int64.reduceLT, hv]
        exact hq _ I3 st3 P3 (by omega) b4 (Or.inr ⟨k0 + 1, by omega, by omega, rfl, fun z => hv (m2.no.mpr z), hno⟩)
    · rw [decide_eq_false gi] at hin
      simp only [E221_100, E221_101, E221_102, E221_105, E221_106, E221_107, E221_108, E221_109, E221_110, E221_112, E221_114, E221_115, E221_116, E221_119, E221_122, E221_147, E221_150, inn, pk54 hS, pk56 hS, pl56 hS, pa56 hS, pi56 hS, pr54_3 hR, rfs, rfn, cs0, csi, csl, csr, csn, kti, ktl, ktr, ktn, ktv, ktf, true_and, and_true, and_self, ↓reduceIte, Nat.reduceAdd, Nat.reduceSub, Nat.reduceMul, Nat.reduceLT, Nat.reduceLeDiff, Nat.reduceEqDiff, true_or, or_true, false_or, or_false, not_true_eq_false, not_false_eq_true, reduceCtorEq, cmp_lt, cmp_gt, cmp_eq, Int32.reduceAdd, Int32.reduceSub, Int32.reduceMul, Int32.reduceLT, Int32.reduceToNatClampNeg, eq_self, ne_eq, Int64.reduceAdd, Int64.reduceSub, Int64.reduceMul, Int64.reduceLT, z0, c0, i0, em, hin, bI_f, nI_1]
      refine ih (k0 + 1 + 1) n I st _ _ (by omega) (by omega) h3 ?_ h5 hP (nx (fun h hh z => ?_)) hq
      · rcases hc with rfl | rfl | rfl <;> omega
      · have := irn_lev (wtO hc) (wt_9 hc) h tg z
        rw [ev2, hta] at this
        exact gi ⟨by omega, by omega⟩
theorem m_even (hK : StM I c A A2 th B) (ht : t < 512) (hS : Pm S) (hR : Pr R) (h : InvM I t) (hq : ∀ v J L', InvM J (t + 1) → OutM I J → RlN I J → EvA (wt c) c (nI th) B (rnum (wt c) A2 c) v → Q (.int v) S J L' R) : EvM (d + 7) 221 [.ref 54] S I L R Q := by
  have h0 : InvM (put I 54 0 0) t := h.p0
  have o0 : OutM I (put I 54 0 0) := (by repeat (first | exact OutM.rf | apply telF_o | refine OutM.pt ?_ (by decide) (by decide)))
  have r0 : RlN I (put I 54 0 0) := (by repeat (first | exact RlN.rf | apply RlN.tel | refine RlN.p4 ?_ (by decide) | refine RlN.pa ?_ (by decide)))
  have K0 : StM (put I 54 0 0) c A A2 th B := hK.cg (pt_n (by decide))
  simp only [M221, E221_0, E221_1, E221_2, E221_5, E221_6, pk54 hS, rfs, rfn, cs0, csi, csl, csr, csn, kti, ktl, ktr, ktn, ktv, ktf, true_and, and_true, and_self, ↓reduceIte, Nat.reduceAdd, Nat.reduceSub, Nat.reduceMul, Nat.reduceLT, Nat.reduceLeDiff, Nat.reduceEqDiff, true_or, or_true, false_or, or_false, not_true_eq_false, not_false_eq_true, reduceCtorEq, cmp_lt, cmp_gt, cmp_eq, Int32.reduceAdd, Int32.reduceSub, Int32.reduceMul, Int32.reduceLT, Int32.reduceToNatClampNeg, eq_self, ne_eq, Int64.reduceAdd, Int64.reduceSub, Int64.reduceMul, Int64.reduceLT, pt]
  generalize put I 54 0 0 = I0 at h0 o0 r0 K0 ⊢
  obtain ⟨st, s1, s2⟩ := h0.2.2.2.2.2.r
  have rc := h0.2.2.2.2.1.2 _ _ _ _ _ K0
  obtain ⟨f1, t1⟩ := K0.r
  obtain ⟨hc, e0, e3, e10, B4, kA, kA2⟩ := id K0
  have c3 : 3 ≤ c := by omega
  have c5 : c ≤ 5 := by omega
  have B4' : B < 16 := B4
  refine fwt (d := d + 5) hS hR hc e0 (fun I1 a1 a2 => ?_)
  obtain ⟨P1, F1⟩ := lay_w h0.1 e0 a1 a2 e10 s2
  have i6 : I1 56 = I0 56 := a1 56 (by decide)
  have P2 : PnS (put I1 54 59 (-1)) c (I0 56 3) B st := P1.cg (pt_n (by decide)) (pt_n (by decide)) (pt_n (by decide)) (pt_f (by decide))
  have F2 : FrP I0 (put I1 54 59 (-1)) := FrP.p4 F1 (by decide)
  have q6 : put I1 54 59 (-1) 56 = I0 56 := by rw [pt_n (by decide), i6]
  have q60 : put I1 54 59 (-1) 54 60 = I0 54 60 := by rw [pt_f (by decide), a1 54 (by decide)]
  have q59 : put I1 54 59 (-1) 54 59 = -1 := pt_s
  have q79 : put I1 54 59 (-1) 79 = I0 79 := by rw [pt_n (by decide), a1 79 (by decide)]
  have q80 : put I1 54 59 (-1) 80 = I0 80 := by rw [pt_n (by decide), a1 80 (by decide)]
  simp only [E221_9, E221_10, E221_11, E221_14, E221_15, E221_17, pk54 hS, rfs, rfn, cs0, csi, csl, csr, csn, kti, ktl, ktr, ktn, ktv, ktf, true_and, and_true, and_self, ↓reduceIte, Nat.reduceAdd, Nat.reduceSub, Nat.reduceMul, Nat.reduceLT, Nat.reduceLeDiff, Nat.reduceEqDiff, true_or, or_true, false_or, or_false, not_true_eq_false, not_false_eq_true, reduceCtorEq, cmp_lt, cmp_gt, cmp_eq, Int32.reduceAdd, Int32.reduceSub, Int32.reduceMul, Int32.reduceLT, Int32.reduceToNatClampNeg, eq_self, ne_eq, Int64.reduceAdd, Int64.reduceSub, Int64.reduceMul, Int64.reduceLT, pt]
  generalize put I1 54 59 (-1) = I2 at P2 F2 q6 q60 q59 q79 q80 ⊢
  have kB : ∀ i, i < c → I2 56 (30 + i) = nI (A2 i) ∧ 1 ≤ A2 i := fun i hi => by rw [q6]; exact ⟨(kA2 i hi).1, (kA2 i hi).2.1⟩
  refine rwaK (A := 30) (a := A2) (d := d + 5) (Or.inr rfl) hS hR c5 P2.1.1 P2.1.2.2 kB ?_
  simp only [E221_20, E221_21, E221_22, E221_23, E221_24, rfs, rfn, cs0, csi, csl, csr, csn, kti, ktl, ktr, ktn, ktv, ktf, true_and, and_true, and_self, ↓reduceIte, Nat.reduceAdd, Nat.reduceSub, Nat.reduceMul, Nat.reduceLT, Nat.reduceLeDiff, Nat.reduceEqDiff, true_or, or_true, false_or, or_false, not_true_eq_false, not_false_eq_true, reduceCtorEq, cmp_lt, cmp_gt, cmp_eq, Int32.reduceAdd, Int32.reduceSub, Int32.reduceMul, Int32.reduceLT, Int32.reduceToNatClampNeg, eq_self, ne_eq, Int64.reduceAdd, Int64.reduceSub, Int64.reduceMul, Int64.reduceLT]
  refine ev1K_lp (d := d + 6) (a := A2) hS hR c5 P2.1.1 (fun i hi => (kB i hi).1) ?_ c 0 (by omega)
  simp only [E221_53, E221_54, rfs, rfn, cs0, csi, csl, csr, csn, kti, ktl, ktr, ktn, ktv, ktf, true_and, and_true, and_self, ↓reduceIte, Nat.reduceAdd, Nat.reduceSub, Nat.reduceMul, Nat.reduceLT, Nat.reduceLeDiff, Nat.reduceEqDiff, true_or, or_true, false_or, or_false, not_true_eq_false, not_false_eq_true, reduceCtorEq, cmp_lt, cmp_gt, cmp_eq, Int32.reduceAdd, Int32.reduceSub, Int32.reduceMul, Int32.reduceLT, Int32.reduceToNatClampNeg, eq_self, ne_eq, Int64.reduceAdd, Int64.reduceSub, Int64.reduceMul, Int64.reduceLT]
  have is := irn_rn hc (fun i hi => (kA2 i hi).2)
  have il := isum_le c (fun i hi => (kA2 i hi).2)
  refine ev2K_lp (d := d + 1) (c := c) (B := B) (nu := I0 56 3) (st0 := st) hS hR hc (by omega) (by omega) is t1 (by omega) 9 1 0 I2 st _ _ (by omega) (by omega) (by omega) (Or.inl rfl) (by omega) P2 (fun k k1 k2 => by omega) (fun v J st' w1 w2 w3 w4 => ?_)
  have F3 : FrP I0 J := F2.tr w3.f
  rw [e3] at w4
  have j60 : J 54 60 = I0 54 60 := by rw [w3.2 60 (by decide) (by decide), q60]
  refine hq v J _ (h0.pl (st := st') F3 ⟨h0.2.2.2.2.1.1.w (c := c) j60 w1.1.1 c3 c5 w1.1.2.2, RcM.mk (K0.cg (F3.1 56 (by decide) (by decide))) (Or.inl ((w3.2 59 (by decide) (by decide)).trans q59)) (fun z => (rc.2 (fun y => z (j60.trans y))).cg j60 ?_ ?_)⟩ w1.2.2 (by omega)) (o0.tr F3.o) (r0.tr F3.rl) w4
  · rw [w3.1 79 (by decide) (by decide) (by decide) (by decide), q79]
  · rw [w3.1 80 (by decide) (by decide) (by decide) (by decide), q80]
end AS
