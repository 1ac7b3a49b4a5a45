/-! class Run: the postfix code of a STEP -/
def pvF (I : mI) (u : Nat) (w : Int32) : Int32 := if w = -4 then I (u + 2) 1 else if w = -3 then I (u + 2) 0 else if w = -2 then I u 6 else if w = -1 then I u 0 else w
def cvF (I : mI) (u : Nat) (w c : Int32) : Int32 := if w = -6 then bI (htB I u c) else if thr I u c = true then I (u + 1) c.toNatClampNeg else 0
def jnF (w a b : Int32) : Int32 := if w = -13 then a &&& b else if w = -12 then bI (decide (a = b)) else if w = -11 then bI (decide (b < a)) else if w = -10 then bI (decide (a < b)) else if w = -9 then a - b else if w = -8 then a + b else a ||| b
def puF (I : mI) (u : Nat) (v : Int32) : mI := if I u 8 < 64 then put (put I (u + 5) (I u 8).toNatClampNeg v) u 8 (I u 8 + 1) else I
def poV (I : mI) (u : Nat) : Int32 := if I u 8 < 1 then 0 else I (u + 5) (I u 8 - 1).toNatClampNeg
def poF (I : mI) (u : Nat) : mI := if I u 8 < 1 then I else put I u 8 (I u 8 - 1)
def Tp (I : mI) (u : Nat) : Prop := ∃ t, t ≤ 64 ∧ I u 8 = nI t
theorem Tp.pu {I : mI} {u : Nat} {v : Int32} (h : Tp I u) : Tp (puF I u v) u := by
  obtain ⟨t, ht, e⟩ := h
  unfold puF
  by_cases g : I u 8 < 64
  · rw [if_pos g]
    have lt : t < 64 := by
      apply Classical.byContradiction
      intro q
      rw [e] at g
      exact absurd g (nI_nlt (a := t) (b := 64) (by omega) (by omega))
    exact ⟨t + 1, by omega, by rw [pt_s, e, nI_1]⟩
  · rw [if_neg g]
    exact ⟨t, ht, e⟩
theorem Tp.po {I : mI} {u : Nat} (h : Tp I u) : Tp (poF I u) u := by
  obtain ⟨t, ht, e⟩ := h
  unfold poF
  by_cases g : I u 8 < 1
  · rw [if_pos g]
    exact ⟨t, ht, e⟩
  · rw [if_neg g]
    have lt : 1 ≤ t := by
      apply Classical.byContradiction
      intro q
      obtain rfl : t = 0 := by omega
      rw [e] at g
      exact g (by decide)
    refine ⟨t - 1, by omega, ?_⟩
    rw [pt_s, e]
    obtain ⟨k, rfl⟩ : ∃ k, t = k + 1 := ⟨t - 1, by omega⟩
    rw [← nI_1, Nat.add_sub_cancel]
    exact Int32.add_sub_cancel _ _
theorem i32n {x : Int32} {k : Int} (h : ¬ x.toInt = k) (y : Int32) (hy : y.toInt = k) : (x = y) = False := eq_false (fun e => h (by rw [e]; exact hy))
theorem i32e {x : Int32} (y : Int32) {k : Int} (h : x.toInt = k) (hy : y.toInt = k) : x = y := Int32.toInt_inj.mp (h.trans hy.symm)
section RUN
variable {d u : Nat} {S : mS} {I : mI} {L : mL} {R : mR} {Q : mQ}
theorem psh {v : Int32} (h : RunS S R u) (ht : Tp I u) : EvM (d + 1) 91 [.ref u, .int v] S I L R Q = Q .null S (puF I u v) L R := by
  unfold puF
  obtain ⟨t, h1, e⟩ := ht
  by_cases g : I u 8 < 64
  · have lt : t < 64 := by
      apply Classical.byContradiction
      intro q
      rw [e] at g
      exact absurd g (nI_nlt (a := t) (b := 64) (by omega) (by omega))
    have i1 : inb (I u 8) 64 = True := by rw [e]; exact inb_nI lt (by decide)
    simp only [M91, E91_0, E91_1, E91_4, E91_6, E91_9, E91_10, E91_13, E91_14, E91_17, E91_18, E91_19, E91_20, E91_21, E91_24, E91_25, E91_26, E91_29, ru0 h, ru1 h, ru2 h, ru3 h, ru4 h, ru5 h, ri1 h, ri2 h, ri3 h, ri4 h, ri5 h, rl1 h, rl2 h, rl3 h, rl4 h, rl5 h, ra1 h, ra2 h, ra3 h, ra4 h, ra5 h, rr1 h, rr2 h, rr3 h, rr4 h, rr5 h, rfs, rfn, cs0, csi, csl, csr, csn, kti, ktl, ktr, ktn, ktv, ktf, true_and, and_true, and_self, ↓reduceIte, Nat.reduceAdd, Nat.reduceSub, Nat.reduceMul, Nat.reduceLT, Nat.reduceLeDiff, Nat.reduceEqDiff, true_or, or_true, false_or, or_false, not_true_eq_false, not_false_eq_true, reduceCtorEq, cmp_lt, cmp_gt, cmp_eq, Int32.reduceAdd, Int32.reduceSub, Int32.reduceMul, Int32.reduceLT, Int32.reduceToNatClampNeg, eq_self, ne_eq, Int64.reduceAdd, Int64.reduceSub, Int64.reduceMul, Int64.reduceLT, ud0_1, ud0_2, ud0_3, ud0_4, ud0_5, ud1_0, ud1_2, ud1_3, ud1_4, ud1_5, ud2_0, ud2_1, ud2_3, ud2_4, ud2_5, ud3_0, ud3_1, ud3_2, ud3_4, ud3_5, ud4_0, ud4_1, ud4_2, ud4_3, ud4_5, ud5_0, ud5_1, ud5_2, ud5_3, ud5_4, ib0_14, ib1_14, ib2_14, ib3_14, ib4_14, ib5_14, ib6_14, ib7_14, ib8_14, ib9_14, ib10_14, ib11_14, ib12_14, ib13_14, ib0_64, ib1_64, pt, inc, dcr, orb, g, i1, pt_m]
  · simp only [M91, E91_0, E91_1, E91_4, E91_6, E91_9, E91_10, E91_13, E91_14, E91_17, E91_18, E91_19, E91_20, E91_21, E91_24, E91_25, E91_26, E91_29, ru0 h, ru1 h, ru2 h, ru3 h, ru4 h, ru5 h, ri1 h, ri2 h, ri3 h, ri4 h, ri5 h, rl1 h, rl2 h, rl3 h, rl4 h, rl5 h, ra1 h, ra2 h, ra3 h, ra4 h, ra5 h, rr1 h, rr2 h, rr3 h, rr4 h, rr5 h, rfs, rfn, cs0, csi, csl, csr, csn, kti, ktl, ktr, ktn, ktv, ktf, true_and, and_true, and_self, ↓reduceIte, Nat.reduceAdd, Nat.reduceSub, Nat.reduceMul, Nat.reduceLT, Nat.reduceLeDiff, Nat.reduceEqDiff, true_or, or_true, false_or, or_false, not_true_eq_false, not_false_eq_true, reduceCtorEq, cmp_lt, cmp_gt, cmp_eq, Int32.reduceAdd, Int32.reduceSub, Int32.reduceMul, Int32.reduceLT, Int32.reduceToNatClampNeg, eq_self, ne_eq, Int64.reduceAdd, Int64.reduceSub, Int64.reduceMul, Int64.reduceLT, ud0_1, ud0_2, ud0_3, ud0_4, ud0_5, ud1_0, ud1_2, ud1_3, ud1_4, ud1_5, ud2_0, ud2_1, ud2_3, ud2_4, ud2_5, ud3_0, ud3_1, ud3_2, ud3_4, ud3_5, ud4_0, ud4_1, ud4_2, ud4_3, ud4_5, ud5_0, ud5_1, ud5_2, ud5_3, ud5_4, ib0_14, ib1_14, ib2_14, ib3_14, ib4_14, ib5_14, ib6_14, ib7_14, ib8_14, ib9_14, ib10_14, ib11_14, ib12_14, ib13_14, ib0_64, ib1_64, pt, inc, dcr, orb, g]
theorem pop (h : RunS S R u) (ht : Tp I u) : EvM (d + 1) 92 [.ref u] S I L R Q = Q (.int (poV I u)) S (poF I u) L R := by
  unfold poV poF
  obtain ⟨t, h1, e⟩ := ht
  by_cases g : I u 8 < 1
  · simp only [M92, E92_0, E92_1, E92_4, E92_5, E92_8, E92_9, E92_10, E92_11, E92_12, E92_15, E92_16, E92_17, E92_20, E92_21, E92_24, E92_25, E92_28, E92_29, ru0 h, ru1 h, ru2 h, ru3 h, ru4 h, ru5 h, ri1 h, ri2 h, ri3 h, ri4 h, ri5 h, rl1 h, rl2 h, rl3 h, rl4 h, rl5 h, ra1 h, ra2 h, ra3 h, ra4 h, ra5 h, rr1 h, rr2 h, rr3 h, rr4 h, rr5 h, rfs, rfn, cs0, csi, csl, csr, csn, kti, ktl, ktr, ktn, ktv, ktf, true_and, and_true, and_self, ↓reduceIte, Nat.reduceAdd, Nat.reduceSub, Nat.reduceMul, Nat.reduceLT, Nat.reduceLeDiff, Nat.reduceEqDiff, true_or, or_true, false_or, or_false, not_true_eq_false, not_false_eq_true, reduceCtorEq, cmp_lt, cmp_gt, cmp_eq, Int32.reduceAdd, Int32.reduceSub, Int32.reduceMul, Int32.reduceLT, Int32.reduceToNatClampNeg, eq_self, ne_eq, Int64.reduceAdd, Int64.reduceSub, Int64.reduceMul, Int64.reduceLT, ud0_1, ud0_2, ud0_3, ud0_4, ud0_5, ud1_0, ud1_2, ud1_3, ud1_4, ud1_5, ud2_0, ud2_1, ud2_3, ud2_4, ud2_5, ud3_0, ud3_1, ud3_2, ud3_4, ud3_5, ud4_0, ud4_1, ud4_2, ud4_3, ud4_5, ud5_0, ud5_1, ud5_2, ud5_3, ud5_4, ib0_14, ib1_14, ib2_14, ib3_14, ib4_14, ib5_14, ib6_14, ib7_14, ib8_14, ib9_14, ib10_14, ib11_14, ib12_14, ib13_14, ib0_64, ib1_64, pt, inc, dcr, orb, g]
  · have lt : 1 ≤ t := by
      apply Classical.byContradiction
      intro q
      obtain rfl : t = 0 := by omega
      rw [e] at g
      exact g (by decide)
    have i1 : inb (I u 8 - 1) 64 = True := by
      rw [e]
      obtain ⟨k, rfl⟩ : ∃ k, t = k + 1 := ⟨t - 1, by omega⟩
      rw [← nI_1, show nI k + 1 - 1 = nI k from Int32.add_sub_cancel _ _]
      exact inb_nI (by omega) (by decide)
    simp only [M92, E92_0, E92_1, E92_4, E92_5, E92_8, E92_9, E92_10, E92_11, E92_12, E92_15, E92_16, E92_17, E92_20, E92_21, E92_24, E92_25, E92_28, E92_29, ru0 h, ru1 h, ru2 h, ru3 h, ru4 h, ru5 h, ri1 h, ri2 h, ri3 h, ri4 h, ri5 h, rl1 h, rl2 h, rl3 h, rl4 h, rl5 h, ra1 h, ra2 h, ra3 h, ra4 h, ra5 h, rr1 h, rr2 h, rr3 h, rr4 h, rr5 h, rfs, rfn, cs0, csi, csl, csr, csn, kti, ktl, ktr, ktn, ktv, ktf, true_and, and_true, and_self, ↓reduceIte, Nat.reduceAdd, Nat.reduceSub, Nat.reduceMul, Nat.reduceLT, Nat.reduceLeDiff, Nat.reduceEqDiff, true_or, or_true, false_or, or_false, not_true_eq_false, not_false_eq_true, reduceCtorEq, cmp_lt, cmp_gt, cmp_eq, Int32.reduceAdd, Int32.reduceSub, Int32.reduceMul, Int32.reduceLT, Int32.reduceToNatClampNeg, eq_self, ne_eq, Int64.reduceAdd, Int64.reduceSub, Int64.reduceMul, Int64.reduceLT, ud0_1, ud0_2, ud0_3, ud0_4, ud0_5, ud1_0, ud1_2, ud1_3, ud1_4, ud1_5, ud2_0, ud2_1, ud2_3, ud2_4, ud2_5, ud3_0, ud3_1, ud3_2, ud3_4, ud3_5, ud4_0, ud4_1, ud4_2, ud4_3, ud4_5, ud5_0, ud5_1, ud5_2, ud5_3, ud5_4, ib0_14, ib1_14, ib2_14, ib3_14, ib4_14, ib5_14, ib6_14, ib7_14, ib8_14, ib9_14, ib10_14, ib11_14, ib12_14, ib13_14, ib0_64, ib1_64, pt, inc, dcr, orb, g, i1, pt_m, pt_s]
theorem pav {w : Int32} (h : RunS S R u) : EvM (d + 1) 88 [.ref u, .int w] S I L R Q = Q (.int (pvF I u w)) S I L R := by
  unfold pvF
  simp only [M88, E88_0, E88_1, rfs, rfn, cs0, csi, csl, csr, csn, kti, ktl, ktr, ktn, ktv, ktf, true_and, and_true, and_self, ↓reduceIte, Nat.reduceAdd, Nat.reduceSub, Nat.reduceMul, Nat.reduceLT, Nat.reduceLeDiff, Nat.reduceEqDiff, true_or, or_true, false_or, or_false, not_true_eq_false, not_false_eq_true, reduceCtorEq, cmp_lt, cmp_gt, cmp_eq, Int32.reduceAdd, Int32.reduceSub, Int32.reduceMul, Int32.reduceLT, Int32.reduceToNatClampNeg, eq_self, ne_eq, Int64.reduceAdd, Int64.reduceSub, Int64.reduceMul, Int64.reduceLT]
  by_cases g1 : w.toInt = -4
  · obtain rfl := i32e (-4) g1 rfl
    rw [show (if (-4 : Int32).toInt < -4 ∨ -4 + (([49, 42, 37, 32] : List Int).length : Int) ≤ (-4 : Int32).toInt then 56 else (([49, 42, 37, 32] : List Int).getD ((-4 : Int32).toInt - (-4)).toNat 0).toNat) = 49 by decide]
    simp only [E88_0, E88_1, E88_32, E88_33, E88_36, E88_37, E88_38, E88_41, E88_42, E88_43, E88_46, E88_47, E88_48, E88_49, E88_50, E88_53, E88_54, E88_55, E88_56, E88_57, ru0 h, ru1 h, ru2 h, ru3 h, ru4 h, ru5 h, ri1 h, ri2 h, ri3 h, ri4 h, ri5 h, rl1 h, rl2 h, rl3 h, rl4 h, rl5 h, ra1 h, ra2 h, ra3 h, ra4 h, ra5 h, rr1 h, rr2 h, rr3 h, rr4 h, rr5 h, rfs, rfn, cs0, csi, csl, csr, csn, kti, ktl, ktr, ktn, ktv, ktf, true_and, and_true, and_self, ↓reduceIte, Nat.reduceAdd, Nat.reduceSub, Nat.reduceMul, Nat.reduceLT, Nat.reduceLeDiff, Nat.reduceEqDiff, true_or, or_true, false_or, or_false, not_true_eq_false, not_false_eq_true, reduceCtorEq, cmp_lt, cmp_gt, cmp_eq, Int32.reduceAdd, Int32.reduceSub, Int32.reduceMul, Int32.reduceLT, Int32.reduceToNatClampNeg, eq_self, ne_eq, Int64.reduceAdd, Int64.reduceSub, Int64.reduceMul, Int64.reduceLT, ud0_1, ud0_2, ud0_3, ud0_4, ud0_5, ud1_0, ud1_2, ud1_3, ud1_4, ud1_5, ud2_0, ud2_1, ud2_3, ud2_4, ud2_5, ud3_0, ud3_1, ud3_2, ud3_4, ud3_5, ud4_0, ud4_1, ud4_2, ud4_3, ud4_5, ud5_0, ud5_1, ud5_2, ud5_3, ud5_4, ib0_14, ib1_14, ib2_14, ib3_14, ib4_14, ib5_14, ib6_14, ib7_14, ib8_14, ib9_14, ib10_14, ib11_14, ib12_14, ib13_14, ib0_64, ib1_64, pt, inc, dcr, orb]
  by_cases g2 : w.toInt = -3
  · obtain rfl := i32e (-3) g2 rfl
    rw [show (if (-3 : Int32).toInt < -4 ∨ -4 + (([49, 42, 37, 32] : List Int).length : Int) ≤ (-3 : Int32).toInt then 56 else (([49, 42, 37, 32] : List Int).getD ((-3 : Int32).toInt - (-4)).toNat 0).toNat) = 42 by decide]
    simp only [E88_0, E88_1, E88_32, E88_33, E88_36, E88_37, E88_38, E88_41, E88_42, E88_43, E88_46, E88_47, E88_48, E88_49, E88_50, E88_53, E88_54, E88_55, E88_56, E88_57, ru0 h, ru1 h, ru2 h, ru3 h, ru4 h, ru5 h, ri1 h, ri2 h, ri3 h, ri4 h, ri5 h, rl1 h, rl2 h, rl3 h, rl4 h, rl5 h, ra1 h, ra2 h, ra3 h, ra4 h, ra5 h, rr1 h, rr2 h, rr3 h, rr4 h, rr5 h, rfs, rfn, cs0, csi, csl, csr, csn, kti, ktl, ktr, ktn, ktv, ktf, true_and, and_true, and_self, ↓reduceIte, Nat.reduceAdd, Nat.reduceSub, Nat.reduceMul, Nat.reduceLT, Nat.reduceLeDiff, Nat.reduceEqDiff, true_or, or_true, false_or, or_false, not_true_eq_false, not_false_eq_true, reduceCtorEq, cmp_lt, cmp_gt, cmp_eq, Int32.reduceAdd, Int32.reduceSub, Int32.reduceMul, Int32.reduceLT, Int32.reduceToNatClampNeg, eq_self, ne_eq, Int64.reduceAdd, Int64.reduceSub, Int64.reduceMul, Int64.reduceLT, ud0_1, ud0_2, ud0_3, ud0_4, ud0_5, ud1_0, ud1_2, ud1_3, ud1_4, ud1_5, ud2_0, ud2_1, ud2_3, ud2_4, ud2_5, ud3_0, ud3_1, ud3_2, ud3_4, ud3_5, ud4_0, ud4_1, ud4_2, ud4_3, ud4_5, ud5_0, ud5_1, ud5_2, ud5_3, ud5_4, ib0_14, ib1_14, ib2_14, ib3_14, ib4_14, ib5_14, ib6_14, ib7_14, ib8_14, ib9_14, ib10_14, ib11_14, ib12_14, ib13_14, ib0_64, ib1_64, pt, inc, dcr, orb, show ((-3 : Int32) = -4) = False by decide]
  by_cases g3 : w.toInt = -2
  · obtain rfl := i32e (-2) g3 rfl
    rw [show (if (-2 : Int32).toInt < -4 ∨ -4 + (([49, 42, 37, 32] : List Int).length : Int) ≤ (-2 : Int32).toInt then 56 else (([49, 42, 37, 32] : List Int).getD ((-2 : Int32).toInt - (-4)).toNat 0).toNat) = 37 by decide]
    simp only [E88_0, E88_1, E88_32, E88_33, E88_36, E88_37, E88_38, E88_41, E88_42, E88_43, E88_46, E88_47, E88_48, E88_49, E88_50, E88_53, E88_54, E88_55, E88_56, E88_57, ru0 h, ru1 h, ru2 h, ru3 h, ru4 h, ru5 h, ri1 h, ri2 h, ri3 h, ri4 h, ri5 h, rl1 h, rl2 h, rl3 h, rl4 h, rl5 h, ra1 h, ra2 h, ra3 h, ra4 h, ra5 h, rr1 h, rr2 h, rr3 h, rr4 h, rr5 h, rfs, rfn, cs0, csi, csl, csr, csn, kti, ktl, ktr, ktn, ktv, ktf, true_and, and_true, and_self, ↓reduceIte, Nat.reduceAdd, Nat.reduceSub, Nat.reduceMul, Nat.reduceLT, Nat.reduceLeDiff, Nat.reduceEqDiff, true_or, or_true, false_or, or_false, not_true_eq_false, not_false_eq_true, reduceCtorEq, cmp_lt, cmp_gt, cmp_eq, Int32.reduceAdd, Int32.reduceSub, Int32.reduceMul, Int32.reduceLT, Int32.reduceToNatClampNeg, eq_self, ne_eq, Int64.reduceAdd, Int64.reduceSub, Int64.reduceMul, Int64.reduceLT, ud0_1, ud0_2, ud0_3, ud0_4, ud0_5, ud1_0, ud1_2, ud1_3, ud1_4, ud1_5, ud2_0, ud2_1, ud2_3, ud2_4, ud2_5, ud3_0, ud3_1, ud3_2, ud3_4, ud3_5, ud4_0, ud4_1, ud4_2, ud4_3, ud4_5, ud5_0, ud5_1, ud5_2, ud5_3, ud5_4, ib0_14, ib1_14, ib2_14, ib3_14, ib4_14, ib5_14, ib6_14, ib7_14, ib8_14, ib9_14, ib10_14, ib11_14, ib12_14, ib13_14, ib0_64, ib1_64, pt, inc, dcr, orb, show ((-2 : Int32) = -4) = False by decide, show ((-2 : Int32) = -3) = False by decide]
  by_cases g4 : w.toInt = -1
  · obtain rfl := i32e (-1) g4 rfl
    rw [show (if (-1 : Int32).toInt < -4 ∨ -4 + (([49, 42, 37, 32] : List Int).length : Int) ≤ (-1 : Int32).toInt then 56 else (([49, 42, 37, 32] : List Int).getD ((-1 : Int32).toInt - (-4)).toNat 0).toNat) = 32 by decide]
    simp only [E88_0, E88_1, E88_32, E88_33, E88_36, E88_37, E88_38, E88_41, E88_42, E88_43, E88_46, E88_47, E88_48, E88_49, E88_50, E88_53, E88_54, E88_55, E88_56, E88_57, ru0 h, ru1 h, ru2 h, ru3 h, ru4 h, ru5 h, ri1 h, ri2 h, ri3 h, ri4 h, ri5 h, rl1 h, rl2 h, rl3 h, rl4 h, rl5 h, ra1 h, ra2 h, ra3 h, ra4 h, ra5 h, rr1 h, rr2 h, rr3 h, rr4 h, rr5 h, rfs, rfn, cs0, csi, csl, csr, csn, kti, ktl, ktr, ktn, ktv, ktf, true_and, and_true, and_self, ↓reduceIte, Nat.reduceAdd, Nat.reduceSub, Nat.reduceMul, Nat.reduceLT, Nat.reduceLeDiff, Nat.reduceEqDiff, true_or, or_true, false_or, or_false, not_true_eq_false, not_false_eq_true, reduceCtorEq, cmp_lt, cmp_gt, cmp_eq, Int32.reduceAdd, Int32.reduceSub, Int32.reduceMul, Int32.reduceLT, Int32.reduceToNatClampNeg, eq_self, ne_eq, Int64.reduceAdd, Int64.reduceSub, Int64.reduceMul, Int64.reduceLT, ud0_1, ud0_2, ud0_3, ud0_4, ud0_5, ud1_0, ud1_2, ud1_3, ud1_4, ud1_5, ud2_0, ud2_1, ud2_3, ud2_4, ud2_5, ud3_0, ud3_1, ud3_2, ud3_4, ud3_5, ud4_0, ud4_1, ud4_2, ud4_3, ud4_5, ud5_0, ud5_1, ud5_2, ud5_3, ud5_4, ib0_14, ib1_14, ib2_14, ib3_14, ib4_14, ib5_14, ib6_14, ib7_14, ib8_14, ib9_14, ib10_14, ib11_14, ib12_14, ib13_14, ib0_64, ib1_64, pt, inc, dcr, orb, show ((-1 : Int32) = -4) = False by decide, show ((-1 : Int32) = -3) = False by decide, show ((-1 : Int32) = -2) = False by decide]
  have z1 := i32n g1 (-4) rfl
  have z2 := i32n g2 (-3) rfl
  have z3 := i32n g3 (-2) rfl
  have z4 := i32n g4 (-1) rfl
  rw [if_pos (show w.toInt < -4 ∨ -4 + (([49, 42, 37, 32] : List Int).length : Int) ≤ w.toInt by simp only [List.length_cons, List.length_nil]; omega)]
  simp only [E88_56, E88_57, rfs, rfn, cs0, csi, csl, csr, csn, kti, ktl, ktr, ktn, ktv, ktf, true_and, and_true, and_self, ↓reduceIte, Nat.reduceAdd, Nat.reduceSub, Nat.reduceMul, Nat.reduceLT, Nat.reduceLeDiff, Nat.reduceEqDiff, true_or, or_true, false_or, or_false, not_true_eq_false, not_false_eq_true, reduceCtorEq, cmp_lt, cmp_gt, cmp_eq, Int32.reduceAdd, Int32.reduceSub, Int32.reduceMul, Int32.reduceLT, Int32.reduceToNatClampNeg, eq_self, ne_eq, Int64.reduceAdd, Int64.reduceSub, Int64.reduceMul, Int64.reduceLT, z1, z2, z3, z4]
theorem cev {w c : Int32} (h : RunS S R u) : EvM (d + 3) 89 [.ref u, .int w, .int c] S I L R Q = Q (.int (cvF I u w c)) S I L R := by
  unfold cvF
  by_cases g : w = -6
  · cases h1 : htB I u c <;> simp only [M89, E89_0, E89_1, E89_3, E89_6, E89_7, E89_8, E89_11, E89_14, E89_15, E89_18, E89_19, E89_20, E89_21, E89_22, E89_25, E89_28, E89_29, E89_32, E89_33, E89_34, E89_37, E89_38, ru0 h, ru1 h, ru2 h, ru3 h, ru4 h, ru5 h, ri1 h, ri2 h, ri3 h, ri4 h, ri5 h, rl1 h, rl2 h, rl3 h, rl4 h, rl5 h, ra1 h, ra2 h, ra3 h, ra4 h, ra5 h, rr1 h, rr2 h, rr3 h, rr4 h, rr5 h, rfs, rfn, cs0, csi, csl, csr, csn, kti, ktl, ktr, ktn, ktv, ktf, true_and, and_true, and_self, ↓reduceIte, Nat.reduceAdd, Nat.reduceSub, Nat.reduceMul, Nat.reduceLT, Nat.reduceLeDiff, Nat.reduceEqDiff, true_or, or_true, false_or, or_false, not_true_eq_false, not_false_eq_true, reduceCtorEq, cmp_lt, cmp_gt, cmp_eq, Int32.reduceAdd, Int32.reduceSub, Int32.reduceMul, Int32.reduceLT, Int32.reduceToNatClampNeg, eq_self, ne_eq, Int64.reduceAdd, Int64.reduceSub, Int64.reduceMul, Int64.reduceLT, g, isH h, h1, bI_t, bI_f, n1_0]
  · cases h1 : thr I u c with
    | false => simp only [M89, E89_0, E89_1, E89_3, E89_6, E89_7, E89_8, E89_11, E89_14, E89_15, E89_18, E89_19, E89_20, E89_21, E89_22, E89_25, E89_28, E89_29, E89_32, E89_33, E89_34, E89_37, E89_38, ru0 h, ru1 h, ru2 h, ru3 h, ru4 h, ru5 h, ri1 h, ri2 h, ri3 h, ri4 h, ri5 h, rl1 h, rl2 h, rl3 h, rl4 h, rl5 h, ra1 h, ra2 h, ra3 h, ra4 h, ra5 h, rr1 h, rr2 h, rr3 h, rr4 h, rr5 h, rfs, rfn, cs0, csi, csl, csr, csn, kti, ktl, ktr, ktn, ktv, ktf, true_and, and_true, and_self, ↓reduceIte, Nat.reduceAdd, Nat.reduceSub, Nat.reduceMul, Nat.reduceLT, Nat.reduceLeDiff, Nat.reduceEqDiff, true_or, or_true, false_or, or_false, not_true_eq_false, not_false_eq_true, reduceCtorEq, cmp_lt, cmp_gt, cmp_eq, Int32.reduceAdd, Int32.reduceSub, Int32.reduceMul, Int32.reduceLT, Int32.reduceToNatClampNeg, eq_self, ne_eq, Int64.reduceAdd, Int64.reduceSub, Int64.reduceMul, Int64.reduceLT, g, isT h, h1, bI_f, Bool.false_eq_true]
    | true =>
      have i1 := thr_inb h1
      simp only [M89, E89_0, E89_1, E89_3, E89_6, E89_7, E89_8, E89_11, E89_14, E89_15, E89_18, E89_19, E89_20, E89_21, E89_22, E89_25, E89_28, E89_29, E89_32, E89_33, E89_34, E89_37, E89_38, ru0 h, ru1 h, ru2 h, ru3 h, ru4 h, ru5 h, ri1 h, ri2 h, ri3 h, ri4 h, ri5 h, rl1 h, rl2 h, rl3 h, rl4 h, rl5 h, ra1 h, ra2 h, ra3 h, ra4 h, ra5 h, rr1 h, rr2 h, rr3 h, rr4 h, rr5 h, rfs, rfn, cs0, csi, csl, csr, csn, kti, ktl, ktr, ktn, ktv, ktf, true_and, and_true, and_self, ↓reduceIte, Nat.reduceAdd, Nat.reduceSub, Nat.reduceMul, Nat.reduceLT, Nat.reduceLeDiff, Nat.reduceEqDiff, true_or, or_true, false_or, or_false, not_true_eq_false, not_false_eq_true, reduceCtorEq, cmp_lt, cmp_gt, cmp_eq, Int32.reduceAdd, Int32.reduceSub, Int32.reduceMul, Int32.reduceLT, Int32.reduceToNatClampNeg, eq_self, ne_eq, Int64.reduceAdd, Int64.reduceSub, Int64.reduceMul, Int64.reduceLT, g, isT h, h1, bI_t, n1_0, i1]
theorem joi {w a b : Int32} : EvM (d + 1) 90 [.int w, .int a, .int b] S I L R Q = Q (.int (jnF w a b)) S I L R := by
  unfold jnF
  simp only [M90, E90_0, E90_1, rfs, rfn, cs0, csi, csl, csr, csn, kti, ktl, ktr, ktn, ktv, ktf, true_and, and_true, and_self, ↓reduceIte, Nat.reduceAdd, Nat.reduceSub, Nat.reduceMul, Nat.reduceLT, Nat.reduceLeDiff, Nat.reduceEqDiff, true_or, or_true, false_or, or_false, not_true_eq_false, not_false_eq_true, reduceCtorEq, cmp_lt, cmp_gt, cmp_eq, Int32.reduceAdd, Int32.reduceSub, Int32.reduceMul, Int32.reduceLT, Int32.reduceToNatClampNeg, eq_self, ne_eq, Int64.reduceAdd, Int64.reduceSub, Int64.reduceMul, Int64.reduceLT]
  by_cases g1 : w.toInt = -13
  · obtain rfl := i32e (-13) g1 rfl
    rw [show (if (-13 : Int32).toInt < -13 ∨ -13 + (([81, 70, 59, 48, 44, 40] : List Int).length : Int) ≤ (-13 : Int32).toInt then 85 else (([81, 70, 59, 48, 44, 40] : List Int).getD ((-13 : Int32).toInt - (-13)).toNat 0).toNat) = 81 by decide]
    simp only [E90_0, E90_1, E90_40, E90_41, E90_42, E90_43, E90_44, E90_45, E90_46, E90_47, E90_48, E90_49, E90_50, E90_53, E90_54, E90_57, E90_58, E90_59, E90_60, E90_61, E90_64, E90_65, E90_68, E90_69, E90_70, E90_71, E90_72, E90_75, E90_76, E90_79, E90_80, E90_81, E90_82, E90_83, E90_84, E90_85, E90_86, E90_87, E90_88, rfs, rfn, cs0, csi, csl, csr, csn, kti, ktl, ktr, ktn, ktv, ktf, true_and, and_true, and_self, ↓reduceIte, Nat.reduceAdd, Nat.reduceSub, Nat.reduceMul, Nat.reduceLT, Nat.reduceLeDiff, Nat.reduceEqDiff, true_or, or_true, false_or, or_false, not_true_eq_false, not_false_eq_true, reduceCtorEq, cmp_lt, cmp_gt, cmp_eq, Int32.reduceAdd, Int32.reduceSub, Int32.reduceMul, Int32.reduceLT, Int32.reduceToNatClampNeg, eq_self, ne_eq, Int64.reduceAdd, Int64.reduceSub, Int64.reduceMul, Int64.reduceLT]
  by_cases g2 : w.toInt = -12
  · obtain rfl := i32e (-12) g2 rfl
    rw [show (if (-12 : Int32).toInt < -13 ∨ -13 + (([81, 70, 59, 48, 44, 40] : List Int).length : Int) ≤ (-12 : Int32).toInt then 85 else (([81, 70, 59, 48, 44, 40] : List Int).getD ((-12 : Int32).toInt - (-13)).toNat 0).toNat) = 70 by decide]
    by_cases q : a = b <;> simp only [E90_0, E90_1, E90_40, E90_41, E90_42, E90_43, E90_44, E90_45, E90_46, E90_47, E90_48, E90_49, E90_50, E90_53, E90_54, E90_57, E90_58, E90_59, E90_60, E90_61, E90_64, E90_65, E90_68, E90_69, E90_70, E90_71, E90_72, E90_75, E90_76, E90_79, E90_80, E90_81, E90_82, E90_83, E90_84, E90_85, E90_86, E90_87, E90_88, rfs, rfn, cs0, csi, csl, csr, csn, kti, ktl, ktr, ktn, ktv, ktf, true_and, and_true, and_self, ↓reduceIte, Nat.reduceAdd, Nat.reduceSub, Nat.reduceMul, Nat.reduceLT, Nat.reduceLeDiff, Nat.reduceEqDiff, true_or, or_true, false_or, or_false, not_true_eq_false, not_false_eq_true, reduceCtorEq, cmp_lt, cmp_gt, cmp_eq, Int32.reduceAdd, Int32.reduceSub, Int32.reduceMul, Int32.reduceLT, Int32.reduceToNatClampNeg, eq_self, ne_eq, Int64.reduceAdd, Int64.reduceSub, Int64.reduceMul, Int64.reduceLT, q, decide_true, decide_false, bI_t, bI_f, show ((-12 : Int32) = -13) = False by decide]
  by_cases g3 : w.toInt = -11
  · obtain rfl := i32e (-11) g3 rfl
    rw [show (if (-11 : Int32).toInt < -13 ∨ -13 + (([81, 70, 59, 48, 44, 40] : List Int).length : Int) ≤ (-11 : Int32).toInt then 85 else (([81, 70, 59, 48, 44, 40] : List Int).getD ((-11 : Int32).toInt - (-13)).toNat 0).toNat) = 59 by decide]
    by_cases q : b < a <;> simp only [E90_0, E90_1, E90_40, E90_41, E90_42, E90_43, E90_44, E90_45, E90_46, E90_47, E90_48, E90_49, E90_50, E90_53, E90_54, E90_57, E90_58, E90_59, E90_60, E90_61, E90_64, E90_65, E90_68, E90_69, E90_70, E90_71, E90_72, E90_75, E90_76, E90_79, E90_80, E90_81, E90_82, E90_83, E90_84, E90_85, E90_86, E90_87, E90_88, rfs, rfn, cs0, csi, csl, csr, csn, kti, ktl, ktr, ktn, ktv, ktf, true_and, and_true, and_self, ↓reduceIte, Nat.reduceAdd, Nat.reduceSub, Nat.reduceMul, Nat.reduceLT, Nat.reduceLeDiff, Nat.reduceEqDiff, true_or, or_true, false_or, or_false, not_true_eq_false, not_false_eq_true, reduceCtorEq, cmp_lt, cmp_gt, cmp_eq, Int32.reduceAdd, Int32.reduceSub, Int32.reduceMul, Int32.reduceLT, Int32.reduceToNatClampNeg, eq_self, ne_eq, Int64.reduceAdd, Int64.reduceSub, Int64.reduceMul, Int64.reduceLT, q, decide_true, decide_false, bI_t, bI_f, show ((-11 : Int32) = -13) = False by decide, show ((-11 : Int32) = -12) = False by decide]
  by_cases g4 : w.toInt = -10
  · obtain rfl := i32e (-10) g4 rfl
    rw [show (if (-10 : Int32).toInt < -13 ∨ -13 + (([81, 70, 59, 48, 44, 40] : List Int).length : Int) ≤ (-10 : Int32).toInt then 85 else (([81, 70, 59, 48, 44, 40] : List Int).getD ((-10 : Int32).toInt - (-13)).toNat 0).toNat) = 48 by decide]
    by_cases q : a < b <;> simp only [E90_0, E90_1, E90_40, E90_41, E90_42, E90_43, E90_44, E90_45, E90_46, E90_47, E90_48, E90_49, E90_50, E90_53, E90_54, E90_57, E90_58, E90_59, E90_60, E90_61, E90_64, E90_65, E90_68, E90_69, E90_70, E90_71, E90_72, E90_75, E90_76, E90_79, E90_80, E90_81, E90_82, E90_83, E90_84, E90_85, E90_86, E90_87, E90_88, rfs, rfn, cs0, csi, csl, csr, csn, kti, ktl, ktr, ktn, ktv, ktf, true_and, and_true, and_self, ↓reduceIte, Nat.reduceAdd, Nat.reduceSub, Nat.reduceMul, Nat.reduceLT, Nat.reduceLeDiff, Nat.reduceEqDiff, true_or, or_true, false_or, or_false, not_true_eq_false, not_false_eq_true, reduceCtorEq, cmp_lt, cmp_gt, cmp_eq, Int32.reduceAdd, Int32.reduceSub, Int32.reduceMul, Int32.reduceLT, Int32.reduceToNatClampNeg, eq_self, ne_eq, Int64.reduceAdd, Int64.reduceSub, Int64.reduceMul, Int64.reduceLT, q, decide_true, decide_false, bI_t, bI_f, show ((-10 : Int32) = -13) = False by decide, show ((-10 : Int32) = -12) = False by decide, show ((-10 : Int32) = -11) = False by decide]
  by_cases g5 : w.toInt = -9
  · obtain rfl := i32e (-9) g5 rfl
    rw [show (if (-9 : Int32).toInt < -13 ∨ -13 + (([81, 70, 59, 48, 44, 40] : List Int).length : Int) ≤ (-9 : Int32).toInt then 85 else (([81, 70, 59, 48, 44, 40] : List Int).getD ((-9 : Int32).toInt - (-13)).toNat 0).toNat) = 44 by decide]
    simp only [E90_0, E90_1, E90_40, E90_41, E90_42, E90_43, E90_44, E90_45, E90_46, E90_47, E90_48, E90_49, E90_50, E90_53, E90_54, E90_57, E90_58, E90_59, E90_60, E90_61, E90_64, E90_65, E90_68, E90_69, E90_70, E90_71, E90_72, E90_75, E90_76, E90_79, E90_80, E90_81, E90_82, E90_83, E90_84, E90_85, E90_86, E90_87, E90_88, rfs, rfn, cs0, csi, csl, csr, csn, kti, ktl, ktr, ktn, ktv, ktf, true_and, and_true, and_self, ↓reduceIte, Nat.reduceAdd, Nat.reduceSub, Nat.reduceMul, Nat.reduceLT, Nat.reduceLeDiff, Nat.reduceEqDiff, true_or, or_true, false_or, or_false, not_true_eq_false, not_false_eq_true, reduceCtorEq, cmp_lt, cmp_gt, cmp_eq, Int32.reduceAdd, Int32.reduceSub, Int32.reduceMul, Int32.reduceLT, Int32.reduceToNatClampNeg, eq_self, ne_eq, Int64.reduceAdd, Int64.reduceSub, Int64.reduceMul, Int64.reduceLT, show ((-9 : Int32) = -13) = False by decide, show ((-9 : Int32) = -12) = False by decide, show ((-9 : Int32) = -11) = False by decide, show ((-9 : Int32) = -10) = False by decide]
  by_cases g6 : w.toInt = -8
  · obtain rfl := i32e (-8) g6 rfl
    rw [show (if (-8 : Int32).toInt < -13 ∨ -13 + (([81, 70, 59, 48, 44, 40] : List Int).length : Int) ≤ (-8 : Int32).toInt then 85 else (([81, 70, 59, 48, 44, 40] : List Int).getD ((-8 : Int32).toInt - (-13)).toNat 0).toNat) = 40 by decide]
    simp only [E90_0, E90_1, E90_40, E90_41, E90_42, E90_43, E90_44, E90_45, E90_46, E90_47, E90_48, E90_49, E90_50, E90_53, E90_54, E90_57, E90_58, E90_59, E90_60, E90_61, E90_64, E90_65, E90_68, E90_69, E90_70, E90_71, E90_72, E90_75, E90_76, E90_79, E90_80, E90_81, E90_82, E90_83, E90_84, E90_85, E90_86, E90_87, E90_88, rfs, rfn, cs0, csi, csl, csr, csn, kti, ktl, ktr, ktn, ktv, ktf, true_and, and_true, and_self, ↓reduceIte, Nat.reduceAdd, Nat.reduceSub, Nat.reduceMul, Nat.reduceLT, Nat.reduceLeDiff, Nat.reduceEqDiff, true_or, or_true, false_or, or_false, not_true_eq_false, not_false_eq_true, reduceCtorEq, cmp_lt, cmp_gt, cmp_eq, Int32.reduceAdd, Int32.reduceSub, Int32.reduceMul, Int32.reduceLT, Int32.reduceToNatClampNeg, eq_self, ne_eq, Int64.reduceAdd, Int64.reduceSub, Int64.reduceMul, Int64.reduceLT, show ((-8 : Int32) = -13) = False by decide, show ((-8 : Int32) = -12) = False by decide, show ((-8 : Int32) = -11) = False by decide, show ((-8 : Int32) = -10) = False by decide, show ((-8 : Int32) = -9) = False by decide]
  have z1 := i32n g1 (-13) rfl
  have z2 := i32n g2 (-12) rfl
  have z3 := i32n g3 (-11) rfl
  have z4 := i32n g4 (-10) rfl
  have z5 := i32n g5 (-9) rfl
  have z6 := i32n g6 (-8) rfl
  rw [if_pos (show w.toInt < -13 ∨ -13 + (([81, 70, 59, 48, 44, 40] : List Int).length : Int) ≤ w.toInt by simp only [List.length_cons, List.length_nil]; omega)]
  simp only [E90_85, E90_86, E90_87, E90_88, rfs, rfn, cs0, csi, csl, csr, csn, kti, ktl, ktr, ktn, ktv, ktf, true_and, and_true, and_self, ↓reduceIte, Nat.reduceAdd, Nat.reduceSub, Nat.reduceMul, Nat.reduceLT, Nat.reduceLeDiff, Nat.reduceEqDiff, true_or, or_true, false_or, or_false, not_true_eq_false, not_false_eq_true, reduceCtorEq, cmp_lt, cmp_gt, cmp_eq, Int32.reduceAdd, Int32.reduceSub, Int32.reduceMul, Int32.reduceLT, Int32.reduceToNatClampNeg, eq_self, ne_eq, Int64.reduceAdd, Int64.reduceSub, Int64.reduceMul, Int64.reduceLT, z1, z2, z3, z4, z5, z6]
end RUN
