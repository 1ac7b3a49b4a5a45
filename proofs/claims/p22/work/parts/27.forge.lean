/-! a forge: its cells, its sets; what tongs hold -/
def lon (S : mS) (a n : Nat) : Prop := ok S a 12 ∧ S.2.2.2 a = n
def mat (S : mS) (R : mR) (g c n : Nat) : Prop := (ok S g 18 ∧ S.2.2.2 g = c) ∧ ∀ i, i < c → R g i = some (g + 1 + i) ∧ lon S (g + 1 + i) n
def FoS (S : mS) (R : mR) (f c n : Nat) : Prop := (ok S f 0 ∧ ok S (f + 1) 11 ∧ S.2.2.2 (f + 1) = c) ∧ (R f 2 = some (f + 1) ∧ R f 3 = some (f + 2) ∧ R f 4 = some (f + 3 + c) ∧ R f 5 = some (f + 4 + 2 * c) ∧ R f 7 = some (f + 5 + 3 * c) ∧ R f 8 = some (f + 6 + 3 * c) ∧ R f 9 = some (f + 7 + 3 * c)) ∧ (mat S R (f + 2) c n ∧ mat S R (f + 3 + c) c n ∧ mat S R (f + 4 + 2 * c) c n) ∧ (lon S (f + 5 + 3 * c) n ∧ lon S (f + 6 + 3 * c) n ∧ lon S (f + 7 + 3 * c) n)
def FoI (I : mI) (f c n : Nat) (w : Nat → Nat) : Prop := I f 0 = nI c ∧ I f 1 = nI n ∧ ∀ i, i < c → I (f + 1) i = nI (w i)
/-- the IRON of a CELL in a row -/
def dg (w : Nat → Nat) (k i : Nat) : Nat := k / w i % 9 + 1
def FoL (L : mL) (f c n : Nat) (w : Nat → Nat) : Prop := ∀ i, i < c → ∀ k, k < 64 * n → (gb (L (f + 2 + 1 + i)) k = true ↔ 2 ≤ dg w k i) ∧ (gb (L (f + 3 + c + 1 + i)) k = true ↔ dg w k i ≤ 8)
/-- TONGS hold something away from the CELL -/
def hld (w : Nat → Nat) (c : Nat) (nu : Int32) (k p : Nat) : Prop := ∃ j, j < c ∧ (p + 1 < j ∨ j + 1 < p) ∧ bitOf nu (dg w k j) = true
def FoH (L : mL) (f c n : Nat) (w : Nat → Nat) (nu : Int32) : Prop := ∀ i, i < c → ∀ k, k < 64 * n → (gb (L (f + 4 + 2 * c + 1 + i)) k = true ↔ hld w c nu k i)
def wOk (w : Nat → Nat) (c : Nat) : Prop := ∀ i, i < c → 0 < w i ∧ w i < 2 ^ 20
theorem bit1020 : ∀ t, t < 10 → 0 < t → (bitOf 1020 t = true ↔ 2 ≤ t) := by decide +kernel
theorem bit510 : ∀ t, t < 10 → 0 < t → (bitOf 510 t = true ↔ t ≤ 8) := by decide +kernel
theorem far5 : ∀ a, a < 5 → ∀ b, b < 5 → (((1 : Int32) < (if 0 ≤ nI a - nI b then nI a - nI b else 0 - (nI a - nI b))) ↔ (a + 1 < b ∨ b + 1 < a)) := by decide +kernel
theorem lonA {S : mS} {a n : Nat} (h : lon S a n) : okA S a := ⟨h.1.1, by rw [h.1.2]; decide⟩
theorem matR {S : mS} {R : mR} {g c n : Nat} (h : mat S R g c n) : okR S g := ⟨h.1.1.1, by rw [h.1.1.2]; decide⟩
theorem gb_fill {n k : Nat} {g : Nat → Int64} (hk : k < 64 * n) : ¬ gb (fun k => if k < n then 0 else g k) k = true := by
  have e : (fun k => if k < n then (0 : Int64) else g k) (k / 64) = 0 := if_pos (by omega)
  unfold gb
  rw [e, zero_bit]
  decide
theorem gb_or {n k : Nat} {g h : Nat → Int64} (hk : k < 64 * n) : gb (fun k => if k < n then g k ||| h k else g k) k = true ↔ gb g k = true ∨ gb h k = true := by
  have e : (fun k => if k < n then g k ||| h k else g k) (k / 64) = g (k / 64) ||| h (k / 64) := if_pos (by omega)
  unfold gb
  rw [e, or_bit, Bool.or_eq_true]
section TK
variable {d f c n H nx : Nat} {nu : Int32} {S : mS} {I : mI} {R : mR} {Q : mQ}
theorem tk1 (hF : ok S f 0) (h5 : R f 5 = some H) (hM : mat S R H c n) (hI0 : I f 0 = nI c) (hc : c ≤ 5) (hn : n < 2 ^ 24) : ∀ (m i : Nat) (L : mL), i + m = c → (∀ L' : mL, (∀ a, (a ≤ H + i ∨ H + c < a) → L' a = L a) → (∀ j, i ≤ j → j < c → ∀ k, k < 64 * n → ¬ gb (L' (H + 1 + j)) k = true) → Ev (d + 3) 3 42 [.ref f, .int nu, .int (nI 0), nv] [] S I L' R Q) → Ev (d + 3) 3 16 [.ref f, .int nu, .int (nI i), nv] [] S I L R Q := by
  have hMR := matR hM
  have hM2 := hM.1.2
  intro m
  induction m with
  | zero =>
    intro i L hi h
    obtain rfl : i = c := by omega
    have e0 : (nI i < nI i) = False := eq_false (nI_nlt (Nat.le_refl i) (by omega))
    rw [E3_16]
    simp only [E3_0, E3_1, E3_4, E3_5, E3_8, E3_9, E3_10, E3_11, E3_14, E3_15, E3_17, E3_18, E3_21, E3_24, E3_25, E3_28, E3_29, E3_30, E3_31, E3_34, E3_37, E3_40, E3_41, E3_43, E3_44, E3_47, E3_50, E3_51, E3_52, E3_53, E3_54, E3_57, E3_60, E3_61, E3_63, E3_64, E3_67, E3_70, E3_71, E3_72, E3_73, E3_76, E3_77, E3_80, E3_81, E3_84, E3_85, E3_88, E3_89, E3_90, E3_93, E3_96, E3_99, E3_102, E3_105, e0, hF, hI0, rfs, rfn, cs0, csi, csl, csr, csn, kti, ktl, ktr, ktn, ktv, ktf, true_and, and_true, and_self, ↓reduceIte, Nat.reduceAdd, Nat.reduceSub, Nat.reduceMul, Nat.reduceLT, Nat.reduceLeDiff, Nat.reduceEqDiff, true_or, or_true, false_or, or_false, not_true_eq_false, not_false_eq_true, reduceCtorEq, cmp_lt, cmp_gt, cmp_eq, Int32.reduceAdd, Int32.reduceSub, Int32.reduceMul, Int32.reduceLT, Int32.reduceToNatClampNeg, eq_self, ne_eq, Int64.reduceAdd, Int64.reduceSub, Int64.reduceMul, Int64.reduceLT]
    exact h L (fun _ _ => rfl) (fun j h1 h2 => absurd h2 (by omega))
  | succ m ih =>
    intro i L hi h
    have e1 : (nI i < nI c) = True := eq_true (nI_lt (a := i) (b := c) (by omega) (by omega))
    have e3 : inb (nI i) c = True := inb_nI (by omega) (by omega)
    have e4 : (nI i).toNatClampNeg = i := nI_clamp (by omega)
    have hr := hM.2 i (by omega)
    have hr1 := hr.1
    rw [E3_16]
    simp only [E3_0, E3_1, E3_4, E3_5, E3_8, E3_9, E3_10, E3_11, E3_14, E3_15, E3_17, E3_18, E3_21, E3_24, E3_25, E3_28, E3_29, E3_30, E3_31, E3_34, E3_37, E3_40, E3_41, E3_43, E3_44, E3_47, E3_50, E3_51, E3_52, E3_53, E3_54, E3_57, E3_60, E3_61, E3_63, E3_64, E3_67, E3_70, E3_71, E3_72, E3_73, E3_76, E3_77, E3_80, E3_81, E3_84, E3_85, E3_88, E3_89, E3_90, E3_93, E3_96, E3_99, E3_102, E3_105, e1, e3, e4, hF, hI0, h5, hMR, hM2, hr1, fillL (d := d + 1) hr.2.1 hr.2.2 (by omega), rfs, rfn, cs0, csi, csl, csr, csn, kti, ktl, ktr, ktn, ktv, ktf, true_and, and_true, and_self, ↓reduceIte, Nat.reduceAdd, Nat.reduceSub, Nat.reduceMul, Nat.reduceLT, Nat.reduceLeDiff, Nat.reduceEqDiff, true_or, or_true, false_or, or_false, not_true_eq_false, not_false_eq_true, reduceCtorEq, cmp_lt, cmp_gt, cmp_eq, Int32.reduceAdd, Int32.reduceSub, Int32.reduceMul, Int32.reduceLT, Int32.reduceToNatClampNeg, eq_self, ne_eq, Int64.reduceAdd, Int64.reduceSub, Int64.reduceMul, Int64.reduceLT, nI_1]
    refine ih (i + 1) _ (by omega) (fun L' g1 g2 => h L' (fun a ha => ?_) (fun j h1 h2 k hk => ?_))
    · rw [g1 a (by omega), up_is, if_neg (by omega)]
    · by_cases g : j = i
      · subst g
        rw [g1 _ (by omega), up_is, if_pos rfl]
        exact gb_fill hk
      · exact g2 j (by omega) h2 k hk
theorem tk3 {cell : Nat} (hF : ok S f 0) (h5 : R f 5 = some H) (h8 : R f 8 = some nx) (hM : mat S R H c n) (hN : lon S nx n) (hnx : H + c < nx) (hI0 : I f 0 = nI c) (hc : c ≤ 5) (hcl : cell < c) (hn : n < 2 ^ 24) : ∀ (m i : Nat) (L : mL), i + m = c → (∀ L' : mL, (∀ a, (a ≤ H + i ∨ H + c < a) → L' a = L a) → (∀ j, i ≤ j → j < c → ∀ k, k < 64 * n → (gb (L' (H + 1 + j)) k = true ↔ gb (L (H + 1 + j)) k = true ∨ ((j + 1 < cell ∨ cell + 1 < j) ∧ gb (L nx) k = true))) → Ev (d + 3) 3 42 [.ref f, .int nu, .int (nI (cell + 1)), .int (nI c)] [] S I L' R Q) → Ev (d + 3) 3 62 [.ref f, .int nu, .int (nI cell), .int (nI i)] [] S I L R Q := by
  have hMR := matR hM
  have hM2 := hM.1.2
  intro m
  induction m with
  | zero =>
    intro i L hi h
    obtain rfl : i = c := by omega
    have e0 : (nI i < nI i) = False := eq_false (nI_nlt (Nat.le_refl i) (by omega))
    rw [E3_62]
    simp only [E3_0, E3_1, E3_4, E3_5, E3_8, E3_9, E3_10, E3_11, E3_14, E3_15, E3_17, E3_18, E3_21, E3_24, E3_25, E3_28, E3_29, E3_30, E3_31, E3_34, E3_37, E3_40, E3_41, E3_43, E3_44, E3_47, E3_50, E3_51, E3_52, E3_53, E3_54, E3_57, E3_60, E3_61, E3_63, E3_64, E3_67, E3_70, E3_71, E3_72, E3_73, E3_76, E3_77, E3_80, E3_81, E3_84, E3_85, E3_88, E3_89, E3_90, E3_93, E3_96, E3_99, E3_102, E3_105, e0, hF, hI0, rfs, rfn, cs0, csi, csl, csr, csn, kti, ktl, ktr, ktn, ktv, ktf, true_and, and_true, and_self, ↓reduceIte, Nat.reduceAdd, Nat.reduceSub, Nat.reduceMul, Nat.reduceLT, Nat.reduceLeDiff, Nat.reduceEqDiff, true_or, or_true, false_or, or_false, not_true_eq_false, not_false_eq_true, reduceCtorEq, cmp_lt, cmp_gt, cmp_eq, Int32.reduceAdd, Int32.reduceSub, Int32.reduceMul, Int32.reduceLT, Int32.reduceToNatClampNeg, eq_self, ne_eq, Int64.reduceAdd, Int64.reduceSub, Int64.reduceMul, Int64.reduceLT, nI_1]
    exact h L (fun _ _ => rfl) (fun j h1 h2 => absurd h2 (by omega))
  | succ m ih =>
    intro i L hi h
    have e1 : (nI i < nI c) = True := eq_true (nI_lt (a := i) (b := c) (by omega) (by omega))
    have e3 : inb (nI i) c = True := inb_nI (by omega) (by omega)
    have e4 : (nI i).toNatClampNeg = i := nI_clamp (by omega)
    have hr := hM.2 i (by omega)
    have hr1 := hr.1
    have ff := far5 i (by omega) cell (by omega)
    rw [E3_62]
    by_cases g : i + 1 < cell ∨ cell + 1 < i
    · have ft := eq_true (ff.mpr g)
      simp only [E3_0, E3_1, E3_4, E3_5, E3_8, E3_9, E3_10, E3_11, E3_14, E3_15, E3_17, E3_18, E3_21, E3_24, E3_25, E3_28, E3_29, E3_30, E3_31, E3_34, E3_37, E3_40, E3_41, E3_43, E3_44, E3_47, E3_50, E3_51, E3_52, E3_53, E3_54, E3_57, E3_60, E3_61, E3_63, E3_64, E3_67, E3_70, E3_71, E3_72, E3_73, E3_76, E3_77, E3_80, E3_81, E3_84, E3_85, E3_88, E3_89, E3_90, E3_93, E3_96, E3_99, E3_102, E3_105, e1, e3, e4, hF, hI0, h5, h8, hMR, hM2, hr1, ft, addA (d := d + 1) hN.1 hN.2 hr.2.1 hr.2.2 (by omega) (by omega), rfs, rfn, cs0, csi, csl, csr, csn, kti, ktl, ktr, ktn, ktv, ktf, true_and, and_true, and_self, ↓reduceIte, Nat.reduceAdd, Nat.reduceSub, Nat.reduceMul, Nat.reduceLT, Nat.reduceLeDiff, Nat.reduceEqDiff, true_or, or_true, false_or, or_false, not_true_eq_false, not_false_eq_true, reduceCtorEq, cmp_lt, cmp_gt, cmp_eq, Int32.reduceAdd, Int32.reduceSub, Int32.reduceMul, Int32.reduceLT, Int32.reduceToNatClampNeg, eq_self, ne_eq, Int64.reduceAdd, Int64.reduceSub, Int64.reduceMul, Int64.reduceLT, nI_1]
      refine ih (i + 1) _ (by omega) (fun L' g1 g2 => h L' (fun a ha => ?_) (fun j h1 h2 k hk => ?_))
      · rw [g1 a (by omega), up_is, if_neg (by omega)]
      · by_cases gj : j = i
        · subst gj
          rw [g1 _ (by omega), up_is, if_pos rfl, gb_or hk]
          constructor
          · rintro (q | q)
            · exact Or.inl q
            · exact Or.inr ⟨g, q⟩
          · rintro (q | q)
            · exact Or.inl q
            · exact Or.inr q.2
        · rw [g2 j (by omega) h2 k hk, up_is, if_neg (by omega), up_is, if_neg (by omega)]
    · have ft := eq_false (fun q => g (ff.mp q))
      simp only [E3_0, E3_1, E3_4, E3_5, E3_8, E3_9, E3_10, E3_11, E3_14, E3_15, E3_17, E3_18, E3_21, E3_24, E3_25, E3_28, E3_29, E3_30, E3_31, E3_34, E3_37, E3_40, E3_41, E3_43, E3_44, E3_47, E3_50, E3_51, E3_52, E3_53, E3_54, E3_57, E3_60, E3_61, E3_63, E3_64, E3_67, E3_70, E3_71, E3_72, E3_73, E3_76, E3_77, E3_80, E3_81, E3_84, E3_85, E3_88, E3_89, E3_90, E3_93, E3_96, E3_99, E3_102, E3_105, e1, hF, hI0, ft, rfs, rfn, cs0, csi, csl, csr, csn, kti, ktl, ktr, ktn, ktv, ktf, true_and, and_true, and_self, ↓reduceIte, Nat.reduceAdd, Nat.reduceSub, Nat.reduceMul, Nat.reduceLT, Nat.reduceLeDiff, Nat.reduceEqDiff, true_or, or_true, false_or, or_false, not_true_eq_false, not_false_eq_true, reduceCtorEq, cmp_lt, cmp_gt, cmp_eq, Int32.reduceAdd, Int32.reduceSub, Int32.reduceMul, Int32.reduceLT, Int32.reduceToNatClampNeg, eq_self, ne_eq, Int64.reduceAdd, Int64.reduceSub, Int64.reduceMul, Int64.reduceLT, nI_1]
      refine ih (i + 1) _ (by omega) (fun L' g1 g2 => h L' (fun a ha => ?_) (fun j h1 h2 k hk => ?_))
      · rw [g1 a (by omega)]
      · by_cases gj : j = i
        · subst gj
          rw [g1 _ (by omega)]
          constructor
          · exact Or.inl
          · rintro (q | q)
            · exact q
            · exact absurd q.1 g
        · exact g2 j (by omega) h2 k hk
theorem tk2 {w : Nat → Nat} (hS : FoS S R f c n) (hI : FoI I f c n w) (hw : wOk w c) (hc : c ≤ 5) (hn : n < 2 ^ 24) : ∀ (m i : Nat) (L : mL) (y : Value), i + m = c → (∀ L' : mL, (∀ a, (a ≤ f + 4 + 2 * c ∨ (f + 4 + 2 * c + c < a ∧ a ≠ f + 6 + 3 * c)) → L' a = L a) → (∀ j, j < c → ∀ k, k < 64 * n → (gb (L' (f + 4 + 2 * c + 1 + j)) k = true ↔ gb (L (f + 4 + 2 * c + 1 + j)) k = true ∨ ∃ cell, i ≤ cell ∧ cell < c ∧ (j + 1 < cell ∨ cell + 1 < j) ∧ bitOf nu (dg w k cell) = true)) → Q .null S I L' R) → Ev (d + 3) 3 42 [.ref f, .int nu, .int (nI i), y] [] S I L R Q := by
  obtain ⟨⟨hF, hW, hWl⟩, ⟨r2, r3, r4, r5, r7, r8, r9⟩, ⟨mG, mT, mH⟩, l7, l8, l9⟩ := hS
  obtain ⟨hI0, hI1, hIw⟩ := hI
  intro m
  induction m with
  | zero =>
    intro i L y hi h
    obtain rfl : i = c := by omega
    have e0 : (nI i < nI i) = False := eq_false (nI_nlt (Nat.le_refl i) (by omega))
    rw [E3_42]
    simp only [E3_0, E3_1, E3_4, E3_5, E3_8, E3_9, E3_10, E3_11, E3_14, E3_15, E3_17, E3_18, E3_21, E3_24, E3_25, E3_28, E3_29, E3_30, E3_31, E3_34, E3_37, E3_40, E3_41, E3_43, E3_44, E3_47, E3_50, E3_51, E3_52, E3_53, E3_54, E3_57, E3_60, E3_61, E3_63, E3_64, E3_67, E3_70, E3_71, E3_72, E3_73, E3_76, E3_77, E3_80, E3_81, E3_84, E3_85, E3_88, E3_89, E3_90, E3_93, E3_96, E3_99, E3_102, E3_105, e0, hF, hI0, rfs, rfn, cs0, csi, csl, csr, csn, kti, ktl, ktr, ktn, ktv, ktf, true_and, and_true, and_self, ↓reduceIte, Nat.reduceAdd, Nat.reduceSub, Nat.reduceMul, Nat.reduceLT, Nat.reduceLeDiff, Nat.reduceEqDiff, true_or, or_true, false_or, or_false, not_true_eq_false, not_false_eq_true, reduceCtorEq, cmp_lt, cmp_gt, cmp_eq, Int32.reduceAdd, Int32.reduceSub, Int32.reduceMul, Int32.reduceLT, Int32.reduceToNatClampNeg, eq_self, ne_eq, Int64.reduceAdd, Int64.reduceSub, Int64.reduceMul, Int64.reduceLT]
    exact h L (fun _ _ => rfl) (fun j hj k hk => ⟨Or.inl, fun g => by
      rcases g with g | ⟨cell, g1, g2, _⟩
      · exact g
      · omega⟩)
  | succ m ih =>
    intro i L y hi h
    have e1 : (nI i < nI c) = True := eq_true (nI_lt (a := i) (b := c) (by omega) (by omega))
    have e4 : (nI i).toNatClampNeg = i := nI_clamp (by omega)
    rw [E3_42]
    simp only [E3_0, E3_1, E3_4, E3_5, E3_8, E3_9, E3_10, E3_11, E3_14, E3_15, E3_17, E3_18, E3_21, E3_24, E3_25, E3_28, E3_29, E3_30, E3_31, E3_34, E3_37, E3_40, E3_41, E3_43, E3_44, E3_47, E3_50, E3_51, E3_52, E3_53, E3_54, E3_57, E3_60, E3_61, E3_63, E3_64, E3_67, E3_70, E3_71, E3_72, E3_73, E3_76, E3_77, E3_80, E3_81, E3_84, E3_85, E3_88, E3_89, E3_90, E3_93, E3_96, E3_99, E3_102, E3_105, e1, hF, hI0, r8, rfs, rfn, cs0, csi, csl, csr, csn, kti, ktl, ktr, ktn, ktv, ktf, true_and, and_true, and_self, ↓reduceIte, Nat.reduceAdd, Nat.reduceSub, Nat.reduceMul, Nat.reduceLT, Nat.reduceLeDiff, Nat.reduceEqDiff, true_or, or_true, false_or, or_false, not_true_eq_false, not_false_eq_true, reduceCtorEq, cmp_lt, cmp_gt, cmp_eq, Int32.reduceAdd, Int32.reduceSub, Int32.reduceMul, Int32.reduceLT, Int32.reduceToNatClampNeg, eq_self, ne_eq, Int64.reduceAdd, Int64.reduceSub, Int64.reduceMul, Int64.reduceLT]
    refine findR (d := d) (W := f + 1) (n := n) (w := w i) hF hI1 r2 ⟨hW.1, Or.inl hW.2⟩ (by rw [hWl]; exact of_eq_true (inb_nI (by omega) (by omega))) (by rw [e4]; exact hIw i (by omega)) l8.1 l8.2 hn (hw i (by omega)).1 (hw i (by omega)).2 (fun g hg => ?_)
    try simp only [E3_0, E3_1, E3_4, E3_5, E3_8, E3_9, E3_10, E3_11, E3_14, E3_15, E3_17, E3_18, E3_21, E3_24, E3_25, E3_28, E3_29, E3_30, E3_31, E3_34, E3_37, E3_40, E3_41, E3_43, E3_44, E3_47, E3_50, E3_51, E3_52, E3_53, E3_54, E3_57, E3_60, E3_61, E3_63, E3_64, E3_67, E3_70, E3_71, E3_72, E3_73, E3_76, E3_77, E3_80, E3_81, E3_84, E3_85, E3_88, E3_89, E3_90, E3_93, E3_96, E3_99, E3_102, E3_105, rfs, rfn, cs0, csi, csl, csr, csn, kti, ktl, ktr, ktn, ktv, ktf, true_and, and_true, and_self, ↓reduceIte, Nat.reduceAdd, Nat.reduceSub, Nat.reduceMul, Nat.reduceLT, Nat.reduceLeDiff, Nat.reduceEqDiff, true_or, or_true, false_or, or_false, not_true_eq_false, not_false_eq_true, reduceCtorEq, cmp_lt, cmp_gt, cmp_eq, Int32.reduceAdd, Int32.reduceSub, Int32.reduceMul, Int32.reduceLT, Int32.reduceToNatClampNeg, eq_self, ne_eq, Int64.reduceAdd, Int64.reduceSub, Int64.reduceMul, Int64.reduceLT]
    refine tk3 (H := f + 4 + 2 * c) (nx := f + 6 + 3 * c) hF r5 r8 mH l8 (by omega) hI0 hc (by omega) hn c 0 _ (by omega) (fun L1 g1 g2 => ?_)
    refine ih (i + 1) L1 _ (by omega) (fun L' g3 g4 => h L' (fun a ha => ?_) (fun j hj k hk => ?_))
    · rw [g3 a ha, g1 a (by omega), up_is, if_neg (by omega)]
    · rw [g4 j hj k hk, g2 j (by omega) hj k hk, up_is, if_neg (by omega), up_is, if_pos rfl, hg k hk]
      constructor
      · rintro ((q | ⟨q1, q2⟩) | ⟨cell, q1, q2, q3⟩)
        · exact Or.inl q
        · exact Or.inr ⟨i, by omega, by omega, q1, q2⟩
        · exact Or.inr ⟨cell, by omega, q2, q3⟩
      · rintro (q | ⟨cell, q1, q2, q3, q4⟩)
        · exact Or.inl (Or.inl q)
        · by_cases g : cell = i
          · subst g
            exact Or.inl (Or.inr ⟨q3, q4⟩)
          · exact Or.inr ⟨cell, by omega, q2, q3, q4⟩
/-- takeTongs where other numbers are held -/
theorem tkA {w : Nat → Nat} {L : mL} (hS : FoS S R f c n) (hI : FoI I f c n w) (hw : wOk w c) (hc : c ≤ 5) (hn : n < 2 ^ 24) (hne : ¬ I f 6 = nu) (h : ∀ L' : mL, (∀ a, (a ≤ f + 4 + 2 * c ∨ (f + 4 + 2 * c + c < a ∧ a ≠ f + 6 + 3 * c)) → L' a = L a) → FoH L' f c n w nu → Q .null S (va_up I f (va_up (I f) 6 nu)) L' R) : EvM (d + 3) 3 [.ref f, .int nu] S I L R Q := by
  have hI' : FoI (va_up I f (va_up (I f) 6 nu)) f c n w := by
    refine ⟨?_, ?_, fun i hi => ?_⟩
    · rw [up_is, if_pos rfl, up_is, if_neg (by decide)]; exact hI.1
    · rw [up_is, if_pos rfl, up_is, if_neg (by decide)]; exact hI.2.1
    · rw [up_is, if_neg (by omega)]; exact hI.2.2 i hi
  obtain ⟨hF, r5, mH⟩ : ok S f 0 ∧ R f 5 = some (f + 4 + 2 * c) ∧ mat S R (f + 4 + 2 * c) c n := ⟨hS.1.1, hS.2.1.2.2.2.1, hS.2.2.1.2.2⟩
  simp only [M3, E3_0, E3_1, E3_4, E3_5, E3_8, E3_9, E3_10, E3_11, E3_14, E3_15, E3_17, E3_18, E3_21, E3_24, E3_25, E3_28, E3_29, E3_30, E3_31, E3_34, E3_37, E3_40, E3_41, E3_43, E3_44, E3_47, E3_50, E3_51, E3_52, E3_53, E3_54, E3_57, E3_60, E3_61, E3_63, E3_64, E3_67, E3_70, E3_71, E3_72, E3_73, E3_76, E3_77, E3_80, E3_81, E3_84, E3_85, E3_88, E3_89, E3_90, E3_93, E3_96, E3_99, E3_102, E3_105, hne, hF, rfs, rfn, cs0, csi, csl, csr, csn, kti, ktl, ktr, ktn, ktv, ktf, true_and, and_true, and_self, ↓reduceIte, Nat.reduceAdd, Nat.reduceSub, Nat.reduceMul, Nat.reduceLT, Nat.reduceLeDiff, Nat.reduceEqDiff, true_or, or_true, false_or, or_false, not_true_eq_false, not_false_eq_true, reduceCtorEq, cmp_lt, cmp_gt, cmp_eq, Int32.reduceAdd, Int32.reduceSub, Int32.reduceMul, Int32.reduceLT, Int32.reduceToNatClampNeg, eq_self, ne_eq, Int64.reduceAdd, Int64.reduceSub, Int64.reduceMul, Int64.reduceLT]
  refine tk1 hF r5 mH hI'.1 hc hn c 0 L (by omega) (fun L1 g1 g2 => ?_)
  refine tk2 hS hI' hw hc hn c 0 L1 _ (by omega) (fun L' g3 g4 => h L' (fun a ha => ?_) (fun i hi k hk => ?_))
  · rw [g3 a ha, g1 a (by omega)]
  · rw [g4 i hi k hk]
    constructor
    · rintro (q | ⟨cell, _, q2, q3, q4⟩)
      · exact absurd q (g2 i (by omega) hi k hk)
      · exact ⟨cell, q2, q3, q4⟩
    · rintro ⟨cell, q2, q3, q4⟩
      exact Or.inr ⟨cell, by omega, q2, q3, q4⟩
/-- a forge's sets of rows that can give, that can take -/
theorem fg_lp {w : Nat → Nat} {x1 x2 : Value} (hS : FoS S R f c n) (hI : FoI I f c n w) (hw : wOk w c) (hc : c ≤ 5) (hn : n < 2 ^ 24) (c2 : x2.category = 1) : ∀ (m i : Nat) (L : mL), i + m = c → (∀ L' : mL, (∀ a, (a ≤ f + 2 ∨ f + 3 + c + c < a ∨ a = f + 3 + c) → L' a = L a) → (∀ j, j < i → L' (f + 2 + 1 + j) = L (f + 2 + 1 + j) ∧ L' (f + 3 + c + 1 + j) = L (f + 3 + c + 1 + j)) → (∀ j, i ≤ j → j < c → ∀ k, k < 64 * n → (gb (L' (f + 2 + 1 + j)) k = true ↔ 2 ≤ dg w k j) ∧ (gb (L' (f + 3 + c + 1 + j)) k = true ↔ dg w k j ≤ 8)) → Q .null S I L' R) → Ev (d + 3) 0 154 [.ref f, x1, x2, .int (nI i)] [] S I L R Q := by
  obtain ⟨⟨hF, hW, hWl⟩, ⟨r2, r3, r4, r5, r7, r8, r9⟩, ⟨mG, mT, mH⟩, l7, l8, l9⟩ := hS
  obtain ⟨hI0, hI1, hIw⟩ := hI
  have hGR := matR mG
  have hG2 := mG.1.2
  have hTR := matR mT
  have hT2 := mT.1.2
  intro m
  induction m with
  | zero =>
    intro i L hi h
    obtain rfl : i = c := by omega
    have e0 : (nI i < nI i) = False := eq_false (nI_nlt (Nat.le_refl i) (by omega))
    rw [E0_154]
    simp only [E0_0, E0_1, E0_4, E0_5, E0_6, E0_9, E0_10, E0_11, E0_12, E0_13, E0_16, E0_19, E0_22, E0_23, E0_24, E0_27, E0_29, E0_32, E0_33, E0_34, E0_35, E0_38, E0_39, E0_40, E0_42, E0_45, E0_46, E0_49, E0_50, E0_51, E0_52, E0_53, E0_55, E0_56, E0_57, E0_60, E0_63, E0_64, E0_65, E0_67, E0_68, E0_70, E0_71, E0_74, E0_75, E0_76, E0_79, E0_80, E0_83, E0_87, E0_90, E0_91, E0_92, E0_95, E0_96, E0_99, E0_103, E0_106, E0_107, E0_108, E0_111, E0_112, E0_115, E0_119, E0_122, E0_123, E0_124, E0_127, E0_129, E0_132, E0_133, E0_134, E0_137, E0_139, E0_142, E0_143, E0_144, E0_147, E0_149, E0_152, E0_153, E0_155, E0_156, E0_159, E0_162, E0_163, E0_164, E0_167, E0_168, E0_171, E0_172, E0_173, E0_176, E0_177, E0_178, E0_181, E0_182, E0_185, E0_186, E0_187, E0_190, E0_193, E0_196, e0, hF, hI0, rfs, rfn, cs0, csi, csl, csr, csn, kti, ktl, ktr, ktn, ktv, ktf, true_and, and_true, and_self, ↓reduceIte, Nat.reduceAdd, Nat.reduceSub, Nat.reduceMul, Nat.reduceLT, Nat.reduceLeDiff, Nat.reduceEqDiff, true_or, or_true, false_or, or_false, not_true_eq_false, not_false_eq_true, reduceCtorEq, cmp_lt, cmp_gt, cmp_eq, Int32.reduceAdd, Int32.reduceSub, Int32.reduceMul, Int32.reduceLT, Int32.reduceToNatClampNeg, eq_self, ne_eq, Int64.reduceAdd, Int64.reduceSub, Int64.reduceMul, Int64.reduceLT]
    exact h L (fun _ _ => rfl) (fun _ _ => ⟨rfl, rfl⟩) (fun j h1 h2 => absurd h2 (by omega))
  | succ m ih =>
    intro i L hi h
    have e1 : (nI i < nI c) = True := eq_true (nI_lt (a := i) (b := c) (by omega) (by omega))
    have e3 : inb (nI i) c = True := inb_nI (by omega) (by omega)
    have e4 : (nI i).toNatClampNeg = i := nI_clamp (by omega)
    have hg := mG.2 i (by omega)
    have hg1 := hg.1
    have ht := mT.2 i (by omega)
    have ht1 := ht.1
    have hin : inb (nI i) (S.2.2.2 (f + 1)) := by rw [hWl]; exact of_eq_true e3
    have hwi : I (f + 1) (nI i).toNatClampNeg = nI (w i) := by rw [e4]; exact hIw i (by omega)
    rw [E0_154]
    simp only [E0_0, E0_1, E0_4, E0_5, E0_6, E0_9, E0_10, E0_11, E0_12, E0_13, E0_16, E0_19, E0_22, E0_23, E0_24, E0_27, E0_29, E0_32, E0_33, E0_34, E0_35, E0_38, E0_39, E0_40, E0_42, E0_45, E0_46, E0_49, E0_50, E0_51, E0_52, E0_53, E0_55, E0_56, E0_57, E0_60, E0_63, E0_64, E0_65, E0_67, E0_68, E0_70, E0_71, E0_74, E0_75, E0_76, E0_79, E0_80, E0_83, E0_87, E0_90, E0_91, E0_92, E0_95, E0_96, E0_99, E0_103, E0_106, E0_107, E0_108, E0_111, E0_112, E0_115, E0_119, E0_122, E0_123, E0_124, E0_127, E0_129, E0_132, E0_133, E0_134, E0_137, E0_139, E0_142, E0_143, E0_144, E0_147, E0_149, E0_152, E0_153, E0_155, E0_156, E0_159, E0_162, E0_163, E0_164, E0_167, E0_168, E0_171, E0_172, E0_173, E0_176, E0_177, E0_178, E0_181, E0_182, E0_185, E0_186, E0_187, E0_190, E0_193, E0_196, e1, e3, e4, hF, hI0, r3, r4, hGR, hG2, hTR, hT2, hg1, ht1, rfs, rfn, cs0, csi, csl, csr, csn, kti, ktl, ktr, ktn, ktv, ktf, true_and, and_true, and_self, ↓reduceIte, Nat.reduceAdd, Nat.reduceSub, Nat.reduceMul, Nat.reduceLT, Nat.reduceLeDiff, Nat.reduceEqDiff, true_or, or_true, false_or, or_false, not_true_eq_false, not_false_eq_true, reduceCtorEq, cmp_lt, cmp_gt, cmp_eq, Int32.reduceAdd, Int32.reduceSub, Int32.reduceMul, Int32.reduceLT, Int32.reduceToNatClampNeg, eq_self, ne_eq, Int64.reduceAdd, Int64.reduceSub, Int64.reduceMul, Int64.reduceLT]
    refine findR (d := d) (W := f + 1) (n := n) (w := w i) hF hI1 r2 ⟨hW.1, Or.inl hW.2⟩ hin hwi hg.2.1 hg.2.2 hn (hw i (by omega)).1 (hw i (by omega)).2 (fun ga hga => ?_)
    simp only [E0_0, E0_1, E0_4, E0_5, E0_6, E0_9, E0_10, E0_11, E0_12, E0_13, E0_16, E0_19, E0_22, E0_23, E0_24, E0_27, E0_29, E0_32, E0_33, E0_34, E0_35, E0_38, E0_39, E0_40, E0_42, E0_45, E0_46, E0_49, E0_50, E0_51, E0_52, E0_53, E0_55, E0_56, E0_57, E0_60, E0_63, E0_64, E0_65, E0_67, E0_68, E0_70, E0_71, E0_74, E0_75, E0_76, E0_79, E0_80, E0_83, E0_87, E0_90, E0_91, E0_92, E0_95, E0_96, E0_99, E0_103, E0_106, E0_107, E0_108, E0_111, E0_112, E0_115, E0_119, E0_122, E0_123, E0_124, E0_127, E0_129, E0_132, E0_133, E0_134, E0_137, E0_139, E0_142, E0_143, E0_144, E0_147, E0_149, E0_152, E0_153, E0_155, E0_156, E0_159, E0_162, E0_163, E0_164, E0_167, E0_168, E0_171, E0_172, E0_173, E0_176, E0_177, E0_178, E0_181, E0_182, E0_185, E0_186, E0_187, E0_190, E0_193, E0_196, e1, e3, e4, hF, hI0, r3, r4, hGR, hG2, hTR, hT2, hg1, ht1, rfs, rfn, cs0, csi, csl, csr, csn, kti, ktl, ktr, ktn, ktv, ktf, true_and, and_true, and_self, ↓reduceIte, Nat.reduceAdd, Nat.reduceSub, Nat.reduceMul, Nat.reduceLT, Nat.reduceLeDiff, Nat.reduceEqDiff, true_or, or_true, false_or, or_false, not_true_eq_false, not_false_eq_true, reduceCtorEq, cmp_lt, cmp_gt, cmp_eq, Int32.reduceAdd, Int32.reduceSub, Int32.reduceMul, Int32.reduceLT, Int32.reduceToNatClampNeg, eq_self, ne_eq, Int64.reduceAdd, Int64.reduceSub, Int64.reduceMul, Int64.reduceLT]
    refine findR (d := d) (W := f + 1) (n := n) (w := w i) hF hI1 r2 ⟨hW.1, Or.inl hW.2⟩ hin hwi ht.2.1 ht.2.2 hn (hw i (by omega)).1 (hw i (by omega)).2 (fun gt2 hgt => ?_)
    simp only [E0_0, E0_1, E0_4, E0_5, E0_6, E0_9, E0_10, E0_11, E0_12, E0_13, E0_16, E0_19, E0_22, E0_23, E0_24, E0_27, E0_29, E0_32, E0_33, E0_34, E0_35, E0_38, E0_39, E0_40, E0_42, E0_45, E0_46, E0_49, E0_50, E0_51, E0_52, E0_53, E0_55, E0_56, E0_57, E0_60, E0_63, E0_64, E0_65, E0_67, E0_68, E0_70, E0_71, E0_74, E0_75, E0_76, E0_79, E0_80, E0_83, E0_87, E0_90, E0_91, E0_92, E0_95, E0_96, E0_99, E0_103, E0_106, E0_107, E0_108, E0_111, E0_112, E0_115, E0_119, E0_122, E0_123, E0_124, E0_127, E0_129, E0_132, E0_133, E0_134, E0_137, E0_139, E0_142, E0_143, E0_144, E0_147, E0_149, E0_152, E0_153, E0_155, E0_156, E0_159, E0_162, E0_163, E0_164, E0_167, E0_168, E0_171, E0_172, E0_173, E0_176, E0_177, E0_178, E0_181, E0_182, E0_185, E0_186, E0_187, E0_190, E0_193, E0_196, c2, rfs, rfn, cs0, csi, csl, csr, csn, kti, ktl, ktr, ktn, ktv, ktf, true_and, and_true, and_self, ↓reduceIte, Nat.reduceAdd, Nat.reduceSub, Nat.reduceMul, Nat.reduceLT, Nat.reduceLeDiff, Nat.reduceEqDiff, true_or, or_true, false_or, or_false, not_true_eq_false, not_false_eq_true, reduceCtorEq, cmp_lt, cmp_gt, cmp_eq, Int32.reduceAdd, Int32.reduceSub, Int32.reduceMul, Int32.reduceLT, Int32.reduceToNatClampNeg, eq_self, ne_eq, Int64.reduceAdd, Int64.reduceSub, Int64.reduceMul, Int64.reduceLT, nI_1]
    refine ih (i + 1) _ (by omega) (fun L' g1 g2 g3 => h L' (fun a ha => ?_) (fun j hj => ?_) (fun j h1 h2 k hk => ?_))
    · rw [g1 a ha, up_is, if_neg (by omega), up_is, if_neg (by omega)]
    · rw [(g2 j (by omega)).1, (g2 j (by omega)).2, up_is, if_neg (by omega), up_is, if_neg (by omega), up_is, if_neg (by omega), up_is, if_neg (by omega)]
      exact ⟨rfl, rfl⟩
    · by_cases g : j = i
      · subst g
        rw [(g2 j (by omega)).1, (g2 j (by omega)).2, up_is, if_neg (by omega), up_is, if_pos rfl, up_is, if_pos rfl, hga k hk, hgt k hk]
        exact ⟨bit1020 _ (by omega) (by omega), bit510 _ (by omega) (by omega)⟩
      · exact g3 j (by omega) h2 k hk
end TK
