/-! group C: how far two rows of IRON lie apart, on both sides -/
def dsum (f g : Nat → Nat) : Nat → Nat → Nat → Nat
  | 0, _, s => s
  | q + 1, i, s => dsum f g q (i + 1) (s + (f i - g i + (g i - f i)))
theorem dsum_le {f g : Nat → Nat} : ∀ q i s, s ≤ dsum f g q i s
  | 0, _, _ => Nat.le_refl _
  | q + 1, i, s => Nat.le_trans (Nat.le_add_right _ _) (dsum_le q (i + 1) _)
theorem dsum_0 {f g : Nat → Nat} : ∀ q i s, dsum f g q i s = 0 ↔ (s = 0 ∧ ∀ c, i ≤ c → c < i + q → f c = g c)
  | 0, i, s => ⟨fun h => ⟨h, fun c h1 h2 => absurd h2 (by omega)⟩, fun h => h.1⟩
  | q + 1, i, s => by
    show dsum f g q (i + 1) (s + (f i - g i + (g i - f i))) = 0 ↔ _
    rw [dsum_0 q (i + 1)]
    refine ⟨fun h => ⟨by omega, fun c h1 h2 => ?_⟩, fun h => ⟨?_, fun c h1 h2 => h.2 c (by omega) (by omega)⟩⟩
    · by_cases e : c = i
      · subst e
        omega
      · exact h.2 c (by omega) (by omega)
    · have := h.2 i (Nat.le_refl i) (by omega)
      omega
theorem dsum_b {f g : Nat → Nat} : ∀ q i s, (∀ c, i ≤ c → c < i + q → f c ≤ 9 ∧ g c ≤ 9) → dsum f g q i s ≤ s + 9 * q
  | 0, _, _, _ => Nat.le_refl _
  | q + 1, i, s, h => by
    have a := h i (Nat.le_refl i) (by omega)
    have b := dsum_b q (i + 1) (s + (f i - g i + (g i - f i))) (fun c h1 h2 => h c (by omega) (by omega))
    show dsum f g q (i + 1) (s + (f i - g i + (g i - f i))) ≤ _
    omega
theorem dsum_cg {f g f' g' : Nat → Nat} : ∀ q i s, (∀ c, i ≤ c → c < i + q → f' c = f c ∧ g' c = g c) → dsum f' g' q i s = dsum f g q i s
  | 0, _, _, _ => rfl
  | q + 1, i, s, h => by
    obtain ⟨a, b⟩ := h i (Nat.le_refl i) (by omega)
    show dsum f' g' q (i + 1) (s + (f' i - g' i + (g' i - f' i))) = dsum f g q (i + 1) (s + (f i - g i + (g i - f i)))
    rw [a, b]
    exact dsum_cg q (i + 1) _ (fun c h1 h2 => h c (by omega) (by omega))
theorem dab : ∀ x, x < 10 → ∀ y, y < 10 → mab (nI x - nI y) = nI (x - y + (y - x)) := by decide +kernel
theorem dab2 : ∀ x, x < 10 → ∀ y, y < 10 → (nI x - nI y < 0 → -(nI x - nI y) = nI (x - y + (y - x))) ∧ (¬ nI x - nI y < 0 → nI x - nI y = nI (x - y + (y - x))) := by decide +kernel
/-- the class's -/
theorem apL_d {I : mI} {w a p r : Nat} {f g : Nat → Nat} (ew : I 5 0 = nI w) (w5 : w ≤ 5) (hf : ∀ c, c < w → I 38 (p + c) = nI (f c) ∧ f c ≤ 9) (hg : ∀ c, c < w → I a (r + c) = nI (g c) ∧ g c ≤ 9) : ∀ (q c s : Nat), c + q = 5 → apL I p a r q c (nI s) = nI (dsum f g (w - c) c s) := by
  intro q
  induction q with
  | zero =>
    intro c s hc
    obtain rfl : c = 5 := by omega
    rw [show w - 5 = 0 by omega]
    rfl
  | succ q ih =>
    intro c s hc
    unfold apL
    by_cases h : c < w
    · obtain ⟨f1, f2⟩ := hf c (by omega)
      obtain ⟨g1, g2⟩ := hg c (by omega)
      rw [ew, if_pos (nI_lt h (by omega)), f1, g1, dab _ (by omega) _ (by omega), nI_add, ih (c + 1) _ (by omega), show w - c = (w - (c + 1)) + 1 by omega]
      rfl
    · rw [ew, if_neg (nI_nlt (by omega) (by omega)), show w - c = 0 by omega]
      rfl
section AP
variable {d w k : Nat} {S : mS} {J : mI} {L : mL} {R : mR} {Q : mQ} {f g : Nat → Nat}
/-- the reference's -/
theorem ap_d (hS : Pm S) (hR : Pr R) (w5 : w ≤ 5) (hk : k < 12) (ew : J 56 0 = nI w) (hf : ∀ c, c < w → J 64 c = nI (f c) ∧ f c ≤ 9) (hg : ∀ c, c < w → J 71 (5 * k + c) = nI (g c) ∧ g c ≤ 9) : ∀ (q i s : Nat) (y : Value), i + q = w → Q (.int (nI (dsum f g q i s))) S J L R → Ev (d + 1) 203 4 [.ref 54, .int (nI k), .int (nI s), .int (nI i), y] [] S J L R Q := by
  have z0 : inb 0 8060 = True := inb_nI (j := 0) (by decide) (by decide)
  intro q
  induction q with
  | zero =>
    intro i s y hi hq
    have e1 : (nI i < nI w) = False := eq_false (nI_nlt (by omega) (by omega))
    simp only [E203_4, E203_5, E203_6, E203_9, E203_10, E203_11, E203_55, E203_56, pk54 hS, pk56 hS, pl56 hS, pa56 hS, pi56 hS, pr54_3 hR, rfs, rfn, cs0, csi, csl, csr, csn, kti, ktl, ktr, ktn, ktv, ktf, true_and, and_true, and_self, ↓reduceIte, Nat.reduceAdd, Nat.reduceSub, Nat.reduceMul, Nat.reduceLT, Nat.reduceLeDiff, Nat.reduceEqDiff, true_or, or_true, false_or, or_false, not_true_eq_false, not_false_eq_true, reduceCtorEq, cmp_lt, cmp_gt, cmp_eq, Int32.reduceAdd, Int32.reduceSub, Int32.reduceMul, Int32.reduceLT, Int32.reduceToNatClampNeg, eq_self, ne_eq, Int64.reduceAdd, Int64.reduceSub, Int64.reduceMul, Int64.reduceLT, z0, ew, e1]
    exact hq
  | succ q ih =>
    intro i s y hi hq
    have e1 : (nI i < nI w) = True := eq_true (nI_lt (by omega) (by omega))
    have a4 : inb (nI i) 5 = True := inb_nI (by omega) (by decide)
    have b4 : (nI i).toNatClampNeg = i := nI_clamp (by omega)
    have e5 : (5 : Int32) * nI k + nI i = nI (5 * k + i) := by rw [show (5 : Int32) = nI 5 from rfl, pk_mul, nI_add]
    have a5 : inb (nI (5 * k + i)) 60 = True := inb_nI (by omega) (by decide)
    have b5 : (nI (5 * k + i)).toNatClampNeg = 5 * k + i := nI_clamp (by omega)
    obtain ⟨f1, f2⟩ := hf i (by omega)
    obtain ⟨g1, g2⟩ := hg i (by omega)
    obtain ⟨d1, d2⟩ := dab2 (f i) (by omega) (g i) (by omega)
    have go := fun y => ih (i + 1) (s + (f i - g i + (g i - f i))) y (by omega) hq
    simp only [E203_4, E203_5, E203_6, E203_9, E203_10, E203_11, E203_14, E203_15, E203_18, E203_19, E203_20, E203_21, E203_24, E203_25, E203_26, E203_27, E203_28, E203_29, E203_30, E203_31, E203_33, pk54 hS, pk56 hS, pl56 hS, pa56 hS, pi56 hS, pk64 hS, pl64 hS, pa64 hS, pi64 hS, pk71 hS, pl71 hS, pa71 hS, pi71 hS, pr54_3 hR, pr54_23 hR, pr54_49 hR, rfs, rfn, cs0, csi, csl, csr, csn, kti, ktl, ktr, ktn, ktv, ktf, true_and, and_true, and_self, ↓reduceIte, Nat.reduceAdd, Nat.reduceSub, Nat.reduceMul, Nat.reduceLT, Nat.reduceLeDiff, Nat.reduceEqDiff, true_or, or_true, false_or, or_false, not_true_eq_false, not_false_eq_true, reduceCtorEq, cmp_lt, cmp_gt, cmp_eq, Int32.reduceAdd, Int32.reduceSub, Int32.reduceMul, Int32.reduceLT, Int32.reduceToNatClampNeg, eq_self, ne_eq, Int64.reduceAdd, Int64.reduceSub, Int64.reduceMul, Int64.reduceLT, ew, e1, a4, b4, z0, e5, a5, b5, f1, g1]
    generalize nI (f i) - nI (g i) = z at d1 d2 ⊢
    by_cases h : z < 0
    · have h' : (z < 0) = True := eq_true h
      simp only [E203_34, E203_36, E203_39, E203_41, E203_42, E203_45, E203_47, E203_48, E203_49, E203_52, rfs, rfn, cs0, csi, csl, csr, csn, kti, ktl, ktr, ktn, ktv, ktf, true_and, and_true, and_self, ↓reduceIte, Nat.reduceAdd, Nat.reduceSub, Nat.reduceMul, Nat.reduceLT, Nat.reduceLeDiff, Nat.reduceEqDiff, true_or, or_true, false_or, or_false, not_true_eq_false, not_false_eq_true, reduceCtorEq, cmp_lt, cmp_gt, cmp_eq, Int32.reduceAdd, Int32.reduceSub, Int32.reduceMul, Int32.reduceLT, Int32.reduceToNatClampNeg, eq_self, ne_eq, Int64.reduceAdd, Int64.reduceSub, Int64.reduceMul, Int64.reduceLT, h', d1 h, nI_add, nI_1]
      exact go _
    · have h' : (z < 0) = False := eq_false h
      simp only [E203_34, E203_36, E203_39, E203_41, E203_42, E203_45, E203_47, E203_48, E203_49, E203_52, rfs, rfn, cs0, csi, csl, csr, csn, kti, ktl, ktr, ktn, ktv, ktf, true_and, and_true, and_self, ↓reduceIte, Nat.reduceAdd, Nat.reduceSub, Nat.reduceMul, Nat.reduceLT, Nat.reduceLeDiff, Nat.reduceEqDiff, true_or, or_true, false_or, or_false, not_true_eq_false, not_false_eq_true, reduceCtorEq, cmp_lt, cmp_gt, cmp_eq, Int32.reduceAdd, Int32.reduceSub, Int32.reduceMul, Int32.reduceLT, Int32.reduceToNatClampNeg, eq_self, ne_eq, Int64.reduceAdd, Int64.reduceSub, Int64.reduceMul, Int64.reduceLT, h', nI_1]
      rw [d2 h, nI_add]
      exact go _
theorem aptE (hS : Pm S) (hR : Pr R) (w5 : w ≤ 5) (hk : k < 12) (ew : J 56 0 = nI w) (hf : ∀ c, c < w → J 64 c = nI (f c) ∧ f c ≤ 9) (hg : ∀ c, c < w → J 71 (5 * k + c) = nI (g c) ∧ g c ≤ 9) (hq : Q (.int (nI (dsum f g w 0 0))) S J L R) : EvM (d + 1) 203 [.ref 54, .int (nI k)] S J L R Q := by
  simp only [M203, E203_0, E203_1, E203_2, E203_3, rfs, rfn, cs0, csi, csl, csr, csn, kti, ktl, ktr, ktn, ktv, ktf, true_and, and_true, and_self, ↓reduceIte, Nat.reduceAdd, Nat.reduceSub, Nat.reduceMul, Nat.reduceLT, Nat.reduceLeDiff, Nat.reduceEqDiff, true_or, or_true, false_or, or_false, not_true_eq_false, not_false_eq_true, reduceCtorEq, cmp_lt, cmp_gt, cmp_eq, Int32.reduceAdd, Int32.reduceSub, Int32.reduceMul, Int32.reduceLT, Int32.reduceToNatClampNeg, eq_self, ne_eq, Int64.reduceAdd, Int64.reduceSub, Int64.reduceMul, Int64.reduceLT]
  exact ap_d (d := d) hS hR w5 hk ew hf hg w 0 0 _ (by omega) hq
theorem kpiE (hS : Pm S) (hR : Pr R) (hq : ∀ J', (∀ a, ¬ a = 71 → J' a = J a) → (∀ c, c < 5 → J' 71 c = J 64 c) → Q .null S J' L R) : EvM (d + 1) 202 [.ref 54] S J L R Q := by
  simp only [M202, E202_0, E202_1, E202_2, E202_3, E202_4, E202_7, E202_8, E202_11, E202_12, E202_13, E202_16, E202_17, E202_18, E202_19, E202_22, E202_25, pk54 hS, pk64 hS, pl64 hS, pa64 hS, pi64 hS, pk71 hS, pl71 hS, pa71 hS, pi71 hS, pr54_23 hR, pr54_49 hR, rfs, rfn, cs0, csi, csl, csr, csn, kti, ktl, ktr, ktn, ktv, ktf, true_and, and_true, and_self, ↓reduceIte, Nat.reduceAdd, Nat.reduceSub, Nat.reduceMul, Nat.reduceLT, Nat.reduceLeDiff, Nat.reduceEqDiff, true_or, or_true, false_or, or_false, not_true_eq_false, not_false_eq_true, reduceCtorEq, cmp_lt, cmp_gt, cmp_eq, Int32.reduceAdd, Int32.reduceSub, Int32.reduceMul, Int32.reduceLT, Int32.reduceToNatClampNeg, eq_self, ne_eq, Int64.reduceAdd, Int64.reduceSub, Int64.reduceMul, Int64.reduceLT, inb_is, pt, pt_m]
  refine hq _ (fun a ha => ?_) (fun c hc => ?_)
  · rw [pt_n ha, pt_n ha, pt_n ha, pt_n ha, pt_n ha]
  · have e : c = 0 ∨ c = 1 ∨ c = 2 ∨ c = 3 ∨ c = 4 := by omega
    rcases e with rfl | rfl | rfl | rfl | rfl <;> simp (disch := decide) only [pt_s, pt_f] <;> rfl
end AP
