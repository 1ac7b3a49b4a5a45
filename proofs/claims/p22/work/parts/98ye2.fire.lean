/-! group C: WELD and FIRE beside the class's -/
theorem bI_or1 {a b : Bool} : bI a ||| bI b = bI (a || b) := by cases a <;> cases b <;> decide
theorem nr_n : ∀ j, j < 5 → ∀ i, i < 5 → i ≤ j + 1 → j ≤ i + 1 → decide (¬ nI j = -1 ∧ true = true ∧ ¬ 1 < mab (nI i - nI j)) = true := by decide +kernel
theorem nr_t : ∀ a, a < 5 → ∀ b, b < 5 → decide (1 < mab (nI a - nI b)) = !decide (¬ 1 < nI a - nI b ∧ ¬ 1 < nI b - nI a) := by decide +kernel
theorem nr_2 : ∀ a, a < 5 → ∀ b, b < 5 → decide (¬ 1 < nI a - nI b ∧ ¬ 1 < nI b - nI a) = decide (a ≤ b + 1 ∧ b ≤ a + 1) := by decide +kernel
section SRX
variable {d u w z i j p : Nat} {S : mS} {C J C' J' : mI} {L : mL} {R : mR} {Q : mQ}
theorem SR.hn (h : SR u w C J) (e1 : C u 5 = nI j) (hj : j < w) (hi : i < w) (n1 : i ≤ j + 1) (n2 : j ≤ i + 1) : htB C u (nI i) = true := by
  have w5 := h.w5
  unfold htB
  rw [h.th hi, e1]
  exact nr_n j (by omega) i (by omega) n1 n2
theorem welR {σ : Nat} (hS : Pm S) (hR : Pr R) (h : SR u w C J) (hs : SlR u C J L) (hi : i + 1 < w) (es : J 56 14 = nI σ) (h100 : σ ≤ 100) (hq : ∀ J', SR u w (welF C u (nI i) (nI σ)) J' → SlR u (welF C u (nI i) (nI σ)) J' L → Gr J J' → Q .null S J' L R) : EvM (d + 2) 193 [.ref 54, .int (nI i)] S J L R Q := by
  have w5 := h.w5
  have hi' : i < w := by omega
  have a0 : inb (nI i) 5 = True := inb_nI (by omega) (by decide)
  have b0 : (nI i).toNatClampNeg = i := nI_clamp (by omega)
  have z14 : inb 14 8060 = True := inb_nI (j := 14) (by decide) (by decide)
  have i1 : nI i + 1 = nI (i + 1) := nI_1 i
  have e0 : welF C u (nI i) (nI σ) = (if usb C u (whB C u (nI i)) = true then we1 (orb (useF C u (nI i) (whB C u (nI i))) (u + 2) 9 (nI i)) u (nI i) (nI σ) else useF C u (nI i) (whB C u (nI i))) := by
    unfold welF
    rw [if_pos (h.th hi'), i1, if_pos (h.th hi)]
  rw [e0] at hq
  have tail : ∀ (t : Bool) (y2 : Value), t = whB C u (nI i) → Ev (d + 2) 193 42 [.ref 54, .int (nI i), y2] [.int (bI t), .ref 54] S J L R Q := by
    intro t y2 et
    rw [← et] at hq
    simp only [E193_42, E193_43, pk54 hS, rfs, rfn, cs0, csi, csl, csr, csn, kti, ktl, ktr, ktn, ktv, ktf, true_and, and_true, and_self, ↓reduceIte, Nat.reduceAdd, Nat.reduceSub, Nat.reduceMul, Nat.reduceLT, Nat.reduceLeDiff, Nat.reduceEqDiff, true_or, or_true, false_or, or_false, not_true_eq_false, not_false_eq_true, reduceCtorEq, cmp_lt, cmp_gt, cmp_eq, Int32.reduceAdd, Int32.reduceSub, Int32.reduceMul, Int32.reduceLT, Int32.reduceToNatClampNeg, eq_self, ne_eq, Int64.reduceAdd, Int64.reduceSub, Int64.reduceMul, Int64.reduceLT]
    refine useR hS h hs (fun J1 k1 s1 g1 => ?_)
    cases e : usb C u t
    · rw [e, if_neg (by decide)] at hq
      simp only [E193_46, E193_98, rfs, rfn, cs0, csi, csl, csr, csn, kti, ktl, ktr, ktn, ktv, ktf, true_and, and_true, and_self, ↓reduceIte, Nat.reduceAdd, Nat.reduceSub, Nat.reduceMul, Nat.reduceLT, Nat.reduceLeDiff, Nat.reduceEqDiff, true_or, or_true, false_or, or_false, not_true_eq_false, not_false_eq_true, reduceCtorEq, cmp_lt, cmp_gt, cmp_eq, Int32.reduceAdd, Int32.reduceSub, Int32.reduceMul, Int32.reduceLT, Int32.reduceToNatClampNeg, eq_self, ne_eq, Int64.reduceAdd, Int64.reduceSub, Int64.reduceMul, Int64.reduceLT, bI_f]
      exact hq J1 k1 s1 g1
    · rw [e, if_pos rfl] at hq
      generalize useF C u (nI i) t = C1 at k1 s1 hq
      obtain ⟨l, l4, f1, f2⟩ := k1.lf
      have k2 : SR u w (orb C1 (u + 2) 9 (nI i)) (put J1 54 38 (J1 54 38 ||| 1 <<< (nI i &&& 31))) := k1.b (by decide) rfl rfl
      have s2 : SlR u (orb C1 (u + 2) 9 (nI i)) (put J1 54 38 (J1 54 38 ||| 1 <<< (nI i &&& 31))) L := (by repeat (first | assumption | refine SlR.pj ?_ (by omega) | refine SlR.pc ?_ (by omega)))
      have g2 : Gr J (put J1 54 38 (J1 54 38 ||| 1 <<< (nI i &&& 31))) := Gr.p4 g1 (by decide)
      have f14 : J1 56 14 = nI σ := by rw [g1.w]; exact es
      have ev : (30 : Int32) + 10 * nI l + nI σ = nI (30 + 10 * l + σ) := by rw [show (30 : Int32) = nI 30 from rfl, show (10 : Int32) = nI 10 from rfl, pk_mul, nI_add, nI_add]
      have c6 : orb C1 (u + 2) 9 (nI i) u 6 = nI l := (pt_m (by omega)).trans f1
      have ew : we1 (orb C1 (u + 2) 9 (nI i)) u (nI i) (nI σ) = put (orb C1 (u + 2) 9 (nI i)) (u + 4) i (if nI (30 + 10 * l + σ) < 100 then nI (30 + 10 * l + σ) else 100) := by
        unfold we1
        rw [b0, c6, ev]
      rw [ew] at hq
      by_cases g : 100 < 30 + 10 * l + σ
      · have g' : ((100 : Int32) < nI (30 + 10 * l + σ)) = True := eq_true (nI_lt (a := 100) (b := 30 + 10 * l + σ) g (by omega))
        have gn : ¬ nI (30 + 10 * l + σ) < (100 : Int32) := nI_nlt (a := 30 + 10 * l + σ) (b := 100) (by omega) (by omega)
        rw [if_neg gn] at hq
        simp (disch := first | omega | simp only [kti, ktl, ktr, ktn, ktv, ktf]) only [E193_46, E193_49, E193_50, E193_51, E193_54, E193_55, E193_56, E193_57, E193_58, E193_61, E193_63, E193_65, E193_66, E193_69, E193_70, E193_71, E193_72, E193_75, E193_77, E193_78, E193_79, E193_80, E193_81, E193_84, E193_85, E193_86, E193_88, E193_91, E193_93, E193_96, E193_97, E193_98, pk54 hS, pk56 hS, pl56 hS, pa56 hS, pi56 hS, pk66 hS, pl66 hS, pa66 hS, pi66 hS, pr54_3 hR, pr54_25 hR, rfs, rfn, cs0, csi, csl, csr, csn, kti, ktl, ktr, ktn, ktv, ktf, true_and, and_true, and_self, ↓reduceIte, Nat.reduceAdd, Nat.reduceSub, Nat.reduceMul, Nat.reduceLT, Nat.reduceLeDiff, Nat.reduceEqDiff, true_or, or_true, false_or, or_false, not_true_eq_false, not_false_eq_true, reduceCtorEq, cmp_lt, cmp_gt, cmp_eq, Int32.reduceAdd, Int32.reduceSub, Int32.reduceMul, Int32.reduceLT, Int32.reduceToNatClampNeg, eq_self, ne_eq, Int64.reduceAdd, Int64.reduceSub, Int64.reduceMul, Int64.reduceLT, bI_t, n1_0, pt, pt_s, pt_f, pt_m, a0, b0, z14, f2, f14, ev, g']
        refine hq _ (k2.q rfl) (by repeat (first | assumption | refine SlR.pj ?_ (by omega) | refine SlR.pc ?_ (by omega))) (Gr.pa g2 (by decide))
      · have g' : ((100 : Int32) < nI (30 + 10 * l + σ)) = False := eq_false (nI_nlt (a := 100) (b := 30 + 10 * l + σ) (by omega) (by omega))
        have ei : (if nI (30 + 10 * l + σ) < 100 then nI (30 + 10 * l + σ) else 100) = nI (30 + 10 * l + σ) := by
          by_cases q : 30 + 10 * l + σ = 100
          · rw [q]
            exact if_neg (by decide)
          · exact if_pos (nI_lt (a := 30 + 10 * l + σ) (b := 100) (by omega) (by decide))
        rw [ei] at hq
        simp (disch := first | omega | simp only [kti, ktl, ktr, ktn, ktv, ktf]) only [E193_46, E193_49, E193_50, E193_51, E193_54, E193_55, E193_56, E193_57, E193_58, E193_61, E193_63, E193_65, E193_66, E193_69, E193_70, E193_71, E193_72, E193_75, E193_77, E193_78, E193_79, E193_80, E193_81, E193_84, E193_85, E193_86, E193_88, E193_91, E193_93, E193_96, E193_97, E193_98, pk54 hS, pk56 hS, pl56 hS, pa56 hS, pi56 hS, pk66 hS, pl66 hS, pa66 hS, pi66 hS, pr54_3 hR, pr54_25 hR, rfs, rfn, cs0, csi, csl, csr, csn, kti, ktl, ktr, ktn, ktv, ktf, true_and, and_true, and_self, ↓reduceIte, Nat.reduceAdd, Nat.reduceSub, Nat.reduceMul, Nat.reduceLT, Nat.reduceLeDiff, Nat.reduceEqDiff, true_or, or_true, false_or, or_false, not_true_eq_false, not_false_eq_true, reduceCtorEq, cmp_lt, cmp_gt, cmp_eq, Int32.reduceAdd, Int32.reduceSub, Int32.reduceMul, Int32.reduceLT, Int32.reduceToNatClampNeg, eq_self, ne_eq, Int64.reduceAdd, Int64.reduceSub, Int64.reduceMul, Int64.reduceLT, bI_t, n1_0, pt, pt_s, pt_f, pt_m, a0, b0, z14, f2, f14, ev, g']
        refine hq _ (k2.q rfl) (by repeat (first | assumption | refine SlR.pj ?_ (by omega) | refine SlR.pc ?_ (by omega))) (Gr.pa g2 (by decide))
  obtain ⟨l28, hh⟩ := id h.2.2.2.2.2.1
  rcases hh with ⟨e1, _⟩ | ⟨j, hj, e1, _⟩
  · have t0 : htB C u (nI i) = false := decide_eq_false (fun z => z.1 e1)
    have k := tail false nv (decide_eq_false (fun z => z.1 e1)).symm
    rw [bI_f] at k
    simp only [M193, E193_0, E193_1, E193_2, E193_3, E193_6, E193_41, isR hS h hi', pk54 hS, rfs, rfn, cs0, csi, csl, csr, csn, kti, ktl, ktr, ktn, ktv, ktf, true_and, and_true, and_self, ↓reduceIte, Nat.reduceAdd, Nat.reduceSub, Nat.reduceMul, Nat.reduceLT, Nat.reduceLeDiff, Nat.reduceEqDiff, true_or, or_true, false_or, or_false, not_true_eq_false, not_false_eq_true, reduceCtorEq, cmp_lt, cmp_gt, cmp_eq, Int32.reduceAdd, Int32.reduceSub, Int32.reduceMul, Int32.reduceLT, Int32.reduceToNatClampNeg, eq_self, ne_eq, Int64.reduceAdd, Int64.reduceSub, Int64.reduceMul, Int64.reduceLT, t0, bI_f]
    exact k
  · have jn : ¬ C u 5 = -1 := fun z => by
      rw [e1] at z
      exact nI_pos (n := j) (by omega) (by rw [z]; decide)
    by_cases g1 : j = i
    · subst g1
      have t1 := h.hn e1 hj hi' (by omega) (by omega)
      have t2 := h.hn e1 hj hi (by omega) (by omega)
      have k := tail true nv (decide_eq_true ⟨jn, Or.inl e1⟩).symm
      rw [bI_t] at k
      have c1 : (J 54 28 = nI j) = True := eq_true (l28.trans e1)
      simp only [M193, E193_0, E193_1, E193_2, E193_3, E193_6, E193_9, E193_10, E193_11, E193_12, E193_13, E193_16, E193_19, E193_20, E193_23, E193_24, E193_27, E193_28, E193_31, E193_32, E193_33, E193_34, E193_37, E193_38, isR hS h hi', isR hS h hi, pk54 hS, rfs, rfn, cs0, csi, csl, csr, csn, kti, ktl, ktr, ktn, ktv, ktf, true_and, and_true, and_self, ↓reduceIte, Nat.reduceAdd, Nat.reduceSub, Nat.reduceMul, Nat.reduceLT, Nat.reduceLeDiff, Nat.reduceEqDiff, true_or, or_true, false_or, or_false, not_true_eq_false, not_false_eq_true, reduceCtorEq, cmp_lt, cmp_gt, cmp_eq, Int32.reduceAdd, Int32.reduceSub, Int32.reduceMul, Int32.reduceLT, Int32.reduceToNatClampNeg, eq_self, ne_eq, Int64.reduceAdd, Int64.reduceSub, Int64.reduceMul, Int64.reduceLT, t1, t2, bI_t, n1_0, i1, c1]
      exact k
    · have c1 : (J 54 28 = nI i) = False := eq_false (fun z => g1 ((nI_eq (by omega) (by omega)).mp ((l28.trans e1).symm.trans z)))
      by_cases g2 : j = i + 1
      · subst g2
        have t1 := h.hn e1 hj hi' (by omega) (by omega)
        have t2 := h.hn e1 hj hi (by omega) (by omega)
        have k := tail true nv (decide_eq_true ⟨jn, Or.inr (e1.trans i1.symm)⟩).symm
        rw [bI_t] at k
        have c2 : (J 54 28 = nI (i + 1)) = True := eq_true (l28.trans e1)
        simp only [M193, E193_0, E193_1, E193_2, E193_3, E193_6, E193_9, E193_10, E193_11, E193_12, E193_13, E193_16, E193_19, E193_20, E193_23, E193_24, E193_27, E193_28, E193_31, E193_32, E193_33, E193_34, E193_37, E193_38, isR hS h hi', isR hS h hi, pk54 hS, rfs, rfn, cs0, csi, csl, csr, csn, kti, ktl, ktr, ktn, ktv, ktf, true_and, and_true, and_self, ↓reduceIte, Nat.reduceAdd, Nat.reduceSub, Nat.reduceMul, Nat.reduceLT, Nat.reduceLeDiff, Nat.reduceEqDiff, true_or, or_true, false_or, or_false, not_true_eq_false, not_false_eq_true, reduceCtorEq, cmp_lt, cmp_gt, cmp_eq, Int32.reduceAdd, Int32.reduceSub, Int32.reduceMul, Int32.reduceLT, Int32.reduceToNatClampNeg, eq_self, ne_eq, Int64.reduceAdd, Int64.reduceSub, Int64.reduceMul, Int64.reduceLT, t1, t2, bI_t, n1_0, i1, c1, c2]
        exact k
      · have c2 : (J 54 28 = nI (i + 1)) = False := eq_false (fun z => g2 ((nI_eq (by omega) (by omega)).mp ((l28.trans e1).symm.trans z)))
        have k := tail false nv (decide_eq_false (fun z => z.2.elim (fun q => of_eq_false c1 (l28.trans q)) (fun q => of_eq_false c2 (l28.trans (q.trans i1))))).symm
        rw [bI_f] at k
        cases t1 : htB C u (nI i) <;> cases t2 : htB C u (nI (i + 1)) <;> simp only [M193, E193_0, E193_1, E193_2, E193_3, E193_6, E193_9, E193_10, E193_11, E193_12, E193_13, E193_16, E193_19, E193_20, E193_23, E193_24, E193_27, E193_28, E193_31, E193_32, E193_33, E193_34, E193_37, E193_38, E193_41, isR hS h hi', isR hS h hi, pk54 hS, rfs, rfn, cs0, csi, csl, csr, csn, kti, ktl, ktr, ktn, ktv, ktf, true_and, and_true, and_self, ↓reduceIte, Nat.reduceAdd, Nat.reduceSub, Nat.reduceMul, Nat.reduceLT, Nat.reduceLeDiff, Nat.reduceEqDiff, true_or, or_true, false_or, or_false, not_true_eq_false, not_false_eq_true, reduceCtorEq, cmp_lt, cmp_gt, cmp_eq, Int32.reduceAdd, Int32.reduceSub, Int32.reduceMul, Int32.reduceLT, Int32.reduceToNatClampNeg, eq_self, ne_eq, Int64.reduceAdd, Int64.reduceSub, Int64.reduceMul, Int64.reduceLT, t1, t2, bI_t, bI_f, n1_0, i1, c1, c2] <;> exact k
theorem f1R (hS : Pm S) (hR : Pr R) (h : SR u w C J) (ez : C z 3 = J 56 3) (hp : p < 5) : ∀ (q i : Nat) (t : Bool), i + q = w → (∀ y, Ev (d + 2) 188 57 [.ref 54, .int (nI p), .int (hdF C u z (nI p) (5 - i) i (bI t)), y] [] S J L R Q) → Ev (d + 2) 188 4 [.ref 54, .int (nI p), .int (bI t), .int (nI i)] [] S J L R Q := by
  have w5 := h.w5
  have e0 := h.2.2.2.1
  have z0 : inb 0 8060 = True := inb_nI (j := 0) (by decide) (by decide)
  have z3 : inb 3 8060 = True := inb_nI (j := 3) (by decide) (by decide)
  intro q
  induction q with
  | zero =>
    intro i t hi hq
    have ew : i = w := by omega
    have e1 : (nI i < nI w) = False := eq_false (nI_nlt (by omega) (by omega))
    have eh : hdF C u z (nI p) (5 - i) i (bI t) = bI t := by
      cases hk : 5 - i with
      | zero => rfl
      | succ n =>
        show (if nI i < C u 0 then hdF C u z (nI p) n (i + 1) (bI t ||| bI (hb C u z (nI p) i)) else bI t) = bI t
        rw [h.1]
        exact if_neg (of_eq_false e1)
    rw [eh] at hq
    rw [E188_4]
    simp only [E188_0, E188_1, E188_2, E188_3, E188_5, E188_6, E188_9, E188_10, E188_11, E188_14, E188_15, E188_18, E188_19, E188_20, E188_23, E188_26, E188_27, E188_30, E188_31, E188_32, E188_33, E188_36, E188_37, E188_38, E188_39, E188_40, E188_41, E188_42, E188_45, E188_46, E188_49, E188_50, E188_51, E188_54, E188_58, E188_61, E188_62, E188_63, E188_64, E188_65, E188_68, E188_69, E188_71, E188_72, E188_75, E188_76, E188_77, E188_80, E188_81, E188_82, E188_85, E188_86, E188_87, E188_90, E188_93, E188_94, E188_95, E188_96, E188_99, E188_100, E188_101, E188_104, E188_107, E188_110, E188_111, E188_112, E188_115, E188_116, E188_117, E188_120, E188_121, E188_122, E188_125, E188_126, E188_127, E188_130, E188_132, E188_133, E188_136, E188_137, E188_138, E188_141, E188_142, pk54 hS, pk56 hS, pl56 hS, pa56 hS, pi56 hS, pr54_3 hR, rfs, rfn, cs0, csi, csl, csr, csn, kti, ktl, ktr, ktn, ktv, ktf, true_and, and_true, and_self, ↓reduceIte, Nat.reduceAdd, Nat.reduceSub, Nat.reduceMul, Nat.reduceLT, Nat.reduceLeDiff, Nat.reduceEqDiff, true_or, or_true, false_or, or_false, not_true_eq_false, not_false_eq_true, reduceCtorEq, cmp_lt, cmp_gt, cmp_eq, Int32.reduceAdd, Int32.reduceSub, Int32.reduceMul, Int32.reduceLT, Int32.reduceToNatClampNeg, eq_self, ne_eq, Int64.reduceAdd, Int64.reduceSub, Int64.reduceMul, Int64.reduceLT, z0, e0, e1]
    exact hq _
  | succ q ih =>
    intro i t hi hq
    have e1 : (nI i < nI w) = True := eq_true (nI_lt (by omega) (by omega))
    have a4 : inb (nI i) 5 = True := inb_nI (by omega) (by decide)
    have b4 : (nI i).toNatClampNeg = i := nI_clamp (by omega)
    obtain ⟨m, em⟩ : ∃ m, 5 - i = m + 1 := ⟨4 - i, by omega⟩
    have eh : hdF C u z (nI p) (5 - i) i (bI t) = hdF C u z (nI p) (5 - (i + 1)) (i + 1) (bI (t || hb C u z (nI p) i)) := by
      rw [em, show 5 - (i + 1) = m by omega]
      show (if nI i < C u 0 then hdF C u z (nI p) m (i + 1) (bI t ||| bI (hb C u z (nI p) i)) else bI t) = _
      rw [h.1, if_pos (of_eq_true e1), bI_or1]
    rw [eh] at hq
    have nx := ih (i + 1) _ (by omega) hq
    cases t
    · obtain ⟨x, _, _, x1, x2⟩ := h.ir (c := i) (by omega)
      have eb : hb C u z (nI p) i = (!decide (¬ 1 < nI i - nI p ∧ ¬ 1 < nI p - nI i) && decide (¬ (J 56 3 >>> (J 64 i &&& 31)) &&& 1 = 0)) := by
        unfold hb
        rw [ez, x1, x2, Bool.decide_and, nr_t i (by omega) p hp]
      rw [Bool.false_or, eb] at nx
      cases n : decide (¬ 1 < nI i - nI p ∧ ¬ 1 < nI p - nI i)
      · rw [n, Bool.not_false, Bool.true_and] at nx
        rcases and01 (J 56 3 >>> (J 64 i &&& 31)) with v | v
        · rw [v, decide_eq_false (fun z => z rfl), bI_f] at nx
          have v1 : ((0 : Int32) = 1) = False := eq_false (by decide)
          rw [E188_4]
          simp only [E188_0, E188_1, E188_2, E188_3, E188_5, E188_6, E188_9, E188_10, E188_11, E188_14, E188_15, E188_18, E188_19, E188_20, E188_23, E188_26, E188_27, E188_30, E188_31, E188_32, E188_33, E188_36, E188_37, E188_38, E188_39, E188_40, E188_41, E188_42, E188_45, E188_46, E188_49, E188_50, E188_51, E188_54, E188_58, E188_61, E188_62, E188_63, E188_64, E188_65, E188_68, E188_69, E188_71, E188_72, E188_75, E188_76, E188_77, E188_80, E188_81, E188_82, E188_85, E188_86, E188_87, E188_90, E188_93, E188_94, E188_95, E188_96, E188_99, E188_100, E188_101, E188_104, E188_107, E188_110, E188_111, E188_112, E188_115, E188_116, E188_117, E188_120, E188_121, E188_122, E188_125, E188_126, E188_127, E188_130, E188_132, E188_133, E188_136, E188_137, E188_138, E188_141, E188_142, ner, n, pk54 hS, pk56 hS, pl56 hS, pa56 hS, pi56 hS, pk64 hS, pl64 hS, pa64 hS, pi64 hS, pr54_3 hR, pr54_23 hR, rfs, rfn, cs0, csi, csl, csr, csn, kti, ktl, ktr, ktn, ktv, ktf, true_and, and_true, and_self, ↓reduceIte, Nat.reduceAdd, Nat.reduceSub, Nat.reduceMul, Nat.reduceLT, Nat.reduceLeDiff, Nat.reduceEqDiff, true_or, or_true, false_or, or_false, not_true_eq_false, not_false_eq_true, reduceCtorEq, cmp_lt, cmp_gt, cmp_eq, Int32.reduceAdd, Int32.reduceSub, Int32.reduceMul, Int32.reduceLT, Int32.reduceToNatClampNeg, eq_self, ne_eq, Int64.reduceAdd, Int64.reduceSub, Int64.reduceMul, Int64.reduceLT, e0, e1, a4, b4, z0, z3, bI_f, v, v1, nI_1]
          exact nx
        · rw [v, decide_eq_true (by decide), bI_t] at nx
          rw [E188_4]
          simp only [E188_0, E188_1, E188_2, E188_3, E188_5, E188_6, E188_9, E188_10, E188_11, E188_14, E188_15, E188_18, E188_19, E188_20, E188_23, E188_26, E188_27, E188_30, E188_31, E188_32, E188_33, E188_36, E188_37, E188_38, E188_39, E188_40, E188_41, E188_42, E188_45, E188_46, E188_49, E188_50, E188_51, E188_54, E188_58, E188_61, E188_62, E188_63, E188_64, E188_65, E188_68, E188_69, E188_71, E188_72, E188_75, E188_76, E188_77, E188_80, E188_81, E188_82, E188_85, E188_86, E188_87, E188_90, E188_93, E188_94, E188_95, E188_96, E188_99, E188_100, E188_101, E188_104, E188_107, E188_110, E188_111, E188_112, E188_115, E188_116, E188_117, E188_120, E188_121, E188_122, E188_125, E188_126, E188_127, E188_130, E188_132, E188_133, E188_136, E188_137, E188_138, E188_141, E188_142, ner, n, pk54 hS, pk56 hS, pl56 hS, pa56 hS, pi56 hS, pk64 hS, pl64 hS, pa64 hS, pi64 hS, pr54_3 hR, pr54_23 hR, rfs, rfn, cs0, csi, csl, csr, csn, kti, ktl, ktr, ktn, ktv, ktf, true_and, and_true, and_self, ↓reduceIte, Nat.reduceAdd, Nat.reduceSub, Nat.reduceMul, Nat.reduceLT, Nat.reduceLeDiff, Nat.reduceEqDiff, true_or, or_true, false_or, or_false, not_true_eq_false, not_false_eq_true, reduceCtorEq, cmp_lt, cmp_gt, cmp_eq, Int32.reduceAdd, Int32.reduceSub, Int32.reduceMul, Int32.reduceLT, Int32.reduceToNatClampNeg, eq_self, ne_eq, Int64.reduceAdd, Int64.reduceSub, Int64.reduceMul, Int64.reduceLT, e0, e1, a4, b4, z0, z3, bI_f, v, nI_1]
          exact nx
      · rw [n, Bool.not_true, Bool.false_and, bI_f] at nx
        rw [E188_4]
        simp only [E188_0, E188_1, E188_2, E188_3, E188_5, E188_6, E188_9, E188_10, E188_11, E188_14, E188_15, E188_18, E188_19, E188_20, E188_23, E188_26, E188_27, E188_30, E188_31, E188_32, E188_33, E188_36, E188_37, E188_38, E188_39, E188_40, E188_41, E188_42, E188_45, E188_46, E188_49, E188_50, E188_51, E188_54, E188_58, E188_61, E188_62, E188_63, E188_64, E188_65, E188_68, E188_69, E188_71, E188_72, E188_75, E188_76, E188_77, E188_80, E188_81, E188_82, E188_85, E188_86, E188_87, E188_90, E188_93, E188_94, E188_95, E188_96, E188_99, E188_100, E188_101, E188_104, E188_107, E188_110, E188_111, E188_112, E188_115, E188_116, E188_117, E188_120, E188_121, E188_122, E188_125, E188_126, E188_127, E188_130, E188_132, E188_133, E188_136, E188_137, E188_138, E188_141, E188_142, ner, n, pk54 hS, pk56 hS, pl56 hS, pa56 hS, pi56 hS, pk64 hS, pl64 hS, pa64 hS, pi64 hS, pr54_3 hR, pr54_23 hR, rfs, rfn, cs0, csi, csl, csr, csn, kti, ktl, ktr, ktn, ktv, ktf, true_and, and_true, and_self, ↓reduceIte, Nat.reduceAdd, Nat.reduceSub, Nat.reduceMul, Nat.reduceLT, Nat.reduceLeDiff, Nat.reduceEqDiff, true_or, or_true, false_or, or_false, not_true_eq_false, not_false_eq_true, reduceCtorEq, cmp_lt, cmp_gt, cmp_eq, Int32.reduceAdd, Int32.reduceSub, Int32.reduceMul, Int32.reduceLT, Int32.reduceToNatClampNeg, eq_self, ne_eq, Int64.reduceAdd, Int64.reduceSub, Int64.reduceMul, Int64.reduceLT, e0, e1, a4, b4, z0, z3, bI_f, bI_t, n1_0, nI_1]
        exact nx
    · rw [Bool.true_or, bI_t] at nx
      rw [E188_4]
      simp only [E188_0, E188_1, E188_2, E188_3, E188_5, E188_6, E188_9, E188_10, E188_11, E188_14, E188_15, E188_18, E188_19, E188_20, E188_23, E188_26, E188_27, E188_30, E188_31, E188_32, E188_33, E188_36, E188_37, E188_38, E188_39, E188_40, E188_41, E188_42, E188_45, E188_46, E188_49, E188_50, E188_51, E188_54, E188_58, E188_61, E188_62, E188_63, E188_64, E188_65, E188_68, E188_69, E188_71, E188_72, E188_75, E188_76, E188_77, E188_80, E188_81, E188_82, E188_85, E188_86, E188_87, E188_90, E188_93, E188_94, E188_95, E188_96, E188_99, E188_100, E188_101, E188_104, E188_107, E188_110, E188_111, E188_112, E188_115, E188_116, E188_117, E188_120, E188_121, E188_122, E188_125, E188_126, E188_127, E188_130, E188_132, E188_133, E188_136, E188_137, E188_138, E188_141, E188_142, pk54 hS, pk56 hS, pl56 hS, pa56 hS, pi56 hS, pk64 hS, pl64 hS, pa64 hS, pi64 hS, pr54_3 hR, pr54_23 hR, rfs, rfn, cs0, csi, csl, csr, csn, kti, ktl, ktr, ktn, ktv, ktf, true_and, and_true, and_self, ↓reduceIte, Nat.reduceAdd, Nat.reduceSub, Nat.reduceMul, Nat.reduceLT, Nat.reduceLeDiff, Nat.reduceEqDiff, true_or, or_true, false_or, or_false, not_true_eq_false, not_false_eq_true, reduceCtorEq, cmp_lt, cmp_gt, cmp_eq, Int32.reduceAdd, Int32.reduceSub, Int32.reduceMul, Int32.reduceLT, Int32.reduceToNatClampNeg, eq_self, ne_eq, Int64.reduceAdd, Int64.reduceSub, Int64.reduceMul, Int64.reduceLT, e0, e1, a4, b4, z0, z3, bI_t, n1_0, nI_1]
      exact nx
theorem f2R {x : Int32} {c : Nat} (hS : Pm S) (hR : Pr R) (hc : c ≤ 5) (hp : p < 5) : ∀ (q i : Nat) (I : mI), i + q = c → I 56 0 = nI c → I 54 26 = hbL p i → (∀ J y, (∀ a, ¬ a = 54 → J a = I a) → (∀ k, ¬ k = 26 → J 54 k = I 54 k) → J 54 26 = hbL p c → Ev (d + 2) 188 110 [.ref 54, .int (nI p), .int x, y] [] S J L R Q) → Ev (d + 2) 188 70 [.ref 54, .int (nI p), .int x, .int (nI i)] [] S I L R Q := by
  have z0 : inb 0 8060 = True := inb_nI (j := 0) (by decide) (by decide)
  intro q
  induction q with
  | zero =>
    intro i I hi ec eh hq
    have ew : i = c := by omega
    have e1 : (nI i < nI c) = False := eq_false (nI_nlt (by omega) (by omega))
    rw [E188_70]
    simp only [E188_0, E188_1, E188_2, E188_3, E188_5, E188_6, E188_9, E188_10, E188_11, E188_14, E188_15, E188_18, E188_19, E188_20, E188_23, E188_26, E188_27, E188_30, E188_31, E188_32, E188_33, E188_36, E188_37, E188_38, E188_39, E188_40, E188_41, E188_42, E188_45, E188_46, E188_49, E188_50, E188_51, E188_54, E188_57, E188_58, E188_61, E188_62, E188_63, E188_64, E188_65, E188_68, E188_69, E188_71, E188_72, E188_75, E188_76, E188_77, E188_80, E188_81, E188_82, E188_85, E188_86, E188_87, E188_90, E188_93, E188_94, E188_95, E188_96, E188_99, E188_100, E188_101, E188_104, E188_107, E188_111, E188_112, E188_115, E188_116, E188_117, E188_120, E188_121, E188_122, E188_125, E188_126, E188_127, E188_130, E188_132, E188_133, E188_136, E188_137, E188_138, E188_141, E188_142, pk54 hS, pk56 hS, pl56 hS, pa56 hS, pi56 hS, pr54_3 hR, rfs, rfn, cs0, csi, csl, csr, csn, kti, ktl, ktr, ktn, ktv, ktf, true_and, and_true, and_self, ↓reduceIte, Nat.reduceAdd, Nat.reduceSub, Nat.reduceMul, Nat.reduceLT, Nat.reduceLeDiff, Nat.reduceEqDiff, true_or, or_true, false_or, or_false, not_true_eq_false, not_false_eq_true, reduceCtorEq, cmp_lt, cmp_gt, cmp_eq, Int32.reduceAdd, Int32.reduceSub, Int32.reduceMul, Int32.reduceLT, Int32.reduceToNatClampNeg, eq_self, ne_eq, Int64.reduceAdd, Int64.reduceSub, Int64.reduceMul, Int64.reduceLT, z0, ec, e1]
    exact hq _ _ (fun _ _ => rfl) (fun _ _ => rfl) (by rw [← ew]; exact eh)
  | succ q ih =>
    intro i I hi ec eh hq
    have e1 : (nI i < nI c) = True := eq_true (nI_lt (by omega) (by omega))
    have n0 := nr_2 i (by omega) p hp
    by_cases g : i ≤ p + 1 ∧ p ≤ i + 1
    · rw [decide_eq_true g] at n0
      rw [E188_70]
      simp only [E188_0, E188_1, E188_2, E188_3, E188_5, E188_6, E188_9, E188_10, E188_11, E188_14, E188_15, E188_18, E188_19, E188_20, E188_23, E188_26, E188_27, E188_30, E188_31, E188_32, E188_33, E188_36, E188_37, E188_38, E188_39, E188_40, E188_41, E188_42, E188_45, E188_46, E188_49, E188_50, E188_51, E188_54, E188_57, E188_58, E188_61, E188_62, E188_63, E188_64, E188_65, E188_68, E188_69, E188_71, E188_72, E188_75, E188_76, E188_77, E188_80, E188_81, E188_82, E188_85, E188_86, E188_87, E188_90, E188_93, E188_94, E188_95, E188_96, E188_99, E188_100, E188_101, E188_104, E188_107, E188_111, E188_112, E188_115, E188_116, E188_117, E188_120, E188_121, E188_122, E188_125, E188_126, E188_127, E188_130, E188_132, E188_133, E188_136, E188_137, E188_138, E188_141, E188_142, ner, n0, bI_t, n1_0, pk54 hS, pk56 hS, pl56 hS, pa56 hS, pi56 hS, pr54_3 hR, rfs, rfn, cs0, csi, csl, csr, csn, kti, ktl, ktr, ktn, ktv, ktf, true_and, and_true, and_self, ↓reduceIte, Nat.reduceAdd, Nat.reduceSub, Nat.reduceMul, Nat.reduceLT, Nat.reduceLeDiff, Nat.reduceEqDiff, true_or, or_true, false_or, or_false, not_true_eq_false, not_false_eq_true, reduceCtorEq, cmp_lt, cmp_gt, cmp_eq, Int32.reduceAdd, Int32.reduceSub, Int32.reduceMul, Int32.reduceLT, Int32.reduceToNatClampNeg, eq_self, ne_eq, Int64.reduceAdd, Int64.reduceSub, Int64.reduceMul, Int64.reduceLT, ec, e1, z0, nI_1, pt]
      refine ih (i + 1) _ (by omega) (by rw [pt_m (by decide)]; exact ec) ?_ (fun J y j1 j2 j3 => hq J y (fun a ha => (j1 a ha).trans (pt_n ha)) (fun k hk => (j2 k hk).trans (pt_f hk)) j3)
      rw [pt_s, eh]
      show _ = hbL p i ||| (if i ≤ p + 1 ∧ p ≤ i + 1 then 1 <<< (nI i &&& 31) else 0)
      rw [if_pos g]
    · rw [decide_eq_false g] at n0
      rw [E188_70]
      simp only [E188_0, E188_1, E188_2, E188_3, E188_5, E188_6, E188_9, E188_10, E188_11, E188_14, E188_15, E188_18, E188_19, E188_20, E188_23, E188_26, E188_27, E188_30, E188_31, E188_32, E188_33, E188_36, E188_37, E188_38, E188_39, E188_40, E188_41, E188_42, E188_45, E188_46, E188_49, E188_50, E188_51, E188_54, E188_57, E188_58, E188_61, E188_62, E188_63, E188_64, E188_65, E188_68, E188_69, E188_71, E188_72, E188_75, E188_76, E188_77, E188_80, E188_81, E188_82, E188_85, E188_86, E188_87, E188_90, E188_93, E188_94, E188_95, E188_96, E188_99, E188_100, E188_101, E188_104, E188_107, E188_111, E188_112, E188_115, E188_116, E188_117, E188_120, E188_121, E188_122, E188_125, E188_126, E188_127, E188_130, E188_132, E188_133, E188_136, E188_137, E188_138, E188_141, E188_142, ner, n0, bI_f, pk54 hS, pk56 hS, pl56 hS, pa56 hS, pi56 hS, pr54_3 hR, rfs, rfn, cs0, csi, csl, csr, csn, kti, ktl, ktr, ktn, ktv, ktf, true_and, and_true, and_self, ↓reduceIte, Nat.reduceAdd, Nat.reduceSub, Nat.reduceMul, Nat.reduceLT, Nat.reduceLeDiff, Nat.reduceEqDiff, true_or, or_true, false_or, or_false, not_true_eq_false, not_false_eq_true, reduceCtorEq, cmp_lt, cmp_gt, cmp_eq, Int32.reduceAdd, Int32.reduceSub, Int32.reduceMul, Int32.reduceLT, Int32.reduceToNatClampNeg, eq_self, ne_eq, Int64.reduceAdd, Int64.reduceSub, Int64.reduceMul, Int64.reduceLT, ec, e1, z0, nI_1, pt]
      refine ih (i + 1) _ (by omega) (by rw [pt_m (by decide)]; exact ec) ?_ (fun J y j1 j2 j3 => hq J y (fun a ha => (j1 a ha).trans (pt_n ha)) (fun k hk => (j2 k hk).trans (pt_f hk)) j3)
      rw [pt_s, eh]
      show _ = hbL p i ||| (if i ≤ p + 1 ∧ p ≤ i + 1 then 1 <<< (nI i &&& 31) else 0)
      rw [if_neg g]
/-- a HEAT -/
theorem SR.h {l : Nat} (h : SR u w C J) (hi : i < w) (l4 : l ≤ 4) (c0 : C' u 0 = C u 0) (c5 : C' u 5 = nI i) (c6 : C' u 6 = nI l) (ca : ∀ a, (a = u + 1 ∨ a = u + 3 ∨ a = u + 4) → C' a = C a) (co : C' (u + 2) 0 = C (u + 2) 0 + 1) (ck : ∀ k, 0 < k → C' (u + 2) k = C (u + 2) k) (j0 : J' 56 0 = J 56 0) (ja : ∀ a, 64 ≤ a → a ≤ 66 → J' a = J a) (j26 : J' 54 26 = hbL i w) (j28 : J' 54 28 = nI i) (j27 : J' 54 27 = nI l) (j29 : J' 54 29 = J 54 29 + 1) (jk : ∀ k, 30 ≤ k → k ≤ 40 → J' 54 k = J 54 k) : SR u w C' J' := by
  obtain ⟨h0, h1, h2, h3, hc, _, _, ho⟩ := h
  refine ⟨c0.trans h0, h1, h2, j0.trans h3, fun c hc5 => ?_, ⟨j28.trans c5.symm, Or.inr ⟨i, hi, c5, j26⟩⟩, ⟨l, l4, c6, j27⟩, fun k hk => ?_⟩
  · rw [ca (u + 1) (by omega), ca (u + 3) (by omega), ca (u + 4) (by omega), ja 64 (by decide) (by decide), ja 65 (by decide) (by decide), ja 66 (by decide) (by decide)]
    exact hc c hc5
  · by_cases g : k = 0
    · subst g
      rw [co, j29, ho 0 (by decide)]
    · rw [ck k (by omega), jk (29 + k) (by omega) (by omega)]
      exact ho k hk
theorem firR {B : Nat} (hS : Pm S) (hR : Pr R) (h : SR u w C J) (hs : SlR u C J L) (hi : i < w) (hz : ¬ z + 3 = u ∧ ¬ z + 3 = u + 2) (ez : C z 3 = J 56 3) (eB : J 56 10 = nI B) (eC : C (z + 3) 0 = nI B) (hB : B ≤ 4) (hq : ∀ J', SR u w (firF C u z (nI i)) J' → SlR u (firF C u z (nI i)) J' L → Gr J J' → Q (.int (bI (firB C u z (nI i)))) S J' L R) : EvM (d + 2) 188 [.ref 54, .int (nI i)] S J L R Q := by
  have w5 := h.w5
  have e0 := h.2.2.2.1
  have z10 : inb 10 8060 = True := inb_nI (j := 10) (by decide) (by decide)
  have k : Ev (d + 2) 188 4 [.ref 54, .int (nI i), .int (bI false), .int (nI 0)] [] S J L R Q := by
    refine f1R (d := d) (z := z) (p := i) hS hR h ez (by omega) w 0 false (by omega) (fun y => ?_)
    have e5 : hdF C u z (nI i) (5 - 0) 0 (bI false) = hdF C u z (nI i) 5 0 0 := rfl
    rw [e5]
    by_cases g : hdF C u z (nI i) 5 0 0 = 0
    · have g' : (hdF C u z (nI i) 5 0 0 = 0) = True := eq_true g
      have q1 : firF C u z (nI i) = C := by
        unfold firF
        rw [if_pos (h.th hi), if_pos g]
      have q2 : firB C u z (nI i) = false := by
        unfold firB
        rw [if_pos (h.th hi), if_pos g]
      rw [q1, q2] at hq
      simp only [E188_57, E188_58, E188_61, E188_62, rfs, rfn, cs0, csi, csl, csr, csn, kti, ktl, ktr, ktn, ktv, ktf, true_and, and_true, and_self, ↓reduceIte, Nat.reduceAdd, Nat.reduceSub, Nat.reduceMul, Nat.reduceLT, Nat.reduceLeDiff, Nat.reduceEqDiff, true_or, or_true, false_or, or_false, not_true_eq_false, not_false_eq_true, reduceCtorEq, cmp_lt, cmp_gt, cmp_eq, Int32.reduceAdd, Int32.reduceSub, Int32.reduceMul, Int32.reduceLT, Int32.reduceToNatClampNeg, eq_self, ne_eq, Int64.reduceAdd, Int64.reduceSub, Int64.reduceMul, Int64.reduceLT, g']
      exact hq J h hs Gr.rf
    · have q1 : firF C u z (nI i) = losF (fi1 C u z (nI i)) u (nI i) := by
        unfold firF
        rw [if_pos (h.th hi), if_neg g]
      have q2 : firB C u z (nI i) = true := by
        unfold firB
        rw [if_pos (h.th hi), if_neg g]
      rw [q1, q2] at hq
      simp only [E188_57, E188_58, E188_61, E188_62, E188_63, E188_64, E188_65, E188_68, E188_69, pk54 hS, rfs, rfn, cs0, csi, csl, csr, csn, kti, ktl, ktr, ktn, ktv, ktf, true_and, and_true, and_self, ↓reduceIte, Nat.reduceAdd, Nat.reduceSub, Nat.reduceMul, Nat.reduceLT, Nat.reduceLeDiff, Nat.reduceEqDiff, true_or, or_true, false_or, or_false, not_true_eq_false, not_false_eq_true, reduceCtorEq, cmp_lt, cmp_gt, cmp_eq, Int32.reduceAdd, Int32.reduceSub, Int32.reduceMul, Int32.reduceLT, Int32.reduceToNatClampNeg, eq_self, ne_eq, Int64.reduceAdd, Int64.reduceSub, Int64.reduceMul, Int64.reduceLT, g, pt]
      refine f2R (d := d) (c := w) (p := i) hS hR w5 (by omega) w 0 _ (by omega) (by rw [pt_m (by decide)]; exact e0) pt_s (fun J1 y j1 j2 j3 => ?_)
      have k56 : J1 56 = J 56 := (j1 56 (by decide)).trans (pt_n (by decide))
      have g1 : Gr J J1 := Gr.tr (show Gr J (put J 54 26 0) from (by repeat (first | exact Gr.rf | assumption | refine Gr.p4 ?_ (by decide) | refine Gr.pa ?_ (by decide)))) ⟨fun a _ h2 => j1 a h2, fun k hk => j2 k (by omega)⟩
      have ja : ∀ a, 64 ≤ a → a ≤ 66 → J1 a = J a := fun a a1 a2 => (j1 a (by omega)).trans (pt_n (by omega))
      have jk : ∀ k, ¬ k = 26 → J1 54 k = J 54 k := fun k hk => (j2 k hk).trans (pt_f hk)
      have eB1 : J1 56 10 = nI B := by rw [k56]; exact eB
      simp (disch := omega) only [E188_110, E188_111, E188_112, E188_115, E188_116, E188_117, E188_120, E188_121, E188_122, E188_125, E188_126, E188_127, E188_130, E188_132, E188_133, E188_136, E188_137, E188_138, pk54 hS, pk56 hS, pl56 hS, pa56 hS, pi56 hS, pr54_3 hR, rfs, rfn, cs0, csi, csl, csr, csn, kti, ktl, ktr, ktn, ktv, ktf, true_and, and_true, and_self, ↓reduceIte, Nat.reduceAdd, Nat.reduceSub, Nat.reduceMul, Nat.reduceLT, Nat.reduceLeDiff, Nat.reduceEqDiff, true_or, or_true, false_or, or_false, not_true_eq_false, not_false_eq_true, reduceCtorEq, cmp_lt, cmp_gt, cmp_eq, Int32.reduceAdd, Int32.reduceSub, Int32.reduceMul, Int32.reduceLT, Int32.reduceToNatClampNeg, eq_self, ne_eq, Int64.reduceAdd, Int64.reduceSub, Int64.reduceMul, Int64.reduceLT, pt, pt_f, pt_m, z10, eB1]
      refine losR (u := u) (w := w) (i := i) (L := L) (C := fi1 C u z (nI i)) hS hR ?_ ?_ (by omega) (fun J3 k3 s3 g3 => ?_)
      · refine SR.h h hi hB ?_ ?_ ?_ (fun a ha => ?_) ?_ (fun k hk => ?_) ?_ (fun a a1 a2 => ?_) ?_ ?_ ?_ ?_ (fun k k1 k2 => ?_)
        · unfold fi1 inc
          rw [pt_f (by decide), pt_f (by decide), pt_m (by omega)]
        · unfold fi1 inc
          rw [pt_f (by decide), pt_s]
        · unfold fi1 inc
          rw [pt_s, pt_m (by omega), pt_m (by omega)]
          exact eC
        · unfold fi1 inc
          rw [pt_n (by omega), pt_n (by omega), pt_n (by omega)]
        · unfold fi1 inc
          rw [pt_m (by omega), pt_m (by omega), pt_s]
        · unfold fi1 inc
          rw [pt_m (by omega), pt_m (by omega), pt_f (by omega)]
        · simp (disch := omega) only [pt_m, k56]
        · simp (disch := omega) only [pt_n]
          exact ja a a1 a2
        · simp (disch := omega) only [pt_f]
          exact j3
        · simp (disch := omega) only [pt_f, pt_s]
        · simp (disch := omega) only [pt_f, pt_s]
        · simp (disch := omega) only [pt_f, pt_s, jk]
        · simp (disch := omega) only [pt_f, jk]
      · unfold fi1 inc
        have s1 : SlR u C J1 L := hs.e rfl rfl (jk 42 (by decide))
        exact (by repeat (first | assumption | refine SlR.pj ?_ (by omega) | refine SlR.pc ?_ (by omega)))
      · try simp only [E188_141, E188_142, rfs, rfn, cs0, csi, csl, csr, csn, kti, ktl, ktr, ktn, ktv, ktf, true_and, and_true, and_self, ↓reduceIte, Nat.reduceAdd, Nat.reduceSub, Nat.reduceMul, Nat.reduceLT, Nat.reduceLeDiff, Nat.reduceEqDiff, true_or, or_true, false_or, or_false, not_true_eq_false, not_false_eq_true, reduceCtorEq, cmp_lt, cmp_gt, cmp_eq, Int32.reduceAdd, Int32.reduceSub, Int32.reduceMul, Int32.reduceLT, Int32.reduceToNatClampNeg, eq_self, ne_eq, Int64.reduceAdd, Int64.reduceSub, Int64.reduceMul, Int64.reduceLT]
        exact hq J3 k3 s3 (Gr.tr (show Gr J _ from (by repeat (first | exact Gr.rf | assumption | refine Gr.p4 ?_ (by decide) | refine Gr.pa ?_ (by decide)))) g3)
  simp only [M188, E188_0, E188_1, E188_2, E188_3, rfs, rfn, cs0, csi, csl, csr, csn, kti, ktl, ktr, ktn, ktv, ktf, true_and, and_true, and_self, ↓reduceIte, Nat.reduceAdd, Nat.reduceSub, Nat.reduceMul, Nat.reduceLT, Nat.reduceLeDiff, Nat.reduceEqDiff, true_or, or_true, false_or, or_false, not_true_eq_false, not_false_eq_true, reduceCtorEq, cmp_lt, cmp_gt, cmp_eq, Int32.reduceAdd, Int32.reduceSub, Int32.reduceMul, Int32.reduceLT, Int32.reduceToNatClampNeg, eq_self, ne_eq, Int64.reduceAdd, Int64.reduceSub, Int64.reduceMul, Int64.reduceLT]
  exact k
end SRX
