/-! the reference: findToGo -/
def TgF (c : Nat) (nu : Int32) (B : Nat) (lev tg : Nat → Nat) (H t h : Nat) : Prop := ∀ u k, u < 59049 → ((tg u).testBit k = true ↔ (k = H ∧ u = t) ∨ (h ≤ k ∧ k < H ∧ (lev u).testBit k = true ∧ ∃ p, p < c ∧ ∃ u', Rn (wt c) c nu B u p u' ∧ (tg u').testBit (k + 1) = true))
section TG
variable {d c B st h H t : Nat} {nu : Int32} {lev tg : Nat → Nat} {S : mS} {L : mL} {R : mR} {Q : mQ}
theorem clrT {x1 : Int32} {y3 y4 y5 : Value} (hS : Pm S) (hR : Pr R) : ∀ (m i : Nat) (I : mI), i + m = 59049 → (∀ J : mI, (∀ a, ¬ a = 74 → ¬ a = 75 → ¬ a = 76 → J a = I a) → (∀ k, i ≤ k → k < 59049 → J 74 k = 0 ∧ J 75 k = 0 ∧ J 76 k = 0) → (∀ k, k < i → J 74 k = I 74 k ∧ J 75 k = I 75 k ∧ J 76 k = I 76 k) → Ev (d + 1) 216 35 [.ref 54, .int x1, .int (nI 59049), y3, y4, y5] [] S J L R Q) → Ev (d + 1) 216 2 [.ref 54, .int x1, .int (nI i), y3, y4, y5] [] S I L R Q := by
  intro m
  induction m with
  | zero =>
    intro i I hi hq
    obtain rfl : i = 59049 := by omega
    have e : (nI 59049 < (59049 : Int32)) = False := eq_false (by decide)
    rw [E216_2]
    simp only [E216_3, E216_5, e, rfs, rfn, cs0, csi, csl, csr, csn, kti, ktl, ktr, ktn, ktv, ktf, true_and, and_true, and_self, ↓reduceIte, Nat.reduceAdd, Nat.reduceSub, Nat.reduceMul, Nat.reduceLT, Nat.reduceLeDiff, Nat.reduceEqDiff, true_or, or_true, false_or, or_false, not_true_eq_false, not_false_eq_true, reduceCtorEq, cmp_lt, cmp_gt, cmp_eq, Int32.reduceAdd, Int32.reduceSub, Int32.reduceMul, Int32.reduceLT, Int32.reduceToNatClampNeg, eq_self, ne_eq, Int64.reduceAdd, Int64.reduceSub, Int64.reduceMul, Int64.reduceLT]
    exact hq I (fun _ _ _ _ => rfl) (fun k h1 h2 => absurd h2 (by omega)) (fun _ _ => ⟨rfl, rfl, rfl⟩)
  | succ m ih =>
    intro i I hi hq
    have e1 : (nI i < (59049 : Int32)) = True := eq_true (nI_lt (a := i) (b := 59049) (by omega) (by decide))
    have e3 : inb (nI i) 59049 = True := inb_nI (by omega) (by decide)
    have e4 : (nI i).toNatClampNeg = i := nI_clamp (by omega)
    rw [E216_2]
    simp only [E216_3, E216_5, E216_8, E216_9, E216_12, E216_13, E216_14, E216_15, E216_16, E216_19, E216_20, E216_21, E216_22, E216_23, E216_26, E216_27, E216_28, E216_29, E216_32, e1, e3, e4, pk54 hS, pk74 hS, pl74 hS, pa74 hS, pi74 hS, pk75 hS, pl75 hS, pa75 hS, pi75 hS, pk76 hS, pl76 hS, pa76 hS, pi76 hS, pr54_52 hR, pr54_53 hR, pr54_54 hR, rfs, rfn, cs0, csi, csl, csr, csn, kti, ktl, ktr, ktn, ktv, ktf, true_and, and_true, and_self, ↓reduceIte, Nat.reduceAdd, Nat.reduceSub, Nat.reduceMul, Nat.reduceLT, Nat.reduceLeDiff, Nat.reduceEqDiff, true_or, or_true, false_or, or_false, not_true_eq_false, not_false_eq_true, reduceCtorEq, cmp_lt, cmp_gt, cmp_eq, Int32.reduceAdd, Int32.reduceSub, Int32.reduceMul, Int32.reduceLT, Int32.reduceToNatClampNeg, eq_self, ne_eq, Int64.reduceAdd, Int64.reduceSub, Int64.reduceMul, Int64.reduceLT, nI_1, pt]
    refine ih (i + 1) _ (by omega) (fun J h1 h2 h3 => hq J (fun a g1 g2 g3 => ?_) (fun k k1 k2 => ?_) (fun k hk => ?_))
    · rw [h1 a g1 g2 g3, pt_n g3, pt_n g2, pt_n g1]
    · by_cases z : k = i
      · obtain ⟨f1, f2, f3⟩ := h3 k (by omega)
        rw [f1, f2, f3, z]
        refine ⟨?_, ?_, ?_⟩
        · rw [pt_m (by decide), pt_m (by decide), pt_s]
        · rw [pt_m (by decide), pt_s]
        · rw [pt_s]
      · exact h2 k (by omega) k2
    · obtain ⟨f1, f2, f3⟩ := h3 k (by omega)
      rw [f1, f2, f3]
      refine ⟨?_, ?_, ?_⟩
      · rw [pt_m (by decide), pt_m (by decide), pt_f (by omega)]
      · rw [pt_m (by decide), pt_f (by omega), pt_m (by decide)]
      · rw [pt_f (by omega), pt_m (by decide), pt_m (by decide)]
theorem tp_lp {v : Nat} {x1 : Int32} (hS : Pm S) (hR : Pr R) (hc : c = 3 ∨ c = 4 ∨ c = 5) (hB : B < 2 ^ 24) (hh : h + 1 < 7) (hv : v < 59049) : ∀ (q p : Nat) (b : Bool) (I : mI) (st : Nat), p + q = c → st + q < 2 ^ 32 → PnS I c nu B st → BmP I 73 lev → BmP I 74 tg → (∀ J st' b' y, PnS J c nu B st' → st' ≤ st + q → Fr I J → (b' = true ↔ b = true ∨ ((lev v).testBit h = true ∧ ∃ p', p ≤ p' ∧ p' < c ∧ ∃ u, Rn (wt c) c nu B v p' u ∧ (tg u).testBit (h + 1) = true)) → Ev (d + 6) 216 124 [.ref 54, .int x1, .int (nI h), .int (nI v), .int (bI b'), y] [] S J L R Q) → Ev (d + 6) 216 72 [.ref 54, .int x1, .int (nI h), .int (nI v), .int (bI b), .int (nI p)] [] S I L R Q := by
  have z0 : inb 0 8060 = True := inb_nI (j := 0) (by decide) (by decide)
  have c0 : Int32.toNatClampNeg 0 = 0 := rfl
  intro q
  induction q with
  | zero =>
    intro p b I st h1 h2 hP hL hT hq
    obtain rfl : p = c := by omega
    have e0 : (nI p < nI p) = False := eq_false (nI_nlt (Nat.le_refl p) (by omega))
    have i0 := hP.1.1
    rw [E216_72]
    simp only [E216_74, E216_75, E216_78, E216_79, E216_80, pk54 hS, pk56 hS, pl56 hS, pa56 hS, pi56 hS, pr54_3 hR, rfs, rfn, cs0, csi, csl, csr, csn, kti, ktl, ktr, ktn, ktv, ktf, true_and, and_true, and_self, ↓reduceIte, Nat.reduceAdd, Nat.reduceSub, Nat.reduceMul, Nat.reduceLT, Nat.reduceLeDiff, Nat.reduceEqDiff, true_or, or_true, false_or, or_false, not_true_eq_false, not_false_eq_true, reduceCtorEq, cmp_lt, cmp_gt, cmp_eq, Int32.reduceAdd, Int32.reduceSub, Int32.reduceMul, Int32.reduceLT, Int32.reduceToNatClampNeg, eq_self, ne_eq, Int64.reduceAdd, Int64.reduceSub, Int64.reduceMul, Int64.reduceLT, z0, c0, i0, e0]
    refine hq I st b _ hP (by omega) Fr.rf ⟨Or.inl, fun z => ?_⟩
    rcases z with z | ⟨_, p', z1, z2, _⟩
    · exact z
    · omega
  | succ q ih =>
    intro p b I st h1 h2 hP hL hT hq
    have e1 : (nI p < nI c) = True := eq_true (nI_lt (by omega) (by omega))
    have i0 := hP.1.1
    rw [E216_72]
    cases b
    · have v3 : inb (nI v) 59049 = True := inb_nI hv (by decide)
      have v4 : (nI v).toNatClampNeg = v := nI_clamp (by omega)
      obtain ⟨t1, t2⟩ := hL v hv
      have bh := lb7 (lev v) t1 h (by omega)
      by_cases g : (lev v).testBit h = true
      · have bt := eq_true (bh.mpr g)
        simp only [E216_74, E216_75, E216_78, E216_79, E216_80, E216_83, E216_85, E216_88, E216_89, E216_92, E216_93, E216_94, E216_95, E216_96, E216_97, E216_98, E216_99, E216_102, E216_103, E216_104, E216_106, E216_107, E216_110, E216_111, E216_112, E216_113, pk54 hS, pk56 hS, pl56 hS, pa56 hS, pi56 hS, pk73 hS, pl73 hS, pa73 hS, pi73 hS, pr54_3 hR, pr54_51 hR, pr54_52 hR, rfs, rfn, cs0, csi, csl, csr, csn, kti, ktl, ktr, ktn, ktv, ktf, true_and, and_true, and_self, ↓reduceIte, Nat.reduceAdd, Nat.reduceSub, Nat.reduceMul, Nat.reduceLT, Nat.reduceLeDiff, Nat.reduceEqDiff, true_or, or_true, false_or, or_false, not_true_eq_false, not_false_eq_true, reduceCtorEq, cmp_lt, cmp_gt, cmp_eq, Int32.reduceAdd, Int32.reduceSub, Int32.reduceMul, Int32.reduceLT, Int32.reduceToNatClampNeg, eq_self, ne_eq, Int64.reduceAdd, Int64.reduceSub, Int64.reduceMul, Int64.reduceLT, z0, c0, i0, e1, bI_f, v3, v4, t2, bt, nI_1]
        refine led (d := d) (a := 74) (k := h + 1) hS hR (pi74 hS) (pl74 hS) ⟨by decide, by decide, by decide⟩ hh hc hB (by omega) hP (by omega) hv hT (fun J b2 k1 k2 k3 => ?_)
        simp only [E216_116, E216_118, E216_121, rfs, rfn, cs0, csi, csl, csr, csn, kti, ktl, ktr, ktn, ktv, ktf, true_and, and_true, and_self, ↓reduceIte, Nat.reduceAdd, Nat.reduceSub, Nat.reduceMul, Nat.reduceLT, Nat.reduceLeDiff, Nat.reduceEqDiff, true_or, or_true, false_or, or_false, not_true_eq_false, not_false_eq_true, reduceCtorEq, cmp_lt, cmp_gt, cmp_eq, Int32.reduceAdd, Int32.reduceSub, Int32.reduceMul, Int32.reduceLT, Int32.reduceToNatClampNeg, eq_self, ne_eq, Int64.reduceAdd, Int64.reduceSub, Int64.reduceMul, Int64.reduceLT, nI_1]
        refine ih (p + 1) b2 J (st + 1) (by omega) (by omega) k1 (hL.cg (k2.1 73 (by decide) (by decide) (by decide))) (hT.cg (k2.1 74 (by decide) (by decide) (by decide))) (fun J2 st2 b3 y w1 w2 w3 w4 => hq J2 st2 b3 y w1 (by omega) (k2.tr w3) (w4.trans ?_))
        rw [k3]
        constructor
        · rintro (⟨u, z⟩ | ⟨z1, p', z2, z3, z4⟩)
          · exact Or.inr ⟨g, p, Nat.le_refl p, by omega, u, z⟩
          · exact Or.inr ⟨z1, p', by omega, z3, z4⟩
        · rintro (z | ⟨z1, p', z2, z3, u, z4⟩)
          · cases z
          · by_cases y : p' = p
            · rw [y] at z4
              exact Or.inl ⟨u, z4⟩
            · exact Or.inr ⟨z1, p', by omega, z3, u, z4⟩
      · have bt := eq_false (fun z => g (bh.mp z))
        simp only [E216_74, E216_75, E216_78, E216_79, E216_80, E216_83, E216_85, E216_88, E216_89, E216_92, E216_93, E216_94, E216_95, E216_96, E216_97, E216_98, E216_99, pk54 hS, pk56 hS, pl56 hS, pa56 hS, pi56 hS, pk73 hS, pl73 hS, pa73 hS, pi73 hS, pr54_3 hR, pr54_51 hR, rfs, rfn, cs0, csi, csl, csr, csn, kti, ktl, ktr, ktn, ktv, ktf, true_and, and_true, and_self, ↓reduceIte, Nat.reduceAdd, Nat.reduceSub, Nat.reduceMul, Nat.reduceLT, Nat.reduceLeDiff, Nat.reduceEqDiff, true_or, or_true, false_or, or_false, not_true_eq_false, not_false_eq_true, reduceCtorEq, cmp_lt, cmp_gt, cmp_eq, Int32.reduceAdd, Int32.reduceSub, Int32.reduceMul, Int32.reduceLT, Int32.reduceToNatClampNeg, eq_self, ne_eq, Int64.reduceAdd, Int64.reduceSub, Int64.reduceMul, Int64.reduceLT, z0, c0, i0, e1, bI_f, v3, v4, t2, bt]
        refine hq I st false _ hP (by omega) Fr.rf ⟨Or.inl, fun z => ?_⟩
        rcases z with z | ⟨z, _⟩
        · exact z
        · exact absurd z g
    · simp only [E216_74, E216_75, E216_78, E216_79, E216_80, E216_83, E216_85, pk54 hS, pk56 hS, pl56 hS, pa56 hS, pi56 hS, pr54_3 hR, rfs, rfn, cs0, csi, csl, csr, csn, kti, ktl, ktr, ktn, ktv, ktf, true_and, and_true, and_self, ↓reduceIte, Nat.reduceAdd, Nat.reduceSub, Nat.reduceMul, Nat.reduceLT, Nat.reduceLeDiff, Nat.reduceEqDiff, true_or, or_true, false_or, or_false, not_true_eq_false, not_false_eq_true, reduceCtorEq, cmp_lt, cmp_gt, cmp_eq, Int32.reduceAdd, Int32.reduceSub, Int32.reduceMul, Int32.reduceLT, Int32.reduceToNatClampNeg, eq_self, ne_eq, Int64.reduceAdd, Int64.reduceSub, Int64.reduceMul, Int64.reduceLT, z0, c0, i0, e1, bI_t, n1_0]
      exact hq I st true _ hP (by omega) Fr.rf ⟨fun _ => Or.inl rfl, fun _ => rfl⟩
theorem tv_lp {x1 : Int32} (hS : Pm S) (hR : Pr R) (hc : c = 3 ∨ c = 4 ∨ c = 5) (hB : B < 2 ^ 24) (hh : h + 1 < 7) : ∀ (q v : Nat) (tg : Nat → Nat) (I : mI) (st : Nat) (y4 y5 : Value), v + q = 59049 → st + 5 * q < 2 ^ 32 → PnS I c nu B st → BmP I 73 lev → BmP I 74 tg → (∀ J st' tg' y4 y5, PnS J c nu B st' → st' ≤ st + 5 * q → BmP J 74 tg' → FrA 74 I J → (∀ u k, (tg' u).testBit k = true ↔ (tg u).testBit k = true ∨ (k = h ∧ v ≤ u ∧ u < 59049 ∧ (lev u).testBit h = true ∧ ∃ p, p < c ∧ ∃ u', Rn (wt c) c nu B u p u' ∧ (tg u').testBit (h + 1) = true)) → Ev (d + 6) 216 151 [.ref 54, .int x1, .int (nI h), .int (nI 59049), y4, y5] [] S J L R Q) → Ev (d + 6) 216 60 [.ref 54, .int x1, .int (nI h), .int (nI v), y4, y5] [] S I L R Q := by
  have c5 : c ≤ 5 := by omega
  intro q
  induction q with
  | zero =>
    intro v tg I st y4 y5 h1 h2 hP hL hT hq
    obtain rfl : v = 59049 := by omega
    have e : (nI 59049 < (59049 : Int32)) = False := eq_false (by decide)
    rw [E216_60]
    simp only [E216_61, E216_63, e, rfs, rfn, cs0, csi, csl, csr, csn, kti, ktl, ktr, ktn, ktv, ktf, true_and, and_true, and_self, ↓reduceIte, Nat.reduceAdd, Nat.reduceSub, Nat.reduceMul, Nat.reduceLT, Nat.reduceLeDiff, Nat.reduceEqDiff, true_or, or_true, false_or, or_false, not_true_eq_false, not_false_eq_true, reduceCtorEq, cmp_lt, cmp_gt, cmp_eq, Int32.reduceAdd, Int32.reduceSub, Int32.reduceMul, Int32.reduceLT, Int32.reduceToNatClampNeg, eq_self, ne_eq, Int64.reduceAdd, Int64.reduceSub, Int64.reduceMul, Int64.reduceLT]
    refine hq I st tg _ _ hP (by omega) hT FrA.rf (fun u k => ⟨Or.inl, fun z => ?_⟩)
    rcases z with z | ⟨_, z1, z2, _⟩
    · exact z
    · omega
  | succ q ih =>
    intro v tg I st y4 y5 h1 h2 hP hL hT hq
    have e1 : (nI v < (59049 : Int32)) = True := eq_true (nI_lt (a := v) (b := 59049) (by omega) (by decide))
    have v3 : inb (nI v) 59049 = True := inb_nI (by omega) (by decide)
    have v4 : (nI v).toNatClampNeg = v := nI_clamp (by omega)
    have hv : v < 59049 := by omega
    rw [E216_60]
    simp only [E216_61, E216_63, E216_66, E216_67, E216_69, E216_70, e1, rfs, rfn, cs0, csi, csl, csr, csn, kti, ktl, ktr, ktn, ktv, ktf, true_and, and_true, and_self, ↓reduceIte, Nat.reduceAdd, Nat.reduceSub, Nat.reduceMul, Nat.reduceLT, Nat.reduceLeDiff, Nat.reduceEqDiff, true_or, or_true, false_or, or_false, not_true_eq_false, not_false_eq_true, reduceCtorEq, cmp_lt, cmp_gt, cmp_eq, Int32.reduceAdd, Int32.reduceSub, Int32.reduceMul, Int32.reduceLT, Int32.reduceToNatClampNeg, eq_self, ne_eq, Int64.reduceAdd, Int64.reduceSub, Int64.reduceMul, Int64.reduceLT]
    refine tp_lp (d := d) (h := h) (lev := lev) (tg := tg) (x1 := x1) hS hR hc hB hh hv c 0 false I st (by omega) (by omega) hP hL hT (fun J st' b' y k1 k2 k3 k4 => ?_)
    have hTJ := hT.cg (k3.1 74 (by decide) (by decide) (by decide))
    obtain ⟨t1, t2⟩ := hTJ v hv
    have k4' : b' = true ↔ (lev v).testBit h = true ∧ ∃ p, p < c ∧ ∃ u', Rn (wt c) c nu B v p u' ∧ (tg u').testBit (h + 1) = true := by
      rw [k4]
      constructor
      · rintro (z | ⟨z, p, _, z2, z3⟩)
        · cases z
        · exact ⟨z, p, z2, z3⟩
      · rintro ⟨z, p, z2, z3⟩
        exact Or.inr ⟨z, p, Nat.zero_le p, z2, z3⟩
    have key : ∀ (J2 : mI) (tg2 : Nat → Nat) y4 y5, PnS J2 c nu B st' → BmP J2 74 tg2 → FrA 74 J J2 → (∀ u k, (tg2 u).testBit k = true ↔ (tg u).testBit k = true ∨ (k = h ∧ u = v ∧ b' = true)) → Ev (d + 6) 216 60 [.ref 54, .int x1, .int (nI h), .int (nI (v + 1)), y4, y5] [] S J2 L R Q := by
      intro J2 tg2 y4 y5 w1 w2 w3 w4
      have F2 := (k3.a (a := 74)).tr w3
      have same : ∀ u, (tg2 u).testBit (h + 1) = true ↔ (tg u).testBit (h + 1) = true := fun u => (w4 u (h + 1)).trans ⟨fun z => z.elim (fun z => z) (fun z => by omega), Or.inl⟩
      refine ih (v + 1) tg2 J2 st' y4 y5 (by omega) (by omega) w1 (hL.cg (F2.1 73 (by decide) (by decide) (by decide) (by decide))) w2 (fun J3 st3 tg3 y4 y5 g1 g2 g3 g4 g5 => hq J3 st3 tg3 y4 y5 g1 (by omega) g3 (F2.tr g4) (fun u k => (g5 u k).trans ?_))
      rw [w4 u k]
      constructor
      · rintro ((z | ⟨z1, z2, z3⟩) | ⟨z1, z2, z3, z4, p, z5, u', z6, z7⟩)
        · exact Or.inl z
        · rw [z2]
          obtain ⟨m1, m2⟩ := k4'.mp z3
          exact Or.inr ⟨z1, Nat.le_refl v, hv, m1, m2⟩
        · exact Or.inr ⟨z1, by omega, z3, z4, p, z5, u', z6, (same u').mp z7⟩
      · rintro (z | ⟨z1, z2, z3, z4, p, z5, u', z6, z7⟩)
        · exact Or.inl (Or.inl z)
        · by_cases y : u = v
          · rw [y] at z4 z6
            exact Or.inl (Or.inr ⟨z1, y, k4'.mpr ⟨z4, p, z5, u', z6, z7⟩⟩)
          · exact Or.inr ⟨z1, by omega, z3, z4, p, z5, u', z6, (same u').mpr z7⟩
    cases b'
    · have o1 := or7 (tg v) t1
      simp only [E216_124, E216_125, E216_128, E216_129, E216_130, E216_131, E216_133, E216_136, E216_137, E216_138, E216_139, E216_142, E216_143, E216_144, E216_145, E216_148, pk54 hS, pk74 hS, pl74 hS, pa74 hS, pi74 hS, pr54_52 hR, rfs, rfn, cs0, csi, csl, csr, csn, kti, ktl, ktr, ktn, ktv, ktf, true_and, and_true, and_self, ↓reduceIte, Nat.reduceAdd, Nat.reduceSub, Nat.reduceMul, Nat.reduceLT, Nat.reduceLeDiff, Nat.reduceEqDiff, true_or, or_true, false_or, or_false, not_true_eq_false, not_false_eq_true, reduceCtorEq, cmp_lt, cmp_gt, cmp_eq, Int32.reduceAdd, Int32.reduceSub, Int32.reduceMul, Int32.reduceLT, Int32.reduceToNatClampNeg, eq_self, ne_eq, Int64.reduceAdd, Int64.reduceSub, Int64.reduceMul, Int64.reduceLT, v3, v4, t2, bI_f, o1, pt, nI_1]
      refine key _ tg _ _ (k1.cg (pt_n (by decide)) (pt_n (by decide)) (pt_n (by decide)) (pt_m (by decide))) (hTJ.id hv) (FrA.p FrA.rf (by decide)) (fun u k => ⟨Or.inl, fun z => z.elim (fun z => z) (fun z => by cases z.2.2)⟩)
    · have o1 := (lo7 (tg v) t1 h (by omega)).1
      simp only [E216_124, E216_125, E216_128, E216_129, E216_130, E216_131, E216_133, E216_136, E216_137, E216_138, E216_139, E216_142, E216_143, E216_144, E216_145, E216_148, pk54 hS, pk74 hS, pl74 hS, pa74 hS, pi74 hS, pr54_52 hR, rfs, rfn, cs0, csi, csl, csr, csn, kti, ktl, ktr, ktn, ktv, ktf, true_and, and_true, and_self, ↓reduceIte, Nat.reduceAdd, Nat.reduceSub, Nat.reduceMul, Nat.reduceLT, Nat.reduceLeDiff, Nat.reduceEqDiff, true_or, or_true, false_or, or_false, not_true_eq_false, not_false_eq_true, reduceCtorEq, cmp_lt, cmp_gt, cmp_eq, Int32.reduceAdd, Int32.reduceSub, Int32.reduceMul, Int32.reduceLT, Int32.reduceToNatClampNeg, eq_self, ne_eq, Int64.reduceAdd, Int64.reduceSub, Int64.reduceMul, Int64.reduceLT, v3, v4, t2, bI_t, n1_0, o1, pt, nI_1]
      refine key _ (va_up tg v (tg v ||| 2 ^ h)) _ _ (k1.cg (pt_n (by decide)) (pt_n (by decide)) (pt_n (by decide)) (pt_m (by decide))) (hTJ.up hv (by omega)) (FrA.p FrA.rf (by decide)) (fun u k => bup.trans ⟨fun z => z.elim Or.inl (fun z => Or.inr ⟨z.1, z.2, rfl⟩), fun z => z.elim Or.inl (fun z => Or.inr ⟨z.1, z.2.1⟩)⟩)
theorem th_lp {x1 : Int32} (hS : Pm S) (hR : Pr R) (hc : c = 3 ∨ c = 4 ∨ c = 5) (hB : B < 2 ^ 24) (hH : H < 7) : ∀ (h : Nat) (tg : Nat → Nat) (I : mI) (st : Nat) (y3 y4 y5 : Value), h ≤ H → st + 295245 * h < 2 ^ 32 → PnS I c nu B st → BmP I 73 lev → BmP I 74 tg → TgF c nu B lev tg H t h → (∀ J st' tg', PnS J c nu B st' → st' ≤ st + 295245 * h → BmP J 74 tg' → FrA 74 I J → TgF c nu B lev tg' H t 0 → Q .null S J L R) → Ev (d + 6) 216 54 [.ref 54, .int x1, .int (nI h - 1), y3, y4, y5] [] S I L R Q := by
  intro h
  induction h with
  | zero =>
    intro tg I st y3 y4 y5 h1 h2 hP hL hT hF hq
    have e : (nI 0 - 1 < (0 : Int32)) = True := eq_true (by decide)
    rw [E216_54]
    simp only [E216_55, E216_157, e, rfs, rfn, cs0, csi, csl, csr, csn, kti, ktl, ktr, ktn, ktv, ktf, true_and, and_true, and_self, ↓reduceIte, Nat.reduceAdd, Nat.reduceSub, Nat.reduceMul, Nat.reduceLT, Nat.reduceLeDiff, Nat.reduceEqDiff, true_or, or_true, false_or, or_false, not_true_eq_false, not_false_eq_true, reduceCtorEq, cmp_lt, cmp_gt, cmp_eq, Int32.reduceAdd, Int32.reduceSub, Int32.reduceMul, Int32.reduceLT, Int32.reduceToNatClampNeg, eq_self, ne_eq, Int64.reduceAdd, Int64.reduceSub, Int64.reduceMul, Int64.reduceLT]
    exact hq I st tg hP (by omega) hT FrA.rf hF
  | succ h ih =>
    intro tg I st y3 y4 y5 h1 h2 hP hL hT hF hq
    have e : (nI h < (0 : Int32)) = False := eq_false (nI_pos (by omega))
    have b5 : st + 5 * 59049 < 2 ^ 32 := by
      have : st + 295245 < 2 ^ 32 := Nat.lt_of_le_of_lt (by omega) h2
      exact this
    rw [E216_54]
    simp only [E216_55, E216_58, E216_59, nI_m1, e, rfs, rfn, cs0, csi, csl, csr, csn, kti, ktl, ktr, ktn, ktv, ktf, true_and, and_true, and_self, ↓reduceIte, Nat.reduceAdd, Nat.reduceSub, Nat.reduceMul, Nat.reduceLT, Nat.reduceLeDiff, Nat.reduceEqDiff, true_or, or_true, false_or, or_false, not_true_eq_false, not_false_eq_true, reduceCtorEq, cmp_lt, cmp_gt, cmp_eq, Int32.reduceAdd, Int32.reduceSub, Int32.reduceMul, Int32.reduceLT, Int32.reduceToNatClampNeg, eq_self, ne_eq, Int64.reduceAdd, Int64.reduceSub, Int64.reduceMul, Int64.reduceLT]
    refine tv_lp (d := d) (h := h) (lev := lev) (x1 := x1) hS hR hc hB (by omega) 59049 0 tg I st _ _ (by omega) b5 hP hL hT (fun J st' tg' y4 y5 k1 k2 k3 k4 k5 => ?_)
    simp only [E216_151, E216_154, nI_a1, rfs, rfn, cs0, csi, csl, csr, csn, kti, ktl, ktr, ktn, ktv, ktf, true_and, and_true, and_self, ↓reduceIte, Nat.reduceAdd, Nat.reduceSub, Nat.reduceMul, Nat.reduceLT, Nat.reduceLeDiff, Nat.reduceEqDiff, true_or, or_true, false_or, or_false, not_true_eq_false, not_false_eq_true, reduceCtorEq, cmp_lt, cmp_gt, cmp_eq, Int32.reduceAdd, Int32.reduceSub, Int32.reduceMul, Int32.reduceLT, Int32.reduceToNatClampNeg, eq_self, ne_eq, Int64.reduceAdd, Int64.reduceSub, Int64.reduceMul, Int64.reduceLT]
    have k2' : st' ≤ st + 295245 := k2
    have same : ∀ u k, h + 1 ≤ k → ((tg' u).testBit k = true ↔ (tg u).testBit k = true) := fun u k hk => (k5 u k).trans ⟨fun z => z.elim (fun z => z) (fun z => by omega), Or.inl⟩
    refine ih tg' J st' _ _ _ (by omega) (by omega) k1 (hL.cg (k4.1 73 (by decide) (by decide) (by decide) (by decide))) k3 (fun u k hu => (k5 u k).trans ?_) (fun J2 st2 tg2 w1 w2 w3 w4 w5 => hq J2 st2 tg2 w1 (by omega) w3 (k4.tr w4) w5)
    rw [hF u k hu]
    constructor
    · rintro ((z | ⟨z1, z2, z3, p, z4, u', z5, z6⟩) | ⟨z1, z2, z3, z4, p, z5, u', z6, z7⟩)
      · exact Or.inl z
      · exact Or.inr ⟨by omega, z2, z3, p, z4, u', z5, (same u' (k + 1) (by omega)).mpr z6⟩
      · subst z1
        exact Or.inr ⟨Nat.le_refl _, by omega, z4, p, z5, u', z6, (same u' (k + 1) (Nat.le_refl _)).mpr z7⟩
    · rintro (z | ⟨z1, z2, z3, p, z4, u', z5, z6⟩)
      · exact Or.inl (Or.inl z)
      · have z7 := (same u' (k + 1) (by omega)).mp z6
        by_cases y : k = h
        · subst y
          exact Or.inr ⟨rfl, Nat.zero_le u, hu, z3, p, z4, u', z5, z7⟩
        · exact Or.inl (Or.inr ⟨by omega, z2, z3, p, z4, u', z5, z7⟩)
/-- nothing but the rows 74 to 76 and what findSpread leaves -/
def FrT (I J : mI) : Prop := (∀ b, ¬ b = 74 → ¬ b = 75 → ¬ b = 76 → ¬ b = 54 → ¬ b = 77 → ¬ b = 78 → J b = I b) ∧ (∀ k, ¬ k = 56 → ¬ k = 58 → J 54 k = I 54 k)
/-- findToGo -/
theorem ftg {I : mI} (hS : Pm S) (hR : Pr R) (hc : c = 3 ∨ c = 4 ∨ c = 5) (hB : B < 2 ^ 24) (hH : H < 7) (e60 : I 54 60 = nI H) (ht : t < 59049) (hst : st + 295245 * H < 2 ^ 32) (hP : PnS I c nu B st) (hL : BmP I 73 lev) (hq : ∀ J st' tg, PnS J c nu B st' → st' ≤ st + 295245 * H → BmP J 74 tg → BmP J 75 (fun _ => 0) → BmP J 76 (fun _ => 0) → FrT I J → TgF c nu B lev tg H t 0 → Q .null S J L R) : EvM (d + 6) 216 [.ref 54, .int (nI t)] S I L R Q := by
  have t3 : inb (nI t) 59049 = True := inb_nI ht (by decide)
  have t4 : (nI t).toNatClampNeg = t := nI_clamp (by omega)
  obtain ⟨s1, s2⟩ := sh7 H hH
  simp only [M216, E216_0, E216_1, rfs, rfn, cs0, csi, csl, csr, csn, kti, ktl, ktr, ktn, ktv, ktf, true_and, and_true, and_self, ↓reduceIte, Nat.reduceAdd, Nat.reduceSub, Nat.reduceMul, Nat.reduceLT, Nat.reduceLeDiff, Nat.reduceEqDiff, true_or, or_true, false_or, or_false, not_true_eq_false, not_false_eq_true, reduceCtorEq, cmp_lt, cmp_gt, cmp_eq, Int32.reduceAdd, Int32.reduceSub, Int32.reduceMul, Int32.reduceLT, Int32.reduceToNatClampNeg, eq_self, ne_eq, Int64.reduceAdd, Int64.reduceSub, Int64.reduceMul, Int64.reduceLT]
  refine clrT (d := d + 5) (x1 := nI t) hS hR 59049 0 I (by omega) (fun J h1 h2 h3 => ?_)
  have j54 : J 54 = I 54 := h1 54 (by decide) (by decide) (by decide)
  have e60' : J 54 60 = nI H := by rw [j54]; exact e60
  simp only [E216_35, E216_36, E216_39, E216_40, E216_41, E216_42, E216_45, E216_46, E216_47, E216_48, E216_51, E216_52, E216_53, pk54 hS, pk74 hS, pl74 hS, pa74 hS, pi74 hS, pr54_52 hR, rfs, rfn, cs0, csi, csl, csr, csn, kti, ktl, ktr, ktn, ktv, ktf, true_and, and_true, and_self, ↓reduceIte, Nat.reduceAdd, Nat.reduceSub, Nat.reduceMul, Nat.reduceLT, Nat.reduceLeDiff, Nat.reduceEqDiff, true_or, or_true, false_or, or_false, not_true_eq_false, not_false_eq_true, reduceCtorEq, cmp_lt, cmp_gt, cmp_eq, Int32.reduceAdd, Int32.reduceSub, Int32.reduceMul, Int32.reduceLT, Int32.reduceToNatClampNeg, eq_self, ne_eq, Int64.reduceAdd, Int64.reduceSub, Int64.reduceMul, Int64.reduceLT, pt, pt_m, t3, t4, e60', s1]
  have z : ∀ k, k < 59049 → J 74 k = 0 ∧ J 75 k = 0 ∧ J 76 k = 0 := fun k hk => h2 k (Nat.zero_le k) hk
  have hT : BmP (put J 74 t (nI (2 ^ H))) 74 (va_up (fun _ => 0) t (2 ^ H)) := by
    intro u hu
    by_cases y : u = t
    · rw [y, uu_s, pt_s]
      exact ⟨s2, rfl⟩
    · rw [uu_n _ _ y, pt_f y, (z u hu).1]
      exact ⟨by decide, rfl⟩
  refine th_lp (d := d) (t := t) (H := H) (lev := lev) (x1 := nI t) hS hR hc hB hH H (va_up (fun _ => 0) t (2 ^ H)) _ st _ _ _ (Nat.le_refl H) hst ((hP.cg (h1 56 (by decide) (by decide) (by decide)) (h1 72 (by decide) (by decide) (by decide)) (h1 77 (by decide) (by decide) (by decide)) (by rw [j54])).cg (pt_n (by decide)) (pt_n (by decide)) (pt_n (by decide)) (pt_m (by decide))) ((hL.cg (h1 73 (by decide) (by decide) (by decide))).cg (pt_n (by decide))) hT (fun u k hu => ?_) (fun J2 st2 tg2 w1 w2 w3 w4 w5 => ?_)
  · by_cases y : u = t
    · rw [y, uu_s, Nat.testBit_two_pow, decide_eq_true_iff]
      constructor
      · intro x
        exact Or.inl ⟨x.symm, rfl⟩
      · rintro (x | ⟨x1, x2, _⟩)
        · exact x.1.symm
        · omega
    · rw [uu_n _ _ y, Nat.zero_testBit]
      constructor
      · intro x
        cases x
      · rintro (x | ⟨x1, x2, _⟩)
        · exact absurd x.2 y
        · omega
  · refine hq J2 st2 tg2 w1 w2 w3 (fun u hu => ⟨Nat.zero_lt_succ _, ?_⟩) (fun u hu => ⟨Nat.zero_lt_succ _, ?_⟩) ⟨fun b b1 b2 b3 b4 b5 b6 => ?_, fun k k1 k2 => ?_⟩ w5
    · rw [w4.1 75 (by decide) (by decide) (by decide) (by decide), pt_n (by decide), (z u hu).2.1]
      rfl
    · rw [w4.1 76 (by decide) (by decide) (by decide) (by decide), pt_n (by decide), (z u hu).2.2]
      rfl
    · rw [w4.1 b b1 b4 b5 b6, pt_n b1, h1 b b1 b2 b3]
    · rw [w4.2 k k1 k2, pt_m (by decide), j54]
end TG
