/-! the reference's moveAll -/
/-- a MOVE of one IRON from a to j -/
def prm (w : Nat → Nat) (p v a j u : Nat) : Prop := ((a ≤ p + 1 ∧ p ≤ a + 1) ∨ (j ≤ p + 1 ∧ p ≤ j + 1)) ∧ 2 ≤ dg w v a ∧ dg w v j ≤ 8 ∧ u + w a = v + w j
theorem prm_mv {w : Nat → Nat} {c p v u : Nat} : (∃ a, a < c ∧ ∃ j, j < c ∧ (j + 1 = a ∨ j = a + 1) ∧ prm w p v a j u) ↔ mv w c p v u := by
  constructor
  · rintro ⟨a, h1, j, h2, h3, h4, h5, h6, h7⟩
    rcases h3 with rfl | rfl
    · exact ⟨j, h1, by omega, by omega, Or.inr ⟨h5, h6, h7⟩⟩
    · exact ⟨a, h2, by omega, by omega, Or.inl ⟨h5, h6, h7⟩⟩
  · rintro ⟨i, h1, h2, h3, (⟨h4, h5, h6⟩ | ⟨h4, h5, h6⟩)⟩
    · exact ⟨i, by omega, i + 1, h1, Or.inr rfl, by omega, h4, h5, h6⟩
    · exact ⟨i + 1, h1, i, by omega, Or.inl rfl, by omega, h4, h5, h6⟩
theorem dg_ge {w : Nat → Nat} {v a : Nat} (h : 2 ≤ dg w v a) : w a ≤ v := by
  unfold dg at h
  apply Classical.byContradiction
  intro q
  rw [Nat.div_eq_of_lt (by omega)] at h
  omega
theorem dg_le {w : Nat → Nat} {v a : Nat} : dg w v a ≤ 9 ∧ 1 ≤ dg w v a := by
  unfold dg
  omega
section MV
variable {d c N p v st : Nat} {w : Nat → Nat} {nu : Int32} {S : mS} {L : mL} {R : mR} {Q : mQ}
/-- one pair of CELLS, both there -/
theorem mvb_in {I : mI} {a j m : Nat} {s : Nat → Nat} {y5 : Value} (hS : Pm S) (hR : Pr R) (hN : N ≤ 59049) (hst : st < 2 ^ 31) (hi : RfI I c w nu) (hw : wOk w c) (hc : c ≤ 5) (hp : p < c) (hv : v < N) (ha : a < c) (hj : j < c) (hm : ∀ u, prm w p v a j u → u < N) (h : Sp I N st m s) (hq : ∀ I' m' s' y5, Sp I' N st m' s' → m ≤ m' → (∀ i, i < m → s' i = s i) → (∀ u, (∃ i, i < m' ∧ s' i = u) ↔ (∃ i, i < m ∧ s i = u) ∨ prm w p v a j u) → Fr I I' → Ev (d + 3) 212 106 [.ref 54, .int (nI v), .int (nI p), .int (nI a), .int (nI j), y5] [] S I' L R Q) : Ev (d + 3) 212 25 [.ref 54, .int (nI v), .int (nI p), .int (nI a), .int (nI j), y5] [] S I L R Q := by
  have j1 := nI_toInt (n := j) (by omega)
  have ic : ∀ {Q : mQ}, EvM (d + 2) 144 [.ref 54, .long (nI j).toInt64] S I L R Q = Q (.int 1) S I L R := fun {Q} => by
    rw [icl (c := c) hS hR hi.1 hc j1, if_pos (by omega)]
  have na : ∀ {Q : mQ}, EvM (d + 2) 186 [.int (nI a), .int (nI p)] S I L R Q = Q (.int (if a ≤ p + 1 ∧ p ≤ a + 1 then 1 else 0)) S I L R := nea (by omega) (by omega)
  have nj : ∀ {Q : mQ}, EvM (d + 2) 186 [.int (nI j), .int (nI p)] S I L R Q = Q (.int (if j ≤ p + 1 ∧ p ≤ j + 1 then 1 else 0)) S I L R := nea (by omega) (by omega)
  have ia : ∀ {Q : mQ}, EvM (d + 2) 209 [.ref 54, .int (nI v), .int (nI a)] S I L R Q = Q (.int (nI (dg w v a))) S I L R := iro hS hR hi hw hc (by omega) ha
  have ij : ∀ {Q : mQ}, EvM (d + 2) 209 [.ref 54, .int (nI v), .int (nI j)] S I L R Q = Q (.int (nI (dg w v j))) S I L R := iro hS hR hi hw hc (by omega) hj
  have n10 : ((1 : Int32) = 0) = False := eq_false (by decide)
  have da := dg_le (w := w) (v := v) (a := a)
  have dj := dg_le (w := w) (v := v) (a := j)
  have ca : (nI (dg w v a) < 2) = (dg w v a < 2) := propext (nI_ltI (b := 2) (by omega) (by decide))
  have cj : (nI (dg w v j) < 9) = (dg w v j < 9) := propext (nI_ltI (b := 9) (by omega) (by decide))
  have a3 : inb (nI a) 5 = True := inb_nI (by omega) (by decide)
  have a4 : (nI a).toNatClampNeg = a := nI_clamp (by omega)
  have j3 : inb (nI j) 5 = True := inb_nI (by omega) (by decide)
  have j4 : (nI j).toNatClampNeg = j := nI_clamp (by omega)
  have wa := hi.2.2 a ha
  have wj := hi.2.2 j hj
  have no : ∀ y5, ¬ (∃ u, prm w p v a j u) → Ev (d + 3) 212 106 [.ref 54, .int (nI v), .int (nI p), .int (nI a), .int (nI j), y5] [] S I L R Q := fun y5 hne => hq I m s y5 h (Nat.le_refl _) (fun _ _ => rfl) (fun u => ⟨Or.inl, fun q => q.resolve_right (fun q => hne ⟨u, q⟩)⟩) Fr.rf
  have tail : Ev (d + 3) 212 57 [.ref 54, .int (nI v), .int (nI p), .int (nI a), .int (nI j), y5] [.int 1] S I L R Q ∨ ¬ ((a ≤ p + 1 ∧ p ≤ a + 1) ∨ (j ≤ p + 1 ∧ p ≤ j + 1)) := by
    by_cases gn : (a ≤ p + 1 ∧ p ≤ a + 1) ∨ (j ≤ p + 1 ∧ p ≤ j + 1)
    case neg => exact Or.inr gn
    refine Or.inl ?_
    by_cases ga : dg w v a < 2
    · simp only [E212_57, E212_59, E212_61, E212_64, E212_65, E212_66, E212_67, E212_70, E212_71, rfs, rfn, cs0, csi, csl, csr, csn, kti, ktl, ktr, ktn, ktv, ktf, true_and, and_true, and_self, ↓reduceIte, Nat.reduceAdd, Nat.reduceSub, Nat.reduceMul, Nat.reduceLT, Nat.reduceLeDiff, Nat.reduceEqDiff, true_or, or_true, false_or, or_false, not_true_eq_false, not_false_eq_true, reduceCtorEq, cmp_lt, cmp_gt, cmp_eq, Int32.reduceAdd, Int32.reduceSub, Int32.reduceMul, Int32.reduceLT, Int32.reduceToNatClampNeg, eq_self, ne_eq, Int64.reduceAdd, Int64.reduceSub, Int64.reduceMul, Int64.reduceLT, pk54 hS, n10, ia, ca, ga]
      exact no _ (fun ⟨u, _, q, _⟩ => by omega)
    by_cases gj : dg w v j < 9
    case neg =>
      simp only [E212_57, E212_59, E212_61, E212_64, E212_65, E212_66, E212_67, E212_70, E212_71, E212_74, E212_75, E212_76, E212_78, E212_81, E212_83, rfs, rfn, cs0, csi, csl, csr, csn, kti, ktl, ktr, ktn, ktv, ktf, true_and, and_true, and_self, ↓reduceIte, Nat.reduceAdd, Nat.reduceSub, Nat.reduceMul, Nat.reduceLT, Nat.reduceLeDiff, Nat.reduceEqDiff, true_or, or_true, false_or, or_false, not_true_eq_false, not_false_eq_true, reduceCtorEq, cmp_lt, cmp_gt, cmp_eq, Int32.reduceAdd, Int32.reduceSub, Int32.reduceMul, Int32.reduceLT, Int32.reduceToNatClampNeg, eq_self, ne_eq, Int64.reduceAdd, Int64.reduceSub, Int64.reduceMul, Int64.reduceLT, pk54 hS, n10, ia, ij, ca, cj, ga, gj]
      exact no _ (fun ⟨u, _, _, q, _⟩ => by omega)
    have hge := dg_ge (w := w) (v := v) (a := a) (by omega)
    have hp1 : prm w p v a j (v - w a + w j) := ⟨gn, by omega, by omega, by omega⟩
    have hu := hm _ hp1
    have su : nI v - nI (w a) + nI (w j) = nI (v - w a + w j) := by rw [pk_sub hge, nI_add]
    simp only [E212_57, E212_59, E212_61, E212_64, E212_65, E212_66, E212_67, E212_70, E212_71, E212_74, E212_75, E212_76, E212_78, E212_81, E212_83, E212_86, E212_87, E212_88, E212_89, E212_92, E212_93, E212_94, E212_95, E212_96, E212_99, E212_101, E212_102, E212_103, rfs, rfn, cs0, csi, csl, csr, csn, kti, ktl, ktr, ktn, ktv, ktf, true_and, and_true, and_self, ↓reduceIte, Nat.reduceAdd, Nat.reduceSub, Nat.reduceMul, Nat.reduceLT, Nat.reduceLeDiff, Nat.reduceEqDiff, true_or, or_true, false_or, or_false, not_true_eq_false, not_false_eq_true, reduceCtorEq, cmp_lt, cmp_gt, cmp_eq, Int32.reduceAdd, Int32.reduceSub, Int32.reduceMul, Int32.reduceLT, Int32.reduceToNatClampNeg, eq_self, ne_eq, Int64.reduceAdd, Int64.reduceSub, Int64.reduceMul, Int64.reduceLT, pk54 hS, pk72 hS, pl72 hS, pa72 hS, pi72 hS, pr54_50 hR, n10, ia, ij, ca, cj, ga, gj, a3, a4, j3, j4, wa, wj, su]
    refine rea (d := d + 1) hS hR hN hst h hu (fun I' m' s' q1 q2 q3 q4 q5 => ?_)
    refine hq I' m' s' _ q1 q2 q3 (fun u => (q4 u).trans ?_) q5
    constructor
    · rintro (z | rfl)
      · exact Or.inl z
      · exact Or.inr hp1
    · rintro (z | z)
      · exact Or.inl z
      · refine Or.inr ?_
        have := z.2.2.2
        omega
  by_cases g1 : a ≤ p + 1 ∧ p ≤ a + 1
  · simp only [E212_25, E212_26, E212_28, E212_29, E212_32, E212_35, E212_36, E212_37, E212_40, E212_52, E212_53, rfs, rfn, cs0, csi, csl, csr, csn, kti, ktl, ktr, ktn, ktv, ktf, true_and, and_true, and_self, ↓reduceIte, Nat.reduceAdd, Nat.reduceSub, Nat.reduceMul, Nat.reduceLT, Nat.reduceLeDiff, Nat.reduceEqDiff, true_or, or_true, false_or, or_false, not_true_eq_false, not_false_eq_true, reduceCtorEq, cmp_lt, cmp_gt, cmp_eq, Int32.reduceAdd, Int32.reduceSub, Int32.reduceMul, Int32.reduceLT, Int32.reduceToNatClampNeg, eq_self, ne_eq, Int64.reduceAdd, Int64.reduceSub, Int64.reduceMul, Int64.reduceLT, pk54 hS, ic, na, g1, n10]
    exact tail.resolve_right (fun q => q (Or.inl g1))
  · by_cases g2 : j ≤ p + 1 ∧ p ≤ j + 1
    · simp only [E212_25, E212_26, E212_28, E212_29, E212_32, E212_35, E212_36, E212_37, E212_40, E212_43, E212_45, E212_46, E212_49, E212_52, E212_53, rfs, rfn, cs0, csi, csl, csr, csn, kti, ktl, ktr, ktn, ktv, ktf, true_and, and_true, and_self, ↓reduceIte, Nat.reduceAdd, Nat.reduceSub, Nat.reduceMul, Nat.reduceLT, Nat.reduceLeDiff, Nat.reduceEqDiff, true_or, or_true, false_or, or_false, not_true_eq_false, not_false_eq_true, reduceCtorEq, cmp_lt, cmp_gt, cmp_eq, Int32.reduceAdd, Int32.reduceSub, Int32.reduceMul, Int32.reduceLT, Int32.reduceToNatClampNeg, eq_self, ne_eq, Int64.reduceAdd, Int64.reduceSub, Int64.reduceMul, Int64.reduceLT, pk54 hS, ic, na, nj, g1, g2, n10]
      exact tail.resolve_right (fun q => q (Or.inr g2))
    · simp only [E212_25, E212_26, E212_28, E212_29, E212_32, E212_35, E212_36, E212_37, E212_40, E212_43, E212_45, E212_46, E212_49, E212_56, E212_57, E212_59, E212_61, rfs, rfn, cs0, csi, csl, csr, csn, kti, ktl, ktr, ktn, ktv, ktf, true_and, and_true, and_self, ↓reduceIte, Nat.reduceAdd, Nat.reduceSub, Nat.reduceMul, Nat.reduceLT, Nat.reduceLeDiff, Nat.reduceEqDiff, true_or, or_true, false_or, or_false, not_true_eq_false, not_false_eq_true, reduceCtorEq, cmp_lt, cmp_gt, cmp_eq, Int32.reduceAdd, Int32.reduceSub, Int32.reduceMul, Int32.reduceLT, Int32.reduceToNatClampNeg, eq_self, ne_eq, Int64.reduceAdd, Int64.reduceSub, Int64.reduceMul, Int64.reduceLT, pk54 hS, ic, na, nj, g1, g2, n10]
      exact no _ (fun ⟨u, q, _⟩ => by
        rcases q with q | q
        · exact g1 q
        · exact g2 q)
/-- one pair of CELLS, the other not there -/
theorem mvb_out {I : mI} {a : Nat} {b : Int32} {z : Int} {y5 : Value} (hS : Pm S) (hR : Pr R) (hi : RfI I c w nu) (hc : c ≤ 5) (hz : b.toInt = z) (ho : ¬ (0 ≤ z ∧ z < c)) (hq : ∀ y5, Ev (d + 3) 212 106 [.ref 54, .int (nI v), .int (nI p), .int (nI a), .int b, y5] [] S I L R Q) : Ev (d + 3) 212 25 [.ref 54, .int (nI v), .int (nI p), .int (nI a), .int b, y5] [] S I L R Q := by
  have ic : ∀ {Q : mQ}, EvM (d + 2) 144 [.ref 54, .long b.toInt64] S I L R Q = Q (.int 0) S I L R := fun {Q} => by
    rw [icl (c := c) hS hR hi.1 hc hz, if_neg ho]
  simp only [E212_25, E212_26, E212_28, E212_29, E212_32, E212_56, E212_57, E212_59, E212_61, rfs, rfn, cs0, csi, csl, csr, csn, kti, ktl, ktr, ktn, ktv, ktf, true_and, and_true, and_self, ↓reduceIte, Nat.reduceAdd, Nat.reduceSub, Nat.reduceMul, Nat.reduceLT, Nat.reduceLeDiff, Nat.reduceEqDiff, true_or, or_true, false_or, or_false, not_true_eq_false, not_false_eq_true, reduceCtorEq, cmp_lt, cmp_gt, cmp_eq, Int32.reduceAdd, Int32.reduceSub, Int32.reduceMul, Int32.reduceLT, Int32.reduceToNatClampNeg, eq_self, ne_eq, Int64.reduceAdd, Int64.reduceSub, Int64.reduceMul, Int64.reduceLT, pk54 hS, ic]
  exact hq _
theorem fin5a : ∀ a, a < 5 → (nI a - 1).toInt = (a : Int) - 1 ∧ (nI a - 1 + 2 = nI (a + 1)) ∧ ¬ (nI a + 1 < nI a - 1) ∧ ¬ (nI a + 1 < nI (a + 1)) ∧ (nI a + 1 < nI (a + 1) + 2) ∧ (1 ≤ a → nI a - 1 = nI (a - 1)) := by decide +kernel
theorem ma_lp (hS : Pm S) (hR : Pr R) (hN : N ≤ 59049) (hst : st < 2 ^ 31) (hw : wOk w c) (hc : c ≤ 5) (hp : p < c) (hv : v < N) (hm : ∀ u, mv w c p v u → u < N) : ∀ (q a : Nat) (I : mI) (m : Nat) (s : Nat → Nat) (y4 y5 : Value), a + q = c → RfI I c w nu → Sp I N st m s → (∀ I' m' s', Sp I' N st m' s' → m ≤ m' → (∀ i, i < m → s' i = s i) → (∀ u, (∃ i, i < m' ∧ s' i = u) ↔ (∃ i, i < m ∧ s i = u) ∨ ∃ a', a ≤ a' ∧ a' < c ∧ ∃ j, j < c ∧ (j + 1 = a' ∨ j = a' + 1) ∧ prm w p v a' j u) → Fr I I' → Q .null S I' L R) → Ev (d + 3) 212 2 [.ref 54, .int (nI v), .int (nI p), .int (nI a), y4, y5] [] S I L R Q := by
  intro q
  induction q with
  | zero =>
    intro a I m s y4 y5 ha hi h hq
    obtain rfl : a = c := by omega
    have e0 : (nI a < nI a) = False := eq_false (nI_nlt (Nat.le_refl a) (by omega))
    have i0 := hi.1
    rw [E212_2]
    simp only [E212_3, E212_4, E212_7, E212_8, E212_9, E212_118, rfs, rfn, cs0, csi, csl, csr, csn, kti, ktl, ktr, ktn, ktv, ktf, true_and, and_true, and_self, ↓reduceIte, Nat.reduceAdd, Nat.reduceSub, Nat.reduceMul, Nat.reduceLT, Nat.reduceLeDiff, Nat.reduceEqDiff, true_or, or_true, false_or, or_false, not_true_eq_false, not_false_eq_true, reduceCtorEq, cmp_lt, cmp_gt, cmp_eq, Int32.reduceAdd, Int32.reduceSub, Int32.reduceMul, Int32.reduceLT, Int32.reduceToNatClampNeg, eq_self, ne_eq, Int64.reduceAdd, Int64.reduceSub, Int64.reduceMul, Int64.reduceLT, pk54 hS, pk56 hS, pl56 hS, pa56 hS, pi56 hS, pr54_3 hR, inb_is, i0, e0]
    refine hq I m s h (Nat.le_refl _) (fun _ _ => rfl) (fun u => ⟨Or.inl, fun q => ?_⟩) Fr.rf
    rcases q with q | ⟨a', q1, q2, _⟩
    · exact q
    · omega
  | succ q ih =>
    intro a I m s y4 y5 ha hi h hq
    have e1 : (nI a < nI c) = True := eq_true (nI_lt (by omega) (by omega))
    obtain ⟨f1, f2, f3, f4, f5, f6⟩ := fin5a a (by omega)
    have i0 := hi.1
    have pm1 : ∀ a', a' < c → ∀ j, j < c → (j + 1 = a' ∨ j = a' + 1) → ∀ u, prm w p v a' j u → u < N := fun a' h1 j h2 h3 u h4 => hm u (prm_mv.mp ⟨a', h1, j, h2, h3, h4⟩)
    -- the second pair, and on
    have nxt : ∀ (I1 : mI) (m1 : Nat) (s1 : Nat → Nat) (y5 : Value), RfI I1 c w nu → Sp I1 N st m1 s1 → m ≤ m1 → (∀ i, i < m → s1 i = s i) → (∀ u, (∃ i, i < m1 ∧ s1 i = u) ↔ (∃ i, i < m ∧ s i = u) ∨ (1 ≤ a ∧ prm w p v a (a - 1) u)) → Fr I I1 → Ev (d + 3) 212 106 [.ref 54, .int (nI v), .int (nI p), .int (nI a), .int (nI a - 1), y5] [] S I1 L R Q := by
      intro I1 m1 s1 y5 hi1 h1 g1 g2 g3 g4
      have f3' := eq_false f3
      have f4' := eq_false f4
      have fin : ∀ (I2 : mI) (m2 : Nat) (s2 : Nat → Nat) (y5 : Value), RfI I2 c w nu → Sp I2 N st m2 s2 → m1 ≤ m2 → (∀ i, i < m1 → s2 i = s1 i) → (∀ u, (∃ i, i < m2 ∧ s2 i = u) ↔ (∃ i, i < m1 ∧ s1 i = u) ∨ (a + 1 < c ∧ prm w p v a (a + 1) u)) → Fr I1 I2 → Ev (d + 3) 212 106 [.ref 54, .int (nI v), .int (nI p), .int (nI a), .int (nI (a + 1)), y5] [] S I2 L R Q := by
        intro I2 m2 s2 y5 hi2 h2 z1 z2 z3 z4
        have f5' := eq_true f5
        simp only [E212_106, E212_109, rfs, rfn, cs0, csi, csl, csr, csn, kti, ktl, ktr, ktn, ktv, ktf, true_and, and_true, and_self, ↓reduceIte, Nat.reduceAdd, Nat.reduceSub, Nat.reduceMul, Nat.reduceLT, Nat.reduceLeDiff, Nat.reduceEqDiff, true_or, or_true, false_or, or_false, not_true_eq_false, not_false_eq_true, reduceCtorEq, cmp_lt, cmp_gt, cmp_eq, Int32.reduceAdd, Int32.reduceSub, Int32.reduceMul, Int32.reduceLT, Int32.reduceToNatClampNeg, eq_self, ne_eq, Int64.reduceAdd, Int64.reduceSub, Int64.reduceMul, Int64.reduceLT]
        rw [E212_17]
        simp only [E212_19, E212_20, E212_21, E212_22, E212_112, E212_115, rfs, rfn, cs0, csi, csl, csr, csn, kti, ktl, ktr, ktn, ktv, ktf, true_and, and_true, and_self, ↓reduceIte, Nat.reduceAdd, Nat.reduceSub, Nat.reduceMul, Nat.reduceLT, Nat.reduceLeDiff, Nat.reduceEqDiff, true_or, or_true, false_or, or_false, not_true_eq_false, not_false_eq_true, reduceCtorEq, cmp_lt, cmp_gt, cmp_eq, Int32.reduceAdd, Int32.reduceSub, Int32.reduceMul, Int32.reduceLT, Int32.reduceToNatClampNeg, eq_self, ne_eq, Int64.reduceAdd, Int64.reduceSub, Int64.reduceMul, Int64.reduceLT, f5', nI_1]
        rw [nI_1] at f5'
        simp only [f5', rfs, rfn, cs0, csi, csl, csr, csn, kti, ktl, ktr, ktn, ktv, ktf, true_and, and_true, and_self, ↓reduceIte, Nat.reduceAdd, Nat.reduceSub, Nat.reduceMul, Nat.reduceLT, Nat.reduceLeDiff, Nat.reduceEqDiff, true_or, or_true, false_or, or_false, not_true_eq_false, not_false_eq_true, reduceCtorEq, cmp_lt, cmp_gt, cmp_eq, Int32.reduceAdd, Int32.reduceSub, Int32.reduceMul, Int32.reduceLT, Int32.reduceToNatClampNeg, eq_self, ne_eq, Int64.reduceAdd, Int64.reduceSub, Int64.reduceMul, Int64.reduceLT]
        refine ih (a + 1) I2 m2 s2 _ _ (by omega) hi2 h2 (fun I' m' s' x1 x2 x3 x4 x5 => hq I' m' s' x1 (by omega) (fun i hi => ?_) (fun u => (x4 u).trans ?_) ((g4.tr z4).tr x5))
        · rw [x3 i (by omega), z2 i (by omega), g2 i hi]
        · rw [z3 u, g3 u]
          constructor
          · rintro (((x | ⟨x1, x2⟩) | ⟨x1, x2⟩) | ⟨a', x1, x2, x3⟩)
            · exact Or.inl x
            · exact Or.inr ⟨a, by omega, by omega, a - 1, by omega, by omega, x2⟩
            · exact Or.inr ⟨a, by omega, by omega, a + 1, by omega, by omega, x2⟩
            · exact Or.inr ⟨a', by omega, x2, x3⟩
          · rintro (x | ⟨a', y1, y2, j, y3, y4, y5⟩)
            · exact Or.inl (Or.inl (Or.inl x))
            · by_cases y : a' = a
              · rw [y] at y4 y5
                rcases y4 with y4 | y4
                · refine Or.inl (Or.inl (Or.inr ⟨by omega, ?_⟩))
                  rw [show a - 1 = j by omega]
                  exact y5
                · refine Or.inl (Or.inr ⟨by omega, ?_⟩)
                  rw [← y4]
                  exact y5
              · exact Or.inr ⟨a', by omega, y2, j, y3, y4, y5⟩
      simp only [E212_106, E212_109, rfs, rfn, cs0, csi, csl, csr, csn, kti, ktl, ktr, ktn, ktv, ktf, true_and, and_true, and_self, ↓reduceIte, Nat.reduceAdd, Nat.reduceSub, Nat.reduceMul, Nat.reduceLT, Nat.reduceLeDiff, Nat.reduceEqDiff, true_or, or_true, false_or, or_false, not_true_eq_false, not_false_eq_true, reduceCtorEq, cmp_lt, cmp_gt, cmp_eq, Int32.reduceAdd, Int32.reduceSub, Int32.reduceMul, Int32.reduceLT, Int32.reduceToNatClampNeg, eq_self, ne_eq, Int64.reduceAdd, Int64.reduceSub, Int64.reduceMul, Int64.reduceLT, f2]
      rw [E212_17]
      simp only [E212_19, E212_20, E212_21, E212_22, rfs, rfn, cs0, csi, csl, csr, csn, kti, ktl, ktr, ktn, ktv, ktf, true_and, and_true, and_self, ↓reduceIte, Nat.reduceAdd, Nat.reduceSub, Nat.reduceMul, Nat.reduceLT, Nat.reduceLeDiff, Nat.reduceEqDiff, true_or, or_true, false_or, or_false, not_true_eq_false, not_false_eq_true, reduceCtorEq, cmp_lt, cmp_gt, cmp_eq, Int32.reduceAdd, Int32.reduceSub, Int32.reduceMul, Int32.reduceLT, Int32.reduceToNatClampNeg, eq_self, ne_eq, Int64.reduceAdd, Int64.reduceSub, Int64.reduceMul, Int64.reduceLT, f4']
      rw [nI_1] at f4'
      try simp only [nI_1, f4', rfs, rfn, cs0, csi, csl, csr, csn, kti, ktl, ktr, ktn, ktv, ktf, true_and, and_true, and_self, ↓reduceIte, Nat.reduceAdd, Nat.reduceSub, Nat.reduceMul, Nat.reduceLT, Nat.reduceLeDiff, Nat.reduceEqDiff, true_or, or_true, false_or, or_false, not_true_eq_false, not_false_eq_true, reduceCtorEq, cmp_lt, cmp_gt, cmp_eq, Int32.reduceAdd, Int32.reduceSub, Int32.reduceMul, Int32.reduceLT, Int32.reduceToNatClampNeg, eq_self, ne_eq, Int64.reduceAdd, Int64.reduceSub, Int64.reduceMul, Int64.reduceLT]
      by_cases ga : a + 1 < c
      · refine mvb_in hS hR hN hst hi1 hw hc hp hv (by omega) ga (pm1 a (by omega) (a + 1) ga (Or.inr rfl)) h1 (fun I2 m2 s2 y5 x1 x2 x3 x4 x5 => ?_)
        refine fin I2 m2 s2 y5 (hi1.fr x5) x1 x2 x3 (fun u => (x4 u).trans ?_) x5
        exact ⟨fun x => x.elim Or.inl (fun x => Or.inr ⟨ga, x⟩), fun x => x.elim Or.inl (fun x => Or.inr x.2)⟩
      · refine mvb_out (c := c) hS hR hi1 hc (nI_toInt (n := a + 1) (by omega)) (by omega) (fun y5 => ?_)
        exact fin I1 m1 s1 y5 hi1 h1 (Nat.le_refl _) (fun _ _ => rfl) (fun u => ⟨Or.inl, fun x => x.resolve_right (fun x => ga x.1)⟩) Fr.rf
    have f3' := eq_false f3
    rw [E212_2]
    simp only [E212_3, E212_4, E212_7, E212_8, E212_9, E212_12, E212_13, E212_14, E212_15, rfs, rfn, cs0, csi, csl, csr, csn, kti, ktl, ktr, ktn, ktv, ktf, true_and, and_true, and_self, ↓reduceIte, Nat.reduceAdd, Nat.reduceSub, Nat.reduceMul, Nat.reduceLT, Nat.reduceLeDiff, Nat.reduceEqDiff, true_or, or_true, false_or, or_false, not_true_eq_false, not_false_eq_true, reduceCtorEq, cmp_lt, cmp_gt, cmp_eq, Int32.reduceAdd, Int32.reduceSub, Int32.reduceMul, Int32.reduceLT, Int32.reduceToNatClampNeg, eq_self, ne_eq, Int64.reduceAdd, Int64.reduceSub, Int64.reduceMul, Int64.reduceLT, pk54 hS, pk56 hS, pl56 hS, pa56 hS, pi56 hS, pr54_3 hR, inb_is, i0, e1]
    rw [E212_17]
    simp only [E212_19, E212_20, E212_21, E212_22, rfs, rfn, cs0, csi, csl, csr, csn, kti, ktl, ktr, ktn, ktv, ktf, true_and, and_true, and_self, ↓reduceIte, Nat.reduceAdd, Nat.reduceSub, Nat.reduceMul, Nat.reduceLT, Nat.reduceLeDiff, Nat.reduceEqDiff, true_or, or_true, false_or, or_false, not_true_eq_false, not_false_eq_true, reduceCtorEq, cmp_lt, cmp_gt, cmp_eq, Int32.reduceAdd, Int32.reduceSub, Int32.reduceMul, Int32.reduceLT, Int32.reduceToNatClampNeg, eq_self, ne_eq, Int64.reduceAdd, Int64.reduceSub, Int64.reduceMul, Int64.reduceLT, f3']
    by_cases ga : 1 ≤ a
    · rw [f6 ga]
      have n2 := nxt
      rw [f6 ga] at n2
      refine mvb_in hS hR hN hst hi hw hc hp hv (by omega) (by omega) (pm1 a (by omega) (a - 1) (by omega) (by omega)) h (fun I2 m2 s2 y5 x1 x2 x3 x4 x5 => ?_)
      refine n2 I2 m2 s2 y5 (hi.fr x5) x1 x2 x3 (fun u => (x4 u).trans ?_) x5
      exact ⟨fun x => x.elim Or.inl (fun x => Or.inr ⟨ga, x⟩), fun x => x.elim Or.inl (fun x => Or.inr x.2)⟩
    · refine mvb_out (c := c) hS hR hi hc f1 (by omega) (fun y5 => ?_)
      exact nxt I m s y5 hi h (Nat.le_refl _) (fun _ _ => rfl) (fun u => ⟨Or.inl, fun x => x.resolve_right (fun x => ga x.1)⟩) Fr.rf
/-- moveAll -/
theorem moA {I : mI} {m : Nat} {s : Nat → Nat} (hS : Pm S) (hR : Pr R) (hN : N ≤ 59049) (hst : st < 2 ^ 31) (hi : RfI I c w nu) (hw : wOk w c) (hc : c ≤ 5) (hp : p < c) (hv : v < N) (hm : ∀ u, mv w c p v u → u < N) (h : Sp I N st m s) (hq : ∀ I' m' s', Sp I' N st m' s' → m ≤ m' → (∀ i, i < m → s' i = s i) → (∀ u, (∃ i, i < m' ∧ s' i = u) ↔ (∃ i, i < m ∧ s i = u) ∨ mv w c p v u) → Fr I I' → Q .null S I' L R) : EvM (d + 3) 212 [.ref 54, .int (nI v), .int (nI p)] S I L R Q := by
  simp only [M212, E212_0, E212_1, rfs, rfn, cs0, csi, csl, csr, csn, kti, ktl, ktr, ktn, ktv, ktf, true_and, and_true, and_self, ↓reduceIte, Nat.reduceAdd, Nat.reduceSub, Nat.reduceMul, Nat.reduceLT, Nat.reduceLeDiff, Nat.reduceEqDiff, true_or, or_true, false_or, or_false, not_true_eq_false, not_false_eq_true, reduceCtorEq, cmp_lt, cmp_gt, cmp_eq, Int32.reduceAdd, Int32.reduceSub, Int32.reduceMul, Int32.reduceLT, Int32.reduceToNatClampNeg, eq_self, ne_eq, Int64.reduceAdd, Int64.reduceSub, Int64.reduceMul, Int64.reduceLT]
  refine ma_lp (nu := nu) (c := c) hS hR hN hst hw hc hp hv hm c 0 I m s _ _ (by omega) hi h (fun I' m' s' q1 q2 q3 q4 q5 => hq I' m' s' q1 q2 q3 (fun u => (q4 u).trans ?_) q5)
  rw [← prm_mv]
  constructor
  · rintro (z | ⟨a, _, z1, z2⟩)
    · exact Or.inl z
    · exact Or.inr ⟨a, z1, z2⟩
  · rintro (z | ⟨a, z1, z2⟩)
    · exact Or.inl z
    · exact Or.inr ⟨a, by omega, z1, z2⟩
end MV
