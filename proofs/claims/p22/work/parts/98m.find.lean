/-! the reference's moveAll -/
/-- a MOVE of one IRON from a to j -/
def prm (w : Nat → Nat) (p v a j u : Nat) : Prop := ((a ≤ p + 1 ∧ p ≤ a + 1) ∨ (j ≤ p + 1 ∧ p ≤ j + 1)) ∧ 2 ≤ dg w v a ∧ dg w v j ≤ 8 ∧ u + w a = v + w j
theorem prm_mv {w : Nat → Nat} {c p v u : Nat} : (∃ a, a < c ∧ ∃ j, j < c ∧ (j + 1 = a ∨ j = a + 1) ∧ prm w p v a j u) ↔ mv w c p v u := by
  constructor
  · rintro ⟨a, h1, j, h2, h3, h4, h5, h6, h7⟩
    rcases h3 with rfl | rfl
    · exact ⟨j, h1, by omega, by omega, Or.inr ⟨h5, h6, h7⟩⟩
    · exact ⟨a, h2, by omega, by omega, Or.inl ⟨h5, h6, h7⟩⟩
  · rintro ⟨i, h1, h2, h3, (⟨h4, h5, h6⟩ | ⟨h4, h5, h6⟩)⟩
    · exact ⟨i, by omega, i + 1, h1, Or.inr rfl, by omega, h4, h5, h6⟩
    · exact ⟨i + 1, h1, i, by omega, Or.inl rfl, by omega, h4, h5, h6⟩
theorem dg_ge {w : Nat → Nat} {v a : Nat} (h : 2 ≤ dg w v a) : w a ≤ v := by
  unfold dg at h
  apply Classical.byContradiction
  intro q
  rw [Nat.div_eq_of_lt (by omega)] at h
  omega
theorem dg_le {w : Nat → Nat} {v a : Nat} : dg w v a ≤ 9 ∧ 1 ≤ dg w v a := by
  unfold dg
  omega
section MV
variable {d c N p v st : Nat} {w : Nat → Nat} {nu : Int32} {S : mS} {L : mL} {R : mR} {Q : mQ}
/-- one pair of CELLS, both there -/
theorem mvb_in {I : mI} {a j m : Nat} {s : Nat → Nat} {y5 : Value} (hS : Pm S) (hR : Pr R) (hN : N ≤ 59049) (hst : st < 2 ^ 32) (hi : RfI I c w nu) (hw : wOk w c) (hc : c ≤ 5) (hp : p < c) (hv : v < N) (ha : a < c) (hj : j < c) (hm : ∀ u, prm w p v a j u → u < N) (h : Sp I N st m s) (hq : ∀ I' m' s' y5, Sp I' N st m' s' → m ≤ m' → (∀ i, i < m → s' i = s i) → (∀ u, (∃ i, i < m' ∧ s' i = u) ↔ (∃ i, i < m ∧ s i = u) ∨ prm w p v a j u) → Fr I I' → Ev (d + 3) 212 106 [.ref 54, .int (nI v), .int (nI p), .int (nI a), .int (nI j), y5] [] S I' L R Q) : Ev (d + 3) 212 25 [.ref 54, .int (nI v), .int (nI p), .int (nI a), .int (nI j), y5] [] S I L R Q := by
  have j1 := nI_toInt (n := j) (by omega)
  have ic : ∀ {Q : mQ}, EvM (d + 2) 144 [.ref 54, .long (nI j).toInt64] S I L R Q = Q (.int 1) S I L R := fun {Q} => by
    rw [icl (c := c) hS hR hi.1 hc j1, if_pos (by omega)]
  have na : ∀ {Q : mQ}, EvM (d + 2) 186 [.int (nI a), .int (nI p)] S I L R Q = Q (.int (if a ≤ p + 1 ∧ p ≤ a + 1 then 1 else 0)) S I L R := nea (by omega) (by omega)
  have nj : ∀ {Q : mQ}, EvM (d + 2) 186 [.int (nI j), .int (nI p)] S I L R Q = Q (.int (if j ≤ p + 1 ∧ p ≤ j + 1 then 1 else 0)) S I L R := nea (by omega) (by omega)
  have ia : ∀ {Q : mQ}, EvM (d + 2) 209 [.ref 54, .int (nI v), .int (nI a)] S I L R Q = Q (.int (nI (dg w v a))) S I L R := iro hS hR hi hw hc (by omega) ha
  have ij : ∀ {Q : mQ}, EvM (d + 2) 209 [.ref 54, .int (nI v), .int (nI j)] S I L R Q = Q (.int (nI (dg w v j))) S I L R := iro hS hR hi hw hc (by omega) hj
  have n10 : ((1 : Int32) = 0) = False := eq_false (by decide)
  have da := dg_le (w := w) (v := v) (a := a)
  have dj := dg_le (w := w) (v := v) (a := j)
  have ca : (nI (dg w v a) < 2) = (dg w v a < 2) := propext (nI_ltI (b := 2) (by omega) (by decide))
  have cj : (nI (dg w v j) < 9) = (dg w v j < 9) := propext (nI_ltI (b := 9) (by omega) (by decide))
  have a3 : inb (nI a) 5 = True := inb_nI (by omega) (by decide)
  have a4 : (nI a).toNatClampNeg = a := nI_clamp (by omega)
  have j3 : inb (nI j) 5 = True := inb_nI (by omega) (by decide)
  have j4 : (nI j).toNatClampNeg = j := nI_clamp (by omega)
  have wa := hi.2.2 a ha
  have wj := hi.2.2 j hj
  have no : ∀ y5, ¬ (∃ u, prm w p v a j u) → Ev (d + 3) 212 106 [.ref 54, .int (nI v), .int (nI p), .int (nI a), .int (nI j), y5] [] S I L R Q := fun y5 hne => hq I m s y5 h (Nat.le_refl _) (fun _ _ => rfl) (fun u => ⟨Or.inl, fun q => q.resolve_right (fun q => hne ⟨u, q⟩)⟩) Fr.rf
  have tail : Ev (d + 3) 212 57 [.ref 54, .int (nI v), .int (nI p), .int (nI a), .int (nI j), y5] [.int 1] S I L R Q ∨ ¬ ((a ≤ p + 1 ∧ p ≤ a + 1) ∨ (j ≤ p + 1 ∧ p ≤ j + 1)) := by
    by_cases gn : (a ≤ p + 1 ∧ p ≤ a + 1) ∨ (j ≤ p + 1 ∧ p ≤ j + 1)
    case neg => exact Or.inr gn
    refine Or.inl ?_
    by_cases ga : dg w v a < 2
    · simp only [E212_57, E212_59, E212_61, E212_64, E212_65, E212_66, E212_67, E212_70, E212_71, rfs, rfn, cs0, csi, csl, csr, csn, kti, ktl, ktr, ktn, ktv, ktf, true_and, and_true, and_self, ↓reduceIte, Nat.reduceAdd, Nat.reduceSub, Nat.reduceMul, Nat.reduceLT, Nat.reduceLeDiff, Nat.reduceEqDiff, true_or, or_true, false_or, or_false, not_true_eq_false, not_false_eq_true, reduceCtorEq, cmp_lt, cmp_gt, cmp_eq, Int32.reduceAdd, Int32.reduceSub, Int32.reduceMul, Int32.reduceLT, Int32.reduceToNatClampNeg, eq_self, ne_eq, Int64.reduceAdd, Int64.reduceSub, Int64.reduceMul, Int64.reduceLT, pk54 hS, n10, ia, ca, ga]
      exact no _ (fun ⟨u, _, q, _⟩ => by omega)
    by_cases gj : dg w v j < 9
    case neg =>
      simp only [E212_57, E212_59, E212_61, E212_64, E212_65, E212_66, E212_67, E212_70, E212_71, E212_74, E212_75, E212_76, E212_78, E212_81, E212_83, rfs, rfn, cs0, csi, csl, csr, csn, kti, ktl, ktr, ktn, ktv, ktf, true_and, and_true, and_self, ↓reduceIte, Nat.reduceAdd, Nat.reduceSub, Nat.reduceMul, Nat.reduceLT, Nat.reduceLeDiff, Nat.reduceEqDiff, true_or, or_true, false_or, or_false, not_true_eq_false, not_false_eq_true, reduceCtorEq, cmp_lt, cmp_gt, cmp_eq, Int32.reduceAdd, Int32.reduceSub, Int32.reduceMul, Int32.reduceLT, Int32.reduceToNatClampNeg, eq_self, ne_eq, Int64.reduceAdd, Int64.reduceSub, Int64.reduceMul, Int64.reduceLT, pk54 hS, n10, ia, ij, ca, cj, ga, gj]
      exact no _ (fun ⟨u, _, _, q, _⟩ => by omega)
    have hge := dg_ge (w := w) (v := v) (a := a) (by omega)
    have hp1 : prm w p v a j (v - w a + w j) := ⟨gn, by omega, by omega, by omega⟩
    have hu := hm _ hp1
    have su : nI v - nI (w a) + nI (w j) = nI (v - w a + w j) := by rw [pk_sub hge, nI_add]
    simp only [E212_57, E212_59, E212_61, E212_64, E212_65, E212_66, E212_67, E212_70, E212_71, E212_74, E212_75, E212_76, E212_78, E212_81, E212_83, E212_86, E212_87, E212_88, E212_89, E212_92, E212_93, E212_94, E212_95, E212_96, E212_99, E212_101, E212_102, E212_103, rfs, rfn, cs0, csi, csl, csr, csn, kti, ktl, ktr, ktn, ktv, ktf, true_and, and_true, and_self, ↓reduceIte, Nat.reduceAdd, Nat.reduceSub, Nat.reduceMul, Nat.reduceLT, Nat.reduceLeDiff, Nat.reduceEqDiff, true_or, or_true, false_or, or_false, not_true_eq_false, not_false_eq_true, reduceCtorEq, cmp_lt, cmp_gt, cmp_eq, Int32.reduceAdd, Int32.reduceSub, Int32.reduceMul, Int32.reduceLT, Int32.reduceToNatClampNeg, eq_self, ne_eq, Int64.reduceAdd, Int64.reduceSub, Int64.reduceMul, Int64.reduceLT, pk54 hS, pk72 hS, pl72 hS, pa72 hS, pi72 hS, pr54_50 hR, n10, ia, ij, ca, cj, ga, gj, a3, a4, j3, j4, wa, wj, su]
    refine rea (d := d + 1) hS hR hN hst h hu (fun I' m' s' q1 q2 q3 q4 q5 => ?_)
    refine hq I' m' s' _ q1 q2 q3 (fun u => (q4 u).trans ?_) q5
    constructor
    · rintro (z | rfl)
      · exact Or.inl z
      · exact Or.inr hp1
    · rintro (z | z)
      · exact Or.inl z
      · refine Or.inr ?_
        have := z.2.2.2
        omega
  by_cases g1 : a ≤ p + 1 ∧ p ≤ a + 1
  · simp only [E212_25, E212_26, E212_28, E212_29, E212_32, E212_35, E212_36, E212_37, E212_40, E212_52, E212_53, rfs, rfn, cs0, csi, csl, csr, csn, kti, ktl, ktr, ktn, ktv, ktf, true_and, and_true, and_self, ↓reduceIte, Nat.reduceAdd, Nat.reduceSub, Nat.reduceMul, Nat.reduceLT, Nat.reduceLeDiff, Nat.reduceEqDiff, true_or, or_true, false_or, or_false, not_true_eq_false, not_false_eq_true, reduceCtorEq, cmp_lt, cmp_gt, cmp_eq, Int32.reduceAdd, Int32.reduceSub, Int32.reduceMul, Int32.reduceLT, Int32.reduceToNatClampNeg, eq_self, ne_eq, Int64.reduceAdd, Int64.reduceSub, Int64.reduceMul, Int64.reduceLT, pk54 hS, ic, na, g1, n10]
    exact tail.resolve_right (fun q => q (Or.inl g1))
  · by_cases g2 : j ≤ p + 1 ∧ p ≤ j + 1
    · simp only [E212_25, E212_26, E212_28, E212_29, E212_32, E212_35, E212_36, E212_37, E212_40, E212_43, E212_45, E212_46, E212_49, E212_52, E212_53, rfs, rfn, cs0, csi, csl, csr, csn, kti, ktl, ktr, ktn, ktv, ktf, true_and, and_true, and_self, ↓reduceIte, Nat.reduceAdd, Nat.reduceSub, Nat.reduceMul, Nat.reduceLT, Nat.reduceLeDiff, Nat.reduceEqDiff, true_or, or_true, false_or, or_false, not_true_eq_false, not_false_eq_true, reduceCtorEq, cmp_lt, cmp_gt, cmp_eq, Int32.reduceAdd, Int32.reduceSub, Int32.reduceMul, Int32.reduceLT, Int32.reduceToNatClampNeg, eq_self, ne_eq, Int64.reduceAdd, Int64.reduceSub, Int64.reduceMul, Int64.reduceLT, pk54 hS, ic, na, nj, g1, g2, n10]
      exact tail.resolve_right (fun q => q (Or.inr g2))
    · simp only [E212_25, E212_26, E212_28, E212_29, E212_32, E212_35, E212_36, E212_37, E212_40, E212_43, E212_45, E212_46, E212_49, E212_56, E212_57, E212_59, E212_61, rfs, rfn, cs0, csi, csl, csr, csn, kti, ktl, ktr, ktn, ktv, ktf, true_and, and_true, and_self, ↓reduceIte, Nat.reduceAdd, Nat.reduceSub, Nat.reduceMul, Nat.reduceLT, Nat.reduceLeDiff, Nat.reduceEqDiff, true_or, or_true, false_or, or_false, not_true_eq_false, not_false_eq_true, reduceCtorEq, cmp_lt, cmp_gt, cmp_eq, Int32.reduceAdd, Int32.reduceSub, Int32.reduceMul, Int32.reduceLT, Int32.reduceToNatClampNeg, eq_self, ne_eq, Int64.reduceAdd, Int64.reduceSub, Int64.reduceMul, Int64.reduceLT, pk54 hS, ic, na, nj, g1, g2, n10]
      exact no _ (fun ⟨u, q, _⟩ => by
        rcases q with q | q
        · exact g1 q
        · exact g2 q)
/-- one pair of CELLS, the other not there -/
theorem mvb_out {I : mI} {a : Nat} {b : Int32} {z : Int} {y5 : Value} (hS : Pm S) (hR : Pr R) (hi : RfI I c w nu) (hc : c ≤ 5) (hz : b.toInt = z) (ho : ¬ (0 ≤ z ∧ z < c)) (hq : ∀ y5, Ev (d + 3) 212 106 [.ref 54, .int (nI v), .int (nI p), .int (nI a), .int b, y5] [] S I L R Q) : Ev (d + 3) 212 25 [.ref 54, .int (nI v), .int (nI p), .int (nI a), .int b, y5] [] S I L R Q := by
  have ic : ∀ {Q : mQ}, EvM (d + 2) 144 [.ref 54, .long b.toInt64] S I L R Q = Q (.int 0) S I L R := fun {Q} => by
    rw [icl (c := c) hS hR hi.1 hc hz, if_neg ho]
  simp only [E212_25, E212_26, E212_28, E212_29, E212_32, E212_56, E212_57, E212_59, E212_61, rfs, rfn, cs0, csi, csl, csr, csn, kti, ktl, ktr, ktn, ktv, ktf, true_and, and_true, and_self, ↓reduceIte, Nat.reduceAdd, Nat.reduceSub, Nat.reduceMul, Nat.reduceLT, Nat.reduceLeDiff, Nat.reduceEqDiff, true_or, or_true, false_or, or_false, not_true_eq_false, not_false_eq_true, reduceCtorEq, cmp_lt, cmp_gt, cmp_eq, Int32.reduceAdd, Int32.reduceSub, Int32.reduceMul, Int32.reduceLT, Int32.reduceToNatClampNeg, eq_self, ne_eq, Int64.reduceAdd, Int64.reduceSub, Int64.reduceMul, Int64.reduceLT, pk54 hS, ic]
  exact hq _
theorem fin5a : ∀ a, a < 5 → (nI a - 1).toInt = (a : Int) - 1 ∧ (nI a - 1 + 2 = nI (a + 1)) ∧ ¬ (nI a + 1 < nI a - 1) ∧ ¬ (nI a + 1 < nI (a + 1)) ∧ (nI a + 1 < nI (a + 1) + 2) ∧ (1 ≤ a → nI a - 1 = nI (a - 1)) := by decide +kernel
theorem ma_lp_m (hS : Pm S) (hR : Pr R) (hN : N ≤ 59049) (hst : st < 2 ^ 32) (hw : wOk w c) (hc : c ≤ 5) (hp : p < c) (hv : v < N) (hm : ∀ u, mv w c p v u → u < N) : ∀ (q a : Nat) (I : mI) (m : Nat) (s : Nat → Nat) (y4 y5 : Value), a + q = c → RfI I c w nu → Sp I N st m s → (∀ I' m' s', Sp I' N st m' s' → m ≤ m' → (∀ i, i < m → s' i = s i) → (∀ u, (∃ i, i < m' ∧ s' i = u) ↔ (∃ i, i < m ∧ s i = u) ∨ ∃ a', a ≤ a' ∧ a' < c ∧ ∃ j, j < c ∧ (j + 1 = a' ∨ j = a' + 1) ∧ prm w p v a' j u) → Fr I I' → Q .null S I' L R) → Ev (d + 3) 212 2 [.ref 54, .int (nI v), .int (nI p), .int (nI a), y4, y5] [] S I L R Q := by
  intro q
  induction q with
  | zero =>
    intro a I m s y4 y5 ha hi h hq
    obtain rfl : a = c := by omega
    have e0 : (nI a < nI a) = False := eq_false (nI_nlt (Nat.le_refl a) (by omega))
    have i0 := hi.1
    rw [E212_2]
    simp only [E212_3, E212_4, E212_7, E212_8, E212_9, E212_118, rfs, rfn, cs0, csi, csl, csr, csn, kti, ktl, ktr, ktn, ktv, ktf, true_and, and_true, and_self, ↓reduceIte, Nat.reduceAdd, Nat.reduceSub, Nat.reduceMul, Nat.reduceLT, Nat.reduceLeDiff, Nat.reduceEqDiff, true_or, or_true, false_or, or_false, not_true_eq_false, not_false_eq_true, reduceCtorEq, cmp_lt, cmp_gt, cmp_eq, Int32.reduceAdd, Int32.reduceSub, Int32.reduceMul, Int32.reduceLT, Int32.reduceToNatClampNeg, eq_self, ne_eq, Int64.reduceAdd, Int64.reduceSub, Int64.reduceMul, Int64.reduceLT, pk54 hS, pk56 hS, pl56 hS, pa56 hS, pi56 hS, pr54_3 hR, inb_is, i0, e0]
    refine hq I m s h (Nat.le_refl _) (fun _ _ => rfl) (fun u => ⟨Or.inl, fun q => ?_⟩) Fr.rf
    rcases q with q | ⟨a', q1, q2, _⟩
    · exact q
    · omega
  | succ q ih =>
    intro a I m s y4 y5 ha hi h hq
    have e1 : (nI a < nI c) = True := eq_true (nI_lt (by omega) (by omega))
    obtain ⟨f1, f2, f3, f4, f5, f6⟩ := fin5a a (by omega)
    have i0 := hi.1
    have pm1 : ∀ a', a' < c → ∀ j, j < c → (j + 1 = a' ∨ j = a' + 1) → ∀ u, prm w p v a' j u → u < N := fun a' h1 j h2 h3 u h4 => hm u (prm_mv.mp ⟨a', h1, j, h2, h3, h4⟩)
    -- the second pair, and on
    have nxt : ∀ (I1 : mI) (m1 : Nat) (s1 : Nat → Nat) (y5 : Value), RfI I1 c w nu → Sp I1 N st m1 s1 → m ≤ m1 → (∀ i, i < m → s1 i = s i) → (∀ u, (∃ i, i < m1 ∧ s1 i = u) ↔ (∃ i, i < m ∧ s i = u) ∨ (1 ≤ a ∧ prm w p v a (a - 1) u)) → Fr I I1 → Ev (d + 3) 212 106 [.ref 54, .int (nI v), .int (nI p), .int (nI a), .int (nI a - 1), y5] [] S I1 L R Q := by
      intro I1 m1 s1 y5 hi1 h1 g1 g2 g3 g4
      have f3' := eq_false f3
      have f4' := eq_false f4
      have fin : ∀ (I2 : mI) (m2 : Nat) (s2 : Nat → Nat) (y5 : Value), RfI I2 c w nu → Sp I2 N st m2 s2 → m1 ≤ m2 → (∀ i, i < m1 → s2 i = s1 i) → (∀ u, (∃ i, i < m2 ∧ s2 i = u) ↔ (∃ i, i < m1 ∧ s1 i = u) ∨ (a + 1 < c ∧ prm w p v a (a + 1) u)) → Fr I1 I2 → Ev (d + 3) 212 106 [.ref 54, .int (nI v), .int (nI p), .int (nI a), .int (nI (a + 1)), y5] [] S I2 L R Q := by
        intro I2 m2 s2 y5 hi2 h2 z1 z2 z3 z4
        have f5' := eq_true f5
        simp only [E212_106, E212_109, rfs, rfn, cs0, csi, csl, csr, csn, kti, ktl, ktr, ktn, ktv, ktf, true_and, and_true, and_self, ↓reduceIte, Nat.reduceAdd, Nat.reduceSub, Nat.reduceMul, Nat.reduceLT, Nat.reduceLeDiff, Nat.reduceEqDiff, true_or, or_true, false_or, or_false, not_true_eq_false, not_false_eq_true, reduceCtorEq, cmp_lt, cmp_gt, cmp_eq, Int32.reduceAdd, Int32.reduceSub, Int32.reduceMul, Int32.reduceLT, Int32.reduceToNatClampNeg, eq_self, ne_eq, Int64.reduceAdd, Int64.reduceSub, Int64.reduceMul, Int64.reduceLT]
        rw [E212_17]
        simp only [E212_19, E212_20, E212_21, E212_22, E212_112, E212_115, rfs, rfn, cs0, csi, csl, csr, csn, kti, ktl, ktr, ktn, ktv, ktf, true_and, and_true, and_self, ↓reduceIte, Nat.reduceAdd, Nat.reduceSub, Nat.reduceMul, Nat.reduceLT, Nat.reduceLeDiff, Nat.reduceEqDiff, true_or, or_true, false_or, or_false, not_true_eq_false, not_false_eq_true, reduceCtorEq, cmp_lt, cmp_gt, cmp_eq, Int32.reduceAdd, Int32.reduceSub, Int32.reduceMul, Int32.reduceLT, Int32.reduceToNatClampNeg, eq_self, ne_eq, Int64.reduceAdd, Int64.reduceSub, Int64.reduceMul, Int64.reduceLT, f5', nI_1]
        rw [nI_1] at f5'
        simp only [f5', rfs, rfn, cs0, csi, csl, csr, csn, kti, ktl, ktr, ktn, ktv, ktf, true_and, and_true, and_self, ↓reduceIte, Nat.reduceAdd, Nat.reduceSub, Nat.reduceMul, Nat.reduceLT, Nat.reduceLeDiff, Nat.reduceEqDiff, true_or, or_true, false_or, or_false, not_true_eq_false, not_false_eq_true, reduceCtorEq, cmp_lt, cmp_gt, cmp_eq, Int32.reduceAdd, Int32.reduceSub, Int32.reduceMul, Int32.reduceLT, Int32.reduceToNatClampNeg, eq_self, ne_eq, Int64.reduceAdd, Int64.reduceSub, Int64.reduceMul, Int64.reduceLT]
        refine ih (a + 1) I2 m2 s2 _ _ (by omega) hi2 h2 (fun I' m' s' x1 x2 x3 x4 x5 => hq I' m' s' x1 (by omega) (fun i hi => ?_) (fun u => (x4 u).trans ?_) ((g4.tr z4).tr x5))
        · rw [x3 i (by omega), z2 i (by omega), g2 i hi]
        · rw [z3 u, g3 u]
          constructor
          · rintro (((x | ⟨x1, x2⟩) | ⟨x1, x2⟩) | ⟨a', x1, x2, x3⟩)
            · exact Or.inl x
            · exact Or.inr ⟨a, by omega, by omega, a - 1, by omega, by omega, x2⟩
            · exact Or.inr ⟨a, by omega, by omega, a + 1, by omega, by omega, x2⟩
            · exact Or.inr ⟨a', by omega, x2, x3⟩
          · rintro (x | ⟨a', y1, y2, j, y3, y4, y5⟩)
            · exact Or.inl (Or.inl (Or.inl x))
            · by_cases y : a' = a
              · rw [y] at y4 y5
                rcases y4 with y4 | y4
                · refine Or.inl (Or.inl (Or.inr ⟨by omega, ?_⟩))
                  rw [show a - 1 = j by omega]
                  exact y5
                · refine Or.inl (Or.inr ⟨by omega, ?_⟩)
                  rw [← y4]
                  exact y5
              · exact Or.inr ⟨a', by omega, y2, j, y3, y4, y5⟩
      simp only [E212_106, E212_109, rfs, rfn, cs0, csi, csl, csr, csn, kti, ktl, ktr, ktn, ktv, ktf, true_and, and_true, and_self, ↓reduceIte, Nat.reduceAdd, Nat.reduceSub, Nat.reduceMul, Nat.reduceLT, Nat.reduceLeDiff, Nat.reduceEqDiff, true_or, or_true, false_or, or_false, not_true_eq_false, not_false_eq_true, reduceCtorEq, cmp_lt, cmp_gt, cmp_eq, Int32.reduceAdd, Int32.reduceSub, Int32.reduceMul, Int32.reduceLT, Int32.reduceToNatClampNeg, eq_self, ne_eq, Int64.reduceAdd, Int64.reduceSub, Int64.reduceMul, Int64.reduceLT, f2]
      rw [E212_17]
      simp only [E212_19, E212_20, E212_21, E212_22, rfs, rfn, cs0, csi, csl, csr, csn, kti, ktl, ktr, ktn, ktv, ktf, true_and, and_true, and_self, ↓reduceIte, Nat.reduceAdd, Nat.reduceSub, Nat.reduceMul, Nat.reduceLT, Nat.reduceLeDiff, Nat.reduceEqDiff, true_or, or_true, false_or, or_false, not_true_eq_false, not_false_eq_true, reduceCtorEq, cmp_lt, cmp_gt, cmp_eq, Int32.reduceAdd, Int32.reduceSub, Int32.reduceMul, Int32.reduceLT, Int32.reduceToNatClampNeg, eq_self, ne_eq, Int64.reduceAdd, Int64.reduceSub, Int64.reduceMul, Int64.reduceLT, f4']
      rw [nI_1] at f4'
      try simp only [nI_1, f4', rfs, rfn, cs0, csi, csl, csr, csn, kti, ktl, ktr, ktn, ktv, ktf, true_and, and_true, and_self, ↓reduceIte, Nat.reduceAdd, Nat.reduceSub, Nat.reduceMul, Nat.reduceLT, Nat.reduceLeDiff, Nat.reduceEqDiff, true_or, or_true, false_or, or_false, not_true_eq_false, not_false_eq_true, reduceCtorEq, cmp_lt, cmp_gt, cmp_eq, Int32.reduceAdd, Int32.reduceSub, Int32.reduceMul, Int32.reduceLT, Int32.reduceToNatClampNeg, eq_self, ne_eq, Int64.reduceAdd, Int64.reduceSub, Int64.reduceMul, Int64.reduceLT]
      by_cases ga : a + 1 < c
      · refine mvb_in hS hR hN hst hi1 hw hc hp hv (by omega) ga (pm1 a (by omega) (a + 1) ga (Or.inr rfl)) h1 (fun I2 m2 s2 y5 x1 x2 x3 x4 x5 => ?_)
        refine fin I2 m2 s2 y5 (hi1.fr x5) x1 x2 x3 (fun u => (x4 u).trans ?_) x5
        exact ⟨fun x => x.elim Or.inl (fun x => Or.inr ⟨ga, x⟩), fun x => x.elim Or.inl (fun x => Or.inr x.2)⟩
      · refine mvb_out (c := c) hS hR hi1 hc (nI_toInt (n := a + 1) (by omega)) (by omega) (fun y5 => ?_)
        exact fin I1 m1 s1 y5 hi1 h1 (Nat.le_refl _) (fun _ _ => rfl) (fun u => ⟨Or.inl, fun x => x.resolve_right (fun x => ga x.1)⟩) Fr.rf
    have f3' := eq_false f3
    rw [E212_2]
    simp only [E212_3, E212_4, E212_7, E212_8, E212_9, E212_12, E212_13, E212_14, E212_15, rfs, rfn, cs0, csi, csl, csr, csn, kti, ktl, ktr, ktn, ktv, ktf, true_and, and_true, and_self, ↓reduceIte, Nat.reduceAdd, Nat.reduceSub, Nat.reduceMul, Nat.reduceLT, Nat.reduceLeDiff, Nat.reduceEqDiff, true_or, or_true, false_or, or_false, not_true_eq_false, not_false_eq_true, reduceCtorEq, cmp_lt, cmp_gt, cmp_eq, Int32.reduceAdd, Int32.reduceSub, Int32.reduceMul, Int32.reduceLT, Int32.reduceToNatClampNeg, eq_self, ne_eq, Int64.reduceAdd, Int64.reduceSub, Int64.reduceMul, Int64.reduceLT, pk54 hS, pk56 hS, pl56 hS, pa56 hS, pi56 hS, pr54_3 hR, inb_is, i0, e1]
    rw [E212_17]
    simp only [E212_19, E212_20, E212_21, E212_22, rfs, rfn, cs0, csi, csl, csr, csn, kti, ktl, ktr, ktn, ktv, ktf, true_and, and_true, and_self, ↓reduceIte, Nat.reduceAdd, Nat.reduceSub, Nat.reduceMul, Nat.reduceLT, Nat.reduceLeDiff, Nat.reduceEqDiff, true_or, or_true, false_or, or_false, not_true_eq_false, not_false_eq_true, reduceCtorEq, cmp_lt, cmp_gt, cmp_eq, Int32.reduceAdd, Int32.reduceSub, Int32.reduceMul, Int32.reduceLT, Int32.reduceToNatClampNeg, eq_self, ne_eq, Int64.reduceAdd, Int64.reduceSub, Int64.reduceMul, Int64.reduceLT, f3']
    by_cases ga : 1 ≤ a
    · rw [f6 ga]
      have n2 := nxt
      rw [f6 ga] at n2
      refine mvb_in hS hR hN hst hi hw hc hp hv (by omega) (by omega) (pm1 a (by omega) (a - 1) (by omega) (by omega)) h (fun I2 m2 s2 y5 x1 x2 x3 x4 x5 => ?_)
      refine n2 I2 m2 s2 y5 (hi.fr x5) x1 x2 x3 (fun u => (x4 u).trans ?_) x5
      exact ⟨fun x => x.elim Or.inl (fun x => Or.inr ⟨ga, x⟩), fun x => x.elim Or.inl (fun x => Or.inr x.2)⟩
    · refine mvb_out (c := c) hS hR hi hc f1 (by omega) (fun y5 => ?_)
      exact nxt I m s y5 hi h (Nat.le_refl _) (fun _ _ => rfl) (fun u => ⟨Or.inl, fun x => x.resolve_right (fun x => ga x.1)⟩) Fr.rf
/-- moveAll -/
theorem moA {I : mI} {m : Nat} {s : Nat → Nat} (hS : Pm S) (hR : Pr R) (hN : N ≤ 59049) (hst : st < 2 ^ 32) (hi : RfI I c w nu) (hw : wOk w c) (hc : c ≤ 5) (hp : p < c) (hv : v < N) (hm : ∀ u, mv w c p v u → u < N) (h : Sp I N st m s) (hq : ∀ I' m' s', Sp I' N st m' s' → m ≤ m' → (∀ i, i < m → s' i = s i) → (∀ u, (∃ i, i < m' ∧ s' i = u) ↔ (∃ i, i < m ∧ s i = u) ∨ mv w c p v u) → Fr I I' → Q .null S I' L R) : EvM (d + 3) 212 [.ref 54, .int (nI v), .int (nI p)] S I L R Q := by
  simp only [M212, E212_0, E212_1, rfs, rfn, cs0, csi, csl, csr, csn, kti, ktl, ktr, ktn, ktv, ktf, true_and, and_true, and_self, ↓reduceIte, Nat.reduceAdd, Nat.reduceSub, Nat.reduceMul, Nat.reduceLT, Nat.reduceLeDiff, Nat.reduceEqDiff, true_or, or_true, false_or, or_false, not_true_eq_false, not_false_eq_true, reduceCtorEq, cmp_lt, cmp_gt, cmp_eq, Int32.reduceAdd, Int32.reduceSub, Int32.reduceMul, Int32.reduceLT, Int32.reduceToNatClampNeg, eq_self, ne_eq, Int64.reduceAdd, Int64.reduceSub, Int64.reduceMul, Int64.reduceLT]
  refine ma_lp_m (nu := nu) (c := c) hS hR hN hst hw hc hp hv hm c 0 I m s _ _ (by omega) hi h (fun I' m' s' q1 q2 q3 q4 q5 => hq I' m' s' q1 q2 q3 (fun u => (q4 u).trans ?_) q5)
  rw [← prm_mv]
  constructor
  · rintro (z | ⟨a, _, z1, z2⟩)
    · exact Or.inl z
    · exact Or.inr ⟨a, z1, z2⟩
  · rintro (z | ⟨a, z1, z2⟩)
    · exact Or.inl z
    · exact Or.inr ⟨a, by omega, z1, z2⟩
end MV
/-! the reference's findSpread -/
section FS
variable {d c N p v st B : Nat} {w : Nat → Nat} {nu : Int32} {S : mS} {L : mL} {R : mR} {Q : mQ}
theorem fh_lp {I : mI} {y6 y7 y8 : Value} (hS : Pm S) (hR : Pr R) (hi : RfI I c w nu) (hw : wOk w c) (hc : c ≤ 5) (hp : p < c) (hv : v < 2 ^ 31) : ∀ (q i : Nat) (hd : Int32), i + q = c → (hd = 0 ∨ hd = 1) → (∀ hd' : Int32, (hd' = 0 ∨ hd' = 1) → (hd' = 1 ↔ hd = 1 ∨ ∃ j, i ≤ j ∧ j < c ∧ (p + 1 < j ∨ j + 1 < p) ∧ bitOf nu (dg w v j) = true) → Ev (d + 4) 211 79 [.ref 54, .int (nI v), .int (nI p), .int (nI B), .int hd', .int (nI c), y6, y7, y8] [] S I L R Q) → Ev (d + 4) 211 21 [.ref 54, .int (nI v), .int (nI p), .int (nI B), .int hd, .int (nI i), y6, y7, y8] [] S I L R Q := by
  have i0 := hi.1
  have i3 := hi.2.1
  have n10 : ((1 : Int32) = 0) = False := eq_false (by decide)
  have n01 : ((0 : Int32) = 1) = False := eq_false (by decide)
  intro q
  induction q with
  | zero =>
    intro i hd h1 h2 h
    obtain rfl : i = c := by omega
    have e0 : (nI i < nI i) = False := eq_false (nI_nlt (Nat.le_refl i) (by omega))
    rw [E211_21]
    simp only [E211_23, E211_24, E211_27, E211_28, E211_29, rfs, rfn, cs0, csi, csl, csr, csn, kti, ktl, ktr, ktn, ktv, ktf, true_and, and_true, and_self, ↓reduceIte, Nat.reduceAdd, Nat.reduceSub, Nat.reduceMul, Nat.reduceLT, Nat.reduceLeDiff, Nat.reduceEqDiff, true_or, or_true, false_or, or_false, not_true_eq_false, not_false_eq_true, reduceCtorEq, cmp_lt, cmp_gt, cmp_eq, Int32.reduceAdd, Int32.reduceSub, Int32.reduceMul, Int32.reduceLT, Int32.reduceToNatClampNeg, eq_self, ne_eq, Int64.reduceAdd, Int64.reduceSub, Int64.reduceMul, Int64.reduceLT, pk54 hS, pk56 hS, pl56 hS, pa56 hS, pi56 hS, pr54_3 hR, inb_is, i0, e0]
    refine h hd h2 ⟨Or.inl, fun z => ?_⟩
    rcases z with z | ⟨j, z1, z2, _⟩
    · exact z
    · omega
  | succ q ih =>
    intro i hd h1 h2 h
    have e1 : (nI i < nI c) = True := eq_true (nI_lt (by omega) (by omega))
    have ni : ∀ {Q : mQ}, EvM (d + 3) 186 [.int (nI i), .int (nI p)] S I L R Q = Q (.int (if i ≤ p + 1 ∧ p ≤ i + 1 then 1 else 0)) S I L R := nea (by omega) (by omega)
    have ii : ∀ {Q : mQ}, EvM (d + 3) 209 [.ref 54, .int (nI v), .int (nI i)] S I L R Q = Q (.int (nI (dg w v i))) S I L R := iro hS hR hi hw hc hv (by omega)
    have hb : bitOf nu (dg w v i) = true ↔ ¬ (nu >>> (nI (dg w v i) &&& 31)) &&& 1 = 0 := by
      unfold bitOf
      exact decide_eq_true_iff
    rw [E211_21]
    rcases h2 with rfl | rfl
    · by_cases g : i ≤ p + 1 ∧ p ≤ i + 1
      · simp only [E211_23, E211_24, E211_27, E211_28, E211_29, E211_32, E211_34, E211_37, E211_39, E211_40, E211_43, E211_70, E211_71, E211_73, E211_76, rfs, rfn, cs0, csi, csl, csr, csn, kti, ktl, ktr, ktn, ktv, ktf, true_and, and_true, and_self, ↓reduceIte, Nat.reduceAdd, Nat.reduceSub, Nat.reduceMul, Nat.reduceLT, Nat.reduceLeDiff, Nat.reduceEqDiff, true_or, or_true, false_or, or_false, not_true_eq_false, not_false_eq_true, reduceCtorEq, cmp_lt, cmp_gt, cmp_eq, Int32.reduceAdd, Int32.reduceSub, Int32.reduceMul, Int32.reduceLT, Int32.reduceToNatClampNeg, eq_self, ne_eq, Int64.reduceAdd, Int64.reduceSub, Int64.reduceMul, Int64.reduceLT, pk54 hS, pk56 hS, pl56 hS, pa56 hS, pi56 hS, pr54_3 hR, inb_is, i0, e1, ni, g, n10, nI_1]
        refine ih (i + 1) 0 (by omega) (Or.inl rfl) (fun hd' z1 z2 => h hd' z1 (z2.trans ?_))
        constructor
        · rintro (z | ⟨j, z3, z4⟩)
          · exact Or.inl z
          · exact Or.inr ⟨j, by omega, z4⟩
        · rintro (z | ⟨j, z3, z4, z5, z6⟩)
          · exact Or.inl z
          · refine Or.inr ⟨j, ?_, z4, z5, z6⟩
            omega
      · by_cases gb : bitOf nu (dg w v i) = true
        · have gz := eq_false (hb.mp gb)
          simp only [E211_23, E211_24, E211_27, E211_28, E211_29, E211_32, E211_34, E211_37, E211_39, E211_40, E211_43, E211_46, E211_47, E211_50, E211_51, E211_52, E211_53, E211_54, E211_56, E211_59, E211_60, E211_61, E211_62, E211_63, E211_66, E211_67, E211_71, E211_73, E211_76, rfs, rfn, cs0, csi, csl, csr, csn, kti, ktl, ktr, ktn, ktv, ktf, true_and, and_true, and_self, ↓reduceIte, Nat.reduceAdd, Nat.reduceSub, Nat.reduceMul, Nat.reduceLT, Nat.reduceLeDiff, Nat.reduceEqDiff, true_or, or_true, false_or, or_false, not_true_eq_false, not_false_eq_true, reduceCtorEq, cmp_lt, cmp_gt, cmp_eq, Int32.reduceAdd, Int32.reduceSub, Int32.reduceMul, Int32.reduceLT, Int32.reduceToNatClampNeg, eq_self, ne_eq, Int64.reduceAdd, Int64.reduceSub, Int64.reduceMul, Int64.reduceLT, pk54 hS, pk56 hS, pl56 hS, pa56 hS, pi56 hS, pr54_3 hR, inb_is, i0, i3, e1, ni, ii, g, and1, gz, nI_1]
          refine ih (i + 1) 1 (by omega) (Or.inr rfl) (fun hd' z1 z2 => h hd' z1 (z2.trans ?_))
          exact ⟨fun _ => Or.inr ⟨i, by omega, by omega, by omega, gb⟩, fun _ => Or.inl rfl⟩
        · have gz : ((nu >>> (nI (dg w v i) &&& 31)) &&& 1 = 0) = True := eq_true (Classical.byContradiction (fun z => gb (hb.mpr z)))
          simp only [E211_23, E211_24, E211_27, E211_28, E211_29, E211_32, E211_34, E211_37, E211_39, E211_40, E211_43, E211_46, E211_47, E211_50, E211_51, E211_52, E211_53, E211_54, E211_56, E211_59, E211_60, E211_61, E211_62, E211_63, E211_70, E211_71, E211_73, E211_76, rfs, rfn, cs0, csi, csl, csr, csn, kti, ktl, ktr, ktn, ktv, ktf, true_and, and_true, and_self, ↓reduceIte, Nat.reduceAdd, Nat.reduceSub, Nat.reduceMul, Nat.reduceLT, Nat.reduceLeDiff, Nat.reduceEqDiff, true_or, or_true, false_or, or_false, not_true_eq_false, not_false_eq_true, reduceCtorEq, cmp_lt, cmp_gt, cmp_eq, Int32.reduceAdd, Int32.reduceSub, Int32.reduceMul, Int32.reduceLT, Int32.reduceToNatClampNeg, eq_self, ne_eq, Int64.reduceAdd, Int64.reduceSub, Int64.reduceMul, Int64.reduceLT, pk54 hS, pk56 hS, pl56 hS, pa56 hS, pi56 hS, pr54_3 hR, inb_is, i0, i3, e1, ni, ii, g, and1, gz, nI_1]
          refine ih (i + 1) 0 (by omega) (Or.inl rfl) (fun hd' z1 z2 => h hd' z1 (z2.trans ?_))
          constructor
          · rintro (z | ⟨j, z3, z4⟩)
            · exact Or.inl z
            · exact Or.inr ⟨j, by omega, z4⟩
          · rintro (z | ⟨j, z3, z4, z5, z6⟩)
            · exact Or.inl z
            · by_cases y : j = i
              · rw [y] at z6
                exact absurd z6 gb
              · exact Or.inr ⟨j, by omega, z4, z5, z6⟩
    · simp only [E211_23, E211_24, E211_27, E211_28, E211_29, E211_32, E211_34, E211_66, E211_67, E211_71, E211_73, E211_76, rfs, rfn, cs0, csi, csl, csr, csn, kti, ktl, ktr, ktn, ktv, ktf, true_and, and_true, and_self, ↓reduceIte, Nat.reduceAdd, Nat.reduceSub, Nat.reduceMul, Nat.reduceLT, Nat.reduceLeDiff, Nat.reduceEqDiff, true_or, or_true, false_or, or_false, not_true_eq_false, not_false_eq_true, reduceCtorEq, cmp_lt, cmp_gt, cmp_eq, Int32.reduceAdd, Int32.reduceSub, Int32.reduceMul, Int32.reduceLT, Int32.reduceToNatClampNeg, eq_self, ne_eq, Int64.reduceAdd, Int64.reduceSub, Int64.reduceMul, Int64.reduceLT, pk54 hS, pk56 hS, pl56 hS, pa56 hS, pi56 hS, pr54_3 hR, inb_is, i0, e1, n10, nI_1]
      refine ih (i + 1) 1 (by omega) (Or.inr rfl) (fun hd' z1 z2 => h hd' z1 (z2.trans ?_))
      exact ⟨fun _ => Or.inl rfl, fun _ => Or.inl rfl⟩
theorem fi_lp {y4 : Int32} {fr k to : Nat} (hS : Pm S) (hR : Pr R) (hN : N ≤ 59049) (hst : st < 2 ^ 32) (hw : wOk w c) (hc : c ≤ 5) (hp : p < c) (hm : ∀ y u, y < N → mv w c p y u → u < N) : ∀ (q i : Nat) (I : mI) (m : Nat) (s : Nat → Nat), i + q = to → to ≤ m → RfI I c w nu → Sp I N st m s → (∀ I' m' s', RfI I' c w nu → Sp I' N st m' s' → m ≤ m' → (∀ j, j < m → s' j = s j) → (∀ u, (∃ j, j < m' ∧ s' j = u) ↔ (∃ j, j < m ∧ s j = u) ∨ ∃ j, i ≤ j ∧ j < to ∧ mv w c p (s j) u) → Fr I I' → Ev (d + 4) 211 158 [.ref 54, .int (nI v), .int (nI p), .int (nI B), .int y4, .int (nI fr), .int (nI k), .int (nI to), .int (nI to)] [] S I' L R Q) → Ev (d + 4) 211 133 [.ref 54, .int (nI v), .int (nI p), .int (nI B), .int y4, .int (nI fr), .int (nI k), .int (nI to), .int (nI i)] [] S I L R Q := by
  intro q
  induction q with
  | zero =>
    intro i I m s h1 h2 hi h hq
    obtain rfl : i = to := by omega
    have hle := h.le
    have e0 : (nI i < nI i) = False := eq_false (nI_nlt (Nat.le_refl i) (by omega))
    rw [E211_133]
    simp only [E211_135, E211_137, rfs, rfn, cs0, csi, csl, csr, csn, kti, ktl, ktr, ktn, ktv, ktf, true_and, and_true, and_self, ↓reduceIte, Nat.reduceAdd, Nat.reduceSub, Nat.reduceMul, Nat.reduceLT, Nat.reduceLeDiff, Nat.reduceEqDiff, true_or, or_true, false_or, or_false, not_true_eq_false, not_false_eq_true, reduceCtorEq, cmp_lt, cmp_gt, cmp_eq, Int32.reduceAdd, Int32.reduceSub, Int32.reduceMul, Int32.reduceLT, Int32.reduceToNatClampNeg, eq_self, ne_eq, Int64.reduceAdd, Int64.reduceSub, Int64.reduceMul, Int64.reduceLT, e0]
    refine hq I m s hi h (Nat.le_refl _) (fun _ _ => rfl) (fun u => ⟨Or.inl, fun z => ?_⟩) Fr.rf
    rcases z with z | ⟨j, z1, z2, _⟩
    · exact z
    · omega
  | succ q ih =>
    intro i I m s h1 h2 hi h hq
    have hle := h.le
    have e1 : (nI i < nI to) = True := eq_true (nI_lt (by omega) (by omega))
    have i3 : inb (nI i) 59049 = True := inb_nI (by omega) (by decide)
    have i4 : (nI i).toNatClampNeg = i := nI_clamp (by omega)
    obtain ⟨s1, s2⟩ := h.2.2.1 i (by omega)
    rw [E211_133]
    simp only [E211_135, E211_137, E211_140, E211_141, E211_142, E211_145, E211_147, E211_148, E211_149, rfs, rfn, cs0, csi, csl, csr, csn, kti, ktl, ktr, ktn, ktv, ktf, true_and, and_true, and_self, ↓reduceIte, Nat.reduceAdd, Nat.reduceSub, Nat.reduceMul, Nat.reduceLT, Nat.reduceLeDiff, Nat.reduceEqDiff, true_or, or_true, false_or, or_false, not_true_eq_false, not_false_eq_true, reduceCtorEq, cmp_lt, cmp_gt, cmp_eq, Int32.reduceAdd, Int32.reduceSub, Int32.reduceMul, Int32.reduceLT, Int32.reduceToNatClampNeg, eq_self, ne_eq, Int64.reduceAdd, Int64.reduceSub, Int64.reduceMul, Int64.reduceLT, pk54 hS, pk78 hS, pl78 hS, pa78 hS, pi78 hS, pr54_57 hR, e1, i3, i4, s2]
    refine moA (d := d) hS hR hN hst hi hw hc hp s1 (fun u z => hm _ u s1 z) h (fun I1 m1 s1 x1 x2 x3 x4 x5 => ?_)
    simp only [E211_152, E211_155, rfs, rfn, cs0, csi, csl, csr, csn, kti, ktl, ktr, ktn, ktv, ktf, true_and, and_true, and_self, ↓reduceIte, Nat.reduceAdd, Nat.reduceSub, Nat.reduceMul, Nat.reduceLT, Nat.reduceLeDiff, Nat.reduceEqDiff, true_or, or_true, false_or, or_false, not_true_eq_false, not_false_eq_true, reduceCtorEq, cmp_lt, cmp_gt, cmp_eq, Int32.reduceAdd, Int32.reduceSub, Int32.reduceMul, Int32.reduceLT, Int32.reduceToNatClampNeg, eq_self, ne_eq, Int64.reduceAdd, Int64.reduceSub, Int64.reduceMul, Int64.reduceLT, nI_1]
    refine ih (i + 1) I1 m1 s1 (by omega) (by omega) (hi.fr x5) x1 (fun I' m' s' z0 z1 z2 z3 z4 z5 => hq I' m' s' z0 z1 (by omega) (fun j hj => ?_) (fun u => (z4 u).trans ?_) (x5.tr z5))
    · rw [z3 j (by omega), x3 j hj]
    · rw [x4 u]
      constructor
      · rintro ((y | y) | ⟨j, y1, y2, y3⟩)
        · exact Or.inl y
        · exact Or.inr ⟨i, by omega, by omega, y⟩
        · rw [x3 j (by omega)] at y3
          exact Or.inr ⟨j, by omega, y2, y3⟩
      · rintro (y | ⟨j, y1, y2, y3⟩)
        · exact Or.inl (Or.inl y)
        · by_cases z : j = i
          · rw [z] at y3
            exact Or.inl (Or.inr y3)
          · refine Or.inr ⟨j, by omega, y2, ?_⟩
            rw [x3 j (by omega)]
            exact y3
theorem fo_lp {y4 : Int32} {A : Nat → Prop} (hS : Pm S) (hR : Pr R) (hN : N ≤ 59049) (hst : st < 2 ^ 32) (hw : wOk w c) (hc : c ≤ 5) (hp : p < c) (hm : ∀ y u, y < N → mv w c p y u → u < N) (hB : B < 2 ^ 24) : ∀ (q k : Nat) (I : mI) (m : Nat) (s : Nat → Nat) (fr : Nat) (y7 y8 : Value), k + q = B → fr ≤ m → RfI I c w nu → Sp I N st m s → (∀ u, (∃ j, j < m ∧ s j = u) ↔ Xs (mv w c p) A k u) → (∀ j, j < fr → ∀ u, mv w c p (s j) u → ∃ j, j < m ∧ s j = u) → (∀ I' m' s', Sp I' N st m' s' → (∀ u, (∃ j, j < m' ∧ s' j = u) ↔ Xs (mv w c p) A B u) → Fr I I' → Q .null S I' L R) → Ev (d + 4) 211 117 [.ref 54, .int (nI v), .int (nI p), .int (nI B), .int y4, .int (nI fr), .int (nI k), y7, y8] [] S I L R Q := by
  intro q
  induction q with
  | zero =>
    intro k I m s fr y7 y8 h1 h2 hi h i1 i2 hq
    obtain rfl : k = B := by omega
    have e0 : (nI k < nI k) = False := eq_false (nI_nlt (Nat.le_refl k) (by omega))
    rw [E211_117]
    simp only [E211_119, E211_120, E211_168, rfs, rfn, cs0, csi, csl, csr, csn, kti, ktl, ktr, ktn, ktv, ktf, true_and, and_true, and_self, ↓reduceIte, Nat.reduceAdd, Nat.reduceSub, Nat.reduceMul, Nat.reduceLT, Nat.reduceLeDiff, Nat.reduceEqDiff, true_or, or_true, false_or, or_false, not_true_eq_false, not_false_eq_true, reduceCtorEq, cmp_lt, cmp_gt, cmp_eq, Int32.reduceAdd, Int32.reduceSub, Int32.reduceMul, Int32.reduceLT, Int32.reduceToNatClampNeg, eq_self, ne_eq, Int64.reduceAdd, Int64.reduceSub, Int64.reduceMul, Int64.reduceLT, e0]
    exact hq I m s h i1 Fr.rf
  | succ q ih =>
    intro k I m s fr y7 y8 h1 h2 hi h i1 i2 hq
    have e1 : (nI k < nI B) = True := eq_true (nI_lt (by omega) (by omega))
    have hmany := h.2.1
    rw [E211_117]
    simp only [E211_119, E211_120, E211_123, E211_124, E211_127, E211_129, E211_131, rfs, rfn, cs0, csi, csl, csr, csn, kti, ktl, ktr, ktn, ktv, ktf, true_and, and_true, and_self, ↓reduceIte, Nat.reduceAdd, Nat.reduceSub, Nat.reduceMul, Nat.reduceLT, Nat.reduceLeDiff, Nat.reduceEqDiff, true_or, or_true, false_or, or_false, not_true_eq_false, not_false_eq_true, reduceCtorEq, cmp_lt, cmp_gt, cmp_eq, Int32.reduceAdd, Int32.reduceSub, Int32.reduceMul, Int32.reduceLT, Int32.reduceToNatClampNeg, eq_self, ne_eq, Int64.reduceAdd, Int64.reduceSub, Int64.reduceMul, Int64.reduceLT, pk54 hS, e1, hmany]
    refine fi_lp (nu := nu) hS hR hN hst hw hc hp hm (m - fr) fr I m s (by omega) (Nat.le_refl _) hi h (fun I1 m1 s1 x0 x1 x2 x3 x4 x5 => ?_)
    simp only [E211_158, E211_160, E211_162, E211_165, rfs, rfn, cs0, csi, csl, csr, csn, kti, ktl, ktr, ktn, ktv, ktf, true_and, and_true, and_self, ↓reduceIte, Nat.reduceAdd, Nat.reduceSub, Nat.reduceMul, Nat.reduceLT, Nat.reduceLeDiff, Nat.reduceEqDiff, true_or, or_true, false_or, or_false, not_true_eq_false, not_false_eq_true, reduceCtorEq, cmp_lt, cmp_gt, cmp_eq, Int32.reduceAdd, Int32.reduceSub, Int32.reduceMul, Int32.reduceLT, Int32.reduceToNatClampNeg, eq_self, ne_eq, Int64.reduceAdd, Int64.reduceSub, Int64.reduceMul, Int64.reduceLT, nI_1]
    refine ih (k + 1) I1 m1 s1 m _ _ (by omega) x2 x0 x1 (fun u => ?_) (fun j hj u z => ?_) (fun I' m' s' z1 z2 z3 => hq I' m' s' z1 z2 (x5.tr z3))
    · rw [x4 u, i1 u]
      constructor
      · rintro (y | ⟨j, y1, y2, y3⟩)
        · exact Or.inl y
        · exact Or.inr ⟨s j, (i1 (s j)).mp ⟨j, y2, rfl⟩, y3⟩
      · rintro (y | ⟨x, y1, y2⟩)
        · exact Or.inl y
        · obtain ⟨j, z1, z2⟩ := (i1 x).mpr y1
          by_cases y : j < fr
          · rw [← z2] at y2
            exact Or.inl ((i1 u).mp (i2 j y u y2))
          · rw [← z2] at y2
            exact Or.inr ⟨j, by omega, z1, y2⟩
    · rw [x3 j hj] at z
      rw [x4 u]
      by_cases y : j < fr
      · exact Or.inl (i2 j y u z)
      · exact Or.inr ⟨j, by omega, hj, z⟩
/-- at rest: stamps so far -/
def Rst (I : mI) (N st : Nat) : Prop := I 54 56 = nI st ∧ ∀ v, v < N → ∃ t, t ≤ st ∧ I 77 v = nI t
/-- findSpread -/
theorem fsA {I : mI} (hS : Pm S) (hR : Pr R) (hN : N ≤ 59049) (hst : st + 1 < 2 ^ 32) (hi : RfI I c w nu) (hr : Rst I N st) (hw : wOk w c) (hc : c ≤ 5) (hp : p < c) (hv : v < N) (hm : ∀ y u, y < N → mv w c p y u → u < N) (hB : B < 2 ^ 24) (hq : ∀ I' m s, Sp I' N (st + 1) m s → (∀ u, (∃ j, j < m ∧ s j = u) ↔ Xs (mv w c p) (hot w c nu p v) B u) → Fr I I' → Q .null S I' L R) : EvM (d + 4) 211 [.ref 54, .int (nI v), .int (nI p), .int (nI B)] S I L R Q := by
  have r1 := hr.1
  simp only [M211, E211_0, E211_1, E211_2, E211_5, E211_6, E211_7, E211_10, E211_11, E211_12, E211_15, E211_16, E211_18, E211_19, rfs, rfn, cs0, csi, csl, csr, csn, kti, ktl, ktr, ktn, ktv, ktf, true_and, and_true, and_self, ↓reduceIte, Nat.reduceAdd, Nat.reduceSub, Nat.reduceMul, Nat.reduceLT, Nat.reduceLeDiff, Nat.reduceEqDiff, true_or, or_true, false_or, or_false, not_true_eq_false, not_false_eq_true, reduceCtorEq, cmp_lt, cmp_gt, cmp_eq, Int32.reduceAdd, Int32.reduceSub, Int32.reduceMul, Int32.reduceLT, Int32.reduceToNatClampNeg, eq_self, ne_eq, Int64.reduceAdd, Int64.reduceSub, Int64.reduceMul, Int64.reduceLT, pk54 hS, r1, nI_1, up_up, uu_s]
  have fr0 : Fr I (va_up I 54 (va_up (va_up (I 54) 56 (nI (st + 1))) 58 0)) := ⟨fun a h1 h2 h3 => uu_n _ _ h1, fun k h1 h2 => by rw [uu_s, uu_n _ _ h2, uu_n _ _ h1]⟩
  have hi' := hi.fr fr0
  have sp0 : Sp (va_up I 54 (va_up (va_up (I 54) 56 (nI (st + 1))) 58 0)) N (st + 1) 0 (fun _ => 0) := by
    refine ⟨?_, ?_, fun i hi => absurd hi (by omega), fun u hu => ?_, ?_, fun u hu => ?_⟩
    · rw [uu_s, uu_n _ _ (by decide), uu_s]
    · rw [uu_s, uu_s]
      rfl
    · obtain ⟨t, t1, t2⟩ := hr.2 u hu
      rw [uu_n _ _ (by decide), t2]
      constructor
      · intro z
        have := (nI_e32 (a := t) (b := st + 1) (by omega) (by omega)).mp z
        omega
      · rintro ⟨i, z, _⟩
        omega
    · refine cnt_zero (fun u hu => decide_eq_false (fun z => ?_))
      obtain ⟨t, t1, t2⟩ := hr.2 u hu
      rw [uu_n _ _ (by decide), t2] at z
      have := (nI_e32 (a := t) (b := st + 1) (by omega) (by omega)).mp z
      omega
    · obtain ⟨t, t1, t2⟩ := hr.2 u hu
      rw [uu_n _ _ (by decide)]
      exact ⟨t, by omega, t2⟩
  generalize va_up I 54 (va_up (va_up (I 54) 56 (nI (st + 1))) 58 0) = I0 at *
  have n10 : ((1 : Int32) = 0) = False := eq_false (by decide)
  refine fh_lp (nu := nu) (c := c) hS hR hi' hw hc hp (by omega) c 0 0 (by omega) (Or.inl rfl) (fun hd z1 z2 => ?_)
  have hh : hd = 1 ↔ hld w c nu v p := by
    rw [z2]
    constructor
    · rintro (z | ⟨j, _, y1, y2⟩)
      · exact absurd z (by decide)
      · exact ⟨j, y1, y2⟩
    · rintro ⟨j, y1, y2⟩
      exact Or.inr ⟨j, by omega, y1, y2⟩
  rcases z1 with rfl | rfl
  · have nh : ¬ hld w c nu v p := fun z => absurd (hh.mpr z) (by decide)
    simp only [E211_79, E211_81, E211_84, rfs, rfn, cs0, csi, csl, csr, csn, kti, ktl, ktr, ktn, ktv, ktf, true_and, and_true, and_self, ↓reduceIte, Nat.reduceAdd, Nat.reduceSub, Nat.reduceMul, Nat.reduceLT, Nat.reduceLeDiff, Nat.reduceEqDiff, true_or, or_true, false_or, or_false, not_true_eq_false, not_false_eq_true, reduceCtorEq, cmp_lt, cmp_gt, cmp_eq, Int32.reduceAdd, Int32.reduceSub, Int32.reduceMul, Int32.reduceLT, Int32.reduceToNatClampNeg, eq_self, ne_eq, Int64.reduceAdd, Int64.reduceSub, Int64.reduceMul, Int64.reduceLT]
    refine hq I0 0 _ sp0 (fun u => ⟨fun ⟨j, z, _⟩ => absurd z (by omega), fun z => ?_⟩) fr0
    exfalso
    have : ∀ b u, ¬ Xs (mv w c p) (hot w c nu p v) b u := fun b => by
      induction b with
      | zero => exact fun u z => nh z.1
      | succ b ih =>
        rintro u (z | ⟨y, z, _⟩)
        · exact ih u z
        · exact ih y z
    exact this B u z
  · have yh := hh.mp rfl
    have ip : ∀ {Q : mQ}, EvM (d + 3) 209 [.ref 54, .int (nI v), .int (nI p)] S I0 L R Q = Q (.int (nI (dg w v p))) S I0 L R := iro hS hR hi' hw hc (by omega) hp
    have cp : ((1 : Int32) < nI (dg w v p)) = (1 < dg w v p) := propext (nI_ltI (a := 1) (by decide) (by have := dg_le (w := w) (v := v) (a := p); omega))
    have dp := dg_le (w := w) (v := v) (a := p)
    have p3 : inb (nI p) 5 = True := inb_nI (by omega) (by decide)
    have p4 : (nI p).toNatClampNeg = p := nI_clamp (by omega)
    have wp := hi'.2.2 p hp
    have go : ∀ x, x < N → (∀ u, u = x ↔ hot w c nu p v u) → Ev (d + 4) 211 108 [.ref 54, .int (nI v), .int (nI p), .int (nI B), .int 1, .int (nI c), nv, nv, nv] [.int (nI x), .ref 54] S I0 L R Q := fun x hx hxu => by
      simp only [E211_108, rfs, rfn, cs0, csi, csl, csr, csn, kti, ktl, ktr, ktn, ktv, ktf, true_and, and_true, and_self, ↓reduceIte, Nat.reduceAdd, Nat.reduceSub, Nat.reduceMul, Nat.reduceLT, Nat.reduceLeDiff, Nat.reduceEqDiff, true_or, or_true, false_or, or_false, not_true_eq_false, not_false_eq_true, reduceCtorEq, cmp_lt, cmp_gt, cmp_eq, Int32.reduceAdd, Int32.reduceSub, Int32.reduceMul, Int32.reduceLT, Int32.reduceToNatClampNeg, eq_self, ne_eq, Int64.reduceAdd, Int64.reduceSub, Int64.reduceMul, Int64.reduceLT, pk54 hS]
      refine rea (d := d + 2) hS hR hN hst sp0 hx (fun I1 m1 s1 x1 x2 x3 x4 x5 => ?_)
      simp only [E211_111, E211_112, E211_114, E211_115, rfs, rfn, cs0, csi, csl, csr, csn, kti, ktl, ktr, ktn, ktv, ktf, true_and, and_true, and_self, ↓reduceIte, Nat.reduceAdd, Nat.reduceSub, Nat.reduceMul, Nat.reduceLT, Nat.reduceLeDiff, Nat.reduceEqDiff, true_or, or_true, false_or, or_false, not_true_eq_false, not_false_eq_true, reduceCtorEq, cmp_lt, cmp_gt, cmp_eq, Int32.reduceAdd, Int32.reduceSub, Int32.reduceMul, Int32.reduceLT, Int32.reduceToNatClampNeg, eq_self, ne_eq, Int64.reduceAdd, Int64.reduceSub, Int64.reduceMul, Int64.reduceLT]
      refine fo_lp (nu := nu) (A := fun u => u = x) hS hR hN hst hw hc hp hm hB B 0 I1 m1 s1 0 _ _ (by omega) (by omega) (hi'.fr x5) x1 (fun u => (x4 u).trans ?_) (fun j hj => absurd hj (by omega)) (fun I' m' s' z1 z2 z3 => hq I' m' s' z1 (fun u => (z2 u).trans (Xs_cong hxu B u)) ((fr0.tr x5).tr z3))
      constructor
      · rintro (⟨j, z, _⟩ | z)
        · omega
        · exact z
      · exact Or.inr
    by_cases g : 1 < dg w v p
    · have hge := dg_ge (w := w) (v := v) (a := p) (by omega)
      have su : nI v - nI (w p) = nI (v - w p) := pk_sub hge
      simp only [E211_79, E211_81, E211_85, E211_86, E211_87, E211_88, E211_89, E211_92, E211_93, E211_96, E211_97, E211_98, E211_101, E211_102, E211_103, E211_104, rfs, rfn, cs0, csi, csl, csr, csn, kti, ktl, ktr, ktn, ktv, ktf, true_and, and_true, and_self, ↓reduceIte, Nat.reduceAdd, Nat.reduceSub, Nat.reduceMul, Nat.reduceLT, Nat.reduceLeDiff, Nat.reduceEqDiff, true_or, or_true, false_or, or_false, not_true_eq_false, not_false_eq_true, reduceCtorEq, cmp_lt, cmp_gt, cmp_eq, Int32.reduceAdd, Int32.reduceSub, Int32.reduceMul, Int32.reduceLT, Int32.reduceToNatClampNeg, eq_self, ne_eq, Int64.reduceAdd, Int64.reduceSub, Int64.reduceMul, Int64.reduceLT, pk54 hS, pk72 hS, pl72 hS, pa72 hS, pi72 hS, pr54_50 hR, n10, ip, cp, g, p3, p4, wp, su]
      refine go (v - w p) (by omega) (fun u => ⟨fun z => ⟨yh, Or.inr ⟨by omega, by omega⟩⟩, fun z => ?_⟩)
      rcases z.2 with ⟨z1, _⟩ | ⟨_, z1⟩ <;> omega
    · simp only [E211_79, E211_81, E211_85, E211_86, E211_87, E211_88, E211_89, E211_92, E211_93, E211_107, rfs, rfn, cs0, csi, csl, csr, csn, kti, ktl, ktr, ktn, ktv, ktf, true_and, and_true, and_self, ↓reduceIte, Nat.reduceAdd, Nat.reduceSub, Nat.reduceMul, Nat.reduceLT, Nat.reduceLeDiff, Nat.reduceEqDiff, true_or, or_true, false_or, or_false, not_true_eq_false, not_false_eq_true, reduceCtorEq, cmp_lt, cmp_gt, cmp_eq, Int32.reduceAdd, Int32.reduceSub, Int32.reduceMul, Int32.reduceLT, Int32.reduceToNatClampNeg, eq_self, ne_eq, Int64.reduceAdd, Int64.reduceSub, Int64.reduceMul, Int64.reduceLT, pk54 hS, n10, ip, cp, g]
      refine go v hv (fun u => ⟨fun z => ⟨yh, Or.inl ⟨by omega, z⟩⟩, fun z => ?_⟩)
      rcases z.2 with ⟨_, z1⟩ | ⟨z1, _⟩ <;> omega
end FS
