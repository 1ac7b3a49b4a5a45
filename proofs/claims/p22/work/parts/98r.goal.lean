/-! the reference: findPlan's goals and rows -/
def GlF (c : Nat) (nu : Int32) (B : Nat) (ow gl pc : Nat → Nat) (H t h : Nat) : Prop := ∀ u k, u < 59049 → ((gl u).testBit k = true ↔ (k = H ∧ u = t) ∨ (h ≤ k ∧ k < H ∧ (ow u).testBit k = true ∧ ∃ u', Rn (wt c) c nu B u (pc k) u' ∧ (gl u').testBit (k + 1) = true))
section GL
variable {d c B st h H t : Nat} {nu x1 x2 : Int32} {ow gl pc : Nat → Nat} {S : mS} {L : mL} {R : mR} {Q : mQ}
theorem gv_lp {p : Nat} (hS : Pm S) (hR : Pr R) (hc : c = 3 ∨ c = 4 ∨ c = 5) (hB : B < 2 ^ 24) (hh : h + 1 < 7) (hp : p < c) : ∀ (q v : Nat) (gl : Nat → Nat) (I : mI) (st : Nat) (y5 : Value), v + q = 59049 → st + q < 2 ^ 32 → PnS I c nu B st → BmP I 75 ow → BmP I 76 gl → I 79 h = nI p → (∀ J st' gl' y5, PnS J c nu B st' → st' ≤ st + q → BmP J 76 gl' → FrA 76 I J → (∀ u k, (gl' u).testBit k = true ↔ (gl u).testBit k = true ∨ (k = h ∧ v ≤ u ∧ u < 59049 ∧ (ow u).testBit h = true ∧ ∃ u', Rn (wt c) c nu B u p u' ∧ (gl u').testBit (h + 1) = true)) → Ev (d + 6) 218 187 [.ref 54, .int x1, .int x2, .int (nI h), .int (nI 59049), y5] [] S J L R Q) → Ev (d + 6) 218 120 [.ref 54, .int x1, .int x2, .int (nI h), .int (nI v), y5] [] S I L R Q := by
  have h3 : inb (nI h) 7 = True := inb_nI (by omega) (by decide)
  have h4 : (nI h).toNatClampNeg = h := nI_clamp (by omega)
  intro q
  induction q with
  | zero =>
    intro v gl I st y5 h1 h2 hP hO hG e79 hq
    obtain rfl : v = 59049 := by omega
    have e : (nI 59049 < (59049 : Int32)) = False := eq_false (by decide)
    rw [E218_120]
    simp only [E218_122, E218_124, e, rfs, rfn, cs0, csi, csl, csr, csn, kti, ktl, ktr, ktn, ktv, ktf, true_and, and_true, and_self, ↓reduceIte, Nat.reduceAdd, Nat.reduceSub, Nat.reduceMul, Nat.reduceLT, Nat.reduceLeDiff, Nat.reduceEqDiff, true_or, or_true, false_or, or_false, not_true_eq_false, not_false_eq_true, reduceCtorEq, cmp_lt, cmp_gt, cmp_eq, Int32.reduceAdd, Int32.reduceSub, Int32.reduceMul, Int32.reduceLT, Int32.reduceToNatClampNeg, eq_self, ne_eq, Int64.reduceAdd, Int64.reduceSub, Int64.reduceMul, Int64.reduceLT]
    refine hq I st gl _ hP (by omega) hG FrA.rf (fun u k => ⟨Or.inl, fun z => ?_⟩)
    rcases z with z | ⟨_, z1, z2, _⟩
    · exact z
    · omega
  | succ q ih =>
    intro v gl I st y5 h1 h2 hP hO hG e79 hq
    have e1 : (nI v < (59049 : Int32)) = True := eq_true (nI_lt (a := v) (b := 59049) (by omega) (by decide))
    have hv : v < 59049 := by omega
    have v3 : inb (nI v) 59049 = True := inb_nI hv (by decide)
    have v4 : (nI v).toNatClampNeg = v := nI_clamp (by omega)
    obtain ⟨t1, t2⟩ := hO v hv
    obtain ⟨r1, r2⟩ := hG v hv
    have bh := lb7 (ow v) t1 h (by omega)
    have key : ∀ (J2 : mI) (gl2 : Nat → Nat) (b' : Bool) st', (b' = true ↔ (ow v).testBit h = true ∧ ∃ u', Rn (wt c) c nu B v p u' ∧ (gl u').testBit (h + 1) = true) → st' ≤ st + 1 → PnS J2 c nu B st' → BmP J2 76 gl2 → FrA 76 I J2 → (∀ u k, (gl2 u).testBit k = true ↔ (gl u).testBit k = true ∨ (k = h ∧ u = v ∧ b' = true)) → Ev (d + 6) 218 120 [.ref 54, .int x1, .int x2, .int (nI h), .int (nI (v + 1)), y5] [] S J2 L R Q := by
      intro J2 gl2 b' st' k4' w0 w1 w2 F2 w4
      have same : ∀ u, (gl2 u).testBit (h + 1) = true ↔ (gl u).testBit (h + 1) = true := fun u => (w4 u (h + 1)).trans ⟨fun z => z.elim (fun z => z) (fun z => by omega), Or.inl⟩
      refine ih (v + 1) gl2 J2 st' y5 (by omega) (by omega) w1 (hO.cg (F2.1 75 (by decide) (by decide) (by decide) (by decide))) w2 (by rw [F2.1 79 (by decide) (by decide) (by decide) (by decide)]; exact e79) (fun J3 st3 gl3 y5 g1 g2 g3 g4 g5 => hq J3 st3 gl3 y5 g1 (by omega) g3 (F2.tr g4) (fun u k => (g5 u k).trans ?_))
      rw [w4 u k]
      constructor
      · rintro ((z | ⟨z1, z2, z3⟩) | ⟨z1, z2, z3, z4, u', z6, z7⟩)
        · exact Or.inl z
        · rw [z2]
          obtain ⟨m1, m2⟩ := k4'.mp z3
          exact Or.inr ⟨z1, Nat.le_refl v, hv, m1, m2⟩
        · exact Or.inr ⟨z1, by omega, z3, z4, u', z6, (same u').mp z7⟩
      · rintro (z | ⟨z1, z2, z3, z4, u', z6, z7⟩)
        · exact Or.inl (Or.inl z)
        · by_cases y : u = v
          · rw [y] at z4 z6
            exact Or.inl (Or.inr ⟨z1, y, k4'.mpr ⟨z4, u', z6, z7⟩⟩)
          · exact Or.inr ⟨z1, by omega, z3, z4, u', z6, (same u').mpr z7⟩
    have nokey : ∀ (J : mI) st', st' ≤ st + 1 → PnS J c nu B st' → Fr I J → (¬ ((ow v).testBit h = true ∧ ∃ u', Rn (wt c) c nu B v p u' ∧ (gl u').testBit (h + 1) = true)) → Ev (d + 6) 218 120 [.ref 54, .int x1, .int x2, .int (nI h), .int (nI (v + 1)), y5] [] S (put J 76 v (nI (gl v))) L R Q := fun J st' w0 w1 w2 w3 =>
      key _ gl false st' ⟨fun z => (by cases z), fun z => absurd z w3⟩ w0 (w1.cg (pt_n (by decide)) (pt_n (by decide)) (pt_n (by decide)) (pt_m (by decide))) ((hG.cg (w2.1 76 (by decide) (by decide) (by decide))).id hv) (FrA.p (w2.a) (by decide)) (fun u k => ⟨Or.inl, fun z => z.elim (fun z => z) (fun z => by cases z.2.2)⟩)
    have o0 := or7 (gl v) r1
    rw [E218_120]
    by_cases g : (ow v).testBit h = true
    · have bt := eq_true (bh.mpr g)
      simp only [E218_122, E218_124, E218_127, E218_128, E218_131, E218_133, E218_134, E218_135, E218_136, E218_139, E218_141, E218_142, E218_143, E218_144, E218_145, E218_146, E218_147, E218_150, E218_151, E218_153, E218_154, E218_157, E218_158, E218_159, E218_160, E218_163, E218_164, E218_165, E218_166, pk54 hS, pk75 hS, pl75 hS, pa75 hS, pi75 hS, pk76 hS, pl76 hS, pa76 hS, pi76 hS, pk79 hS, pl79 hS, pa79 hS, pi79 hS, pr54_53 hR, pr54_54 hR, pr54_61 hR, rfs, rfn, cs0, csi, csl, csr, csn, kti, ktl, ktr, ktn, ktv, ktf, true_and, and_true, and_self, ↓reduceIte, Nat.reduceAdd, Nat.reduceSub, Nat.reduceMul, Nat.reduceLT, Nat.reduceLeDiff, Nat.reduceEqDiff, true_or, or_true, false_or, or_false, not_true_eq_false, not_false_eq_true, reduceCtorEq, cmp_lt, cmp_gt, cmp_eq, Int32.reduceAdd, Int32.reduceSub, Int32.reduceMul, Int32.reduceLT, Int32.reduceToNatClampNeg, eq_self, ne_eq, Int64.reduceAdd, Int64.reduceSub, Int64.reduceMul, Int64.reduceLT, e1, v3, v4, t2, r2, bt, h3, h4, e79, nI_1]
      refine led (d := d) (a := 76) (k := h + 1) hS hR (pi76 hS) (pl76 hS) ⟨by decide, by decide, by decide⟩ hh hc hB (by omega) hP hp hv hG (fun J b2 k1 k2 k3 => ?_)
      cases b2
      · simp only [E218_169, E218_178, E218_179, E218_180, E218_181, E218_184, pk54 hS, pk76 hS, pl76 hS, pa76 hS, pi76 hS, rfs, rfn, cs0, csi, csl, csr, csn, kti, ktl, ktr, ktn, ktv, ktf, true_and, and_true, and_self, ↓reduceIte, Nat.reduceAdd, Nat.reduceSub, Nat.reduceMul, Nat.reduceLT, Nat.reduceLeDiff, Nat.reduceEqDiff, true_or, or_true, false_or, or_false, not_true_eq_false, not_false_eq_true, reduceCtorEq, cmp_lt, cmp_gt, cmp_eq, Int32.reduceAdd, Int32.reduceSub, Int32.reduceMul, Int32.reduceLT, Int32.reduceToNatClampNeg, eq_self, ne_eq, Int64.reduceAdd, Int64.reduceSub, Int64.reduceMul, Int64.reduceLT, v3, v4, bI_f, o0, pt, nI_1]
        exact nokey J (st + 1) (Nat.le_refl _) k1 k2 (fun z => absurd (k3.mpr z.2) (by decide))
      · have o1 := (lo7 (gl v) r1 h (by omega)).1
        simp only [E218_169, E218_172, E218_173, E218_174, E218_175, E218_178, E218_179, E218_180, E218_181, E218_184, pk54 hS, pk76 hS, pl76 hS, pa76 hS, pi76 hS, rfs, rfn, cs0, csi, csl, csr, csn, kti, ktl, ktr, ktn, ktv, ktf, true_and, and_true, and_self, ↓reduceIte, Nat.reduceAdd, Nat.reduceSub, Nat.reduceMul, Nat.reduceLT, Nat.reduceLeDiff, Nat.reduceEqDiff, true_or, or_true, false_or, or_false, not_true_eq_false, not_false_eq_true, reduceCtorEq, cmp_lt, cmp_gt, cmp_eq, Int32.reduceAdd, Int32.reduceSub, Int32.reduceMul, Int32.reduceLT, Int32.reduceToNatClampNeg, eq_self, ne_eq, Int64.reduceAdd, Int64.reduceSub, Int64.reduceMul, Int64.reduceLT, v3, v4, bI_t, n1_0, o1, pt, nI_1]
        exact key _ (va_up gl v (gl v ||| 2 ^ h)) true (st + 1) ⟨fun _ => ⟨g, k3.mp rfl⟩, fun _ => rfl⟩ (Nat.le_refl _) (k1.cg (pt_n (by decide)) (pt_n (by decide)) (pt_n (by decide)) (pt_m (by decide))) ((hG.cg (k2.1 76 (by decide) (by decide) (by decide))).up hv (by omega)) (FrA.p (k2.a) (by decide)) (fun u k => bup.trans ⟨fun z => z.elim Or.inl (fun z => Or.inr ⟨z.1, z.2, rfl⟩), fun z => z.elim Or.inl (fun z => Or.inr ⟨z.1, z.2.1⟩)⟩)
    · have bt := eq_false (fun z => g (bh.mp z))
      simp only [E218_122, E218_124, E218_127, E218_128, E218_131, E218_133, E218_134, E218_135, E218_136, E218_139, E218_141, E218_142, E218_143, E218_144, E218_145, E218_146, E218_147, E218_178, E218_179, E218_180, E218_181, E218_184, pk54 hS, pk75 hS, pl75 hS, pa75 hS, pi75 hS, pk76 hS, pl76 hS, pa76 hS, pi76 hS, pr54_53 hR, pr54_54 hR, rfs, rfn, cs0, csi, csl, csr, csn, kti, ktl, ktr, ktn, ktv, ktf, true_and, and_true, and_self, ↓reduceIte, Nat.reduceAdd, Nat.reduceSub, Nat.reduceMul, Nat.reduceLT, Nat.reduceLeDiff, Nat.reduceEqDiff, true_or, or_true, false_or, or_false, not_true_eq_false, not_false_eq_true, reduceCtorEq, cmp_lt, cmp_gt, cmp_eq, Int32.reduceAdd, Int32.reduceSub, Int32.reduceMul, Int32.reduceLT, Int32.reduceToNatClampNeg, eq_self, ne_eq, Int64.reduceAdd, Int64.reduceSub, Int64.reduceMul, Int64.reduceLT, e1, v3, v4, t2, r2, bt, o0, pt, nI_1]
      exact nokey I st (by omega) hP Fr.rf (fun z => g z.1)
theorem gh_lp (hS : Pm S) (hR : Pr R) (hc : c = 3 ∨ c = 4 ∨ c = 5) (hB : B < 2 ^ 24) (hH : H < 7) (hpc : ∀ k, k < H → pc k < c) : ∀ (h : Nat) (gl : Nat → Nat) (I : mI) (st : Nat) (y4 y5 : Value), h ≤ H → st + 59049 * h < 2 ^ 32 → PnS I c nu B st → BmP I 75 ow → BmP I 76 gl → (∀ k, k < H → I 79 k = nI (pc k)) → GlF c nu B ow gl pc H t h → (∀ J st' gl' y4 y5, PnS J c nu B st' → st' ≤ st + 59049 * h → BmP J 76 gl' → FrA 76 I J → GlF c nu B ow gl' pc H t 0 → Ev (d + 6) 218 193 [.ref 54, .int x1, .int x2, .int (nI 0 - 1), y4, y5] [] S J L R Q) → Ev (d + 6) 218 113 [.ref 54, .int x1, .int x2, .int (nI h - 1), y4, y5] [] S I L R Q := by
  intro h
  induction h with
  | zero =>
    intro gl I st y4 y5 h1 h2 hP hO hG e79 hF hq
    have e : (nI 0 - 1 < (0 : Int32)) = True := eq_true (by decide)
    rw [E218_113]
    simp only [E218_114, e, rfs, rfn, cs0, csi, csl, csr, csn, kti, ktl, ktr, ktn, ktv, ktf, true_and, and_true, and_self, ↓reduceIte, Nat.reduceAdd, Nat.reduceSub, Nat.reduceMul, Nat.reduceLT, Nat.reduceLeDiff, Nat.reduceEqDiff, true_or, or_true, false_or, or_false, not_true_eq_false, not_false_eq_true, reduceCtorEq, cmp_lt, cmp_gt, cmp_eq, Int32.reduceAdd, Int32.reduceSub, Int32.reduceMul, Int32.reduceLT, Int32.reduceToNatClampNeg, eq_self, ne_eq, Int64.reduceAdd, Int64.reduceSub, Int64.reduceMul, Int64.reduceLT]
    exact hq I st gl _ _ hP (by omega) hG FrA.rf hF
  | succ h ih =>
    intro gl I st y4 y5 h1 h2 hP hO hG e79 hF hq
    have e9 : 59049 * (h + 1) = 59049 * h + 59049 := Nat.mul_succ _ _
    rw [e9] at h2 hq
    have b5 : st + 59049 < 2 ^ 32 := Nat.lt_of_le_of_lt (by omega) h2
    have e : (nI h < (0 : Int32)) = False := eq_false (nI_pos (by omega))
    rw [E218_113]
    simp only [E218_114, E218_117, E218_118, nI_m1, e, rfs, rfn, cs0, csi, csl, csr, csn, kti, ktl, ktr, ktn, ktv, ktf, true_and, and_true, and_self, ↓reduceIte, Nat.reduceAdd, Nat.reduceSub, Nat.reduceMul, Nat.reduceLT, Nat.reduceLeDiff, Nat.reduceEqDiff, true_or, or_true, false_or, or_false, not_true_eq_false, not_false_eq_true, reduceCtorEq, cmp_lt, cmp_gt, cmp_eq, Int32.reduceAdd, Int32.reduceSub, Int32.reduceMul, Int32.reduceLT, Int32.reduceToNatClampNeg, eq_self, ne_eq, Int64.reduceAdd, Int64.reduceSub, Int64.reduceMul, Int64.reduceLT]
    refine gv_lp (d := d) (h := h) (ow := ow) (p := pc h) hS hR hc hB (by omega) (hpc h (by omega)) 59049 0 gl I st _ (Nat.zero_add _) b5 hP hO hG (e79 h (by omega)) (fun J st' gl' y5 k1 k2 k3 k4 k5 => ?_)
    simp only [E218_187, E218_190, nI_a1, rfs, rfn, cs0, csi, csl, csr, csn, kti, ktl, ktr, ktn, ktv, ktf, true_and, and_true, and_self, ↓reduceIte, Nat.reduceAdd, Nat.reduceSub, Nat.reduceMul, Nat.reduceLT, Nat.reduceLeDiff, Nat.reduceEqDiff, true_or, or_true, false_or, or_false, not_true_eq_false, not_false_eq_true, reduceCtorEq, cmp_lt, cmp_gt, cmp_eq, Int32.reduceAdd, Int32.reduceSub, Int32.reduceMul, Int32.reduceLT, Int32.reduceToNatClampNeg, eq_self, ne_eq, Int64.reduceAdd, Int64.reduceSub, Int64.reduceMul, Int64.reduceLT]
    have same : ∀ u k, h + 1 ≤ k → ((gl' u).testBit k = true ↔ (gl u).testBit k = true) := fun u k hk => (k5 u k).trans ⟨fun z => z.elim (fun z => z) (fun z => by omega), Or.inl⟩
    refine ih gl' J st' _ _ (by omega) (by omega) k1 (hO.cg (k4.1 75 (by decide) (by decide) (by decide) (by decide))) k3 (fun k hk => by rw [k4.1 79 (by decide) (by decide) (by decide) (by decide)]; exact e79 k hk) (fun u k hu => (k5 u k).trans ?_) (fun J2 st2 gl2 y4 y5 w1 w2 w3 w4 w5 => hq J2 st2 gl2 y4 y5 w1 (by omega) w3 (k4.tr w4) w5)
    rw [hF u k hu]
    constructor
    · rintro ((z | ⟨z1, z2, z3, u', z5, z6⟩) | ⟨z1, z2, z3, z4, u', z6, z7⟩)
      · exact Or.inl z
      · exact Or.inr ⟨by omega, z2, z3, u', z5, (same u' (k + 1) (by omega)).mpr z6⟩
      · subst z1
        exact Or.inr ⟨Nat.le_refl _, by omega, z4, u', z6, (same u' (k + 1) (Nat.le_refl _)).mpr z7⟩
    · rintro (z | ⟨z1, z2, z3, u', z5, z6⟩)
      · exact Or.inl (Or.inl z)
      · have z7 := (same u' (k + 1) (by omega)).mp z6
        by_cases y : k = h
        · subst y
          exact Or.inr ⟨rfl, Nat.zero_le u, hu, z3, u', z5, z7⟩
        · exact Or.inl (Or.inr ⟨by omega, z2, z3, u', z5, z7⟩)
/-- the first of the rows reached that is a goal -/
theorem gr_lp {m : Nat} {s : Nat → Nat} {I : mI} (hS : Pm S) (hR : Pr R) (hh : h + 1 < 7) (sp : Sp I 59049 st m s) (hG : BmP I 76 gl) (hq : ∀ x, ((x = -1 ∧ ∀ j, j < m → ¬ (gl (s j)).testBit (h + 1) = true) ∨ ∃ u, u < 59049 ∧ x = nI u ∧ (gl u).testBit (h + 1) = true) → Ev (d + 6) 218 308 [.ref 54, .int x1, .int x2, .int (nI h), .int x, .int (nI m)] [] S I L R Q) : ∀ (q i : Nat) (x : Int32), i + q = m → ((x = -1 ∧ ∀ j, j < i → ¬ (gl (s j)).testBit (h + 1) = true) ∨ ∃ u, u < 59049 ∧ x = nI u ∧ (gl u).testBit (h + 1) = true) → Ev (d + 6) 218 239 [.ref 54, .int x1, .int x2, .int (nI h), .int x, .int (nI i)] [] S I L R Q := by
  have hle := sp.le
  have i2 := sp.2.1
  intro q
  induction q with
  | zero =>
    intro i x h1 hx
    obtain rfl : i = m := by omega
    have e0 : (nI i < nI i) = False := eq_false (nI_nlt (Nat.le_refl i) (by omega))
    rw [E218_239]
    simp only [E218_241, E218_242, E218_245, pk54 hS, rfs, rfn, cs0, csi, csl, csr, csn, kti, ktl, ktr, ktn, ktv, ktf, true_and, and_true, and_self, ↓reduceIte, Nat.reduceAdd, Nat.reduceSub, Nat.reduceMul, Nat.reduceLT, Nat.reduceLeDiff, Nat.reduceEqDiff, true_or, or_true, false_or, or_false, not_true_eq_false, not_false_eq_true, reduceCtorEq, cmp_lt, cmp_gt, cmp_eq, Int32.reduceAdd, Int32.reduceSub, Int32.reduceMul, Int32.reduceLT, Int32.reduceToNatClampNeg, eq_self, ne_eq, Int64.reduceAdd, Int64.reduceSub, Int64.reduceMul, Int64.reduceLT, i2, e0]
    exact hq x hx
  | succ q ih =>
    intro i x h1 hx
    have e1 : (nI i < nI m) = True := eq_true (nI_lt (by omega) (by omega))
    have i3 : inb (nI i) 59049 = True := inb_nI (by omega) (by decide)
    have i4 : (nI i).toNatClampNeg = i := nI_clamp (by omega)
    obtain ⟨s1, s2⟩ := sp.2.2.1 i (by omega)
    have s3 : inb (nI (s i)) 59049 = True := inb_nI (by omega) (by decide)
    have s4 : (nI (s i)).toNatClampNeg = s i := nI_clamp (by omega)
    obtain ⟨r1, r2⟩ := hG (s i) s1
    have bh := lb7 (gl (s i)) r1 (h + 1) hh
    rw [E218_239]
    by_cases g : (gl (s i)).testBit (h + 1) = true
    · have bt := eq_true (bh.mpr g)
      rcases hx with ⟨rfl, _⟩ | ⟨u, u1, rfl, u2⟩
      · simp only [E218_241, E218_242, E218_245, E218_248, E218_249, E218_252, E218_253, E218_256, E218_258, E218_259, E218_260, E218_261, E218_262, E218_263, E218_264, E218_265, E218_266, E218_267, E218_270, E218_272, E218_273, E218_276, E218_277, E218_280, E218_282, E218_283, E218_285, E218_288, E218_289, E218_292, E218_294, E218_295, E218_298, E218_300, E218_302, E218_305, pk54 hS, pk76 hS, pl76 hS, pa76 hS, pi76 hS, pk78 hS, pl78 hS, pa78 hS, pi78 hS, pr54_54 hR, pr54_57 hR, rfs, rfn, cs0, csi, csl, csr, csn, kti, ktl, ktr, ktn, ktv, ktf, true_and, and_true, and_self, ↓reduceIte, Nat.reduceAdd, Nat.reduceSub, Nat.reduceMul, Nat.reduceLT, Nat.reduceLeDiff, Nat.reduceEqDiff, true_or, or_true, false_or, or_false, not_true_eq_false, not_false_eq_true, reduceCtorEq, cmp_lt, cmp_gt, cmp_eq, Int32.reduceAdd, Int32.reduceSub, Int32.reduceMul, Int32.reduceLT, Int32.reduceToNatClampNeg, eq_self, ne_eq, Int64.reduceAdd, Int64.reduceSub, Int64.reduceMul, Int64.reduceLT, i2, e1, i3, i4, s2, s3, s4, r2, bt, nI_1]
        exact ih (i + 1) _ (by omega) (Or.inr ⟨s i, s1, rfl, g⟩)
      · have un : (nI u = -1) = False := eq_false (fun z => nI_pos (n := u) (by omega) (by rw [z]; decide))
        by_cases lt : nI (s i) < nI u
        · simp only [E218_241, E218_242, E218_245, E218_248, E218_249, E218_252, E218_253, E218_256, E218_258, E218_259, E218_260, E218_261, E218_262, E218_263, E218_264, E218_265, E218_266, E218_267, E218_270, E218_272, E218_273, E218_276, E218_277, E218_280, E218_282, E218_283, E218_285, E218_288, E218_289, E218_292, E218_294, E218_295, E218_298, E218_300, E218_302, E218_305, pk54 hS, pk76 hS, pl76 hS, pa76 hS, pi76 hS, pk78 hS, pl78 hS, pa78 hS, pi78 hS, pr54_54 hR, pr54_57 hR, rfs, rfn, cs0, csi, csl, csr, csn, kti, ktl, ktr, ktn, ktv, ktf, true_and, and_true, and_self, ↓reduceIte, Nat.reduceAdd, Nat.reduceSub, Nat.reduceMul, Nat.reduceLT, Nat.reduceLeDiff, Nat.reduceEqDiff, true_or, or_true, false_or, or_false, not_true_eq_false, not_false_eq_true, reduceCtorEq, cmp_lt, cmp_gt, cmp_eq, Int32.reduceAdd, Int32.reduceSub, Int32.reduceMul, Int32.reduceLT, Int32.reduceToNatClampNeg, eq_self, ne_eq, Int64.reduceAdd, Int64.reduceSub, Int64.reduceMul, Int64.reduceLT, i2, e1, i3, i4, s2, s3, s4, r2, bt, un, lt, nI_1]
          exact ih (i + 1) _ (by omega) (Or.inr ⟨s i, s1, rfl, g⟩)
        · simp only [E218_241, E218_242, E218_245, E218_248, E218_249, E218_252, E218_253, E218_256, E218_258, E218_259, E218_260, E218_261, E218_262, E218_263, E218_264, E218_265, E218_266, E218_267, E218_270, E218_272, E218_273, E218_276, E218_277, E218_280, E218_282, E218_283, E218_285, E218_288, E218_289, E218_292, E218_294, E218_295, E218_298, E218_300, E218_302, E218_305, pk54 hS, pk76 hS, pl76 hS, pa76 hS, pi76 hS, pk78 hS, pl78 hS, pa78 hS, pi78 hS, pr54_54 hR, pr54_57 hR, rfs, rfn, cs0, csi, csl, csr, csn, kti, ktl, ktr, ktn, ktv, ktf, true_and, and_true, and_self, ↓reduceIte, Nat.reduceAdd, Nat.reduceSub, Nat.reduceMul, Nat.reduceLT, Nat.reduceLeDiff, Nat.reduceEqDiff, true_or, or_true, false_or, or_false, not_true_eq_false, not_false_eq_true, reduceCtorEq, cmp_lt, cmp_gt, cmp_eq, Int32.reduceAdd, Int32.reduceSub, Int32.reduceMul, Int32.reduceLT, Int32.reduceToNatClampNeg, eq_self, ne_eq, Int64.reduceAdd, Int64.reduceSub, Int64.reduceMul, Int64.reduceLT, i2, e1, i3, i4, s2, s3, s4, r2, bt, un, lt, nI_1]
          exact ih (i + 1) _ (by omega) (Or.inr ⟨u, u1, rfl, u2⟩)
    · have bt := eq_false (fun z => g (bh.mp z))
      simp only [E218_241, E218_242, E218_245, E218_248, E218_249, E218_252, E218_253, E218_256, E218_258, E218_259, E218_260, E218_261, E218_262, E218_263, E218_264, E218_265, E218_266, E218_267, E218_270, E218_272, E218_273, E218_276, E218_277, E218_280, E218_282, E218_283, E218_285, E218_288, E218_289, E218_292, E218_294, E218_295, E218_298, E218_300, E218_302, E218_305, pk54 hS, pk76 hS, pl76 hS, pa76 hS, pi76 hS, pk78 hS, pl78 hS, pa78 hS, pi78 hS, pr54_54 hR, pr54_57 hR, rfs, rfn, cs0, csi, csl, csr, csn, kti, ktl, ktr, ktn, ktv, ktf, true_and, and_true, and_self, ↓reduceIte, Nat.reduceAdd, Nat.reduceSub, Nat.reduceMul, Nat.reduceLT, Nat.reduceLeDiff, Nat.reduceEqDiff, true_or, or_true, false_or, or_false, not_true_eq_false, not_false_eq_true, reduceCtorEq, cmp_lt, cmp_gt, cmp_eq, Int32.reduceAdd, Int32.reduceSub, Int32.reduceMul, Int32.reduceLT, Int32.reduceToNatClampNeg, eq_self, ne_eq, Int64.reduceAdd, Int64.reduceSub, Int64.reduceMul, Int64.reduceLT, i2, e1, i3, i4, s2, s3, s4, r2, bt, nI_1]
      refine ih (i + 1) x (by omega) (hx.elim (fun z => Or.inl ⟨z.1, fun j hj => ?_⟩) Or.inr)
      by_cases y : j = i
      · rw [y]; exact g
      · exact z.2 j (by omega)
theorem gs_lp (hS : Pm S) (hR : Pr R) (hc : c = 3 ∨ c = 4 ∨ c = 5) (hB : B < 2 ^ 24) (hH : H < 7) (hpc : ∀ k, k < H → pc k < c) (hF : GlF c nu B ow gl pc H t 0) : ∀ (q h : Nat) (I : mI) (st u : Nat) (y4 y5 : Value), h + q = H → st + q < 2 ^ 32 → PnS I c nu B st → I 54 60 = nI H → BmP I 76 gl → (∀ k, k < H → I 79 k = nI (pc k)) → u < 59049 → I 80 h = nI u → (gl u).testBit h = true → (∀ J st', PnS J c nu B st' → st' ≤ st + q → FrA 80 I J → Q .null S J L R) → Ev (d + 6) 218 202 [.ref 54, .int x1, .int x2, .int (nI h), y4, y5] [] S I L R Q := by
  have z10 : inb 10 8060 = True := inb_nI (j := 10) (by decide) (by decide)
  have c10 : Int32.toNatClampNeg 10 = 10 := rfl
  intro q
  induction q with
  | zero =>
    intro h I st u y4 y5 h1 h2 hP e60 hG e79 hu e80 hg hq
    obtain rfl : h = H := by omega
    have e0 : (nI h < nI h) = False := eq_false (nI_nlt (Nat.le_refl h) (by omega))
    rw [E218_202]
    simp only [E218_203, E218_204, E218_207, E218_324, pk54 hS, rfs, rfn, cs0, csi, csl, csr, csn, kti, ktl, ktr, ktn, ktv, ktf, true_and, and_true, and_self, ↓reduceIte, Nat.reduceAdd, Nat.reduceSub, Nat.reduceMul, Nat.reduceLT, Nat.reduceLeDiff, Nat.reduceEqDiff, true_or, or_true, false_or, or_false, not_true_eq_false, not_false_eq_true, reduceCtorEq, cmp_lt, cmp_gt, cmp_eq, Int32.reduceAdd, Int32.reduceSub, Int32.reduceMul, Int32.reduceLT, Int32.reduceToNatClampNeg, eq_self, ne_eq, Int64.reduceAdd, Int64.reduceSub, Int64.reduceMul, Int64.reduceLT, e60, e0]
    exact hq I st hP (by omega) FrA.rf
  | succ q ih =>
    intro h I st u y4 y5 h1 h2 hP e60 hG e79 hu e80 hg hq
    have e1 : (nI h < nI H) = True := eq_true (nI_lt (by omega) (by omega))
    have h3 : inb (nI h) 7 = True := inb_nI (by omega) (by decide)
    have h4 : (nI h).toNatClampNeg = h := nI_clamp (by omega)
    have k3 : inb (nI (h + 1)) 7 = True := inb_nI (by omega) (by decide)
    have k4 : (nI (h + 1)).toNatClampNeg = h + 1 := nI_clamp (by omega)
    have i10 := hP.2.1
    have p79 := e79 h (by omega)
    rw [E218_202]
    simp only [E218_203, E218_204, E218_207, E218_210, E218_211, E218_212, E218_215, E218_216, E218_217, E218_218, E218_221, E218_222, E218_223, E218_224, E218_227, E218_229, E218_230, pk54 hS, pk56 hS, pl56 hS, pa56 hS, pi56 hS, pk79 hS, pl79 hS, pa79 hS, pi79 hS, pk80 hS, pl80 hS, pa80 hS, pi80 hS, pr54_3 hR, pr54_61 hR, pr54_62 hR, rfs, rfn, cs0, csi, csl, csr, csn, kti, ktl, ktr, ktn, ktv, ktf, true_and, and_true, and_self, ↓reduceIte, Nat.reduceAdd, Nat.reduceSub, Nat.reduceMul, Nat.reduceLT, Nat.reduceLeDiff, Nat.reduceEqDiff, true_or, or_true, false_or, or_false, not_true_eq_false, not_false_eq_true, reduceCtorEq, cmp_lt, cmp_gt, cmp_eq, Int32.reduceAdd, Int32.reduceSub, Int32.reduceMul, Int32.reduceLT, Int32.reduceToNatClampNeg, eq_self, ne_eq, Int64.reduceAdd, Int64.reduceSub, Int64.reduceMul, Int64.reduceLT, e60, e1, h3, h4, e80, p79, z10, c10, i10]
    refine fsA (d := d + 1) (nu := nu) (w := wt c) (c := c) (N := 59049) (st := st) hS hR (Nat.le_refl _) (by omega) hP.1 hP.2.2 (wtO hc) (by omega) (hpc h (by omega)) hu (mvN hc _ (hpc h (by omega))) hB (fun J m s x1 x2 x3 => ?_)
    have hPJ : PnS J c nu B (st + 1) := hP.fr x3 ⟨x1.1, x1.2.2.2.2.2⟩
    simp only [E218_233, E218_234, E218_236, E218_237, rfs, rfn, cs0, csi, csl, csr, csn, kti, ktl, ktr, ktn, ktv, ktf, true_and, and_true, and_self, ↓reduceIte, Nat.reduceAdd, Nat.reduceSub, Nat.reduceMul, Nat.reduceLT, Nat.reduceLeDiff, Nat.reduceEqDiff, true_or, or_true, false_or, or_false, not_true_eq_false, not_false_eq_true, reduceCtorEq, cmp_lt, cmp_gt, cmp_eq, Int32.reduceAdd, Int32.reduceSub, Int32.reduceMul, Int32.reduceLT, Int32.reduceToNatClampNeg, eq_self, ne_eq, Int64.reduceAdd, Int64.reduceSub, Int64.reduceMul, Int64.reduceLT]
    refine gr_lp (d := d) (h := h) (gl := gl) hS hR (by omega) x1 (hG.cg (x3.1 76 (by decide) (by decide) (by decide))) (fun x hx => ?_) m 0 (-1) (by omega) (Or.inl ⟨rfl, fun j hj => absurd hj (by omega)⟩)
    have hx' : ∃ u, u < 59049 ∧ x = nI u ∧ (gl u).testBit (h + 1) = true := by
      rcases hx with ⟨_, hx⟩ | hx
      · exfalso
        rcases (hF u h hu).mp hg with ⟨z, _⟩ | ⟨_, _, _, u', z1, z2⟩
        · omega
        · obtain ⟨j, j1, j2⟩ := (x2 u').mpr z1
          exact hx j j1 (by rw [j2]; exact z2)
      · exact hx
    obtain ⟨u2, w1, rfl, w2⟩ := hx'
    simp only [E218_308, E218_309, E218_312, E218_313, E218_314, E218_315, E218_317, E218_318, E218_321, pk54 hS, pk80 hS, pl80 hS, pa80 hS, pi80 hS, pr54_62 hR, rfs, rfn, cs0, csi, csl, csr, csn, kti, ktl, ktr, ktn, ktv, ktf, true_and, and_true, and_self, ↓reduceIte, Nat.reduceAdd, Nat.reduceSub, Nat.reduceMul, Nat.reduceLT, Nat.reduceLeDiff, Nat.reduceEqDiff, true_or, or_true, false_or, or_false, not_true_eq_false, not_false_eq_true, reduceCtorEq, cmp_lt, cmp_gt, cmp_eq, Int32.reduceAdd, Int32.reduceSub, Int32.reduceMul, Int32.reduceLT, Int32.reduceToNatClampNeg, eq_self, ne_eq, Int64.reduceAdd, Int64.reduceSub, Int64.reduceMul, Int64.reduceLT, nI_1, k3, k4, pt]
    have F2 : FrA 80 I (put J 80 (h + 1) (nI u2)) := FrA.p x3.a (by decide)
    refine ih (h + 1) _ (st + 1) u2 _ _ (by omega) (by omega) (hPJ.cg (pt_n (by decide)) (pt_n (by decide)) (pt_n (by decide)) (pt_m (by decide))) (by rw [F2.2 60 (by decide) (by decide)]; exact e60) (hG.cg (F2.1 76 (by decide) (by decide) (by decide) (by decide))) (fun k hk => by rw [F2.1 79 (by decide) (by decide) (by decide) (by decide)]; exact e79 k hk) w1 pt_s w2 (fun J2 st2 g1 g2 g3 => hq J2 st2 g1 (by omega) (F2.tr g3))
end GL
