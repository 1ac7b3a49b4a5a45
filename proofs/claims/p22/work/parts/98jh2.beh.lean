/-! group B: behindSum, behindTest, exactly -/
section RQ
variable {d n m i a nP o q nc : Nat} {X : mI} {Y T P : Nat → Int32} {p : Nat → Nat} {ρ : List Int32} {κ : List (Int32 × Int32)} {S : mS} {I : mI} {L : mL} {R : mR} {Q : mQ}
theorem stE {least : Int32} (hS : Pm S) (hR : Pr R) (h : RbS X Y T P n m p a I L i ρ nP o κ) (e19 : I 54 19 = nI q) (eq : ρ = pil (I 62) q) (e15 : I 54 15 = nI nc) (hqn : nc + q ≤ 400) (ha : a ≤ nc) (hl : 0 < least) (hq : ∀ J q' nc', J 54 19 = nI q' → rSR least ρ = pil (J 62) q' → J 54 15 = nI nc' → nc' + q' = nc + q → a ≤ nc' → (nc + q ≤ i → RbS X Y T P n m p a J L i (rSR least ρ) nP o (κ ++ rZp (rSP least ρ))) → Fx I J a → Q .null S J L R) : EvM (d + 2) 169 [.ref 54, .int least] S I L R Q := by
  obtain ⟨hT, e13, e14, e20, _, hm, hn, ho, e12, hcd⟩ := h
  have k1 := set_ (d := d) (a := a) (v := False) (L := L) (Q := fun v S' J L' R' => v = Value.null ∧ S' = S ∧ L' = L ∧ R' = R ∧ ∃ p' nc', p' ≤ q ∧ nc' + p' = nc + q ∧ nc ≤ nc' ∧ J 54 15 = nI nc' ∧ J 54 19 = nI p' ∧ J 62 = I 62 ∧ (∀ i, p' ≤ i → i < q → ¬ bnF (I 62 i) < least) ∧ (p' = 0 ∨ bnF (I 62 (p' - 1)) < least) ∧ Fs I J nc) hS hR hl e15 e19 hqn ha (fun z => z.elim) (fun J p' nc' k1 k2 k3 k4 k5 k6 k7 k8 _ k10 => ⟨rfl, rfl, rfl, rfl, p', nc', k1, k2, k3, k4, k5, k6, k7, k8, k10⟩)
  have en := hcd.nc e15 (by omega)
  have k2 := setC (d := d) (q := q) (least := least) (L := L) (Q := fun _ _ J _ _ => Cde J (κ ++ rZp (rSP least (pil (I 62) q)))) hS hR hcd (by omega) e19 (fun J k => k)
  refine evm_mono (evm_and k1 k2) (fun v S' J L' R' k => ?_)
  obtain ⟨⟨rfl, rfl, rfl, rfl, p', nc', k1, k2, k3, k4, k5, k6, k7, k8, k10⟩, kc⟩ := k
  have ep : rSR least ρ = pil (J 62) p' := by
    rw [k6, eq]
    exact pil_sR q k1 k7 k8
  rw [← eq] at kc
  exact hq J p' nc' k5 ep k4 k2 (by omega) (fun hi => ⟨hT.cg (k10.1 59 (by decide) (by decide) (by decide)) (fun k h1 h2 => k10.2.1 k (by omega) (by omega)), (k10.2.1 13 (by decide) (by decide)).trans e13, (k10.2.1 14 (by decide) (by decide)).trans e14, (k10.2.1 20 (by decide) (by decide)).trans e20, ⟨p', nc', k5, ep, k4, by omega, by omega⟩, hm, hn, ho, (k10.2.1 12 (by decide) (by decide)).trans e12, kc⟩) (k10.x ha)
/-- push, then next -/
theorem psE {op : Int32} (hS : Pm S) (hR : Pr R) (hK : Tks X Y T P n m p) (h : RbS X Y T P n m p a I L i ρ nP o κ) (e19 : I 54 19 = nI q) (eq : ρ = pil (I 62) q) (e15 : I 54 15 = nI nc) (hqn : nc + q ≤ i) (ha : a ≤ nc) (hi : i < m) (hq : ∀ J L', RbS X Y T P n m p a J L' (i + 1) (op :: ρ) nP o κ → Fx I J a → Q .null S J L' R) : EvM (d + 2) 159 [.ref 54] S (put (put I 62 q op) 54 19 (nI (q + 1))) L R Q := by
  obtain ⟨hT, e13, e14, e20, _, hm, hn, ho, e12, hcd⟩ := id h
  refine nxT_E hS hR hK hi (hT.cg ?_ (fun k q1 q2 => by rw [pt_f (by omega), pt_m (by decide)])) (fun J L' k1 k2 => ?_)
  · rw [pt_n (by decide), pt_n (by decide)]
  refine hq J L' (h.ps (q := q) (nc := nc) (P62 := I 62) k1 ?_ ?_ ?_ ho ?_ ?_ ?_ eq ?_ (by omega) ha hi ?_) (Fx.tr (Fx.p (Fx.q Fx.rf (by decide)) (by decide)) k2.m.x)
  · rw [k2.2 13 (by decide), pt_f (by decide), pt_m (by decide)]; exact e13
  · rw [k2.2 14 (by decide), pt_f (by decide), pt_m (by decide)]; exact e14
  · rw [k2.2 20 (by decide), pt_f (by decide), pt_m (by decide)]; exact e20
  · rw [k2.2 12 (by decide), pt_f (by decide), pt_m (by decide)]; exact e12
  · rw [k2.2 19 (by decide), pt_s]
  · rw [k2.1 62 (by decide), pt_n (by decide), pt_c]
  · rw [k2.2 15 (by decide), pt_f (by decide), pt_m (by decide)]; exact e15
  · refine hcd.cg ?_ ?_ ?_
    · rw [k2.2 15 (by decide), pt_f (by decide), pt_m (by decide)]
    · rw [k2.1 60 (by decide), pt_n (by decide), pt_n (by decide)]
    · rw [k2.1 61 (by decide), pt_n (by decide), pt_n (by decide)]
theorem icE_lp (hS : Pm S) (hR : Pr R) {k0 : Nat} (hp : k0 ≤ 400) : ∀ k, k ≤ k0 → (Q (.int (bI (rCq (pil (I 62) k)))) S I L R) → Ev (d + 2) 171 7 [.ref 54, .int (nI k - 1)] [] S I L R Q := by
  intro k
  induction k with
  | zero =>
    intro _ hq
    have e1 : (nI 0 - 1 < (0 : Int32)) = True := eq_true (by decide)
    simp only [E171_7, E171_8, E171_36, E171_37, E171_63, E171_64, rfs, rfn, cs0, csi, csl, csr, csn, kti, ktl, ktr, ktn, ktv, ktf, true_and, and_true, and_self, ↓reduceIte, Nat.reduceAdd, Nat.reduceSub, Nat.reduceMul, Nat.reduceLT, Nat.reduceLeDiff, Nat.reduceEqDiff, true_or, or_true, false_or, or_false, not_true_eq_false, not_false_eq_true, reduceCtorEq, cmp_lt, cmp_gt, cmp_eq, Int32.reduceAdd, Int32.reduceSub, Int32.reduceMul, Int32.reduceLT, Int32.reduceToNatClampNeg, eq_self, ne_eq, Int64.reduceAdd, Int64.reduceSub, Int64.reduceMul, Int64.reduceLT, e1]
    exact hq
  | succ k ih =>
    intro hk hq
    have e1 : (nI k < (0 : Int32)) = False := eq_false (nI_pos (by omega))
    have a0 : inb (nI k) 400 = True := inb_nI (by omega) (by decide)
    have b0 : (nI k).toNatClampNeg = k := nI_clamp (by omega)
    have ec : rCq (pil (I 62) (k + 1)) = if I 62 k = 20 ∨ I 62 k = 21 then rCq (pil (I 62) k) else decide (I 62 k = 24 ∨ I 62 k = 25 ∨ I 62 k = 26) := rfl
    rw [ec] at hq
    cases g : inB (I 62 k).toInt64 20 21
    · rw [if_neg (fun z => by rw [in20.mpr z] at g; cases g)] at hq
      cases g2 : inB (I 62 k).toInt64 24 26
      · rw [decide_eq_false (fun z => by rw [in24.mpr z] at g2; cases g2)] at hq
        simp only [E171_7, E171_8, E171_11, E171_12, E171_15, E171_16, E171_17, E171_18, E171_21, E171_24, E171_27, E171_36, E171_37, E171_40, E171_41, E171_44, E171_45, E171_46, E171_47, E171_50, E171_53, E171_56, E171_59, E171_60, E171_63, E171_64, inn, pk54 hS, pk62 hS, pl62 hS, pa62 hS, pi62 hS, pr54_18 hR, rfs, rfn, cs0, csi, csl, csr, csn, kti, ktl, ktr, ktn, ktv, ktf, true_and, and_true, and_self, ↓reduceIte, Nat.reduceAdd, Nat.reduceSub, Nat.reduceMul, Nat.reduceLT, Nat.reduceLeDiff, Nat.reduceEqDiff, true_or, or_true, false_or, or_false, not_true_eq_false, not_false_eq_true, reduceCtorEq, cmp_lt, cmp_gt, cmp_eq, Int32.reduceAdd, Int32.reduceSub, Int32.reduceMul, Int32.reduceLT, Int32.reduceToNatClampNeg, eq_self, ne_eq, Int64.reduceAdd, Int64.reduceSub, Int64.reduceMul, Int64.reduceLT, nI_m1, e1, a0, b0, g, g2, bI_f]
        exact hq
      · rw [decide_eq_true (in24.mp g2)] at hq
        simp only [E171_7, E171_8, E171_11, E171_12, E171_15, E171_16, E171_17, E171_18, E171_21, E171_24, E171_27, E171_36, E171_37, E171_40, E171_41, E171_44, E171_45, E171_46, E171_47, E171_50, E171_53, E171_56, E171_59, E171_60, E171_63, E171_64, inn, pk54 hS, pk62 hS, pl62 hS, pa62 hS, pi62 hS, pr54_18 hR, rfs, rfn, cs0, csi, csl, csr, csn, kti, ktl, ktr, ktn, ktv, ktf, true_and, and_true, and_self, ↓reduceIte, Nat.reduceAdd, Nat.reduceSub, Nat.reduceMul, Nat.reduceLT, Nat.reduceLeDiff, Nat.reduceEqDiff, true_or, or_true, false_or, or_false, not_true_eq_false, not_false_eq_true, reduceCtorEq, cmp_lt, cmp_gt, cmp_eq, Int32.reduceAdd, Int32.reduceSub, Int32.reduceMul, Int32.reduceLT, Int32.reduceToNatClampNeg, eq_self, ne_eq, Int64.reduceAdd, Int64.reduceSub, Int64.reduceMul, Int64.reduceLT, nI_m1, e1, a0, b0, g, g2, bI_f, bI_t, n1_0]
        exact hq
    · rw [if_pos (in20.mp g)] at hq
      rw [E171_7]
      simp only [E171_8, E171_11, E171_12, E171_15, E171_16, E171_17, E171_18, E171_21, E171_24, E171_27, E171_30, E171_33, inn, pk54 hS, pk62 hS, pl62 hS, pa62 hS, pi62 hS, pr54_18 hR, rfs, rfn, cs0, csi, csl, csr, csn, kti, ktl, ktr, ktn, ktv, ktf, true_and, and_true, and_self, ↓reduceIte, Nat.reduceAdd, Nat.reduceSub, Nat.reduceMul, Nat.reduceLT, Nat.reduceLeDiff, Nat.reduceEqDiff, true_or, or_true, false_or, or_false, not_true_eq_false, not_false_eq_true, reduceCtorEq, cmp_lt, cmp_gt, cmp_eq, Int32.reduceAdd, Int32.reduceSub, Int32.reduceMul, Int32.reduceLT, Int32.reduceToNatClampNeg, eq_self, ne_eq, Int64.reduceAdd, Int64.reduceSub, Int64.reduceMul, Int64.reduceLT, nI_m1, nI_a1, e1, a0, b0, g, bI_t, n1_0]
      exact ih (by omega) hq
theorem icE (hS : Pm S) (hR : Pr R) (hp : q ≤ 400) (e19 : I 54 19 = nI q) (hq : Q (.int (bI (rCq (pil (I 62) q)))) S I L R) : EvM (d + 2) 171 [.ref 54] S I L R Q := by
  simp only [M171, E171_0, E171_1, E171_4, E171_5, E171_6, pk54 hS, rfs, rfn, cs0, csi, csl, csr, csn, kti, ktl, ktr, ktn, ktv, ktf, true_and, and_true, and_self, ↓reduceIte, Nat.reduceAdd, Nat.reduceSub, Nat.reduceMul, Nat.reduceLT, Nat.reduceLeDiff, Nat.reduceEqDiff, true_or, or_true, false_or, or_false, not_true_eq_false, not_false_eq_true, reduceCtorEq, cmp_lt, cmp_gt, cmp_eq, Int32.reduceAdd, Int32.reduceSub, Int32.reduceMul, Int32.reduceLT, Int32.reduceToNatClampNeg, eq_self, ne_eq, Int64.reduceAdd, Int64.reduceSub, Int64.reduceMul, Int64.reduceLT, e19]
  exact icE_lp (d := d) hS hR hp q (Nat.le_refl q) hq
/-- the pile's top goes, a bracket is shut -/
theorem RbS.po {J : mI} {q3 nc2 : Nat} {r : List Int32} (hT : RTi X Y T P n m p J L i) (e13 : J 54 13 = 0) (e14 : J 54 14 = nI nP) (e20 : J 54 20 = nI (o + 1)) (e12 : J 54 12 = -1) (er : r = pil (J 62) q3) (e15 : J 54 15 = nI nc2) (hl : nc2 + q3 ≤ i) (ha : a ≤ nc2) (hm : i ≤ m) (hn : nP ≤ 60) (ho : o + 1 ≤ 8) (jcd : Cde J κ) : RbS X Y T P n m p a (put (put J 54 19 (nI q3)) 54 20 (J 54 20 - 1)) L i r nP o κ := by
  refine ⟨hT.cg ?_ (fun k h1 h2 => by rw [pt_f (by omega), pt_f (by omega)]), ?_, ?_, ?_, ⟨q3, nc2, ?_, ?_, ?_, hl, ha⟩, hm, hn, by omega, ?_, jcd.cg (by rw [pt_f (by decide), pt_f (by decide)]) (by rw [pt_n (by decide), pt_n (by decide)]) (by rw [pt_n (by decide), pt_n (by decide)])⟩
  · rw [pt_n (by decide), pt_n (by decide)]
  · rw [pt_f (by decide), pt_f (by decide)]; exact e13
  · rw [pt_f (by decide), pt_f (by decide)]; exact e14
  · rw [pt_s, e20, nI_m1]
  · rw [pt_f (by decide), pt_s]
  · rw [pt_n (by decide), pt_n (by decide)]; exact er
  · rw [pt_f (by decide), pt_f (by decide)]; exact e15
  · rw [pt_f (by decide), pt_f (by decide)]; exact e12
theorem pil_c {F : Nat → Int32} {k : Nat} {x : Int32} {r : List Int32} (h : x :: r = pil F k) : ∃ k', k = k' + 1 ∧ F k' = x ∧ r = pil F k' := by
  cases k with
  | zero => cases h
  | succ k =>
    have e : x :: r = F k :: pil F k := h
    rw [List.cons.injEq] at e
    exact ⟨k, rfl, e.1.symm, e.2⟩
theorem bsC1 {tst : Bool} (hS : Pm S) (hR : Pr R) (hK : Tks X Y T P n m p) (h : RbS X Y T P n m p a I L i ρ nP o κ) (hpl : rPl (T i)) (hq : ∀ J L', RbS X Y T P n m p a J L' (i + 1) ((if T i = -143 then (20 : Int32) else 21) :: rSR 5 ρ) nP o (κ ++ rZp (rSP 5 ρ)) → Fx I J a → Q (.int (nI 1)) S J L' R) : EvM (d + 6) 176 [.ref 54, .int (bI tst)] S I L R Q := by
  obtain ⟨hT, e13, e14, e20, ⟨q, nc, e19, eq, e15, hqn, ha⟩, hm, hn, ho, e12, hcd⟩ := id h
  have m4 := hK.1
  have m5 := hK.2.1
  have hi : i < m := h.lt hK (by rcases hpl with z | z <;> (rw [z]; decide))
  have plus : ∀ y2 y3, Ev (d + 6) 176 18 [.ref 54, .int (bI tst), y2, y3] [] S I L R Q := by
    intro y2 y3
    simp only [E176_18, E176_19, E176_20, pk54 hS, rfs, rfn, cs0, csi, csl, csr, csn, kti, ktl, ktr, ktn, ktv, ktf, true_and, and_true, and_self, ↓reduceIte, Nat.reduceAdd, Nat.reduceSub, Nat.reduceMul, Nat.reduceLT, Nat.reduceLeDiff, Nat.reduceEqDiff, true_or, or_true, false_or, or_false, not_true_eq_false, not_false_eq_true, reduceCtorEq, cmp_lt, cmp_gt, cmp_eq, Int32.reduceAdd, Int32.reduceSub, Int32.reduceMul, Int32.reduceLT, Int32.reduceToNatClampNeg, eq_self, ne_eq, Int64.reduceAdd, Int64.reduceSub, Int64.reduceMul, Int64.reduceLT]
    refine stE hS hR h e19 eq e15 (by omega) ha (by decide) (fun J q' nc' k1 k2 k3 k4 k5 k6 F => ?_)
    have j := k6 hqn
    have g4 := j.1.sg (x := 43) (c := 43) (by decide) rfl
    by_cases z : T i = -143
    · rw [decide_eq_true (show T i = -100 - 43 by rw [z]; decide)] at g4
      simp only [E176_20, E176_23, E176_24, E176_25, E176_27, E176_30, E176_33, E176_35, E176_38, E176_40, E176_43, E176_44, isg hS, psh_m hS hR k1 (show q' < 400 by omega), pk54 hS, rfs, rfn, cs0, csi, csl, csr, csn, kti, ktl, ktr, ktn, ktv, ktf, true_and, and_true, and_self, ↓reduceIte, Nat.reduceAdd, Nat.reduceSub, Nat.reduceMul, Nat.reduceLT, Nat.reduceLeDiff, Nat.reduceEqDiff, true_or, or_true, false_or, or_false, not_true_eq_false, not_false_eq_true, reduceCtorEq, cmp_lt, cmp_gt, cmp_eq, Int32.reduceAdd, Int32.reduceSub, Int32.reduceMul, Int32.reduceLT, Int32.reduceToNatClampNeg, eq_self, ne_eq, Int64.reduceAdd, Int64.reduceSub, Int64.reduceMul, Int64.reduceLT, g4, bI_t, n1_0]
      refine psE (d := d + 3) (op := 20) hS hR hK j k1 k2 k3 (by omega) k5 hi (fun J2 L2 w1 w2 => ?_)
      simp only [E176_44, E176_47, E176_48, rfs, rfn, cs0, csi, csl, csr, csn, kti, ktl, ktr, ktn, ktv, ktf, true_and, and_true, and_self, ↓reduceIte, Nat.reduceAdd, Nat.reduceSub, Nat.reduceMul, Nat.reduceLT, Nat.reduceLeDiff, Nat.reduceEqDiff, true_or, or_true, false_or, or_false, not_true_eq_false, not_false_eq_true, reduceCtorEq, cmp_lt, cmp_gt, cmp_eq, Int32.reduceAdd, Int32.reduceSub, Int32.reduceMul, Int32.reduceLT, Int32.reduceToNatClampNeg, eq_self, ne_eq, Int64.reduceAdd, Int64.reduceSub, Int64.reduceMul, Int64.reduceLT]
      exact hq J2 L2 (by rw [if_pos z]; exact w1) (F.tr w2)
    · rw [decide_eq_false (fun y => z (y.trans (by decide)))] at g4
      simp only [E176_20, E176_23, E176_24, E176_25, E176_27, E176_30, E176_33, E176_35, E176_38, E176_40, E176_43, E176_44, isg hS, psh_m hS hR k1 (show q' < 400 by omega), pk54 hS, rfs, rfn, cs0, csi, csl, csr, csn, kti, ktl, ktr, ktn, ktv, ktf, true_and, and_true, and_self, ↓reduceIte, Nat.reduceAdd, Nat.reduceSub, Nat.reduceMul, Nat.reduceLT, Nat.reduceLeDiff, Nat.reduceEqDiff, true_or, or_true, false_or, or_false, not_true_eq_false, not_false_eq_true, reduceCtorEq, cmp_lt, cmp_gt, cmp_eq, Int32.reduceAdd, Int32.reduceSub, Int32.reduceMul, Int32.reduceLT, Int32.reduceToNatClampNeg, eq_self, ne_eq, Int64.reduceAdd, Int64.reduceSub, Int64.reduceMul, Int64.reduceLT, g4, bI_f]
      refine psE (d := d + 3) (op := 21) hS hR hK j k1 k2 k3 (by omega) k5 hi (fun J2 L2 w1 w2 => ?_)
      simp only [E176_44, E176_47, E176_48, rfs, rfn, cs0, csi, csl, csr, csn, kti, ktl, ktr, ktn, ktv, ktf, true_and, and_true, and_self, ↓reduceIte, Nat.reduceAdd, Nat.reduceSub, Nat.reduceMul, Nat.reduceLT, Nat.reduceLeDiff, Nat.reduceEqDiff, true_or, or_true, false_or, or_false, not_true_eq_false, not_false_eq_true, reduceCtorEq, cmp_lt, cmp_gt, cmp_eq, Int32.reduceAdd, Int32.reduceSub, Int32.reduceMul, Int32.reduceLT, Int32.reduceToNatClampNeg, eq_self, ne_eq, Int64.reduceAdd, Int64.reduceSub, Int64.reduceMul, Int64.reduceLT]
      exact hq J2 L2 (by rw [if_neg z]; exact w1) (F.tr w2)
  have g1 := hT.sg (x := 43) (c := 43) (by decide) rfl
  by_cases z : T i = -143
  · rw [decide_eq_true (show T i = -100 - 43 by rw [z]; decide)] at g1
    simp only [M176, E176_0, E176_1, E176_3, E176_6, isg hS, pk54 hS, rfs, rfn, cs0, csi, csl, csr, csn, kti, ktl, ktr, ktn, ktv, ktf, true_and, and_true, and_self, ↓reduceIte, Nat.reduceAdd, Nat.reduceSub, Nat.reduceMul, Nat.reduceLT, Nat.reduceLeDiff, Nat.reduceEqDiff, true_or, or_true, false_or, or_false, not_true_eq_false, not_false_eq_true, reduceCtorEq, cmp_lt, cmp_gt, cmp_eq, Int32.reduceAdd, Int32.reduceSub, Int32.reduceMul, Int32.reduceLT, Int32.reduceToNatClampNeg, eq_self, ne_eq, Int64.reduceAdd, Int64.reduceSub, Int64.reduceMul, Int64.reduceLT, g1, bI_t, n1_0]
    exact plus _ _
  · have z2 : T i = -145 := Or.elim hpl (fun y => absurd y z) (fun y => y)
    have g2 := hT.sg (x := 45) (c := 45) (by decide) rfl
    rw [decide_eq_false (fun y => z (y.trans (by decide)))] at g1
    rw [decide_eq_true (show T i = -100 - 45 by rw [z2]; decide)] at g2
    simp only [M176, E176_0, E176_1, E176_3, E176_6, E176_9, E176_10, E176_12, E176_15, isg hS, pk54 hS, rfs, rfn, cs0, csi, csl, csr, csn, kti, ktl, ktr, ktn, ktv, ktf, true_and, and_true, and_self, ↓reduceIte, Nat.reduceAdd, Nat.reduceSub, Nat.reduceMul, Nat.reduceLT, Nat.reduceLeDiff, Nat.reduceEqDiff, true_or, or_true, false_or, or_false, not_true_eq_false, not_false_eq_true, reduceCtorEq, cmp_lt, cmp_gt, cmp_eq, Int32.reduceAdd, Int32.reduceSub, Int32.reduceMul, Int32.reduceLT, Int32.reduceToNatClampNeg, eq_self, ne_eq, Int64.reduceAdd, Int64.reduceSub, Int64.reduceMul, Int64.reduceLT, g1, g2, bI_f, bI_t, n1_0]
    exact plus _ _
theorem bsC2 {tst : Bool} {r : List Int32} (hS : Pm S) (hR : Pr R) (hK : Tks X Y T P n m p) (h : RbS X Y T P n m p a I L i ρ nP (o + 1) κ) (hpl : ¬ rPl (T i)) (g3 : 30 < rIn ρ) (ec : T i = rCl (rIn ρ)) (er : rSR 5 ρ = rIn ρ :: r) (hq : ∀ J L', RbS X Y T P n m p a J L' (i + 1) r nP o (κ ++ rZp (rSP 5 ρ) ++ (if rIn ρ = 31 then [] else [(rIn ρ, 0)])) → Fx I J a → Q (.int (nI 3)) S J L' R) : EvM (d + 6) 176 [.ref 54, .int (bI tst)] S I L R Q := by
  obtain ⟨hT, e13, e14, e20, ⟨q, nc, e19, eq, e15, hqn, ha⟩, hm, hn, ho, e12, hcd⟩ := id h
  have m4 := hK.1
  have m5 := hK.2.1
  have hi : i < m := h.lt hK (by rw [ec]; unfold rCl; split <;> decide)
  have g1 := hT.sg (x := 43) (c := 43) (by decide) rfl
  have g2 := hT.sg (x := 45) (c := 45) (by decide) rfl
  rw [decide_eq_false (fun y => hpl (Or.inl (y.trans (by decide))))] at g1
  rw [decide_eq_false (fun y => hpl (Or.inr (y.trans (by decide))))] at g2
  simp only [M176, E176_0, E176_1, E176_3, E176_6, E176_9, E176_10, E176_12, E176_15, E176_49, E176_50, isg hS, pk54 hS, rfs, rfn, cs0, csi, csl, csr, csn, kti, ktl, ktr, ktn, ktv, ktf, true_and, and_true, and_self, ↓reduceIte, Nat.reduceAdd, Nat.reduceSub, Nat.reduceMul, Nat.reduceLT, Nat.reduceLeDiff, Nat.reduceEqDiff, true_or, or_true, false_or, or_false, not_true_eq_false, not_false_eq_true, reduceCtorEq, cmp_lt, cmp_gt, cmp_eq, Int32.reduceAdd, Int32.reduceSub, Int32.reduceMul, Int32.reduceLT, Int32.reduceToNatClampNeg, eq_self, ne_eq, Int64.reduceAdd, Int64.reduceSub, Int64.reduceMul, Int64.reduceLT, g1, g2, bI_f]
  refine inr_ hS hR (p := q) (by omega) e19 (fun v hv => ?_)
  obtain rfl : v = rIn ρ := by
    rw [eq]
    exact pil_in q hv
  have tail : ∀ y3, Ev (d + 6) 176 78 [.ref 54, .int (bI tst), .int (rIn ρ), y3] [.int 1, .ref 54] S I L R Q := by
    intro y3
    simp only [E176_78, pk54 hS, rfs, rfn, cs0, csi, csl, csr, csn, kti, ktl, ktr, ktn, ktv, ktf, true_and, and_true, and_self, ↓reduceIte, Nat.reduceAdd, Nat.reduceSub, Nat.reduceMul, Nat.reduceLT, Nat.reduceLeDiff, Nat.reduceEqDiff, true_or, or_true, false_or, or_false, not_true_eq_false, not_false_eq_true, reduceCtorEq, cmp_lt, cmp_gt, cmp_eq, Int32.reduceAdd, Int32.reduceSub, Int32.reduceMul, Int32.reduceLT, Int32.reduceToNatClampNeg, eq_self, ne_eq, Int64.reduceAdd, Int64.reduceSub, Int64.reduceMul, Int64.reduceLT]
    refine muE_y (d := d + 2) hS hR hK hi hT e13 (fun J L' k1 k2 k3 => ?_)
    have j := h.nx k2 k1 (Nat.le_succ i) hi
    simp only [E176_78, E176_81, E176_82, E176_85, E176_88, E176_89, E176_90, pk54 hS, rfs, rfn, cs0, csi, csl, csr, csn, kti, ktl, ktr, ktn, ktv, ktf, true_and, and_true, and_self, ↓reduceIte, Nat.reduceAdd, Nat.reduceSub, Nat.reduceMul, Nat.reduceLT, Nat.reduceLeDiff, Nat.reduceEqDiff, true_or, or_true, false_or, or_false, not_true_eq_false, not_false_eq_true, reduceCtorEq, cmp_lt, cmp_gt, cmp_eq, Int32.reduceAdd, Int32.reduceSub, Int32.reduceMul, Int32.reduceLT, Int32.reduceToNatClampNeg, eq_self, ne_eq, Int64.reduceAdd, Int64.reduceSub, Int64.reduceMul, Int64.reduceLT, k3]
    refine stE hS hR j ((k2.2 19 (by decide)).trans e19) (by rw [k2.1 62 (by decide)]; exact eq) ((k2.2 15 (by decide)).trans e15) (by omega) ha (by decide) (fun J2 q' nc' w1 w2 w3 w4 w5 w6 F => ?_)
    obtain ⟨jT, j13, j14, j20, _, _, _, _, j12, jcd⟩ := w6 (by omega)
    rw [er] at w2
    obtain ⟨q3, rfl, e62, er2⟩ := pil_c w2
    have po := RbS.po (o := o) jT j13 j14 j20 j12 er2 w3 (by omega) w5 hi hn ho jcd
    have Z0 : Fx I (put (put J2 54 19 (nI q3)) 54 20 (J2 54 20 - 1)) a := Fx.p (Fx.p (k2.m.x.tr F) (by decide)) (by decide)
    by_cases g5 : rIn ρ = 31
    · have g5' : (rIn ρ = 31) = True := eq_true g5
      simp only [E176_90, E176_93, E176_94, E176_95, E176_98, E176_99, E176_100, E176_103, E176_104, E176_105, E176_108, E176_109, E176_110, E176_113, E176_114, E176_116, E176_125, E176_126, pk54 hS, rfs, rfn, cs0, csi, csl, csr, csn, kti, ktl, ktr, ktn, ktv, ktf, true_and, and_true, and_self, ↓reduceIte, Nat.reduceAdd, Nat.reduceSub, Nat.reduceMul, Nat.reduceLT, Nat.reduceLeDiff, Nat.reduceEqDiff, true_or, or_true, false_or, or_false, not_true_eq_false, not_false_eq_true, reduceCtorEq, cmp_lt, cmp_gt, cmp_eq, Int32.reduceAdd, Int32.reduceSub, Int32.reduceMul, Int32.reduceLT, Int32.reduceToNatClampNeg, eq_self, ne_eq, Int64.reduceAdd, Int64.reduceSub, Int64.reduceMul, Int64.reduceLT, w1, nI_m1, pt, pt_f, g5']
      exact hq _ L' (by rw [if_pos g5, List.append_nil]; exact po) Z0
    · have z15 : put (put J2 54 19 (nI q3)) 54 20 (J2 54 20 - 1) 54 15 = nI nc' := by rw [pt_f (by decide), pt_f (by decide)]; exact w3
      have z19 : put (put J2 54 19 (nI q3)) 54 20 (J2 54 20 - 1) 54 19 = nI q3 := by rw [pt_f (by decide), pt_s]
      have z62 : r = pil (put (put J2 54 19 (nI q3)) 54 20 (J2 54 20 - 1) 62) q3 := by rw [pt_n (by decide), pt_n (by decide)]; exact er2
      simp only [E176_90, E176_93, E176_94, E176_95, E176_98, E176_99, E176_100, E176_103, E176_104, E176_105, E176_108, E176_109, E176_110, E176_113, E176_114, E176_116, E176_119, E176_120, E176_121, E176_122, E176_125, E176_126, emt hS hR z15 (show nc' < 400 by omega), pk54 hS, rfs, rfn, cs0, csi, csl, csr, csn, kti, ktl, ktr, ktn, ktv, ktf, true_and, and_true, and_self, ↓reduceIte, Nat.reduceAdd, Nat.reduceSub, Nat.reduceMul, Nat.reduceLT, Nat.reduceLeDiff, Nat.reduceEqDiff, true_or, or_true, false_or, or_false, not_true_eq_false, not_false_eq_true, reduceCtorEq, cmp_lt, cmp_gt, cmp_eq, Int32.reduceAdd, Int32.reduceSub, Int32.reduceMul, Int32.reduceLT, Int32.reduceToNatClampNeg, eq_self, ne_eq, Int64.reduceAdd, Int64.reduceSub, Int64.reduceMul, Int64.reduceLT, w1, nI_m1, pt, pt_f, g5]
      exact hq _ L' (by rw [if_neg g5]; exact po.em z19 z62 w5 (by omega) z15 (by omega)) (Fx.p (Fx.q (Fx.e Z0 (by omega)) (by decide)) (by decide))
  by_cases g5 : rIn ρ = 31
  · have g5' : (rIn ρ = 31) = True := eq_true g5
    have gm := hT.sg (x := 93) (c := 93) (by decide) rfl
    rw [decide_eq_true (show T i = -100 - 93 by rw [ec, g5]; decide)] at gm
    simp only [E176_50, E176_53, E176_54, E176_55, E176_57, E176_60, E176_61, E176_62, E176_63, E176_65, E176_68, E176_70, E176_73, E176_75, isg hS, pk54 hS, rfs, rfn, cs0, csi, csl, csr, csn, kti, ktl, ktr, ktn, ktv, ktf, true_and, and_true, and_self, ↓reduceIte, Nat.reduceAdd, Nat.reduceSub, Nat.reduceMul, Nat.reduceLT, Nat.reduceLeDiff, Nat.reduceEqDiff, true_or, or_true, false_or, or_false, not_true_eq_false, not_false_eq_true, reduceCtorEq, cmp_lt, cmp_gt, cmp_eq, Int32.reduceAdd, Int32.reduceSub, Int32.reduceMul, Int32.reduceLT, Int32.reduceToNatClampNeg, eq_self, ne_eq, Int64.reduceAdd, Int64.reduceSub, Int64.reduceMul, Int64.reduceLT, g3, g5', gm, bI_t]
    exact tail _
  · have gm := hT.sg (x := 41) (c := 41) (by decide) rfl
    rw [decide_eq_true (show T i = -100 - 41 by rw [ec]; exact (if_neg g5).trans (by decide))] at gm
    simp only [E176_50, E176_53, E176_54, E176_55, E176_57, E176_60, E176_61, E176_62, E176_63, E176_65, E176_68, E176_70, E176_73, E176_75, isg hS, pk54 hS, rfs, rfn, cs0, csi, csl, csr, csn, kti, ktl, ktr, ktn, ktv, ktf, true_and, and_true, and_self, ↓reduceIte, Nat.reduceAdd, Nat.reduceSub, Nat.reduceMul, Nat.reduceLT, Nat.reduceLeDiff, Nat.reduceEqDiff, true_or, or_true, false_or, or_false, not_true_eq_false, not_false_eq_true, reduceCtorEq, cmp_lt, cmp_gt, cmp_eq, Int32.reduceAdd, Int32.reduceSub, Int32.reduceMul, Int32.reduceLT, Int32.reduceToNatClampNeg, eq_self, ne_eq, Int64.reduceAdd, Int64.reduceSub, Int64.reduceMul, Int64.reduceLT, g3, g5, gm, bI_t]
    exact tail _
theorem bsC3 {tst : Bool} (hS : Pm S) (hR : Pr R) (hK : Tks X Y T P n m p) (h : RbS X Y T P n m p a I L i ρ nP o κ) (hpl : ¬ rPl (T i)) (g3 : 30 < rIn ρ) (ec : ¬ T i = rCl (rIn ρ)) (hq : ∀ J L', BaS P a J i → Fx I J a → Q (.int (nI 3)) S J L' R) : EvM (d + 6) 176 [.ref 54, .int (bI tst)] S I L R Q := by
  obtain ⟨hT, e13, e14, e20, ⟨q, nc, e19, eq, e15, hqn, ha⟩, hm, hn, ho, e12, hcd⟩ := id h
  have m4 := hK.1
  have m5 := hK.2.1
  have g1 := hT.sg (x := 43) (c := 43) (by decide) rfl
  have g2 := hT.sg (x := 45) (c := 45) (by decide) rfl
  rw [decide_eq_false (fun y => hpl (Or.inl (y.trans (by decide))))] at g1
  rw [decide_eq_false (fun y => hpl (Or.inr (y.trans (by decide))))] at g2
  simp only [M176, E176_0, E176_1, E176_3, E176_6, E176_9, E176_10, E176_12, E176_15, E176_49, E176_50, isg hS, pk54 hS, rfs, rfn, cs0, csi, csl, csr, csn, kti, ktl, ktr, ktn, ktv, ktf, true_and, and_true, and_self, ↓reduceIte, Nat.reduceAdd, Nat.reduceSub, Nat.reduceMul, Nat.reduceLT, Nat.reduceLeDiff, Nat.reduceEqDiff, true_or, or_true, false_or, or_false, not_true_eq_false, not_false_eq_true, reduceCtorEq, cmp_lt, cmp_gt, cmp_eq, Int32.reduceAdd, Int32.reduceSub, Int32.reduceMul, Int32.reduceLT, Int32.reduceToNatClampNeg, eq_self, ne_eq, Int64.reduceAdd, Int64.reduceSub, Int64.reduceMul, Int64.reduceLT, g1, g2, bI_f]
  refine inr_ hS hR (p := q) (by omega) e19 (fun v hv => ?_)
  obtain rfl : v = rIn ρ := by
    rw [eq]
    exact pil_in q hv
  have tail : ∀ y3, Ev (d + 6) 176 78 [.ref 54, .int (bI tst), .int (rIn ρ), y3] [.int 0, .ref 54] S I L R Q := by
    intro y3
    simp only [E176_78, pk54 hS, rfs, rfn, cs0, csi, csl, csr, csn, kti, ktl, ktr, ktn, ktv, ktf, true_and, and_true, and_self, ↓reduceIte, Nat.reduceAdd, Nat.reduceSub, Nat.reduceMul, Nat.reduceLT, Nat.reduceLeDiff, Nat.reduceEqDiff, true_or, or_true, false_or, or_false, not_true_eq_false, not_false_eq_true, reduceCtorEq, cmp_lt, cmp_gt, cmp_eq, Int32.reduceAdd, Int32.reduceSub, Int32.reduceMul, Int32.reduceLT, Int32.reduceToNatClampNeg, eq_self, ne_eq, Int64.reduceAdd, Int64.reduceSub, Int64.reduceMul, Int64.reduceLT]
    refine muE_n (d := d + 2) hS hR e13 (fun J k1 k2 k3 k4 => ?_)
    simp only [E176_78, E176_81, E176_82, E176_85, E176_125, E176_126, pk54 hS, rfs, rfn, cs0, csi, csl, csr, csn, kti, ktl, ktr, ktn, ktv, ktf, true_and, and_true, and_self, ↓reduceIte, Nat.reduceAdd, Nat.reduceSub, Nat.reduceMul, Nat.reduceLT, Nat.reduceLeDiff, Nat.reduceEqDiff, true_or, or_true, false_or, or_false, not_true_eq_false, not_false_eq_true, reduceCtorEq, cmp_lt, cmp_gt, cmp_eq, Int32.reduceAdd, Int32.reduceSub, Int32.reduceMul, Int32.reduceLT, Int32.reduceToNatClampNeg, eq_self, ne_eq, Int64.reduceAdd, Int64.reduceSub, Int64.reduceMul, Int64.reduceLT, k2, n1_0]
    exact hq J L (h.ba hK k1 k2 k3) k1.x
  by_cases g5 : rIn ρ = 31
  · have g5' : (rIn ρ = 31) = True := eq_true g5
    have gm := hT.sg (x := 93) (c := 93) (by decide) rfl
    rw [decide_eq_false (fun z => ec (by rw [z, g5]; decide))] at gm
    simp only [E176_50, E176_53, E176_54, E176_55, E176_57, E176_60, E176_61, E176_62, E176_63, E176_65, E176_68, E176_70, E176_73, E176_75, isg hS, pk54 hS, rfs, rfn, cs0, csi, csl, csr, csn, kti, ktl, ktr, ktn, ktv, ktf, true_and, and_true, and_self, ↓reduceIte, Nat.reduceAdd, Nat.reduceSub, Nat.reduceMul, Nat.reduceLT, Nat.reduceLeDiff, Nat.reduceEqDiff, true_or, or_true, false_or, or_false, not_true_eq_false, not_false_eq_true, reduceCtorEq, cmp_lt, cmp_gt, cmp_eq, Int32.reduceAdd, Int32.reduceSub, Int32.reduceMul, Int32.reduceLT, Int32.reduceToNatClampNeg, eq_self, ne_eq, Int64.reduceAdd, Int64.reduceSub, Int64.reduceMul, Int64.reduceLT, g3, g5', gm, bI_f]
    exact tail _
  · have gm := hT.sg (x := 41) (c := 41) (by decide) rfl
    rw [decide_eq_false (fun z => ec (z.trans (Eq.trans (by decide) (if_neg g5).symm)))] at gm
    simp only [E176_50, E176_53, E176_54, E176_55, E176_57, E176_60, E176_61, E176_62, E176_63, E176_65, E176_68, E176_70, E176_73, E176_75, isg hS, pk54 hS, rfs, rfn, cs0, csi, csl, csr, csn, kti, ktl, ktr, ktn, ktv, ktf, true_and, and_true, and_self, ↓reduceIte, Nat.reduceAdd, Nat.reduceSub, Nat.reduceMul, Nat.reduceLT, Nat.reduceLeDiff, Nat.reduceEqDiff, true_or, or_true, false_or, or_false, not_true_eq_false, not_false_eq_true, reduceCtorEq, cmp_lt, cmp_gt, cmp_eq, Int32.reduceAdd, Int32.reduceSub, Int32.reduceMul, Int32.reduceLT, Int32.reduceToNatClampNeg, eq_self, ne_eq, Int64.reduceAdd, Int64.reduceSub, Int64.reduceMul, Int64.reduceLT, g3, g5, gm, bI_f]
    exact tail _
theorem bsC4 (hS : Pm S) (hR : Pr R) (hK : Tks X Y T P n m p) (h : RbS X Y T P n m p a I L i ρ nP o κ) (hpl : ¬ rPl (T i)) (g4 : rIn ρ = -1) (hq : ∀ J L', RbS X Y T P n m p a J L' i ρ nP o κ → Fx I J a → Q (.int (nI 4)) S J L' R) : EvM (d + 6) 176 [.ref 54, .int (bI false)] S I L R Q := by
  obtain ⟨hT, e13, e14, e20, ⟨q, nc, e19, eq, e15, hqn, ha⟩, hm, hn, ho, e12, hcd⟩ := id h
  have m4 := hK.1
  have m5 := hK.2.1
  have g1 := hT.sg (x := 43) (c := 43) (by decide) rfl
  have g2 := hT.sg (x := 45) (c := 45) (by decide) rfl
  rw [decide_eq_false (fun y => hpl (Or.inl (y.trans (by decide))))] at g1
  rw [decide_eq_false (fun y => hpl (Or.inr (y.trans (by decide))))] at g2
  simp only [M176, E176_0, E176_1, E176_3, E176_6, E176_9, E176_10, E176_12, E176_15, E176_49, E176_50, isg hS, pk54 hS, rfs, rfn, cs0, csi, csl, csr, csn, kti, ktl, ktr, ktn, ktv, ktf, true_and, and_true, and_self, ↓reduceIte, Nat.reduceAdd, Nat.reduceSub, Nat.reduceMul, Nat.reduceLT, Nat.reduceLeDiff, Nat.reduceEqDiff, true_or, or_true, false_or, or_false, not_true_eq_false, not_false_eq_true, reduceCtorEq, cmp_lt, cmp_gt, cmp_eq, Int32.reduceAdd, Int32.reduceSub, Int32.reduceMul, Int32.reduceLT, Int32.reduceToNatClampNeg, eq_self, ne_eq, Int64.reduceAdd, Int64.reduceSub, Int64.reduceMul, Int64.reduceLT, g1, g2, bI_f]
  refine inr_ hS hR (p := q) (by omega) e19 (fun v hv => ?_)
  obtain rfl : v = rIn ρ := by
    rw [eq]
    exact pil_in q hv
  have g3 : ¬ 30 < rIn ρ := by rw [g4]; decide
  have g4' : (rIn ρ = -1) = True := eq_true g4
  simp only [E176_50, E176_53, E176_54, E176_55, E176_57, E176_127, E176_128, E176_129, E176_132, E176_133, E176_136, E176_137, rfs, rfn, cs0, csi, csl, csr, csn, kti, ktl, ktr, ktn, ktv, ktf, true_and, and_true, and_self, ↓reduceIte, Nat.reduceAdd, Nat.reduceSub, Nat.reduceMul, Nat.reduceLT, Nat.reduceLeDiff, Nat.reduceEqDiff, true_or, or_true, false_or, or_false, not_true_eq_false, not_false_eq_true, reduceCtorEq, cmp_lt, cmp_gt, cmp_eq, Int32.reduceAdd, Int32.reduceSub, Int32.reduceMul, Int32.reduceLT, Int32.reduceToNatClampNeg, eq_self, ne_eq, Int64.reduceAdd, Int64.reduceSub, Int64.reduceMul, Int64.reduceLT, g3, g4', bI_f]
  exact hq I L h Fx.rf
theorem bsR {tst : Bool} (hS : Pm S) (hR : Pr R) (hK : Tks X Y T P n m p) (h : RbS X Y T P n m p a I L i ρ nP o κ) (hpl : ¬ rPl (T i)) (g3 : ¬ 30 < rIn ρ) (gt : ¬ (rIn ρ = -1 ∧ tst = false)) (rest : ∀ y3, Ev (d + 6) 176 138 [.ref 54, .int (bI tst), .int (rIn ρ), y3] [] S I L R Q) : EvM (d + 6) 176 [.ref 54, .int (bI tst)] S I L R Q := by
  obtain ⟨hT, e13, e14, e20, ⟨q, nc, e19, eq, e15, hqn, ha⟩, hm, hn, ho, e12, hcd⟩ := id h
  have m4 := hK.1
  have m5 := hK.2.1
  have g1 := hT.sg (x := 43) (c := 43) (by decide) rfl
  have g2 := hT.sg (x := 45) (c := 45) (by decide) rfl
  rw [decide_eq_false (fun y => hpl (Or.inl (y.trans (by decide))))] at g1
  rw [decide_eq_false (fun y => hpl (Or.inr (y.trans (by decide))))] at g2
  simp only [M176, E176_0, E176_1, E176_3, E176_6, E176_9, E176_10, E176_12, E176_15, E176_49, E176_50, isg hS, pk54 hS, rfs, rfn, cs0, csi, csl, csr, csn, kti, ktl, ktr, ktn, ktv, ktf, true_and, and_true, and_self, ↓reduceIte, Nat.reduceAdd, Nat.reduceSub, Nat.reduceMul, Nat.reduceLT, Nat.reduceLeDiff, Nat.reduceEqDiff, true_or, or_true, false_or, or_false, not_true_eq_false, not_false_eq_true, reduceCtorEq, cmp_lt, cmp_gt, cmp_eq, Int32.reduceAdd, Int32.reduceSub, Int32.reduceMul, Int32.reduceLT, Int32.reduceToNatClampNeg, eq_self, ne_eq, Int64.reduceAdd, Int64.reduceSub, Int64.reduceMul, Int64.reduceLT, g1, g2, bI_f]
  refine inr_ hS hR (p := q) (by omega) e19 (fun v hv => ?_)
  obtain rfl : v = rIn ρ := by
    rw [eq]
    exact pil_in q hv
  by_cases g4 : rIn ρ = -1
  · have g4' : (rIn ρ = -1) = True := eq_true g4
    cases tst
    · exact absurd ⟨g4, rfl⟩ gt
    · simp only [E176_50, E176_53, E176_54, E176_55, E176_57, E176_127, E176_128, E176_129, E176_132, E176_133, rfs, rfn, cs0, csi, csl, csr, csn, kti, ktl, ktr, ktn, ktv, ktf, true_and, and_true, and_self, ↓reduceIte, Nat.reduceAdd, Nat.reduceSub, Nat.reduceMul, Nat.reduceLT, Nat.reduceLeDiff, Nat.reduceEqDiff, true_or, or_true, false_or, or_false, not_true_eq_false, not_false_eq_true, reduceCtorEq, cmp_lt, cmp_gt, cmp_eq, Int32.reduceAdd, Int32.reduceSub, Int32.reduceMul, Int32.reduceLT, Int32.reduceToNatClampNeg, eq_self, ne_eq, Int64.reduceAdd, Int64.reduceSub, Int64.reduceMul, Int64.reduceLT, g3, g4', bI_t, n1_0]
      exact rest _
  · simp only [E176_50, E176_53, E176_54, E176_55, E176_57, E176_127, E176_128, E176_129, rfs, rfn, cs0, csi, csl, csr, csn, kti, ktl, ktr, ktn, ktv, ktf, true_and, and_true, and_self, ↓reduceIte, Nat.reduceAdd, Nat.reduceSub, Nat.reduceMul, Nat.reduceLT, Nat.reduceLeDiff, Nat.reduceEqDiff, true_or, or_true, false_or, or_false, not_true_eq_false, not_false_eq_true, reduceCtorEq, cmp_lt, cmp_gt, cmp_eq, Int32.reduceAdd, Int32.reduceSub, Int32.reduceMul, Int32.reduceLT, Int32.reduceToNatClampNeg, eq_self, ne_eq, Int64.reduceAdd, Int64.reduceSub, Int64.reduceMul, Int64.reduceLT, g3, g4]
    exact rest _
theorem bsC5 {tst : Bool} (hS : Pm S) (hR : Pr R) (hK : Tks X Y T P n m p) (h : RbS X Y T P n m p a I L i ρ nP o κ) (hpl : ¬ rPl (T i)) (g3 : ¬ 30 < rIn ρ) (gt : ¬ (rIn ρ = -1 ∧ tst = false)) (gc : rCq ρ = true) (hq : ∀ J L', RbS X Y T P n m p a J L' i ρ nP o κ → Fx I J a → Q (.int (nI 2)) S J L' R) : EvM (d + 6) 176 [.ref 54, .int (bI tst)] S I L R Q := by
  obtain ⟨hT, e13, e14, e20, ⟨q, nc, e19, eq, e15, hqn, ha⟩, hm, hn, ho, e12, hcd⟩ := id h
  have m4 := hK.1
  have m5 := hK.2.1
  refine bsR hS hR hK h hpl g3 gt (fun y3 => ?_)
  simp only [E176_138, E176_139, pk54 hS, rfs, rfn, cs0, csi, csl, csr, csn, kti, ktl, ktr, ktn, ktv, ktf, true_and, and_true, and_self, ↓reduceIte, Nat.reduceAdd, Nat.reduceSub, Nat.reduceMul, Nat.reduceLT, Nat.reduceLeDiff, Nat.reduceEqDiff, true_or, or_true, false_or, or_false, not_true_eq_false, not_false_eq_true, reduceCtorEq, cmp_lt, cmp_gt, cmp_eq, Int32.reduceAdd, Int32.reduceSub, Int32.reduceMul, Int32.reduceLT, Int32.reduceToNatClampNeg, eq_self, ne_eq, Int64.reduceAdd, Int64.reduceSub, Int64.reduceMul, Int64.reduceLT]
  refine icE (q := q) hS hR (by omega) e19 ?_
  rw [← eq, gc]
  simp only [E176_139, E176_142, E176_145, E176_146, rfs, rfn, cs0, csi, csl, csr, csn, kti, ktl, ktr, ktn, ktv, ktf, true_and, and_true, and_self, ↓reduceIte, Nat.reduceAdd, Nat.reduceSub, Nat.reduceMul, Nat.reduceLT, Nat.reduceLeDiff, Nat.reduceEqDiff, true_or, or_true, false_or, or_false, not_true_eq_false, not_false_eq_true, reduceCtorEq, cmp_lt, cmp_gt, cmp_eq, Int32.reduceAdd, Int32.reduceSub, Int32.reduceMul, Int32.reduceLT, Int32.reduceToNatClampNeg, eq_self, ne_eq, Int64.reduceAdd, Int64.reduceSub, Int64.reduceMul, Int64.reduceLT, bI_t, n1_0]
  exact hq I L h Fx.rf
theorem bsC6 {tst : Bool} (hS : Pm S) (hR : Pr R) (hK : Tks X Y T P n m p) (h : RbS X Y T P n m p a I L i ρ nP o κ) (hpl : ¬ rPl (T i)) (g3 : ¬ 30 < rIn ρ) (gt : ¬ (rIn ρ = -1 ∧ tst = false)) (gc : rCq ρ = false) (hc : rCm (T i)) (hq : ∀ J L', RbS X Y T P n m p a J L' (i + 1) ((if T i = -160 then (24 : Int32) else if T i = -162 then 25 else 26) :: rSR 5 ρ) nP o (κ ++ rZp (rSP 5 ρ)) → Fx I J a → Q (.int (nI 1)) S J L' R) : EvM (d + 6) 176 [.ref 54, .int (bI tst)] S I L R Q := by
  obtain ⟨hT, e13, e14, e20, ⟨q, nc, e19, eq, e15, hqn, ha⟩, hm, hn, ho, e12, hcd⟩ := id h
  have m4 := hK.1
  have m5 := hK.2.1
  have hi : i < m := h.lt hK (by rcases hc with z | z | z <;> (rw [z]; decide))
  refine bsR hS hR hK h hpl g3 gt (fun y3 => ?_)
  simp only [E176_138, E176_139, pk54 hS, rfs, rfn, cs0, csi, csl, csr, csn, kti, ktl, ktr, ktn, ktv, ktf, true_and, and_true, and_self, ↓reduceIte, Nat.reduceAdd, Nat.reduceSub, Nat.reduceMul, Nat.reduceLT, Nat.reduceLeDiff, Nat.reduceEqDiff, true_or, or_true, false_or, or_false, not_true_eq_false, not_false_eq_true, reduceCtorEq, cmp_lt, cmp_gt, cmp_eq, Int32.reduceAdd, Int32.reduceSub, Int32.reduceMul, Int32.reduceLT, Int32.reduceToNatClampNeg, eq_self, ne_eq, Int64.reduceAdd, Int64.reduceSub, Int64.reduceMul, Int64.reduceLT]
  refine icE (q := q) hS hR (by omega) e19 ?_
  rw [← eq, gc]
  have key : ∀ op : Int32, (if T i = -160 then (24 : Int32) else if T i = -162 then 25 else 26) = op → Ev (d + 6) 176 199 [.ref 54, .int (bI tst), .int (rIn ρ), .int op] [.int 1, .ref 54] S I L R Q := by
    intro op eo
    rw [eo] at hq
    simp only [E176_199, pk54 hS, rfs, rfn, cs0, csi, csl, csr, csn, kti, ktl, ktr, ktn, ktv, ktf, true_and, and_true, and_self, ↓reduceIte, Nat.reduceAdd, Nat.reduceSub, Nat.reduceMul, Nat.reduceLT, Nat.reduceLeDiff, Nat.reduceEqDiff, true_or, or_true, false_or, or_false, not_true_eq_false, not_false_eq_true, reduceCtorEq, cmp_lt, cmp_gt, cmp_eq, Int32.reduceAdd, Int32.reduceSub, Int32.reduceMul, Int32.reduceLT, Int32.reduceToNatClampNeg, eq_self, ne_eq, Int64.reduceAdd, Int64.reduceSub, Int64.reduceMul, Int64.reduceLT]
    refine muE_y (d := d + 2) hS hR hK hi hT e13 (fun J L' k1 k2 k3 => ?_)
    have j := h.nx k2 k1 (Nat.le_succ i) hi
    simp only [E176_199, E176_202, E176_203, E176_206, E176_209, E176_210, E176_211, pk54 hS, rfs, rfn, cs0, csi, csl, csr, csn, kti, ktl, ktr, ktn, ktv, ktf, true_and, and_true, and_self, ↓reduceIte, Nat.reduceAdd, Nat.reduceSub, Nat.reduceMul, Nat.reduceLT, Nat.reduceLeDiff, Nat.reduceEqDiff, true_or, or_true, false_or, or_false, not_true_eq_false, not_false_eq_true, reduceCtorEq, cmp_lt, cmp_gt, cmp_eq, Int32.reduceAdd, Int32.reduceSub, Int32.reduceMul, Int32.reduceLT, Int32.reduceToNatClampNeg, eq_self, ne_eq, Int64.reduceAdd, Int64.reduceSub, Int64.reduceMul, Int64.reduceLT, k3]
    refine stE hS hR j ((k2.2 19 (by decide)).trans e19) (by rw [k2.1 62 (by decide)]; exact eq) ((k2.2 15 (by decide)).trans e15) (by omega) ha (by decide) (fun J2 q' nc' w1 w2 w3 w4 w5 w6 F => ?_)
    have j2 := w6 (by omega)
    obtain ⟨jT, j13, j14, j20, _, _, _, _, j12, jcd⟩ := id j2
    simp only [E176_211, E176_214, E176_215, E176_216, E176_219, E176_220, psh_m hS hR w1 (show q' < 400 by omega), pk54 hS, rfs, rfn, cs0, csi, csl, csr, csn, kti, ktl, ktr, ktn, ktv, ktf, true_and, and_true, and_self, ↓reduceIte, Nat.reduceAdd, Nat.reduceSub, Nat.reduceMul, Nat.reduceLT, Nat.reduceLeDiff, Nat.reduceEqDiff, true_or, or_true, false_or, or_false, not_true_eq_false, not_false_eq_true, reduceCtorEq, cmp_lt, cmp_gt, cmp_eq, Int32.reduceAdd, Int32.reduceSub, Int32.reduceMul, Int32.reduceLT, Int32.reduceToNatClampNeg, eq_self, ne_eq, Int64.reduceAdd, Int64.reduceSub, Int64.reduceMul, Int64.reduceLT]
    refine hq _ L' (j2.ps (q := q') (nc := nc') (P62 := J2 62) (jT.cg ?_ (fun k h1 h2 => by rw [pt_f (by omega), pt_m (by decide)])) ?_ ?_ ?_ ho ?_ pt_s ?_ w2 ?_ (by omega) w5 hi ?_) (Fx.p (Fx.q (k2.m.x.tr F) (by decide)) (by decide))
    · rw [pt_n (by decide), pt_n (by decide)]
    · rw [pt_f (by decide), pt_m (by decide)]; exact j13
    · rw [pt_f (by decide), pt_m (by decide)]; exact j14
    · rw [pt_f (by decide), pt_m (by decide)]; exact j20
    · rw [pt_f (by decide), pt_m (by decide)]; exact j12
    · rw [pt_n (by decide), pt_c]
    · rw [pt_f (by decide), pt_m (by decide)]; exact w3
    · exact jcd.cg (by rw [pt_f (by decide), pt_m (by decide)]) (by rw [pt_n (by decide), pt_n (by decide)]) (by rw [pt_n (by decide), pt_n (by decide)])
  have g5 := hT.sg (x := 60) (c := 60) (by decide) rfl
  have g6 := hT.sg (x := 62) (c := 62) (by decide) rfl
  have g7 := hT.sg (x := 61) (c := 61) (by decide) rfl
  by_cases z5 : T i = -160
  · rw [decide_eq_true (show T i = -100 - 60 by rw [z5]; decide)] at g5
    have n46 : ((24 : Int32) = 26) = False := eq_false (by decide)
    simp only [E176_139, E176_142, E176_147, E176_148, E176_150, E176_153, E176_156, E176_158, E176_177, E176_178, E176_179, E176_180, E176_182, E176_194, E176_195, isg hS, pk54 hS, rfs, rfn, cs0, csi, csl, csr, csn, kti, ktl, ktr, ktn, ktv, ktf, true_and, and_true, and_self, ↓reduceIte, Nat.reduceAdd, Nat.reduceSub, Nat.reduceMul, Nat.reduceLT, Nat.reduceLeDiff, Nat.reduceEqDiff, true_or, or_true, false_or, or_false, not_true_eq_false, not_false_eq_true, reduceCtorEq, cmp_lt, cmp_gt, cmp_eq, Int32.reduceAdd, Int32.reduceSub, Int32.reduceMul, Int32.reduceLT, Int32.reduceToNatClampNeg, eq_self, ne_eq, Int64.reduceAdd, Int64.reduceSub, Int64.reduceMul, Int64.reduceLT, g5, bI_f, bI_t, n1_0, n46]
    exact key 24 (if_pos z5)
  · rw [decide_eq_false (fun y => z5 (y.trans (by decide)))] at g5
    by_cases z6 : T i = -162
    · rw [decide_eq_true (show T i = -100 - 62 by rw [z6]; decide)] at g6
      have n56 : ((25 : Int32) = 26) = False := eq_false (by decide)
      simp only [E176_139, E176_142, E176_147, E176_148, E176_150, E176_153, E176_161, E176_162, E176_164, E176_167, E176_170, E176_172, E176_177, E176_178, E176_179, E176_180, E176_182, E176_194, E176_195, isg hS, pk54 hS, rfs, rfn, cs0, csi, csl, csr, csn, kti, ktl, ktr, ktn, ktv, ktf, true_and, and_true, and_self, ↓reduceIte, Nat.reduceAdd, Nat.reduceSub, Nat.reduceMul, Nat.reduceLT, Nat.reduceLeDiff, Nat.reduceEqDiff, true_or, or_true, false_or, or_false, not_true_eq_false, not_false_eq_true, reduceCtorEq, cmp_lt, cmp_gt, cmp_eq, Int32.reduceAdd, Int32.reduceSub, Int32.reduceMul, Int32.reduceLT, Int32.reduceToNatClampNeg, eq_self, ne_eq, Int64.reduceAdd, Int64.reduceSub, Int64.reduceMul, Int64.reduceLT, g5, g6, bI_f, bI_t, n1_0, n56]
      exact key 25 ((if_neg z5).trans (if_pos z6))
    · rw [decide_eq_false (fun y => z6 (y.trans (by decide)))] at g6
      have z7 : T i = -161 := Or.elim hc (fun y => absurd y z5) (fun y => Or.elim y (fun y => absurd y z6) (fun y => y))
      rw [decide_eq_true (show T i = -100 - 61 by rw [z7]; decide)] at g7
      simp only [E176_139, E176_142, E176_147, E176_148, E176_150, E176_153, E176_161, E176_162, E176_164, E176_167, E176_175, E176_177, E176_178, E176_179, E176_180, E176_182, E176_185, E176_186, E176_188, E176_191, E176_194, E176_195, E176_198, isg hS, pk54 hS, rfs, rfn, cs0, csi, csl, csr, csn, kti, ktl, ktr, ktn, ktv, ktf, true_and, and_true, and_self, ↓reduceIte, Nat.reduceAdd, Nat.reduceSub, Nat.reduceMul, Nat.reduceLT, Nat.reduceLeDiff, Nat.reduceEqDiff, true_or, or_true, false_or, or_false, not_true_eq_false, not_false_eq_true, reduceCtorEq, cmp_lt, cmp_gt, cmp_eq, Int32.reduceAdd, Int32.reduceSub, Int32.reduceMul, Int32.reduceLT, Int32.reduceToNatClampNeg, eq_self, ne_eq, Int64.reduceAdd, Int64.reduceSub, Int64.reduceMul, Int64.reduceLT, g5, g6, g7, bI_f, bI_t, n1_0]
      exact key 26 ((if_neg z5).trans (if_neg z6))
theorem bsC7 {tst : Bool} (hS : Pm S) (hR : Pr R) (hK : Tks X Y T P n m p) (h : RbS X Y T P n m p a I L i ρ nP o κ) (hpl : ¬ rPl (T i)) (g3 : ¬ 30 < rIn ρ) (gt : ¬ (rIn ρ = -1 ∧ tst = false)) (gc : rCq ρ = false) (hc : ¬ rCm (T i)) (hq : ∀ J L', BaS P a J i → Fx I J a → Q (.int (nI 1)) S J L' R) : EvM (d + 6) 176 [.ref 54, .int (bI tst)] S I L R Q := by
  obtain ⟨hT, e13, e14, e20, ⟨q, nc, e19, eq, e15, hqn, ha⟩, hm, hn, ho, e12, hcd⟩ := id h
  have m4 := hK.1
  have m5 := hK.2.1
  refine bsR hS hR hK h hpl g3 gt (fun y3 => ?_)
  simp only [E176_138, E176_139, pk54 hS, rfs, rfn, cs0, csi, csl, csr, csn, kti, ktl, ktr, ktn, ktv, ktf, true_and, and_true, and_self, ↓reduceIte, Nat.reduceAdd, Nat.reduceSub, Nat.reduceMul, Nat.reduceLT, Nat.reduceLeDiff, Nat.reduceEqDiff, true_or, or_true, false_or, or_false, not_true_eq_false, not_false_eq_true, reduceCtorEq, cmp_lt, cmp_gt, cmp_eq, Int32.reduceAdd, Int32.reduceSub, Int32.reduceMul, Int32.reduceLT, Int32.reduceToNatClampNeg, eq_self, ne_eq, Int64.reduceAdd, Int64.reduceSub, Int64.reduceMul, Int64.reduceLT]
  refine icE (q := q) hS hR (by omega) e19 ?_
  rw [← eq, gc]
  have key : Ev (d + 6) 176 199 [.ref 54, .int (bI tst), .int (rIn ρ), .int 26] [.int 0, .ref 54] S I L R Q := by
    simp only [E176_199, pk54 hS, rfs, rfn, cs0, csi, csl, csr, csn, kti, ktl, ktr, ktn, ktv, ktf, true_and, and_true, and_self, ↓reduceIte, Nat.reduceAdd, Nat.reduceSub, Nat.reduceMul, Nat.reduceLT, Nat.reduceLeDiff, Nat.reduceEqDiff, true_or, or_true, false_or, or_false, not_true_eq_false, not_false_eq_true, reduceCtorEq, cmp_lt, cmp_gt, cmp_eq, Int32.reduceAdd, Int32.reduceSub, Int32.reduceMul, Int32.reduceLT, Int32.reduceToNatClampNeg, eq_self, ne_eq, Int64.reduceAdd, Int64.reduceSub, Int64.reduceMul, Int64.reduceLT]
    refine muE_n (d := d + 2) hS hR e13 (fun J k1 k2 k3 k4 => ?_)
    simp only [E176_199, E176_202, E176_203, E176_206, E176_219, E176_220, pk54 hS, rfs, rfn, cs0, csi, csl, csr, csn, kti, ktl, ktr, ktn, ktv, ktf, true_and, and_true, and_self, ↓reduceIte, Nat.reduceAdd, Nat.reduceSub, Nat.reduceMul, Nat.reduceLT, Nat.reduceLeDiff, Nat.reduceEqDiff, true_or, or_true, false_or, or_false, not_true_eq_false, not_false_eq_true, reduceCtorEq, cmp_lt, cmp_gt, cmp_eq, Int32.reduceAdd, Int32.reduceSub, Int32.reduceMul, Int32.reduceLT, Int32.reduceToNatClampNeg, eq_self, ne_eq, Int64.reduceAdd, Int64.reduceSub, Int64.reduceMul, Int64.reduceLT, k2, n1_0]
    exact hq J L (h.ba hK k1 k2 k3) k1.x
  have g5 := hT.sg (x := 60) (c := 60) (by decide) rfl
  have g6 := hT.sg (x := 62) (c := 62) (by decide) rfl
  have g7 := hT.sg (x := 61) (c := 61) (by decide) rfl
  rw [decide_eq_false (fun y => hc (Or.inl (y.trans (by decide))))] at g5
  rw [decide_eq_false (fun y => hc (Or.inr (Or.inl (y.trans (by decide)))))] at g6
  rw [decide_eq_false (fun y => hc (Or.inr (Or.inr (y.trans (by decide)))))] at g7
  simp only [E176_139, E176_142, E176_147, E176_148, E176_150, E176_153, E176_161, E176_162, E176_164, E176_167, E176_175, E176_177, E176_178, E176_179, E176_180, E176_182, E176_185, E176_186, E176_188, E176_191, E176_194, E176_195, E176_198, isg hS, pk54 hS, rfs, rfn, cs0, csi, csl, csr, csn, kti, ktl, ktr, ktn, ktv, ktf, true_and, and_true, and_self, ↓reduceIte, Nat.reduceAdd, Nat.reduceSub, Nat.reduceMul, Nat.reduceLT, Nat.reduceLeDiff, Nat.reduceEqDiff, true_or, or_true, false_or, or_false, not_true_eq_false, not_false_eq_true, reduceCtorEq, cmp_lt, cmp_gt, cmp_eq, Int32.reduceAdd, Int32.reduceSub, Int32.reduceMul, Int32.reduceLT, Int32.reduceToNatClampNeg, eq_self, ne_eq, Int64.reduceAdd, Int64.reduceSub, Int64.reduceMul, Int64.reduceLT, g5, g6, g7, bI_f]
  exact key
/-- behindTest -/
theorem btD1 (hS : Pm S) (hR : Pr R) (hK : Tks X Y T P n m p) (h : RbS X Y T P n m p a I L i ρ nP o κ) (q1 : T i = -6) (hq : ∀ J L', RbS X Y T P n m p a J L' (i + 1) (28 :: rSR 2 ρ) nP o (κ ++ rZp (rSP 2 ρ)) → Fx I J a → Q (.int (nI 0)) S J L' R) : EvM (d + 6) 177 [.ref 54] S I L R Q := by
  obtain ⟨hT, e13, e14, e20, ⟨q, nc, e19, eq, e15, hqn, ha⟩, hm, hn, ho, e12, hcd⟩ := id h
  have m4 := hK.1
  have m5 := hK.2.1
  have hi : i < m := h.lt hK (by rw [q1]; decide)
  have main : Ev (d + 6) 177 32 [.ref 54, .int 1] [.int 2, .ref 54] S I L R Q := by
    simp only [E177_32, pk54 hS, rfs, rfn, cs0, csi, csl, csr, csn, kti, ktl, ktr, ktn, ktv, ktf, true_and, and_true, and_self, ↓reduceIte, Nat.reduceAdd, Nat.reduceSub, Nat.reduceMul, Nat.reduceLT, Nat.reduceLeDiff, Nat.reduceEqDiff, true_or, or_true, false_or, or_false, not_true_eq_false, not_false_eq_true, reduceCtorEq, cmp_lt, cmp_gt, cmp_eq, Int32.reduceAdd, Int32.reduceSub, Int32.reduceMul, Int32.reduceLT, Int32.reduceToNatClampNeg, eq_self, ne_eq, Int64.reduceAdd, Int64.reduceSub, Int64.reduceMul, Int64.reduceLT]
    refine stE hS hR h e19 eq e15 (by omega) ha (by decide) (fun J q' nc' k1 k2 k3 k4 k5 k6 F => ?_)
    have j := k6 hqn
    simp only [E177_32, E177_35, E177_36, E177_37, E177_40, E177_42, E177_45, E177_47, E177_50, E177_51, psh_m hS hR k1 (show q' < 400 by omega), pk54 hS, rfs, rfn, cs0, csi, csl, csr, csn, kti, ktl, ktr, ktn, ktv, ktf, true_and, and_true, and_self, ↓reduceIte, Nat.reduceAdd, Nat.reduceSub, Nat.reduceMul, Nat.reduceLT, Nat.reduceLeDiff, Nat.reduceEqDiff, true_or, or_true, false_or, or_false, not_true_eq_false, not_false_eq_true, reduceCtorEq, cmp_lt, cmp_gt, cmp_eq, Int32.reduceAdd, Int32.reduceSub, Int32.reduceMul, Int32.reduceLT, Int32.reduceToNatClampNeg, eq_self, ne_eq, Int64.reduceAdd, Int64.reduceSub, Int64.reduceMul, Int64.reduceLT, n1_0]
    refine psE (d := d + 3) (op := 28) hS hR hK j k1 k2 k3 (by omega) k5 hi (fun J2 L2 w1 w2 => ?_)
    simp only [E177_51, E177_54, E177_55, rfs, rfn, cs0, csi, csl, csr, csn, kti, ktl, ktr, ktn, ktv, ktf, true_and, and_true, and_self, ↓reduceIte, Nat.reduceAdd, Nat.reduceSub, Nat.reduceMul, Nat.reduceLT, Nat.reduceLeDiff, Nat.reduceEqDiff, true_or, or_true, false_or, or_false, not_true_eq_false, not_false_eq_true, reduceCtorEq, cmp_lt, cmp_gt, cmp_eq, Int32.reduceAdd, Int32.reduceSub, Int32.reduceMul, Int32.reduceLT, Int32.reduceToNatClampNeg, eq_self, ne_eq, Int64.reduceAdd, Int64.reduceSub, Int64.reduceMul, Int64.reduceLT]
    exact hq J2 L2 w1 (F.tr w2)
  have g1 := hT.w3
  rw [decide_eq_true q1] at g1
  simp only [M177, E177_0, E177_1, E177_4, E177_7, E177_8, E177_9, isw hS, pk54 hS, rfs, rfn, cs0, csi, csl, csr, csn, kti, ktl, ktr, ktn, ktv, ktf, true_and, and_true, and_self, ↓reduceIte, Nat.reduceAdd, Nat.reduceSub, Nat.reduceMul, Nat.reduceLT, Nat.reduceLeDiff, Nat.reduceEqDiff, true_or, or_true, false_or, or_false, not_true_eq_false, not_false_eq_true, reduceCtorEq, cmp_lt, cmp_gt, cmp_eq, Int32.reduceAdd, Int32.reduceSub, Int32.reduceMul, Int32.reduceLT, Int32.reduceToNatClampNeg, eq_self, ne_eq, Int64.reduceAdd, Int64.reduceSub, Int64.reduceMul, Int64.reduceLT, g1, bI_t, n1_0]
  simp only [E177_22, E177_23, E177_24, E177_27, E177_28, pk54 hS, rfs, rfn, cs0, csi, csl, csr, csn, kti, ktl, ktr, ktn, ktv, ktf, true_and, and_true, and_self, ↓reduceIte, Nat.reduceAdd, Nat.reduceSub, Nat.reduceMul, Nat.reduceLT, Nat.reduceLeDiff, Nat.reduceEqDiff, true_or, or_true, false_or, or_false, not_true_eq_false, not_false_eq_true, reduceCtorEq, cmp_lt, cmp_gt, cmp_eq, Int32.reduceAdd, Int32.reduceSub, Int32.reduceMul, Int32.reduceLT, Int32.reduceToNatClampNeg, eq_self, ne_eq, Int64.reduceAdd, Int64.reduceSub, Int64.reduceMul, Int64.reduceLT, n1_0]
  exact main
theorem btD2 (hS : Pm S) (hR : Pr R) (hK : Tks X Y T P n m p) (h : RbS X Y T P n m p a I L i ρ nP o κ) (q1 : T i = -5) (hq : ∀ J L', RbS X Y T P n m p a J L' (i + 1) (29 :: rSR 1 ρ) nP o (κ ++ rZp (rSP 1 ρ)) → Fx I J a → Q (.int (nI 0)) S J L' R) : EvM (d + 6) 177 [.ref 54] S I L R Q := by
  obtain ⟨hT, e13, e14, e20, ⟨q, nc, e19, eq, e15, hqn, ha⟩, hm, hn, ho, e12, hcd⟩ := id h
  have m4 := hK.1
  have m5 := hK.2.1
  have hi : i < m := h.lt hK (by rw [q1]; decide)
  have main : Ev (d + 6) 177 32 [.ref 54, .int 0] [.int 1, .ref 54] S I L R Q := by
    simp only [E177_32, pk54 hS, rfs, rfn, cs0, csi, csl, csr, csn, kti, ktl, ktr, ktn, ktv, ktf, true_and, and_true, and_self, ↓reduceIte, Nat.reduceAdd, Nat.reduceSub, Nat.reduceMul, Nat.reduceLT, Nat.reduceLeDiff, Nat.reduceEqDiff, true_or, or_true, false_or, or_false, not_true_eq_false, not_false_eq_true, reduceCtorEq, cmp_lt, cmp_gt, cmp_eq, Int32.reduceAdd, Int32.reduceSub, Int32.reduceMul, Int32.reduceLT, Int32.reduceToNatClampNeg, eq_self, ne_eq, Int64.reduceAdd, Int64.reduceSub, Int64.reduceMul, Int64.reduceLT]
    refine stE hS hR h e19 eq e15 (by omega) ha (by decide) (fun J q' nc' k1 k2 k3 k4 k5 k6 F => ?_)
    have j := k6 hqn
    simp only [E177_32, E177_35, E177_36, E177_37, E177_45, E177_47, E177_50, E177_51, psh_m hS hR k1 (show q' < 400 by omega), pk54 hS, rfs, rfn, cs0, csi, csl, csr, csn, kti, ktl, ktr, ktn, ktv, ktf, true_and, and_true, and_self, ↓reduceIte, Nat.reduceAdd, Nat.reduceSub, Nat.reduceMul, Nat.reduceLT, Nat.reduceLeDiff, Nat.reduceEqDiff, true_or, or_true, false_or, or_false, not_true_eq_false, not_false_eq_true, reduceCtorEq, cmp_lt, cmp_gt, cmp_eq, Int32.reduceAdd, Int32.reduceSub, Int32.reduceMul, Int32.reduceLT, Int32.reduceToNatClampNeg, eq_self, ne_eq, Int64.reduceAdd, Int64.reduceSub, Int64.reduceMul, Int64.reduceLT]
    refine psE (d := d + 3) (op := 29) hS hR hK j k1 k2 k3 (by omega) k5 hi (fun J2 L2 w1 w2 => ?_)
    simp only [E177_51, E177_54, E177_55, rfs, rfn, cs0, csi, csl, csr, csn, kti, ktl, ktr, ktn, ktv, ktf, true_and, and_true, and_self, ↓reduceIte, Nat.reduceAdd, Nat.reduceSub, Nat.reduceMul, Nat.reduceLT, Nat.reduceLeDiff, Nat.reduceEqDiff, true_or, or_true, false_or, or_false, not_true_eq_false, not_false_eq_true, reduceCtorEq, cmp_lt, cmp_gt, cmp_eq, Int32.reduceAdd, Int32.reduceSub, Int32.reduceMul, Int32.reduceLT, Int32.reduceToNatClampNeg, eq_self, ne_eq, Int64.reduceAdd, Int64.reduceSub, Int64.reduceMul, Int64.reduceLT]
    exact hq J2 L2 w1 (F.tr w2)
  have g1 := hT.w3
  have g2 := hT.w2
  rw [decide_eq_false (by rw [q1]; decide)] at g1
  rw [decide_eq_true q1] at g2
  simp only [M177, E177_0, E177_1, E177_4, E177_7, E177_8, E177_9, E177_12, E177_13, E177_16, E177_19, isw hS, pk54 hS, rfs, rfn, cs0, csi, csl, csr, csn, kti, ktl, ktr, ktn, ktv, ktf, true_and, and_true, and_self, ↓reduceIte, Nat.reduceAdd, Nat.reduceSub, Nat.reduceMul, Nat.reduceLT, Nat.reduceLeDiff, Nat.reduceEqDiff, true_or, or_true, false_or, or_false, not_true_eq_false, not_false_eq_true, reduceCtorEq, cmp_lt, cmp_gt, cmp_eq, Int32.reduceAdd, Int32.reduceSub, Int32.reduceMul, Int32.reduceLT, Int32.reduceToNatClampNeg, eq_self, ne_eq, Int64.reduceAdd, Int64.reduceSub, Int64.reduceMul, Int64.reduceLT, g1, g2, bI_f, bI_t, n1_0]
  simp only [E177_22, E177_23, E177_24, E177_31, pk54 hS, rfs, rfn, cs0, csi, csl, csr, csn, kti, ktl, ktr, ktn, ktv, ktf, true_and, and_true, and_self, ↓reduceIte, Nat.reduceAdd, Nat.reduceSub, Nat.reduceMul, Nat.reduceLT, Nat.reduceLeDiff, Nat.reduceEqDiff, true_or, or_true, false_or, or_false, not_true_eq_false, not_false_eq_true, reduceCtorEq, cmp_lt, cmp_gt, cmp_eq, Int32.reduceAdd, Int32.reduceSub, Int32.reduceMul, Int32.reduceLT, Int32.reduceToNatClampNeg, eq_self, ne_eq, Int64.reduceAdd, Int64.reduceSub, Int64.reduceMul, Int64.reduceLT]
  exact main
theorem btD3 (hS : Pm S) (hR : Pr R) (hK : Tks X Y T P n m p) (h : RbS X Y T P n m p a I L i ρ nP o κ) (q6 : ¬ T i = -6) (q5 : ¬ T i = -5) (g4 : rIn ρ = -1) (hq : ∀ J L', RbS X Y T P n m p a J L' i ρ nP o κ → Fx I J a → Q (.int (nI 4)) S J L' R) : EvM (d + 6) 177 [.ref 54] S I L R Q := by
  obtain ⟨hT, e13, e14, e20, ⟨q, nc, e19, eq, e15, hqn, ha⟩, hm, hn, ho, e12, hcd⟩ := id h
  have m4 := hK.1
  have m5 := hK.2.1
  have g1 := hT.w3
  have g2 := hT.w2
  rw [decide_eq_false q6] at g1
  rw [decide_eq_false q5] at g2
  simp only [M177, E177_0, E177_1, E177_4, E177_7, E177_8, E177_9, E177_12, E177_13, E177_16, E177_19, E177_56, E177_57, isw hS, pk54 hS, rfs, rfn, cs0, csi, csl, csr, csn, kti, ktl, ktr, ktn, ktv, ktf, true_and, and_true, and_self, ↓reduceIte, Nat.reduceAdd, Nat.reduceSub, Nat.reduceMul, Nat.reduceLT, Nat.reduceLeDiff, Nat.reduceEqDiff, true_or, or_true, false_or, or_false, not_true_eq_false, not_false_eq_true, reduceCtorEq, cmp_lt, cmp_gt, cmp_eq, Int32.reduceAdd, Int32.reduceSub, Int32.reduceMul, Int32.reduceLT, Int32.reduceToNatClampNeg, eq_self, ne_eq, Int64.reduceAdd, Int64.reduceSub, Int64.reduceMul, Int64.reduceLT, g1, g2, bI_f]
  refine inr_ hS hR (p := q) (by omega) e19 (fun v hv => ?_)
  obtain rfl : v = rIn ρ := by
    rw [eq]
    exact pil_in q hv
  have g4' : (rIn ρ = -1) = True := eq_true g4
  simp only [E177_57, E177_60, E177_61, E177_64, E177_65, rfs, rfn, cs0, csi, csl, csr, csn, kti, ktl, ktr, ktn, ktv, ktf, true_and, and_true, and_self, ↓reduceIte, Nat.reduceAdd, Nat.reduceSub, Nat.reduceMul, Nat.reduceLT, Nat.reduceLeDiff, Nat.reduceEqDiff, true_or, or_true, false_or, or_false, not_true_eq_false, not_false_eq_true, reduceCtorEq, cmp_lt, cmp_gt, cmp_eq, Int32.reduceAdd, Int32.reduceSub, Int32.reduceMul, Int32.reduceLT, Int32.reduceToNatClampNeg, eq_self, ne_eq, Int64.reduceAdd, Int64.reduceSub, Int64.reduceMul, Int64.reduceLT, g4']
  exact hq I L h Fx.rf
theorem btD4 {x : Int32} {r : List Int32} (hS : Pm S) (hR : Pr R) (hK : Tks X Y T P n m p) (h : RbS X Y T P n m p a I L i ρ nP (o + 1) κ) (q6 : ¬ T i = -6) (q5 : ¬ T i = -5) (g4 : ¬ rIn ρ = -1) (ec : T i = -141) (er : rSR 1 ρ = x :: r) (hq : ∀ J L', RbS X Y T P n m p a J L' (i + 1) r nP o (κ ++ rZp (rSP 1 ρ)) → Fx I J a → Q (.int (nI 2)) S J L' R) : EvM (d + 6) 177 [.ref 54] S I L R Q := by
  obtain ⟨hT, e13, e14, e20, ⟨q, nc, e19, eq, e15, hqn, ha⟩, hm, hn, ho, e12, hcd⟩ := id h
  have m4 := hK.1
  have m5 := hK.2.1
  have hi : i < m := h.lt hK (by rw [ec]; decide)
  have g1 := hT.w3
  have g2 := hT.w2
  rw [decide_eq_false q6] at g1
  rw [decide_eq_false q5] at g2
  simp only [M177, E177_0, E177_1, E177_4, E177_7, E177_8, E177_9, E177_12, E177_13, E177_16, E177_19, E177_56, E177_57, isw hS, pk54 hS, rfs, rfn, cs0, csi, csl, csr, csn, kti, ktl, ktr, ktn, ktv, ktf, true_and, and_true, and_self, ↓reduceIte, Nat.reduceAdd, Nat.reduceSub, Nat.reduceMul, Nat.reduceLT, Nat.reduceLeDiff, Nat.reduceEqDiff, true_or, or_true, false_or, or_false, not_true_eq_false, not_false_eq_true, reduceCtorEq, cmp_lt, cmp_gt, cmp_eq, Int32.reduceAdd, Int32.reduceSub, Int32.reduceMul, Int32.reduceLT, Int32.reduceToNatClampNeg, eq_self, ne_eq, Int64.reduceAdd, Int64.reduceSub, Int64.reduceMul, Int64.reduceLT, g1, g2, bI_f]
  refine inr_ hS hR (p := q) (by omega) e19 (fun v hv => ?_)
  obtain rfl : v = rIn ρ := by
    rw [eq]
    exact pil_in q hv
  have g3 := hT.sg (x := 41) (c := 41) (by decide) rfl
  rw [decide_eq_true (show T i = -100 - 41 by rw [ec]; decide)] at g3
  simp only [E177_57, E177_60, E177_61, E177_66, E177_67, E177_68, E177_70, E177_73, isg hS, pk54 hS, rfs, rfn, cs0, csi, csl, csr, csn, kti, ktl, ktr, ktn, ktv, ktf, true_and, and_true, and_self, ↓reduceIte, Nat.reduceAdd, Nat.reduceSub, Nat.reduceMul, Nat.reduceLT, Nat.reduceLeDiff, Nat.reduceEqDiff, true_or, or_true, false_or, or_false, not_true_eq_false, not_false_eq_true, reduceCtorEq, cmp_lt, cmp_gt, cmp_eq, Int32.reduceAdd, Int32.reduceSub, Int32.reduceMul, Int32.reduceLT, Int32.reduceToNatClampNeg, eq_self, ne_eq, Int64.reduceAdd, Int64.reduceSub, Int64.reduceMul, Int64.reduceLT, g4, g3, bI_t]
  refine muE_y (d := d + 2) hS hR hK hi hT e13 (fun J L' k1 k2 k3 => ?_)
  have j := h.nx k2 k1 (Nat.le_succ i) hi
  simp only [E177_73, E177_76, E177_77, E177_80, E177_83, E177_84, E177_85, pk54 hS, rfs, rfn, cs0, csi, csl, csr, csn, kti, ktl, ktr, ktn, ktv, ktf, true_and, and_true, and_self, ↓reduceIte, Nat.reduceAdd, Nat.reduceSub, Nat.reduceMul, Nat.reduceLT, Nat.reduceLeDiff, Nat.reduceEqDiff, true_or, or_true, false_or, or_false, not_true_eq_false, not_false_eq_true, reduceCtorEq, cmp_lt, cmp_gt, cmp_eq, Int32.reduceAdd, Int32.reduceSub, Int32.reduceMul, Int32.reduceLT, Int32.reduceToNatClampNeg, eq_self, ne_eq, Int64.reduceAdd, Int64.reduceSub, Int64.reduceMul, Int64.reduceLT, k3]
  refine stE hS hR j ((k2.2 19 (by decide)).trans e19) (by rw [k2.1 62 (by decide)]; exact eq) ((k2.2 15 (by decide)).trans e15) (by omega) ha (by decide) (fun J2 q' nc' w1 w2 w3 w4 w5 w6 F => ?_)
  obtain ⟨jT, j13, j14, j20, _, _, _, _, j12, jcd⟩ := w6 (by omega)
  rw [er] at w2
  obtain ⟨q3, rfl, e62, er2⟩ := pil_c w2
  simp only [E177_85, E177_88, E177_89, E177_90, E177_93, E177_94, E177_95, E177_98, E177_99, E177_100, E177_103, E177_104, E177_105, E177_108, E177_109, pk54 hS, rfs, rfn, cs0, csi, csl, csr, csn, kti, ktl, ktr, ktn, ktv, ktf, true_and, and_true, and_self, ↓reduceIte, Nat.reduceAdd, Nat.reduceSub, Nat.reduceMul, Nat.reduceLT, Nat.reduceLeDiff, Nat.reduceEqDiff, true_or, or_true, false_or, or_false, not_true_eq_false, not_false_eq_true, reduceCtorEq, cmp_lt, cmp_gt, cmp_eq, Int32.reduceAdd, Int32.reduceSub, Int32.reduceMul, Int32.reduceLT, Int32.reduceToNatClampNeg, eq_self, ne_eq, Int64.reduceAdd, Int64.reduceSub, Int64.reduceMul, Int64.reduceLT, w1, nI_m1, pt, pt_f]
  exact hq _ L' (RbS.po (o := o) jT j13 j14 j20 j12 er2 w3 (by omega) w5 hi hn ho jcd) (Fx.p (Fx.p (k2.m.x.tr F) (by decide)) (by decide))
theorem btD5 (hS : Pm S) (hR : Pr R) (hK : Tks X Y T P n m p) (h : RbS X Y T P n m p a I L i ρ nP o κ) (q6 : ¬ T i = -6) (q5 : ¬ T i = -5) (g4 : ¬ rIn ρ = -1) (ec : ¬ T i = -141) (hq : ∀ J L', BaS P a J i → Fx I J a → Q (.int (nI 2)) S J L' R) : EvM (d + 6) 177 [.ref 54] S I L R Q := by
  obtain ⟨hT, e13, e14, e20, ⟨q, nc, e19, eq, e15, hqn, ha⟩, hm, hn, ho, e12, hcd⟩ := id h
  have m4 := hK.1
  have m5 := hK.2.1
  have g1 := hT.w3
  have g2 := hT.w2
  rw [decide_eq_false q6] at g1
  rw [decide_eq_false q5] at g2
  simp only [M177, E177_0, E177_1, E177_4, E177_7, E177_8, E177_9, E177_12, E177_13, E177_16, E177_19, E177_56, E177_57, isw hS, pk54 hS, rfs, rfn, cs0, csi, csl, csr, csn, kti, ktl, ktr, ktn, ktv, ktf, true_and, and_true, and_self, ↓reduceIte, Nat.reduceAdd, Nat.reduceSub, Nat.reduceMul, Nat.reduceLT, Nat.reduceLeDiff, Nat.reduceEqDiff, true_or, or_true, false_or, or_false, not_true_eq_false, not_false_eq_true, reduceCtorEq, cmp_lt, cmp_gt, cmp_eq, Int32.reduceAdd, Int32.reduceSub, Int32.reduceMul, Int32.reduceLT, Int32.reduceToNatClampNeg, eq_self, ne_eq, Int64.reduceAdd, Int64.reduceSub, Int64.reduceMul, Int64.reduceLT, g1, g2, bI_f]
  refine inr_ hS hR (p := q) (by omega) e19 (fun v hv => ?_)
  obtain rfl : v = rIn ρ := by
    rw [eq]
    exact pil_in q hv
  have g3 := hT.sg (x := 41) (c := 41) (by decide) rfl
  rw [decide_eq_false (fun z => ec (z.trans (by decide)))] at g3
  simp only [E177_57, E177_60, E177_61, E177_66, E177_67, E177_68, E177_70, E177_73, isg hS, pk54 hS, rfs, rfn, cs0, csi, csl, csr, csn, kti, ktl, ktr, ktn, ktv, ktf, true_and, and_true, and_self, ↓reduceIte, Nat.reduceAdd, Nat.reduceSub, Nat.reduceMul, Nat.reduceLT, Nat.reduceLeDiff, Nat.reduceEqDiff, true_or, or_true, false_or, or_false, not_true_eq_false, not_false_eq_true, reduceCtorEq, cmp_lt, cmp_gt, cmp_eq, Int32.reduceAdd, Int32.reduceSub, Int32.reduceMul, Int32.reduceLT, Int32.reduceToNatClampNeg, eq_self, ne_eq, Int64.reduceAdd, Int64.reduceSub, Int64.reduceMul, Int64.reduceLT, g4, g3, bI_f]
  refine muE_n (d := d + 2) hS hR e13 (fun J k1 k2 k3 k4 => ?_)
  simp only [E177_73, E177_76, E177_77, E177_80, E177_108, E177_109, pk54 hS, rfs, rfn, cs0, csi, csl, csr, csn, kti, ktl, ktr, ktn, ktv, ktf, true_and, and_true, and_self, ↓reduceIte, Nat.reduceAdd, Nat.reduceSub, Nat.reduceMul, Nat.reduceLT, Nat.reduceLeDiff, Nat.reduceEqDiff, true_or, or_true, false_or, or_false, not_true_eq_false, not_false_eq_true, reduceCtorEq, cmp_lt, cmp_gt, cmp_eq, Int32.reduceAdd, Int32.reduceSub, Int32.reduceMul, Int32.reduceLT, Int32.reduceToNatClampNeg, eq_self, ne_eq, Int64.reduceAdd, Int64.reduceSub, Int64.reduceMul, Int64.reduceLT, k2, n1_0]
  exact hq J L (h.ba hK k1 k2 k3) k1.x
end RQ
