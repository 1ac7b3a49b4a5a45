/-! the reference's reader: behindSum, behindTest, readExpression -/
theorem i30a {x : Int32} : (x < 30) = (x.toInt < 30) := by rw [Int32.lt_iff_toInt_lt]; rfl
theorem i30b {x : Int32} : (30 < x) = (30 < x.toInt) := by rw [Int32.lt_iff_toInt_lt]; rfl
/-- what inner tells -/
def InW (P : Nat → Int32) (p : Nat) (v : Int32) : Prop := (v = -1 ∧ ∀ i, i < p → P i < 30) ∨ (∃ i, i < p ∧ v = P i ∧ ¬ P i < 30 ∧ ∀ j, i < j → j < p → P j < 30)
theorem InW.no {P : Nat → Int32} {p : Nat} {v : Int32} (h : InW P p v) (hP : PlO P p) (hv : ¬ 30 < v) : ∀ k, k < p → ¬ 30 < P k := by
  intro k hk z
  rcases h with ⟨_, h⟩ | ⟨i, h1, rfl, h3, h4⟩
  · have := h k hk
    rw [i30a] at this
    rw [i30b] at z
    omega
  · by_cases e : k = i
    · rw [e] at z; exact hv z
    by_cases l : k < i
    · have y := hP.2 k i l h1 z
      rcases y with y | y | y
      · rw [y] at h3; exact absurd (by decide) h3
      · rw [y] at h3; exact absurd (by decide) h3
      · exact hv y
    · have := h4 k (by omega) hk
      rw [i30a] at this
      rw [i30b] at z
      omega
section TV
variable {d a f nc p : Nat} {S : mS} {I : mI} {L : mL} {R : mR} {Q : mQ}
theorem Rm.lt (h : Rm I L a f nc p false) (h0 : ¬ I 54 10 = 0) : f < 400 := by
  obtain ⟨t, n, s, h1, h2, h3, h4, h5, h6, h7, h8, h9, h10⟩ := h.1
  rcases h9 with h9 | h9
  · exact absurd (by rw [h5, h9]; rfl) h0
  · omega
/-- an operator comes onto the pile, behind settle; then next -/
theorem ps_nx {op : Int32} {tn : Nat} (hS : Pm S) (hR : Pr R) (hM : Rm I L a f nc p false) (h0 : ¬ I 54 10 = 0) (ho : Opv op) (hb : bn1 op = 1) (hP : PlO (I 62) p) (hu : (∀ i, i < p → ¬ 30 < I 62 i) ∨ (op = 20 ∨ op = 21) ∧ tn = 1) (hn : ¬ 30 < op) (ht : tn = 0 ∨ tn = 1) (hD : Dp (I 60) a (nc - a) (Bc (I 62) p + 1)) (hq : ∀ J L' f', Rr J L' a tn f' → f < f' → Fx I J a → Q .null S J L' R) : EvM (d + 2) 159 [.ref 54] S (put (put I 62 p op) 54 19 (nI (p + 1))) L R Q := by
  obtain ⟨hT, e13, e15, e19, hf, ha⟩ := id hM
  refine nxT (f := f) hS hR (hT.cg (fun k q1 q2 => by rw [pt_f (by omega), pt_m (by decide)])) (by rw [pt_f (by decide), pt_m (by decide)]; exact h0) (fun J L' f' k1 k2 k3 => ?_)
  have K0 : Fx I (put (put I 62 p op) 54 19 (nI (p + 1))) a := Fx.p (Fx.q Fx.rf (by decide)) (by decide)
  refine hq J L' f' ⟨nc, p + 1, false, ⟨k2, ?_, ?_, ?_, by omega, ha⟩, fun _ => ?_⟩ k1 (K0.tr k3.m.x)
  · rw [k3.2 13 (by decide), pt_f (by decide), pt_m (by decide)]; exact e13
  · rw [k3.2 15 (by decide), pt_f (by decide), pt_m (by decide)]; exact e15
  · rw [k3.2 19 (by decide), pt_s]
  · rw [k3.1 60 (by decide), k3.1 62 (by decide), pt_n (by decide), pt_n (by decide), pt_n (by decide), pt_c]
    refine ⟨hP.up ho ?_, fun z i hi => ?_, ?_, fun z => by omega⟩
    · rcases hu with hu | ⟨hu, _⟩
      · exact Or.inl hu
      · rcases hu with hu | hu
        · exact Or.inr (Or.inl hu)
        · exact Or.inr (Or.inr (Or.inl hu))
    · rcases hu with hu | ⟨_, hu⟩
      · by_cases e : i = p
        · rw [e, uu_s]; exact hn
        · rw [uu_n _ _ e]; exact hu i (by omega)
      · omega
    · rw [Bc.up, hb, if_neg (by omega)]; exact hD
theorem nullK {v : Value} {S S' : mS} {I' : mI} {L' : mL} {R' : mR} : Q v S' I' L' R' = Q v S' I' L' R' := rfl
/-- behindSum -/
theorem bhs {tst : Bool} (hS : Pm S) (hR : Pr R) (hM : Rm I L a f nc p false) (hV : Rv (I 60) (I 62) a nc p 3) (hq : ∀ J L' f' tn, Rr J L' a tn f' → tn ≤ 4 → f ≤ f' → (J 54 13 = 1 ∨ f < f' ∨ tn = 4 ∨ tn = 2) → Fx I J a → Q (.int (nI tn)) S J L' R) : EvM (d + 6) 176 [.ref 54, .int (bI tst)] S I L R Q := by
  obtain ⟨hT, e13, e15, e19, hf, ha⟩ := id hM
  have f4 := hT.le
  have sv : True → (∀ i, i < p → Opv (I 62 i)) ∧ Dp (I 60) a (nc - a) (Bc (I 62) p + 1) := fun _ => ⟨hV.1.1, hV.2.2.1⟩
  have plus : ¬ I 54 10 = 0 → ∀ y2 y3, Ev (d + 6) 176 18 [.ref 54, .int (bI tst), y2, y3] [] S I L R Q := by
    intro h0 y2 y3
    have fl := hM.lt h0
    simp only [E176_18, E176_19, E176_20, pk54 hS, rfs, rfn, cs0, csi, csl, csr, csn, kti, ktl, ktr, ktn, ktv, ktf, true_and, and_true, and_self, ↓reduceIte, Nat.reduceAdd, Nat.reduceSub, Nat.reduceMul, Nat.reduceLT, Nat.reduceLeDiff, Nat.reduceEqDiff, true_or, or_true, false_or, or_false, not_true_eq_false, not_false_eq_true, reduceCtorEq, cmp_lt, cmp_gt, cmp_eq, Int32.reduceAdd, Int32.reduceSub, Int32.reduceMul, Int32.reduceLT, Int32.reduceToNatClampNeg, eq_self, ne_eq, Int64.reduceAdd, Int64.reduceSub, Int64.reduceMul, Int64.reduceLT]
    refine set_ (a := a) (v := True) hS hR (by decide) e15 e19 (by omega) ha sv (fun J p' nc' k1 k2 k3 k4 k5 k6 k7 k8 k9 k10 => ?_)
    have jM : Rm J L a f nc' p' false := ⟨hT.cg (fun k q1 q2 => k10.2.1 k (by omega) (by omega)), (k10.2.1 13 (by decide) (by decide)).trans e13, k4, k5, by omega, by omega⟩
    have jP : PlO (J 62) p' := by rw [k6]; exact hV.1.mono k1
    have j0 : ¬ J 54 10 = 0 := by rw [k10.2.1 10 (by decide) (by decide)]; exact h0
    have jD : Dp (J 60) a (nc' - a) (Bc (J 62) p' + 1) := by rw [k6]; exact k9 trivial
    cases g4 : sgB J L 43
    · simp only [E176_20, E176_23, E176_24, E176_25, E176_27, E176_30, E176_33, E176_35, E176_38, E176_40, E176_43, E176_44, isg hS, psh_m hS hR k5 (show p' < 400 by omega), pk54 hS, rfs, rfn, cs0, csi, csl, csr, csn, kti, ktl, ktr, ktn, ktv, ktf, true_and, and_true, and_self, ↓reduceIte, Nat.reduceAdd, Nat.reduceSub, Nat.reduceMul, Nat.reduceLT, Nat.reduceLeDiff, Nat.reduceEqDiff, true_or, or_true, false_or, or_false, not_true_eq_false, not_false_eq_true, reduceCtorEq, cmp_lt, cmp_gt, cmp_eq, Int32.reduceAdd, Int32.reduceSub, Int32.reduceMul, Int32.reduceLT, Int32.reduceToNatClampNeg, eq_self, ne_eq, Int64.reduceAdd, Int64.reduceSub, Int64.reduceMul, Int64.reduceLT, g4, bI_f]
      refine ps_nx (d := d + 3) (op := 21) (tn := 1) hS hR jM j0 (by unfold Opv; simp) rfl jP (Or.inr ⟨Or.inr rfl, rfl⟩) (by decide) (Or.inr rfl) jD (fun J2 L2 f2 q1 q2 q3 => ?_)
      simp only [E176_44, E176_47, E176_48, rfs, rfn, cs0, csi, csl, csr, csn, kti, ktl, ktr, ktn, ktv, ktf, true_and, and_true, and_self, ↓reduceIte, Nat.reduceAdd, Nat.reduceSub, Nat.reduceMul, Nat.reduceLT, Nat.reduceLeDiff, Nat.reduceEqDiff, true_or, or_true, false_or, or_false, not_true_eq_false, not_false_eq_true, reduceCtorEq, cmp_lt, cmp_gt, cmp_eq, Int32.reduceAdd, Int32.reduceSub, Int32.reduceMul, Int32.reduceLT, Int32.reduceToNatClampNeg, eq_self, ne_eq, Int64.reduceAdd, Int64.reduceSub, Int64.reduceMul, Int64.reduceLT]
      exact hq J2 L2 f2 1 q1 (by decide) (by omega) (Or.inr (Or.inl q2)) ((k10.x (by omega)).tr q3)
    · simp only [E176_20, E176_23, E176_24, E176_25, E176_27, E176_30, E176_33, E176_35, E176_38, E176_40, E176_43, E176_44, isg hS, psh_m hS hR k5 (show p' < 400 by omega), pk54 hS, rfs, rfn, cs0, csi, csl, csr, csn, kti, ktl, ktr, ktn, ktv, ktf, true_and, and_true, and_self, ↓reduceIte, Nat.reduceAdd, Nat.reduceSub, Nat.reduceMul, Nat.reduceLT, Nat.reduceLeDiff, Nat.reduceEqDiff, true_or, or_true, false_or, or_false, not_true_eq_false, not_false_eq_true, reduceCtorEq, cmp_lt, cmp_gt, cmp_eq, Int32.reduceAdd, Int32.reduceSub, Int32.reduceMul, Int32.reduceLT, Int32.reduceToNatClampNeg, eq_self, ne_eq, Int64.reduceAdd, Int64.reduceSub, Int64.reduceMul, Int64.reduceLT, g4, bI_t, n1_0]
      refine ps_nx (d := d + 3) (op := 20) (tn := 1) hS hR jM j0 (by unfold Opv; simp) rfl jP (Or.inr ⟨Or.inl rfl, rfl⟩) (by decide) (Or.inr rfl) jD (fun J2 L2 f2 q1 q2 q3 => ?_)
      simp only [E176_44, E176_47, E176_48, rfs, rfn, cs0, csi, csl, csr, csn, kti, ktl, ktr, ktn, ktv, ktf, true_and, and_true, and_self, ↓reduceIte, Nat.reduceAdd, Nat.reduceSub, Nat.reduceMul, Nat.reduceLT, Nat.reduceLeDiff, Nat.reduceEqDiff, true_or, or_true, false_or, or_false, not_true_eq_false, not_false_eq_true, reduceCtorEq, cmp_lt, cmp_gt, cmp_eq, Int32.reduceAdd, Int32.reduceSub, Int32.reduceMul, Int32.reduceLT, Int32.reduceToNatClampNeg, eq_self, ne_eq, Int64.reduceAdd, Int64.reduceSub, Int64.reduceMul, Int64.reduceLT]
      exact hq J2 L2 f2 1 q1 (by decide) (by omega) (Or.inr (Or.inl q2)) ((k10.x (by omega)).tr q3)
  cases g1 : sgB I L 43
  · cases g2 : sgB I L 45
    · simp only [M176, E176_0, E176_1, E176_3, E176_6, E176_9, E176_10, E176_12, E176_15, E176_49, E176_50, isg hS, pk54 hS, rfs, rfn, cs0, csi, csl, csr, csn, kti, ktl, ktr, ktn, ktv, ktf, true_and, and_true, and_self, ↓reduceIte, Nat.reduceAdd, Nat.reduceSub, Nat.reduceMul, Nat.reduceLT, Nat.reduceLeDiff, Nat.reduceEqDiff, true_or, or_true, false_or, or_false, not_true_eq_false, not_false_eq_true, reduceCtorEq, cmp_lt, cmp_gt, cmp_eq, Int32.reduceAdd, Int32.reduceSub, Int32.reduceMul, Int32.reduceLT, Int32.reduceToNatClampNeg, eq_self, ne_eq, Int64.reduceAdd, Int64.reduceSub, Int64.reduceMul, Int64.reduceLT, g1, g2, bI_f]
      refine inr_ hS hR (p := p) (by omega) e19 (fun v hv => ?_)
      have hv' : InW (I 62) p v := hv
      by_cases g3 : 30 < v
      · obtain ⟨i, i1, i2, i3, i4⟩ : ∃ i, i < p ∧ v = I 62 i ∧ ¬ I 62 i < 30 ∧ ∀ j, i < j → j < p → I 62 j < 30 := by
          rcases hv with ⟨h, _⟩ | h
          · rw [h] at g3; exact absurd g3 (by decide)
          · exact h
        have vO : Opv v := by rw [i2]; exact hV.1.1 i i1
        have key : ∀ b' : Bool, (b' = true → ¬ I 54 10 = 0) → ∀ y3, Ev (d + 6) 176 78 [.ref 54, .int (bI tst), .int v, y3] [.int (bI b'), .ref 54] S I L R Q := by
          intro b' hb' y3
          simp only [E176_78, pk54 hS, rfs, rfn, cs0, csi, csl, csr, csn, kti, ktl, ktr, ktn, ktv, ktf, true_and, and_true, and_self, ↓reduceIte, Nat.reduceAdd, Nat.reduceSub, Nat.reduceMul, Nat.reduceLT, Nat.reduceLeDiff, Nat.reduceEqDiff, true_or, or_true, false_or, or_false, not_true_eq_false, not_false_eq_true, reduceCtorEq, cmp_lt, cmp_gt, cmp_eq, Int32.reduceAdd, Int32.reduceSub, Int32.reduceMul, Int32.reduceLT, Int32.reduceToNatClampNeg, eq_self, ne_eq, Int64.reduceAdd, Int64.reduceSub, Int64.reduceMul, Int64.reduceLT]
          refine mus (d := d + 2) hS hR hT e13 hb' (fun J L' f' bad' k1 k2 k3 k4 k5 => ?_)
          have j15 : J 54 15 = nI nc := (k3.2 15 (by decide)).trans e15
          have j19 : J 54 19 = nI p := (k3.2 19 (by decide)).trans e19
          have j62 : J 62 = I 62 := k3.1 62 (by decide)
          have j60 : J 60 = I 60 := k3.1 60 (by decide)
          cases bad'
          · obtain ⟨_, _, hlt⟩ := k5 rfl
            have f5 := k2.le
            simp only [E176_78, E176_81, E176_82, E176_85, E176_88, E176_89, E176_90, pk54 hS, rfs, rfn, cs0, csi, csl, csr, csn, kti, ktl, ktr, ktn, ktv, ktf, true_and, and_true, and_self, ↓reduceIte, Nat.reduceAdd, Nat.reduceSub, Nat.reduceMul, Nat.reduceLT, Nat.reduceLeDiff, Nat.reduceEqDiff, true_or, or_true, false_or, or_false, not_true_eq_false, not_false_eq_true, reduceCtorEq, cmp_lt, cmp_gt, cmp_eq, Int32.reduceAdd, Int32.reduceSub, Int32.reduceMul, Int32.reduceLT, Int32.reduceToNatClampNeg, eq_self, ne_eq, Int64.reduceAdd, Int64.reduceSub, Int64.reduceMul, Int64.reduceLT, k4, bI_f]
            refine set_ (a := a) (v := True) hS hR (by decide) j15 j19 (by omega) ha (by rw [j60, j62]; exact sv) (fun J2 p' nc' q1 q2 q3 q4 q5 q6 q7 q8 q9 q10 => ?_)
            rw [j62] at q6 q7 q8 q9
            have hp' : p' = i + 1 := by
              have l1 : i < p' := Classical.byContradiction (fun z => q7 i (by omega) i1 (by rw [bnF0 i3]; decide))
              rcases q8 with q8 | q8
              · omega
              · refine Classical.byContradiction (fun z => ?_)
                have l2 := i4 (p' - 1) (by omega) (by omega)
                have l3 := hV.1.2 i (p' - 1) (by omega) (by omega) (by rw [← i2]; exact g3)
                rcases l3 with l3 | l3 | l3
                · exact bnF5 (Or.inl l3) q8
                · exact bnF5 (Or.inr l3) q8
                · rw [i30a] at l2
                  rw [i30b] at l3
                  omega
            subst hp'
            have Z0 : Fx I (put (put J2 54 19 (nI i)) 54 20 (J2 54 20 - 1)) a := Fx.p (Fx.p (k3.x.tr (q10.x ha)) (by decide)) (by decide)
            have z13 : put (put J2 54 19 (nI i)) 54 20 (J2 54 20 - 1) 54 13 = bI false := by rw [pt_f (by decide), pt_f (by decide), q10.2.1 13 (by decide) (by decide)]; exact k4
            have z15 : put (put J2 54 19 (nI i)) 54 20 (J2 54 20 - 1) 54 15 = nI nc' := by rw [pt_f (by decide), pt_f (by decide)]; exact q4
            have z19 : put (put J2 54 19 (nI i)) 54 20 (J2 54 20 - 1) 54 19 = nI i := by rw [pt_f (by decide), pt_s]
            have zT : Tk (put (put J2 54 19 (nI i)) 54 20 (J2 54 20 - 1)) L' f' := k2.cg (fun k w1 w2 => by rw [pt_f (by omega), pt_f (by omega)]; exact q10.2.1 k (by omega) (by omega))
            have z62 : put (put J2 54 19 (nI i)) 54 20 (J2 54 20 - 1) 62 = I 62 := by rw [pt_n (by decide), pt_n (by decide)]; exact q6
            have zD : Dp (put (put J2 54 19 (nI i)) 54 20 (J2 54 20 - 1) 60) a (nc' - a) (Bc (I 62) i + 1) := by
              rw [pt_n (by decide), pt_n (by decide)]
              have := q9 trivial
              have e : Bc (I 62) (i + 1) = Bc (I 62) i := by
                show Bc (I 62) i + bn1 (I 62 i) = _
                rw [show bn1 (I 62 i) = 0 from if_pos (Or.inr i3)]
                rfl
              rw [e] at this
              exact this
            have zM : Rm (put (put J2 54 19 (nI i)) 54 20 (J2 54 20 - 1)) L' a f' nc' i false := ⟨zT, z13, z15, z19, by omega, by omega⟩
            by_cases g5 : v = 31
            · have g5' : (v = 31) = True := eq_true g5
              simp only [E176_90, E176_93, E176_94, E176_95, E176_98, E176_99, E176_100, E176_103, E176_104, E176_105, E176_108, E176_109, E176_110, E176_113, E176_114, E176_116, E176_125, E176_126, pk54 hS, rfs, rfn, cs0, csi, csl, csr, csn, kti, ktl, ktr, ktn, ktv, ktf, true_and, and_true, and_self, ↓reduceIte, Nat.reduceAdd, Nat.reduceSub, Nat.reduceMul, Nat.reduceLT, Nat.reduceLeDiff, Nat.reduceEqDiff, true_or, or_true, false_or, or_false, not_true_eq_false, not_false_eq_true, reduceCtorEq, cmp_lt, cmp_gt, cmp_eq, Int32.reduceAdd, Int32.reduceSub, Int32.reduceMul, Int32.reduceLT, Int32.reduceToNatClampNeg, eq_self, ne_eq, Int64.reduceAdd, Int64.reduceSub, Int64.reduceMul, Int64.reduceLT, q5, nI_m1, pt, pt_f, g5']
              exact hq _ L' f' 3 ⟨nc', i, false, zM, fun _ => ⟨by rw [z62]; exact hV.1.mono (by omega), fun z => by omega, by rw [z62]; exact zD, fun z => by omega⟩⟩ (by decide) k1 (Or.inr (Or.inl hlt)) Z0
            · simp only [E176_90, E176_93, E176_94, E176_95, E176_98, E176_99, E176_100, E176_103, E176_104, E176_105, E176_108, E176_109, E176_110, E176_113, E176_114, E176_116, E176_119, E176_120, E176_121, E176_122, E176_125, E176_126, emt hS hR z15 (show nc' < 400 by omega), pk54 hS, rfs, rfn, cs0, csi, csl, csr, csn, kti, ktl, ktr, ktn, ktv, ktf, true_and, and_true, and_self, ↓reduceIte, Nat.reduceAdd, Nat.reduceSub, Nat.reduceMul, Nat.reduceLT, Nat.reduceLeDiff, Nat.reduceEqDiff, true_or, or_true, false_or, or_false, not_true_eq_false, not_false_eq_true, reduceCtorEq, cmp_lt, cmp_gt, cmp_eq, Int32.reduceAdd, Int32.reduceSub, Int32.reduceMul, Int32.reduceLT, Int32.reduceToNatClampNeg, eq_self, ne_eq, Int64.reduceAdd, Int64.reduceSub, Int64.reduceMul, Int64.reduceLT, q5, nI_m1, pt, pt_f, g5]
              generalize put (put J2 54 19 (nI i)) 54 20 (J2 54 20 - 1) = Z at Z0 z13 z15 z19 zT z62 zD zM
              refine hq _ L' f' 3 ⟨nc' + 1, i, false, ⟨zT.cg (fun k w1 w2 => by rw [pt_f (by omega), pt_m (by decide), pt_m (by decide)]), ?_, pt_s, ?_, by omega, by omega⟩, fun _ => ⟨?_, fun z => by omega, ?_, fun z => by omega⟩⟩ (by decide) k1 (Or.inr (Or.inl hlt)) (Fx.p (Fx.q (Fx.e Z0 (by omega)) (by decide)) (by decide))
              · rw [pt_f (by decide), pt_m (by decide), pt_m (by decide)]; exact z13
              · rw [pt_f (by decide), pt_m (by decide), pt_m (by decide)]; exact z19
              · rw [pt_n (by decide), pt_n (by decide), pt_n (by decide), z62]; exact hV.1.mono (by omega)
              · rw [pt_n (by decide), pt_n (by decide), pt_c, pt_n (by decide), pt_n (by decide), pt_n (by decide), z62]
                refine Dp.put (x := v) zD (by omega) (fun k hk => uu_n _ _ (by omega)) (uu_s _ _ _) (Or.inr (Or.inl ?_))
                rcases vO with h | h | h | h | h | h | h | h | h | h | h | h
                all_goals first
                  | exact absurd h g5
                  | (rw [h] at g3; exact absurd g3 (by decide))
                  | (rw [h]; exact ⟨by decide, Or.inr (by decide), by omega, rfl⟩)
          · simp only [E176_78, E176_81, E176_82, E176_85, E176_125, E176_126, pk54 hS, rfs, rfn, cs0, csi, csl, csr, csn, kti, ktl, ktr, ktn, ktv, ktf, true_and, and_true, and_self, ↓reduceIte, Nat.reduceAdd, Nat.reduceSub, Nat.reduceMul, Nat.reduceLT, Nat.reduceLeDiff, Nat.reduceEqDiff, true_or, or_true, false_or, or_false, not_true_eq_false, not_false_eq_true, reduceCtorEq, cmp_lt, cmp_gt, cmp_eq, Int32.reduceAdd, Int32.reduceSub, Int32.reduceMul, Int32.reduceLT, Int32.reduceToNatClampNeg, eq_self, ne_eq, Int64.reduceAdd, Int64.reduceSub, Int64.reduceMul, Int64.reduceLT, k4, bI_t, n1_0]
            exact hq J L' f' 3 ⟨nc, p, true, ⟨k2, k4, j15, j19, by omega, ha⟩, fun z => by cases z⟩ (by decide) k1 (Or.inl k4) k3.x
        simp only [E176_50, E176_53, E176_54, E176_55, E176_57, E176_60, E176_61, E176_62, E176_63, E176_65, E176_68, E176_70, E176_73, E176_75, isg hS, pk54 hS, rfs, rfn, cs0, csi, csl, csr, csn, kti, ktl, ktr, ktn, ktv, ktf, true_and, and_true, and_self, ↓reduceIte, Nat.reduceAdd, Nat.reduceSub, Nat.reduceMul, Nat.reduceLT, Nat.reduceLeDiff, Nat.reduceEqDiff, true_or, or_true, false_or, or_false, not_true_eq_false, not_false_eq_true, reduceCtorEq, cmp_lt, cmp_gt, cmp_eq, Int32.reduceAdd, Int32.reduceSub, Int32.reduceMul, Int32.reduceLT, Int32.reduceToNatClampNeg, eq_self, ne_eq, Int64.reduceAdd, Int64.reduceSub, Int64.reduceMul, Int64.reduceLT, g3]
        apply iteB
        all_goals exact key _ sgB0 _
      · have nob := hv'.no hV.1 g3
        have rest : ∀ y3, Ev (d + 6) 176 138 [.ref 54, .int (bI tst), .int v, y3] [] S I L R Q := by
          intro y3
          simp only [E176_138, E176_139, pk54 hS, rfs, rfn, cs0, csi, csl, csr, csn, kti, ktl, ktr, ktn, ktv, ktf, true_and, and_true, and_self, ↓reduceIte, Nat.reduceAdd, Nat.reduceSub, Nat.reduceMul, Nat.reduceLT, Nat.reduceLeDiff, Nat.reduceEqDiff, true_or, or_true, false_or, or_false, not_true_eq_false, not_false_eq_true, reduceCtorEq, cmp_lt, cmp_gt, cmp_eq, Int32.reduceAdd, Int32.reduceSub, Int32.reduceMul, Int32.reduceLT, Int32.reduceToNatClampNeg, eq_self, ne_eq, Int64.reduceAdd, Int64.reduceSub, Int64.reduceMul, Int64.reduceLT]
          refine icm (p := p) hS hR (by omega) e19 (fun b => ?_)
          cases b
          · have key : ∀ (op : Int32) (b' : Bool), (op = 24 ∨ op = 25 ∨ op = 26) → (b' = true → ¬ I 54 10 = 0) → Ev (d + 6) 176 199 [.ref 54, .int (bI tst), .int v, .int op] [.int (bI b'), .ref 54] S I L R Q := by
              intro op b' hop hb'
              simp only [E176_199, pk54 hS, rfs, rfn, cs0, csi, csl, csr, csn, kti, ktl, ktr, ktn, ktv, ktf, true_and, and_true, and_self, ↓reduceIte, Nat.reduceAdd, Nat.reduceSub, Nat.reduceMul, Nat.reduceLT, Nat.reduceLeDiff, Nat.reduceEqDiff, true_or, or_true, false_or, or_false, not_true_eq_false, not_false_eq_true, reduceCtorEq, cmp_lt, cmp_gt, cmp_eq, Int32.reduceAdd, Int32.reduceSub, Int32.reduceMul, Int32.reduceLT, Int32.reduceToNatClampNeg, eq_self, ne_eq, Int64.reduceAdd, Int64.reduceSub, Int64.reduceMul, Int64.reduceLT]
              refine mus (d := d + 2) hS hR hT e13 hb' (fun J L' f' bad' k1 k2 k3 k4 k5 => ?_)
              have j15 : J 54 15 = nI nc := (k3.2 15 (by decide)).trans e15
              have j19 : J 54 19 = nI p := (k3.2 19 (by decide)).trans e19
              have j62 : J 62 = I 62 := k3.1 62 (by decide)
              have j60 : J 60 = I 60 := k3.1 60 (by decide)
              cases bad'
              · obtain ⟨_, _, hlt⟩ := k5 rfl
                have f5 := k2.le
                simp only [E176_199, E176_202, E176_203, E176_206, E176_209, E176_210, E176_211, pk54 hS, rfs, rfn, cs0, csi, csl, csr, csn, kti, ktl, ktr, ktn, ktv, ktf, true_and, and_true, and_self, ↓reduceIte, Nat.reduceAdd, Nat.reduceSub, Nat.reduceMul, Nat.reduceLT, Nat.reduceLeDiff, Nat.reduceEqDiff, true_or, or_true, false_or, or_false, not_true_eq_false, not_false_eq_true, reduceCtorEq, cmp_lt, cmp_gt, cmp_eq, Int32.reduceAdd, Int32.reduceSub, Int32.reduceMul, Int32.reduceLT, Int32.reduceToNatClampNeg, eq_self, ne_eq, Int64.reduceAdd, Int64.reduceSub, Int64.reduceMul, Int64.reduceLT, k4, bI_f]
                refine set_ (a := a) (v := True) hS hR (by decide) j15 j19 (by omega) ha (by rw [j60, j62]; exact sv) (fun J2 p' nc' q1 q2 q3 q4 q5 q6 q7 q8 q9 q10 => ?_)
                rw [j62] at q6 q7 q8 q9
                simp only [E176_211, E176_214, E176_215, E176_216, E176_219, E176_220, psh_m hS hR q5 (show p' < 400 by omega), pk54 hS, rfs, rfn, cs0, csi, csl, csr, csn, kti, ktl, ktr, ktn, ktv, ktf, true_and, and_true, and_self, ↓reduceIte, Nat.reduceAdd, Nat.reduceSub, Nat.reduceMul, Nat.reduceLT, Nat.reduceLeDiff, Nat.reduceEqDiff, true_or, or_true, false_or, or_false, not_true_eq_false, not_false_eq_true, reduceCtorEq, cmp_lt, cmp_gt, cmp_eq, Int32.reduceAdd, Int32.reduceSub, Int32.reduceMul, Int32.reduceLT, Int32.reduceToNatClampNeg, eq_self, ne_eq, Int64.reduceAdd, Int64.reduceSub, Int64.reduceMul, Int64.reduceLT]
                refine hq _ L' f' 1 ⟨nc', p' + 1, false, ⟨k2.cg (fun k w1 w2 => by rw [pt_f (by omega), pt_m (by decide)]; exact q10.2.1 k (by omega) (by omega)), ?_, ?_, pt_s, by omega, by omega⟩, fun _ => ?_⟩ (by decide) k1 (Or.inr (Or.inl hlt)) (Fx.p (Fx.q (k3.x.tr (q10.x ha)) (by decide)) (by decide))
                · rw [pt_f (by decide), pt_m (by decide), q10.2.1 13 (by decide) (by decide)]; exact k4
                · rw [pt_f (by decide), pt_m (by decide)]; exact q4
                · rw [pt_n (by decide), pt_n (by decide), pt_n (by decide), pt_c, q6]
                  refine ⟨(hV.1.mono q1).up ?_ (Or.inl (fun i hi => nob i (by omega))), fun z => by omega, ?_, fun z => by omega⟩
                  · rcases hop with rfl | rfl | rfl <;> (unfold Opv; simp)
                  · rw [Bc.up, show bn1 op = 1 by rcases hop with rfl | rfl | rfl <;> rfl]; exact q9 trivial
              · simp only [E176_199, E176_202, E176_203, E176_206, E176_219, E176_220, pk54 hS, rfs, rfn, cs0, csi, csl, csr, csn, kti, ktl, ktr, ktn, ktv, ktf, true_and, and_true, and_self, ↓reduceIte, Nat.reduceAdd, Nat.reduceSub, Nat.reduceMul, Nat.reduceLT, Nat.reduceLeDiff, Nat.reduceEqDiff, true_or, or_true, false_or, or_false, not_true_eq_false, not_false_eq_true, reduceCtorEq, cmp_lt, cmp_gt, cmp_eq, Int32.reduceAdd, Int32.reduceSub, Int32.reduceMul, Int32.reduceLT, Int32.reduceToNatClampNeg, eq_self, ne_eq, Int64.reduceAdd, Int64.reduceSub, Int64.reduceMul, Int64.reduceLT, k4, bI_t, n1_0]
                exact hq J L' f' 1 ⟨nc, p, true, ⟨k2, k4, j15, j19, by omega, ha⟩, fun z => by cases z⟩ (by decide) k1 (Or.inl k4) k3.x
            cases g5 : sgB I L 60
            · cases g6 : sgB I L 62
              · have ke : ∀ b', (b' = true → ¬ I 54 10 = 0) → Ev (d + 6) 176 199 [.ref 54, .int (bI tst), .int v, .int 26] [.int (bI b'), .ref 54] S I L R Q := fun b' h => key 26 b' (Or.inr (Or.inr rfl)) h
                cases g7 : sgB I L 61
                · simp only [E176_139, E176_142, E176_147, E176_148, E176_150, E176_153, E176_161, E176_162, E176_164, E176_167, E176_175, E176_177, E176_178, E176_179, E176_180, E176_182, E176_185, E176_186, E176_188, E176_191, E176_194, E176_195, E176_198, isg hS, pk54 hS, rfs, rfn, cs0, csi, csl, csr, csn, kti, ktl, ktr, ktn, ktv, ktf, true_and, and_true, and_self, ↓reduceIte, Nat.reduceAdd, Nat.reduceSub, Nat.reduceMul, Nat.reduceLT, Nat.reduceLeDiff, Nat.reduceEqDiff, true_or, or_true, false_or, or_false, not_true_eq_false, not_false_eq_true, reduceCtorEq, cmp_lt, cmp_gt, cmp_eq, Int32.reduceAdd, Int32.reduceSub, Int32.reduceMul, Int32.reduceLT, Int32.reduceToNatClampNeg, eq_self, ne_eq, Int64.reduceAdd, Int64.reduceSub, Int64.reduceMul, Int64.reduceLT, g5, g6, g7, bI_f]
                  exact ke false (fun z => by cases z)
                · simp only [E176_139, E176_142, E176_147, E176_148, E176_150, E176_153, E176_161, E176_162, E176_164, E176_167, E176_175, E176_177, E176_178, E176_179, E176_180, E176_182, E176_185, E176_186, E176_188, E176_191, E176_194, E176_195, E176_198, isg hS, pk54 hS, rfs, rfn, cs0, csi, csl, csr, csn, kti, ktl, ktr, ktn, ktv, ktf, true_and, and_true, and_self, ↓reduceIte, Nat.reduceAdd, Nat.reduceSub, Nat.reduceMul, Nat.reduceLT, Nat.reduceLeDiff, Nat.reduceEqDiff, true_or, or_true, false_or, or_false, not_true_eq_false, not_false_eq_true, reduceCtorEq, cmp_lt, cmp_gt, cmp_eq, Int32.reduceAdd, Int32.reduceSub, Int32.reduceMul, Int32.reduceLT, Int32.reduceToNatClampNeg, eq_self, ne_eq, Int64.reduceAdd, Int64.reduceSub, Int64.reduceMul, Int64.reduceLT, g5, g6, g7, bI_f, bI_t, n1_0]
                  exact ke true (fun _ => sgB0 g7)
              · have n56 : ((25 : Int32) = 26) = False := eq_false (by decide)
                simp only [E176_139, E176_142, E176_147, E176_148, E176_150, E176_153, E176_161, E176_162, E176_164, E176_167, E176_170, E176_172, E176_177, E176_178, E176_179, E176_180, E176_182, E176_194, E176_195, isg hS, pk54 hS, rfs, rfn, cs0, csi, csl, csr, csn, kti, ktl, ktr, ktn, ktv, ktf, true_and, and_true, and_self, ↓reduceIte, Nat.reduceAdd, Nat.reduceSub, Nat.reduceMul, Nat.reduceLT, Nat.reduceLeDiff, Nat.reduceEqDiff, true_or, or_true, false_or, or_false, not_true_eq_false, not_false_eq_true, reduceCtorEq, cmp_lt, cmp_gt, cmp_eq, Int32.reduceAdd, Int32.reduceSub, Int32.reduceMul, Int32.reduceLT, Int32.reduceToNatClampNeg, eq_self, ne_eq, Int64.reduceAdd, Int64.reduceSub, Int64.reduceMul, Int64.reduceLT, g5, g6, bI_f, bI_t, n1_0, n56]
                exact key 25 true (Or.inr (Or.inl rfl)) (fun _ => sgB0 g6)
            · have n46 : ((24 : Int32) = 26) = False := eq_false (by decide)
              simp only [E176_139, E176_142, E176_147, E176_148, E176_150, E176_153, E176_156, E176_158, E176_177, E176_178, E176_179, E176_180, E176_182, E176_194, E176_195, isg hS, pk54 hS, rfs, rfn, cs0, csi, csl, csr, csn, kti, ktl, ktr, ktn, ktv, ktf, true_and, and_true, and_self, ↓reduceIte, Nat.reduceAdd, Nat.reduceSub, Nat.reduceMul, Nat.reduceLT, Nat.reduceLeDiff, Nat.reduceEqDiff, true_or, or_true, false_or, or_false, not_true_eq_false, not_false_eq_true, reduceCtorEq, cmp_lt, cmp_gt, cmp_eq, Int32.reduceAdd, Int32.reduceSub, Int32.reduceMul, Int32.reduceLT, Int32.reduceToNatClampNeg, eq_self, ne_eq, Int64.reduceAdd, Int64.reduceSub, Int64.reduceMul, Int64.reduceLT, g5, bI_f, bI_t, n1_0, n46]
              exact key 24 true (Or.inl rfl) (fun _ => sgB0 g5)
          · simp only [E176_139, E176_142, E176_145, E176_146, rfs, rfn, cs0, csi, csl, csr, csn, kti, ktl, ktr, ktn, ktv, ktf, true_and, and_true, and_self, ↓reduceIte, Nat.reduceAdd, Nat.reduceSub, Nat.reduceMul, Nat.reduceLT, Nat.reduceLeDiff, Nat.reduceEqDiff, true_or, or_true, false_or, or_false, not_true_eq_false, not_false_eq_true, reduceCtorEq, cmp_lt, cmp_gt, cmp_eq, Int32.reduceAdd, Int32.reduceSub, Int32.reduceMul, Int32.reduceLT, Int32.reduceToNatClampNeg, eq_self, ne_eq, Int64.reduceAdd, Int64.reduceSub, Int64.reduceMul, Int64.reduceLT, bI_t, n1_0]
            exact hq I L f 2 ⟨nc, p, false, hM, fun _ => ⟨hV.1, fun _ => nob, hV.2.2.1, fun z => by omega⟩⟩ (by decide) (Nat.le_refl f) (Or.inr (Or.inr (Or.inr rfl))) Fx.rf
        by_cases g4 : v = -1
        · subst g4
          have al : ∀ i, i < p → I 62 i < 30 := by
            rcases hv with ⟨_, h⟩ | ⟨i, i1, i2, i3, i4⟩
            · exact h
            · rw [← i2] at i3; exact absurd (by decide) i3
          cases tst
          · simp only [E176_50, E176_53, E176_54, E176_55, E176_57, E176_127, E176_128, E176_129, E176_132, E176_133, E176_136, E176_137, rfs, rfn, cs0, csi, csl, csr, csn, kti, ktl, ktr, ktn, ktv, ktf, true_and, and_true, and_self, ↓reduceIte, Nat.reduceAdd, Nat.reduceSub, Nat.reduceMul, Nat.reduceLT, Nat.reduceLeDiff, Nat.reduceEqDiff, true_or, or_true, false_or, or_false, not_true_eq_false, not_false_eq_true, reduceCtorEq, cmp_lt, cmp_gt, cmp_eq, Int32.reduceAdd, Int32.reduceSub, Int32.reduceMul, Int32.reduceLT, Int32.reduceToNatClampNeg, eq_self, ne_eq, Int64.reduceAdd, Int64.reduceSub, Int64.reduceMul, Int64.reduceLT, g3, bI_f]
            exact hq I L f 4 ⟨nc, p, false, hM, fun _ => ⟨hV.1, fun z => by omega, hV.2.2.1, fun _ => al⟩⟩ (by decide) (Nat.le_refl f) (Or.inr (Or.inr (Or.inl rfl))) Fx.rf
          · simp only [E176_50, E176_53, E176_54, E176_55, E176_57, E176_127, E176_128, E176_129, E176_132, E176_133, rfs, rfn, cs0, csi, csl, csr, csn, kti, ktl, ktr, ktn, ktv, ktf, true_and, and_true, and_self, ↓reduceIte, Nat.reduceAdd, Nat.reduceSub, Nat.reduceMul, Nat.reduceLT, Nat.reduceLeDiff, Nat.reduceEqDiff, true_or, or_true, false_or, or_false, not_true_eq_false, not_false_eq_true, reduceCtorEq, cmp_lt, cmp_gt, cmp_eq, Int32.reduceAdd, Int32.reduceSub, Int32.reduceMul, Int32.reduceLT, Int32.reduceToNatClampNeg, eq_self, ne_eq, Int64.reduceAdd, Int64.reduceSub, Int64.reduceMul, Int64.reduceLT, g3, bI_t, n1_0]
            exact rest _
        · simp only [E176_50, E176_53, E176_54, E176_55, E176_57, E176_127, E176_128, E176_129, rfs, rfn, cs0, csi, csl, csr, csn, kti, ktl, ktr, ktn, ktv, ktf, true_and, and_true, and_self, ↓reduceIte, Nat.reduceAdd, Nat.reduceSub, Nat.reduceMul, Nat.reduceLT, Nat.reduceLeDiff, Nat.reduceEqDiff, true_or, or_true, false_or, or_false, not_true_eq_false, not_false_eq_true, reduceCtorEq, cmp_lt, cmp_gt, cmp_eq, Int32.reduceAdd, Int32.reduceSub, Int32.reduceMul, Int32.reduceLT, Int32.reduceToNatClampNeg, eq_self, ne_eq, Int64.reduceAdd, Int64.reduceSub, Int64.reduceMul, Int64.reduceLT, g3, g4]
          exact rest _
    · simp only [M176, E176_0, E176_1, E176_3, E176_6, E176_9, E176_10, E176_12, E176_15, isg hS, pk54 hS, rfs, rfn, cs0, csi, csl, csr, csn, kti, ktl, ktr, ktn, ktv, ktf, true_and, and_true, and_self, ↓reduceIte, Nat.reduceAdd, Nat.reduceSub, Nat.reduceMul, Nat.reduceLT, Nat.reduceLeDiff, Nat.reduceEqDiff, true_or, or_true, false_or, or_false, not_true_eq_false, not_false_eq_true, reduceCtorEq, cmp_lt, cmp_gt, cmp_eq, Int32.reduceAdd, Int32.reduceSub, Int32.reduceMul, Int32.reduceLT, Int32.reduceToNatClampNeg, eq_self, ne_eq, Int64.reduceAdd, Int64.reduceSub, Int64.reduceMul, Int64.reduceLT, g1, g2, bI_f, bI_t, n1_0]
      exact plus (sgB0 g2) _ _
  · simp only [M176, E176_0, E176_1, E176_3, E176_6, isg hS, pk54 hS, rfs, rfn, cs0, csi, csl, csr, csn, kti, ktl, ktr, ktn, ktv, ktf, true_and, and_true, and_self, ↓reduceIte, Nat.reduceAdd, Nat.reduceSub, Nat.reduceMul, Nat.reduceLT, Nat.reduceLeDiff, Nat.reduceEqDiff, true_or, or_true, false_or, or_false, not_true_eq_false, not_false_eq_true, reduceCtorEq, cmp_lt, cmp_gt, cmp_eq, Int32.reduceAdd, Int32.reduceSub, Int32.reduceMul, Int32.reduceLT, Int32.reduceToNatClampNeg, eq_self, ne_eq, Int64.reduceAdd, Int64.reduceSub, Int64.reduceMul, Int64.reduceLT, g1, bI_t, n1_0]
    exact plus (sgB0 g1) _ _
/-- behindTest -/
theorem bht (hS : Pm S) (hR : Pr R) (hM : Rm I L a f nc p false) (hV : Rv (I 60) (I 62) a nc p 2) (hq : ∀ J L' f' tn, Rr J L' a tn f' → tn ≤ 4 → f ≤ f' → (J 54 13 = 1 ∨ f < f' ∨ tn = 4) → Fx I J a → Q (.int (nI tn)) S J L' R) : EvM (d + 6) 177 [.ref 54] S I L R Q := by
  obtain ⟨hT, e13, e15, e19, hf, ha⟩ := id hM
  have f4 := hT.le
  have nob := hV.2.1 (Or.inr rfl)
  have sv : True → (∀ i, i < p → Opv (I 62 i)) ∧ Dp (I 60) a (nc - a) (Bc (I 62) p + 1) := fun _ => ⟨hV.1.1, hV.2.2.1⟩
  have andor : ∀ least op : Int32, 0 < least → (op = 28 ∨ op = 29) → ¬ I 54 10 = 0 → ∀ b : Bool, (b = true → op = 28 ∧ least = 2) → (b = false → op = 29 ∧ least = 1) → Ev (d + 6) 177 22 [.ref 54, .int (bI b)] [] S I L R Q := by
    intro least op hl hop h0 b hb1 hb2
    have fl := hM.lt h0
    have main : Ev (d + 6) 177 32 [.ref 54, .int (bI b)] [.int least, .ref 54] S I L R Q := by
      simp only [E177_32, pk54 hS, rfs, rfn, cs0, csi, csl, csr, csn, kti, ktl, ktr, ktn, ktv, ktf, true_and, and_true, and_self, ↓reduceIte, Nat.reduceAdd, Nat.reduceSub, Nat.reduceMul, Nat.reduceLT, Nat.reduceLeDiff, Nat.reduceEqDiff, true_or, or_true, false_or, or_false, not_true_eq_false, not_false_eq_true, reduceCtorEq, cmp_lt, cmp_gt, cmp_eq, Int32.reduceAdd, Int32.reduceSub, Int32.reduceMul, Int32.reduceLT, Int32.reduceToNatClampNeg, eq_self, ne_eq, Int64.reduceAdd, Int64.reduceSub, Int64.reduceMul, Int64.reduceLT]
      refine set_ (a := a) (v := True) hS hR hl e15 e19 (by omega) ha sv (fun J p' nc' k1 k2 k3 k4 k5 k6 k7 k8 k9 k10 => ?_)
      have jM : Rm J L a f nc' p' false := ⟨hT.cg (fun k q1 q2 => k10.2.1 k (by omega) (by omega)), (k10.2.1 13 (by decide) (by decide)).trans e13, k4, k5, by omega, by omega⟩
      have jP : PlO (J 62) p' := by rw [k6]; exact hV.1.mono k1
      have j0 : ¬ J 54 10 = 0 := by rw [k10.2.1 10 (by decide) (by decide)]; exact h0
      have jD : Dp (J 60) a (nc' - a) (Bc (J 62) p' + 1) := by rw [k6]; exact k9 trivial
      have jn : ∀ i, i < p' → ¬ 30 < J 62 i := fun i hi => by rw [k6]; exact nob i (by omega)
      cases b
      · obtain ⟨rfl, _⟩ := hb2 rfl
        simp only [E177_32, E177_35, E177_36, E177_37, E177_45, E177_47, E177_50, E177_51, psh_m hS hR k5 (show p' < 400 by omega), pk54 hS, rfs, rfn, cs0, csi, csl, csr, csn, kti, ktl, ktr, ktn, ktv, ktf, true_and, and_true, and_self, ↓reduceIte, Nat.reduceAdd, Nat.reduceSub, Nat.reduceMul, Nat.reduceLT, Nat.reduceLeDiff, Nat.reduceEqDiff, true_or, or_true, false_or, or_false, not_true_eq_false, not_false_eq_true, reduceCtorEq, cmp_lt, cmp_gt, cmp_eq, Int32.reduceAdd, Int32.reduceSub, Int32.reduceMul, Int32.reduceLT, Int32.reduceToNatClampNeg, eq_self, ne_eq, Int64.reduceAdd, Int64.reduceSub, Int64.reduceMul, Int64.reduceLT, bI_f]
        refine ps_nx (d := d + 3) (op := 29) (tn := 0) hS hR jM j0 (by unfold Opv; simp) rfl jP (Or.inl jn) (by decide) (Or.inl rfl) jD (fun J2 L2 f2 q1 q2 q3 => ?_)
        simp only [E177_51, E177_54, E177_55, rfs, rfn, cs0, csi, csl, csr, csn, kti, ktl, ktr, ktn, ktv, ktf, true_and, and_true, and_self, ↓reduceIte, Nat.reduceAdd, Nat.reduceSub, Nat.reduceMul, Nat.reduceLT, Nat.reduceLeDiff, Nat.reduceEqDiff, true_or, or_true, false_or, or_false, not_true_eq_false, not_false_eq_true, reduceCtorEq, cmp_lt, cmp_gt, cmp_eq, Int32.reduceAdd, Int32.reduceSub, Int32.reduceMul, Int32.reduceLT, Int32.reduceToNatClampNeg, eq_self, ne_eq, Int64.reduceAdd, Int64.reduceSub, Int64.reduceMul, Int64.reduceLT]
        exact hq J2 L2 f2 0 q1 (by decide) (by omega) (Or.inr (Or.inl q2)) ((k10.x (by omega)).tr q3)
      · obtain ⟨rfl, _⟩ := hb1 rfl
        simp only [E177_32, E177_35, E177_36, E177_37, E177_40, E177_42, E177_45, E177_47, E177_50, E177_51, psh_m hS hR k5 (show p' < 400 by omega), pk54 hS, rfs, rfn, cs0, csi, csl, csr, csn, kti, ktl, ktr, ktn, ktv, ktf, true_and, and_true, and_self, ↓reduceIte, Nat.reduceAdd, Nat.reduceSub, Nat.reduceMul, Nat.reduceLT, Nat.reduceLeDiff, Nat.reduceEqDiff, true_or, or_true, false_or, or_false, not_true_eq_false, not_false_eq_true, reduceCtorEq, cmp_lt, cmp_gt, cmp_eq, Int32.reduceAdd, Int32.reduceSub, Int32.reduceMul, Int32.reduceLT, Int32.reduceToNatClampNeg, eq_self, ne_eq, Int64.reduceAdd, Int64.reduceSub, Int64.reduceMul, Int64.reduceLT, bI_t, n1_0]
        refine ps_nx (d := d + 3) (op := 28) (tn := 0) hS hR jM j0 (by unfold Opv; simp) rfl jP (Or.inl jn) (by decide) (Or.inl rfl) jD (fun J2 L2 f2 q1 q2 q3 => ?_)
        simp only [E177_51, E177_54, E177_55, rfs, rfn, cs0, csi, csl, csr, csn, kti, ktl, ktr, ktn, ktv, ktf, true_and, and_true, and_self, ↓reduceIte, Nat.reduceAdd, Nat.reduceSub, Nat.reduceMul, Nat.reduceLT, Nat.reduceLeDiff, Nat.reduceEqDiff, true_or, or_true, false_or, or_false, not_true_eq_false, not_false_eq_true, reduceCtorEq, cmp_lt, cmp_gt, cmp_eq, Int32.reduceAdd, Int32.reduceSub, Int32.reduceMul, Int32.reduceLT, Int32.reduceToNatClampNeg, eq_self, ne_eq, Int64.reduceAdd, Int64.reduceSub, Int64.reduceMul, Int64.reduceLT]
        exact hq J2 L2 f2 0 q1 (by decide) (by omega) (Or.inr (Or.inl q2)) ((k10.x (by omega)).tr q3)
    cases b
    · obtain ⟨_, rfl⟩ := hb2 rfl
      simp only [bI_f] at main ⊢
      simp only [E177_22, E177_23, E177_24, E177_31, pk54 hS, rfs, rfn, cs0, csi, csl, csr, csn, kti, ktl, ktr, ktn, ktv, ktf, true_and, and_true, and_self, ↓reduceIte, Nat.reduceAdd, Nat.reduceSub, Nat.reduceMul, Nat.reduceLT, Nat.reduceLeDiff, Nat.reduceEqDiff, true_or, or_true, false_or, or_false, not_true_eq_false, not_false_eq_true, reduceCtorEq, cmp_lt, cmp_gt, cmp_eq, Int32.reduceAdd, Int32.reduceSub, Int32.reduceMul, Int32.reduceLT, Int32.reduceToNatClampNeg, eq_self, ne_eq, Int64.reduceAdd, Int64.reduceSub, Int64.reduceMul, Int64.reduceLT]
      exact main
    · obtain ⟨_, rfl⟩ := hb1 rfl
      simp only [bI_t] at main ⊢
      simp only [E177_22, E177_23, E177_24, E177_27, E177_28, pk54 hS, rfs, rfn, cs0, csi, csl, csr, csn, kti, ktl, ktr, ktn, ktv, ktf, true_and, and_true, and_self, ↓reduceIte, Nat.reduceAdd, Nat.reduceSub, Nat.reduceMul, Nat.reduceLT, Nat.reduceLeDiff, Nat.reduceEqDiff, true_or, or_true, false_or, or_false, not_true_eq_false, not_false_eq_true, reduceCtorEq, cmp_lt, cmp_gt, cmp_eq, Int32.reduceAdd, Int32.reduceSub, Int32.reduceMul, Int32.reduceLT, Int32.reduceToNatClampNeg, eq_self, ne_eq, Int64.reduceAdd, Int64.reduceSub, Int64.reduceMul, Int64.reduceLT, n1_0]
      exact main
  cases g1 : wdB I L 1476
  · cases g2 : wdB I L 498
    · simp only [M177, E177_0, E177_1, E177_4, E177_7, E177_8, E177_9, E177_12, E177_13, E177_16, E177_19, E177_56, E177_57, isw hS, pk54 hS, rfs, rfn, cs0, csi, csl, csr, csn, kti, ktl, ktr, ktn, ktv, ktf, true_and, and_true, and_self, ↓reduceIte, Nat.reduceAdd, Nat.reduceSub, Nat.reduceMul, Nat.reduceLT, Nat.reduceLeDiff, Nat.reduceEqDiff, true_or, or_true, false_or, or_false, not_true_eq_false, not_false_eq_true, reduceCtorEq, cmp_lt, cmp_gt, cmp_eq, Int32.reduceAdd, Int32.reduceSub, Int32.reduceMul, Int32.reduceLT, Int32.reduceToNatClampNeg, eq_self, ne_eq, Int64.reduceAdd, Int64.reduceSub, Int64.reduceMul, Int64.reduceLT, g1, g2, bI_f]
      refine inr_ hS hR (p := p) (by omega) e19 (fun v hv => ?_)
      rcases hv with ⟨rfl, al⟩ | ⟨i, i1, i2, i3, i4⟩
      · simp only [E177_57, E177_60, E177_61, E177_64, E177_65, rfs, rfn, cs0, csi, csl, csr, csn, kti, ktl, ktr, ktn, ktv, ktf, true_and, and_true, and_self, ↓reduceIte, Nat.reduceAdd, Nat.reduceSub, Nat.reduceMul, Nat.reduceLT, Nat.reduceLeDiff, Nat.reduceEqDiff, true_or, or_true, false_or, or_false, not_true_eq_false, not_false_eq_true, reduceCtorEq, cmp_lt, cmp_gt, cmp_eq, Int32.reduceAdd, Int32.reduceSub, Int32.reduceMul, Int32.reduceLT, Int32.reduceToNatClampNeg, eq_self, ne_eq, Int64.reduceAdd, Int64.reduceSub, Int64.reduceMul, Int64.reduceLT]
        exact hq I L f 4 ⟨nc, p, false, hM, fun _ => ⟨hV.1, fun z => by omega, hV.2.2.1, fun _ => al⟩⟩ (by decide) (Nat.le_refl f) (Or.inr (Or.inr rfl)) Fx.rf
      · have vn : (v = -1) = False := eq_false (fun z => by rw [← i2, z] at i3; exact absurd (by decide) i3)
        simp only [E177_57, E177_60, E177_61, E177_66, E177_67, E177_68, E177_70, E177_73, isg hS, pk54 hS, rfs, rfn, cs0, csi, csl, csr, csn, kti, ktl, ktr, ktn, ktv, ktf, true_and, and_true, and_self, ↓reduceIte, Nat.reduceAdd, Nat.reduceSub, Nat.reduceMul, Nat.reduceLT, Nat.reduceLeDiff, Nat.reduceEqDiff, true_or, or_true, false_or, or_false, not_true_eq_false, not_false_eq_true, reduceCtorEq, cmp_lt, cmp_gt, cmp_eq, Int32.reduceAdd, Int32.reduceSub, Int32.reduceMul, Int32.reduceLT, Int32.reduceToNatClampNeg, eq_self, ne_eq, Int64.reduceAdd, Int64.reduceSub, Int64.reduceMul, Int64.reduceLT, vn]
        refine mus (d := d + 2) hS hR hT e13 sgB0 (fun J L' f' bad' k1 k2 k3 k4 k5 => ?_)
        have j15 : J 54 15 = nI nc := (k3.2 15 (by decide)).trans e15
        have j19 : J 54 19 = nI p := (k3.2 19 (by decide)).trans e19
        have j62 : J 62 = I 62 := k3.1 62 (by decide)
        have j60 : J 60 = I 60 := k3.1 60 (by decide)
        cases bad'
        · obtain ⟨_, _, hlt⟩ := k5 rfl
          have f5 := k2.le
          simp only [E177_73, E177_76, E177_77, E177_80, E177_83, E177_84, E177_85, pk54 hS, rfs, rfn, cs0, csi, csl, csr, csn, kti, ktl, ktr, ktn, ktv, ktf, true_and, and_true, and_self, ↓reduceIte, Nat.reduceAdd, Nat.reduceSub, Nat.reduceMul, Nat.reduceLT, Nat.reduceLeDiff, Nat.reduceEqDiff, true_or, or_true, false_or, or_false, not_true_eq_false, not_false_eq_true, reduceCtorEq, cmp_lt, cmp_gt, cmp_eq, Int32.reduceAdd, Int32.reduceSub, Int32.reduceMul, Int32.reduceLT, Int32.reduceToNatClampNeg, eq_self, ne_eq, Int64.reduceAdd, Int64.reduceSub, Int64.reduceMul, Int64.reduceLT, k4, bI_f]
          refine set_ (a := a) (v := True) hS hR (by decide) j15 j19 (by omega) ha (by rw [j60, j62]; exact sv) (fun J2 p' nc' q1 q2 q3 q4 q5 q6 q7 q8 q9 q10 => ?_)
          rw [j62] at q6 q7 q8 q9
          have hp' : p' = i + 1 := by
            have l1 : i < p' := Classical.byContradiction (fun z => q7 i (by omega) i1 (by rw [bnF0 i3]; decide))
            rcases q8 with q8 | q8
            · omega
            · refine Classical.byContradiction (fun z => ?_)
              exact bnF1 q8 (i4 (p' - 1) (by omega) (by omega))
          subst hp'
          simp only [E177_85, E177_88, E177_89, E177_90, E177_93, E177_94, E177_95, E177_98, E177_99, E177_100, E177_103, E177_104, E177_105, E177_108, E177_109, pk54 hS, rfs, rfn, cs0, csi, csl, csr, csn, kti, ktl, ktr, ktn, ktv, ktf, true_and, and_true, and_self, ↓reduceIte, Nat.reduceAdd, Nat.reduceSub, Nat.reduceMul, Nat.reduceLT, Nat.reduceLeDiff, Nat.reduceEqDiff, true_or, or_true, false_or, or_false, not_true_eq_false, not_false_eq_true, reduceCtorEq, cmp_lt, cmp_gt, cmp_eq, Int32.reduceAdd, Int32.reduceSub, Int32.reduceMul, Int32.reduceLT, Int32.reduceToNatClampNeg, eq_self, ne_eq, Int64.reduceAdd, Int64.reduceSub, Int64.reduceMul, Int64.reduceLT, q5, nI_m1, pt, pt_f]
          refine hq _ L' f' 2 ⟨nc', i, false, ⟨k2.cg (fun k w1 w2 => by rw [pt_f (by omega), pt_f (by omega)]; exact q10.2.1 k (by omega) (by omega)), ?_, ?_, ?_, by omega, by omega⟩, fun _ => ⟨?_, fun _ j hj => ?_, ?_, fun z => by omega⟩⟩ (by decide) k1 (Or.inr (Or.inl hlt)) (Fx.p (Fx.p (k3.x.tr (q10.x ha)) (by decide)) (by decide))
          · rw [pt_f (by decide), pt_f (by decide), q10.2.1 13 (by decide) (by decide)]; exact k4
          · rw [pt_f (by decide), pt_f (by decide)]; exact q4
          · rw [pt_f (by decide), pt_s]
          · rw [pt_n (by decide), pt_n (by decide), q6]; exact hV.1.mono (by omega)
          · rw [pt_n (by decide), pt_n (by decide), q6]; exact nob j (by omega)
          · rw [pt_n (by decide), pt_n (by decide), pt_n (by decide), pt_n (by decide), q6]
            have := q9 trivial
            have e : Bc (I 62) (i + 1) = Bc (I 62) i := by
              show Bc (I 62) i + bn1 (I 62 i) = _
              rw [show bn1 (I 62 i) = 0 from if_pos (Or.inr i3)]
              rfl
            rw [e] at this
            exact this
        · simp only [E177_73, E177_76, E177_77, E177_80, E177_108, E177_109, pk54 hS, rfs, rfn, cs0, csi, csl, csr, csn, kti, ktl, ktr, ktn, ktv, ktf, true_and, and_true, and_self, ↓reduceIte, Nat.reduceAdd, Nat.reduceSub, Nat.reduceMul, Nat.reduceLT, Nat.reduceLeDiff, Nat.reduceEqDiff, true_or, or_true, false_or, or_false, not_true_eq_false, not_false_eq_true, reduceCtorEq, cmp_lt, cmp_gt, cmp_eq, Int32.reduceAdd, Int32.reduceSub, Int32.reduceMul, Int32.reduceLT, Int32.reduceToNatClampNeg, eq_self, ne_eq, Int64.reduceAdd, Int64.reduceSub, Int64.reduceMul, Int64.reduceLT, k4, bI_t, n1_0]
          exact hq J L' f' 2 ⟨nc, p, true, ⟨k2, k4, j15, j19, by omega, ha⟩, fun z => by cases z⟩ (by decide) k1 (Or.inl k4) k3.x
    · simp only [M177, E177_0, E177_1, E177_4, E177_7, E177_8, E177_9, E177_12, E177_13, E177_16, E177_19, isw hS, pk54 hS, rfs, rfn, cs0, csi, csl, csr, csn, kti, ktl, ktr, ktn, ktv, ktf, true_and, and_true, and_self, ↓reduceIte, Nat.reduceAdd, Nat.reduceSub, Nat.reduceMul, Nat.reduceLT, Nat.reduceLeDiff, Nat.reduceEqDiff, true_or, or_true, false_or, or_false, not_true_eq_false, not_false_eq_true, reduceCtorEq, cmp_lt, cmp_gt, cmp_eq, Int32.reduceAdd, Int32.reduceSub, Int32.reduceMul, Int32.reduceLT, Int32.reduceToNatClampNeg, eq_self, ne_eq, Int64.reduceAdd, Int64.reduceSub, Int64.reduceMul, Int64.reduceLT, g1, g2, bI_f, bI_t, n1_0]
      exact andor 1 29 (by decide) (Or.inr rfl) (wdB0 g2) false (fun z => by cases z) (fun _ => ⟨rfl, rfl⟩)
  · simp only [M177, E177_0, E177_1, E177_4, E177_7, E177_8, E177_9, isw hS, pk54 hS, rfs, rfn, cs0, csi, csl, csr, csn, kti, ktl, ktr, ktn, ktv, ktf, true_and, and_true, and_self, ↓reduceIte, Nat.reduceAdd, Nat.reduceSub, Nat.reduceMul, Nat.reduceLT, Nat.reduceLeDiff, Nat.reduceEqDiff, true_or, or_true, false_or, or_false, not_true_eq_false, not_false_eq_true, reduceCtorEq, cmp_lt, cmp_gt, cmp_eq, Int32.reduceAdd, Int32.reduceSub, Int32.reduceMul, Int32.reduceLT, Int32.reduceToNatClampNeg, eq_self, ne_eq, Int64.reduceAdd, Int64.reduceSub, Int64.reduceMul, Int64.reduceLT, g1, bI_t, n1_0]
    exact andor 2 28 (by decide) (Or.inl rfl) (wdB0 g1) true (fun _ => ⟨rfl, rfl⟩) (fun z => by cases z)
/-- readExpression: its end -/
theorem rx_ex {tst : Bool} {tn : Nat} (hS : Pm S) (hR : Pr R) (ht : tn ≤ 4) (h : Rr I L a tn f) (hx : I 54 13 = 1 ∨ tn = 4) (hq : ∀ J f' nc' bad', Tk J L f' → J 54 13 = bI bad' → J 54 15 = nI nc' → a ≤ nc' → nc' ≤ f' → f ≤ f' → (bad' = false → ∃ n, Dp (J 60) a (nc' - a) n) → Fx I J a → Q .null S J L R) : Ev (d + 7) 178 20 [.ref 54, .int (bI tst), .int (nI tn)] [] S I L R Q := by
  obtain ⟨nc, p, bad, ⟨hT, e13, e15, e19, hf, ha⟩, hV⟩ := h
  have f4 := hT.le
  have fin : Ev (d + 7) 178 76 [.ref 54, .int (bI tst), .int (nI tn)] [] S I L R Q := by
    simp only [E178_76, E178_77, E178_78, pk54 hS, rfs, rfn, cs0, csi, csl, csr, csn, kti, ktl, ktr, ktn, ktv, ktf, true_and, and_true, and_self, ↓reduceIte, Nat.reduceAdd, Nat.reduceSub, Nat.reduceMul, Nat.reduceLT, Nat.reduceLeDiff, Nat.reduceEqDiff, true_or, or_true, false_or, or_false, not_true_eq_false, not_false_eq_true, reduceCtorEq, cmp_lt, cmp_gt, cmp_eq, Int32.reduceAdd, Int32.reduceSub, Int32.reduceMul, Int32.reduceLT, Int32.reduceToNatClampNeg, eq_self, ne_eq, Int64.reduceAdd, Int64.reduceSub, Int64.reduceMul, Int64.reduceLT]
    refine set_ (a := a) (v := bad = false ∧ tn = 4) hS hR (by decide) e15 e19 (by omega) ha (fun v => ⟨(hV v.1).1.1, ?_⟩) (fun J p' nc' k1 k2 k3 k4 k5 k6 k7 k8 k9 k10 => ?_)
    · have := (hV v.1).2.2.1
      rw [v.2] at this
      exact this
    · simp only [E178_78, E178_81, rfs, rfn, cs0, csi, csl, csr, csn, kti, ktl, ktr, ktn, ktv, ktf, true_and, and_true, and_self, ↓reduceIte, Nat.reduceAdd, Nat.reduceSub, Nat.reduceMul, Nat.reduceLT, Nat.reduceLeDiff, Nat.reduceEqDiff, true_or, or_true, false_or, or_false, not_true_eq_false, not_false_eq_true, reduceCtorEq, cmp_lt, cmp_gt, cmp_eq, Int32.reduceAdd, Int32.reduceSub, Int32.reduceMul, Int32.reduceLT, Int32.reduceToNatClampNeg, eq_self, ne_eq, Int64.reduceAdd, Int64.reduceSub, Int64.reduceMul, Int64.reduceLT]
      refine hq J f nc' bad (hT.cg (fun k w1 w2 => k10.2.1 k (by omega) (by omega))) ((k10.2.1 13 (by decide) (by decide)).trans e13) k4 (by omega) (by omega) (Nat.le_refl f) (fun hb => ?_) (k10.x ha)
      rcases hx with hx | hx
      · rw [hb] at e13; rw [hx] at e13; exact absurd e13 (by decide)
      · exact ⟨_, k9 ⟨hb, hx⟩⟩
  cases bad
  · rcases hx with hx | hx
    · rw [hx] at e13; exact absurd e13 (by decide)
    · subst hx
      have z4 : nI 4 = (4 : Int32) := rfl
      rw [z4] at fin ⊢
      simp only [E178_20, E178_21, E178_24, E178_27, E178_28, E178_29, pk54 hS, rfs, rfn, cs0, csi, csl, csr, csn, kti, ktl, ktr, ktn, ktv, ktf, true_and, and_true, and_self, ↓reduceIte, Nat.reduceAdd, Nat.reduceSub, Nat.reduceMul, Nat.reduceLT, Nat.reduceLeDiff, Nat.reduceEqDiff, true_or, or_true, false_or, or_false, not_true_eq_false, not_false_eq_true, reduceCtorEq, cmp_lt, cmp_gt, cmp_eq, Int32.reduceAdd, Int32.reduceSub, Int32.reduceMul, Int32.reduceLT, Int32.reduceToNatClampNeg, eq_self, ne_eq, Int64.reduceAdd, Int64.reduceSub, Int64.reduceMul, Int64.reduceLT, e13, bI_f]
      exact fin
  · simp only [E178_20, E178_21, E178_24, pk54 hS, rfs, rfn, cs0, csi, csl, csr, csn, kti, ktl, ktr, ktn, ktv, ktf, true_and, and_true, and_self, ↓reduceIte, Nat.reduceAdd, Nat.reduceSub, Nat.reduceMul, Nat.reduceLT, Nat.reduceLeDiff, Nat.reduceEqDiff, true_or, or_true, false_or, or_false, not_true_eq_false, not_false_eq_true, reduceCtorEq, cmp_lt, cmp_gt, cmp_eq, Int32.reduceAdd, Int32.reduceSub, Int32.reduceMul, Int32.reduceLT, Int32.reduceToNatClampNeg, eq_self, ne_eq, Int64.reduceAdd, Int64.reduceSub, Int64.reduceMul, Int64.reduceLT, e13, bI_t, n1_0]
    exact fin
theorem rx_lp {tst : Bool} (hS : Pm S) (hR : Pr R) : ∀ (N tn f : Nat) (I : mI) (L : mL), 2 * (400 - f) + (if tn = 3 then 1 else 0) < N → tn ≤ 4 → Rr I L a tn f → (∀ J L' f' nc' bad', Tk J L' f' → J 54 13 = bI bad' → J 54 15 = nI nc' → a ≤ nc' → nc' ≤ f' → f ≤ f' → (bad' = false → ∃ n, Dp (J 60) a (nc' - a) n) → Fx I J a → Q .null S J L' R) → Ev (d + 7) 178 20 [.ref 54, .int (bI tst), .int (nI tn)] [] S I L R Q := by
  intro N
  induction N with
  | zero => intro tn f I L h; omega
  | succ N ih =>
    intro tn f I L hN ht hr hq
    by_cases hx : I 54 13 = 1 ∨ tn = 4
    · exact rx_ex hS hR ht hr hx (fun J f' nc' bad' => hq J L f' nc' bad')
    obtain ⟨nc, p, bad, hM, hV⟩ := hr
    have e13 := hM.2.1
    have f4 := hM.1.le
    have hb : bad = false := by
      cases bad
      · rfl
      · exact absurd (Or.inl e13) hx
    subst hb
    have hV := hV rfl
    have go : ∀ (J : mI) (L' : mL) (f' tn' : Nat) (y : Value), Rr J L' a tn' f' → tn' ≤ 4 → f ≤ f' → (J 54 13 = 1 ∨ f < f' ∨ tn' = 4 ∨ (tn = 3 ∧ tn' = 2)) → Fx I J a → Ev (d + 7) 178 20 [.ref 54, .int (bI tst), .int (nI tn')] [] S J L' R Q := by
      intro J L' f' tn' y h1 h2 h3 h4 h5
      have hq' : ∀ K L2 f2 nc2 bad2, Tk K L2 f2 → K 54 13 = bI bad2 → K 54 15 = nI nc2 → a ≤ nc2 → nc2 ≤ f2 → f' ≤ f2 → (bad2 = false → ∃ n, Dp (K 60) a (nc2 - a) n) → Fx J K a → Q .null S K L2 R := fun K L2 f2 nc2 bad2 w1 w2 w3 w4 w5 w6 w7 w8 => hq K L2 f2 nc2 bad2 w1 w2 w3 w4 w5 (by omega) w7 (h5.tr w8)
      by_cases hx : J 54 13 = 1 ∨ tn' = 4
      · exact rx_ex hS hR h2 h1 hx (fun K f2 nc2 bad2 => hq' K L' f2 nc2 bad2)
      · have f5 : f' ≤ 400 := by
          obtain ⟨_, _, _, hM', _⟩ := h1
          exact hM'.1.le
        refine ih tn' f' J L' ?_ h2 h1 hq'
        rcases h4 with h4 | h4 | h4 | ⟨h4, h6⟩
        · exact absurd (Or.inl h4) hx
        · by_cases t3 : tn' = 3
          · rw [if_pos t3]; omega
          · rw [if_neg t3]; omega
        · exact absurd (Or.inr h4) hx
        · rw [if_neg (by omega)]
          rw [if_pos h4] at hN
          omega
    have ne4 : ¬ tn = 4 := fun z => hx (Or.inr z)
    rcases (by omega : tn = 0 ∨ tn = 1 ∨ tn = 2 ∨ tn = 3) with rfl | rfl | rfl | rfl
    · have z : nI 0 = (0 : Int32) := rfl
      simp only [E178_20, E178_21, E178_24, E178_27, E178_28, E178_29, E178_32, E178_33, E178_36, E178_37, pk54 hS, rfs, rfn, cs0, csi, csl, csr, csn, kti, ktl, ktr, ktn, ktv, ktf, true_and, and_true, and_self, ↓reduceIte, Nat.reduceAdd, Nat.reduceSub, Nat.reduceMul, Nat.reduceLT, Nat.reduceLeDiff, Nat.reduceEqDiff, true_or, or_true, false_or, or_false, not_true_eq_false, not_false_eq_true, reduceCtorEq, cmp_lt, cmp_gt, cmp_eq, Int32.reduceAdd, Int32.reduceSub, Int32.reduceMul, Int32.reduceLT, Int32.reduceToNatClampNeg, eq_self, ne_eq, Int64.reduceAdd, Int64.reduceSub, Int64.reduceMul, Int64.reduceLT, e13, bI_f, z, ne0_4]
      refine rpl (d := d) hS hR hM hV (fun J L' f' tn' k1 k2 k3 k4 k5 => ?_)
      simp only [E178_37, E178_40, E178_72, E178_73, rfs, rfn, cs0, csi, csl, csr, csn, kti, ktl, ktr, ktn, ktv, ktf, true_and, and_true, and_self, ↓reduceIte, Nat.reduceAdd, Nat.reduceSub, Nat.reduceMul, Nat.reduceLT, Nat.reduceLeDiff, Nat.reduceEqDiff, true_or, or_true, false_or, or_false, not_true_eq_false, not_false_eq_true, reduceCtorEq, cmp_lt, cmp_gt, cmp_eq, Int32.reduceAdd, Int32.reduceSub, Int32.reduceMul, Int32.reduceLT, Int32.reduceToNatClampNeg, eq_self, ne_eq, Int64.reduceAdd, Int64.reduceSub, Int64.reduceMul, Int64.reduceLT]
      exact go J L' f' tn' .null k1 k2 k3 (k4.elim Or.inl (fun z => Or.inr (Or.inl z))) k5
    · have z : nI 1 = (1 : Int32) := rfl
      simp only [E178_20, E178_21, E178_24, E178_27, E178_28, E178_29, E178_32, E178_33, E178_43, E178_44, E178_45, E178_48, E178_49, pk54 hS, rfs, rfn, cs0, csi, csl, csr, csn, kti, ktl, ktr, ktn, ktv, ktf, true_and, and_true, and_self, ↓reduceIte, Nat.reduceAdd, Nat.reduceSub, Nat.reduceMul, Nat.reduceLT, Nat.reduceLeDiff, Nat.reduceEqDiff, true_or, or_true, false_or, or_false, not_true_eq_false, not_false_eq_true, reduceCtorEq, cmp_lt, cmp_gt, cmp_eq, Int32.reduceAdd, Int32.reduceSub, Int32.reduceMul, Int32.reduceLT, Int32.reduceToNatClampNeg, eq_self, ne_eq, Int64.reduceAdd, Int64.reduceSub, Int64.reduceMul, Int64.reduceLT, e13, bI_f, z, ne1_4, n1_0]
      refine rpt (d := d + 1) hS hR hM hV (fun J L' f' tn' k1 k2 k3 k4 k5 => ?_)
      simp only [E178_49, E178_52, E178_72, E178_73, rfs, rfn, cs0, csi, csl, csr, csn, kti, ktl, ktr, ktn, ktv, ktf, true_and, and_true, and_self, ↓reduceIte, Nat.reduceAdd, Nat.reduceSub, Nat.reduceMul, Nat.reduceLT, Nat.reduceLeDiff, Nat.reduceEqDiff, true_or, or_true, false_or, or_false, not_true_eq_false, not_false_eq_true, reduceCtorEq, cmp_lt, cmp_gt, cmp_eq, Int32.reduceAdd, Int32.reduceSub, Int32.reduceMul, Int32.reduceLT, Int32.reduceToNatClampNeg, eq_self, ne_eq, Int64.reduceAdd, Int64.reduceSub, Int64.reduceMul, Int64.reduceLT]
      exact go J L' f' tn' .null k1 k2 k3 (k4.elim Or.inl (fun z => Or.inr (Or.inl z))) k5
    · have z : nI 2 = (2 : Int32) := rfl
      simp only [E178_20, E178_21, E178_24, E178_27, E178_28, E178_29, E178_32, E178_33, E178_43, E178_44, E178_45, E178_55, E178_56, E178_57, E178_68, E178_69, pk54 hS, rfs, rfn, cs0, csi, csl, csr, csn, kti, ktl, ktr, ktn, ktv, ktf, true_and, and_true, and_self, ↓reduceIte, Nat.reduceAdd, Nat.reduceSub, Nat.reduceMul, Nat.reduceLT, Nat.reduceLeDiff, Nat.reduceEqDiff, true_or, or_true, false_or, or_false, not_true_eq_false, not_false_eq_true, reduceCtorEq, cmp_lt, cmp_gt, cmp_eq, Int32.reduceAdd, Int32.reduceSub, Int32.reduceMul, Int32.reduceLT, Int32.reduceToNatClampNeg, eq_self, ne_eq, Int64.reduceAdd, Int64.reduceSub, Int64.reduceMul, Int64.reduceLT, e13, bI_f, z, ne2_4, ne2_0, ne2_1, ne2_3]
      refine bht (d := d) hS hR hM hV (fun J L' f' tn' k1 k2 k3 k4 k5 => ?_)
      simp only [E178_69, E178_72, E178_73, rfs, rfn, cs0, csi, csl, csr, csn, kti, ktl, ktr, ktn, ktv, ktf, true_and, and_true, and_self, ↓reduceIte, Nat.reduceAdd, Nat.reduceSub, Nat.reduceMul, Nat.reduceLT, Nat.reduceLeDiff, Nat.reduceEqDiff, true_or, or_true, false_or, or_false, not_true_eq_false, not_false_eq_true, reduceCtorEq, cmp_lt, cmp_gt, cmp_eq, Int32.reduceAdd, Int32.reduceSub, Int32.reduceMul, Int32.reduceLT, Int32.reduceToNatClampNeg, eq_self, ne_eq, Int64.reduceAdd, Int64.reduceSub, Int64.reduceMul, Int64.reduceLT]
      exact go J L' f' tn' .null k1 k2 k3 (k4.elim Or.inl (fun z => Or.inr (z.elim Or.inl (fun z => Or.inr (Or.inl z))))) k5
    · have z : nI 3 = (3 : Int32) := rfl
      simp only [E178_20, E178_21, E178_24, E178_27, E178_28, E178_29, E178_32, E178_33, E178_43, E178_44, E178_45, E178_55, E178_56, E178_57, E178_60, E178_61, E178_62, pk54 hS, rfs, rfn, cs0, csi, csl, csr, csn, kti, ktl, ktr, ktn, ktv, ktf, true_and, and_true, and_self, ↓reduceIte, Nat.reduceAdd, Nat.reduceSub, Nat.reduceMul, Nat.reduceLT, Nat.reduceLeDiff, Nat.reduceEqDiff, true_or, or_true, false_or, or_false, not_true_eq_false, not_false_eq_true, reduceCtorEq, cmp_lt, cmp_gt, cmp_eq, Int32.reduceAdd, Int32.reduceSub, Int32.reduceMul, Int32.reduceLT, Int32.reduceToNatClampNeg, eq_self, ne_eq, Int64.reduceAdd, Int64.reduceSub, Int64.reduceMul, Int64.reduceLT, e13, bI_f, z, ne3_4, ne3_0, ne3_1]
      refine bhs (d := d) hS hR hM hV (fun J L' f' tn' k1 k2 k3 k4 k5 => ?_)
      simp only [E178_62, E178_65, E178_72, E178_73, rfs, rfn, cs0, csi, csl, csr, csn, kti, ktl, ktr, ktn, ktv, ktf, true_and, and_true, and_self, ↓reduceIte, Nat.reduceAdd, Nat.reduceSub, Nat.reduceMul, Nat.reduceLT, Nat.reduceLeDiff, Nat.reduceEqDiff, true_or, or_true, false_or, or_false, not_true_eq_false, not_false_eq_true, reduceCtorEq, cmp_lt, cmp_gt, cmp_eq, Int32.reduceAdd, Int32.reduceSub, Int32.reduceMul, Int32.reduceLT, Int32.reduceToNatClampNeg, eq_self, ne_eq, Int64.reduceAdd, Int64.reduceSub, Int64.reduceMul, Int64.reduceLT]
      exact go J L' f' tn' .null k1 k2 k3 (k4.elim Or.inl (fun z => Or.inr (z.elim Or.inl (fun z => Or.inr (z.elim Or.inl (fun z => Or.inr ⟨rfl, z⟩)))))) k5
theorem rex {tst : Bool} (hS : Pm S) (hR : Pr R) (hT : Tk I L f) (e13 : I 54 13 = bI false) (e15 : I 54 15 = nI nc) (hf : nc ≤ f) (hq : ∀ J L' f' nc' bad', Tk J L' f' → J 54 13 = bI bad' → J 54 15 = nI nc' → nc ≤ nc' → nc' ≤ f' → f ≤ f' → (bad' = false → ∃ n, Dp (J 60) nc (nc' - nc) n) → Fx I J nc → Q .null S J L' R) : EvM (d + 7) 178 [.ref 54, .int (bI tst)] S I L R Q := by
  have f4 := hT.le
  have K0 : Fx I (put (put I 54 19 0) 54 20 0) nc := Fx.p (Fx.p Fx.rf (by decide)) (by decide)
  have go : ∀ tn, tn ≤ 1 → Ev (d + 7) 178 20 [.ref 54, .int (bI tst), .int (nI tn)] [] S (put (put I 54 19 0) 54 20 0) L R Q := by
    intro tn ht
    refine rx_lp (d := d) (a := nc) hS hR 802 tn f _ L ?_ (by omega) ⟨nc, 0, false, ⟨hT.cg (fun k w1 w2 => by rw [pt_f (by omega), pt_f (by omega)]), ?_, ?_, ?_, by omega, Nat.le_refl nc⟩, fun _ => ⟨⟨fun i hi => absurd hi (by omega), fun i j h1 h2 => absurd h2 (by omega)⟩, fun _ i hi => absurd hi (by omega), ?_, fun _ i hi => absurd hi (by omega)⟩⟩ (fun J L' f' nc' bad' w1 w2 w3 w4 w5 w6 w7 w8 => hq J L' f' nc' bad' w1 w2 w3 w4 w5 w6 w7 (K0.tr w8))
    · rw [if_neg (by omega)]; omega
    · rw [pt_f (by decide), pt_f (by decide)]; exact e13
    · rw [pt_f (by decide), pt_f (by decide)]; exact e15
    · rw [pt_f (by decide), pt_s]; rfl
    · rw [if_neg (by omega), Nat.sub_self]; rfl
  cases tst
  · simp only [bI_f] at go ⊢
    simp only [M178, E178_0, E178_1, E178_2, E178_5, E178_6, E178_7, E178_10, E178_11, E178_18, E178_19, pk54 hS, rfs, rfn, cs0, csi, csl, csr, csn, kti, ktl, ktr, ktn, ktv, ktf, true_and, and_true, and_self, ↓reduceIte, Nat.reduceAdd, Nat.reduceSub, Nat.reduceMul, Nat.reduceLT, Nat.reduceLeDiff, Nat.reduceEqDiff, true_or, or_true, false_or, or_false, not_true_eq_false, not_false_eq_true, reduceCtorEq, cmp_lt, cmp_gt, cmp_eq, Int32.reduceAdd, Int32.reduceSub, Int32.reduceMul, Int32.reduceLT, Int32.reduceToNatClampNeg, eq_self, ne_eq, Int64.reduceAdd, Int64.reduceSub, Int64.reduceMul, Int64.reduceLT, pt]
    exact go 1 (by omega)
  · simp only [bI_t] at go ⊢
    simp only [M178, E178_0, E178_1, E178_2, E178_5, E178_6, E178_7, E178_10, E178_11, E178_14, E178_15, E178_18, E178_19, pk54 hS, rfs, rfn, cs0, csi, csl, csr, csn, kti, ktl, ktr, ktn, ktv, ktf, true_and, and_true, and_self, ↓reduceIte, Nat.reduceAdd, Nat.reduceSub, Nat.reduceMul, Nat.reduceLT, Nat.reduceLeDiff, Nat.reduceEqDiff, true_or, or_true, false_or, or_false, not_true_eq_false, not_false_eq_true, reduceCtorEq, cmp_lt, cmp_gt, cmp_eq, Int32.reduceAdd, Int32.reduceSub, Int32.reduceMul, Int32.reduceLT, Int32.reduceToNatClampNeg, eq_self, ne_eq, Int64.reduceAdd, Int64.reduceSub, Int64.reduceMul, Int64.reduceLT, n1_0, pt]
    exact go 0 (by omega)
end TV
