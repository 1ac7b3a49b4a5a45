/-! group C: a RUN from its begin to its end -/
def rs0v (k : Nat) : Int32 := if k = 28 ∨ k = 35 then -1 else 0
section GTH
variable {d u w z m n r k1 k2 k3 : Nat} {S : mS} {C J J' C0 I0 : mI} {L : mL} {R : mR} {Q : mQ} {ex : Int32}
theorem rs0R (hS : Pm S) (hR : Pr R) (hq : ∀ J', Gq J J' → (∀ c, c < 5 → J' 64 c = J 56 (20 + c) ∧ J' 65 c = 0 ∧ J' 66 c = 0) → (∀ k, 26 ≤ k → k ≤ 41 → J' 54 k = rs0v k) → Q .null S J' L R) : EvM (d + 1) 195 [.ref 54] S J L R Q := by
  simp only [M195, E195_0, E195_1, E195_2, E195_3, E195_4, E195_7, E195_8, E195_11, E195_12, E195_13, E195_16, E195_18, E195_19, E195_20, E195_21, E195_22, E195_23, E195_26, E195_27, E195_28, E195_29, E195_30, E195_33, E195_34, E195_35, E195_36, E195_39, E195_42, E195_43, E195_44, E195_47, E195_48, E195_49, E195_52, E195_53, E195_54, E195_57, E195_58, E195_59, E195_62, E195_63, E195_64, E195_67, E195_68, E195_69, E195_72, E195_73, E195_74, E195_77, E195_78, E195_79, E195_82, E195_83, E195_84, E195_87, E195_88, E195_89, E195_92, E195_93, E195_94, E195_97, E195_98, E195_99, E195_102, E195_103, E195_104, E195_107, E195_108, E195_109, E195_112, E195_113, E195_114, E195_117, E195_118, E195_119, E195_122, pk54 hS, pk56 hS, pl56 hS, pa56 hS, pi56 hS, pk64 hS, pl64 hS, pa64 hS, pi64 hS, pk65 hS, pl65 hS, pa65 hS, pi65 hS, pk66 hS, pl66 hS, pa66 hS, pi66 hS, pr54_3 hR, pr54_23 hR, pr54_24 hR, pr54_25 hR, rfs, rfn, cs0, csi, csl, csr, csn, kti, ktl, ktr, ktn, ktv, ktf, true_and, and_true, and_self, ↓reduceIte, Nat.reduceAdd, Nat.reduceSub, Nat.reduceMul, Nat.reduceLT, Nat.reduceLeDiff, Nat.reduceEqDiff, true_or, or_true, false_or, or_false, not_true_eq_false, not_false_eq_true, reduceCtorEq, cmp_lt, cmp_gt, cmp_eq, Int32.reduceAdd, Int32.reduceSub, Int32.reduceMul, Int32.reduceLT, Int32.reduceToNatClampNeg, eq_self, ne_eq, Int64.reduceAdd, Int64.reduceSub, Int64.reduceMul, Int64.reduceLT, inb_is, pt, pt_m]
  refine hq _ ?_ (fun c hc => ?_) (fun k k1 k2 => ?_)
  · repeat (first | exact Gq.rf | refine Gq.p4 ?_ (by decide) | refine Gq.pa ?_ (by decide))
  · have e : c = 0 ∨ c = 1 ∨ c = 2 ∨ c = 3 ∨ c = 4 := by omega
    rcases e with rfl | rfl | rfl | rfl | rfl <;> refine ⟨?_, ?_, ?_⟩ <;> simp (disch := decide) only [pt_s, pt_f, pt_m] <;> rfl
  · have e : k = 26 ∨ k = 27 ∨ k = 28 ∨ k = 29 ∨ k = 30 ∨ k = 31 ∨ k = 32 ∨ k = 33 ∨ k = 34 ∨ k = 35 ∨ k = 36 ∨ k = 37 ∨ k = 38 ∨ k = 39 ∨ k = 40 ∨ k = 41 := by omega
    rcases e with rfl | rfl | rfl | rfl | rfl | rfl | rfl | rfl | rfl | rfl | rfl | rfl | rfl | rfl | rfl | rfl <;> simp (disch := decide) only [pt_s, pt_f] <;> rfl
theorem beg0 (hzu : z + 6 < u) (ec : C z 0 = nI w) (w5 : w ≤ 5) : begF C u z u 0 = nI w ∧ begF C u z u 5 = -1 ∧ begF C u z u 6 = 0 ∧ begF C u z u 9 = C u 9 ∧ begF C u z u 10 = C u 10 := by
  refine ⟨?_, ?_, ?_, ?_, ?_⟩
  · have e : begF C u z u 0 = (if C z 0 < 5 then C z 0 else 5) := by
      unfold begF be1 filF cpyF
      rw [pt_f (by decide), pt_f (by decide), uu_n _ _ (show u ≠ u + 4 by omega), uu_n _ _ (show u ≠ u + 3 by omega), pt_n (show ¬ u = u + 2 by omega), uu_n _ _ (show u ≠ u + 2 by omega), uu_n _ _ (show u ≠ u + 1 by omega), pt_s]
    rw [e, ec]
    by_cases q : w = 5
    · rw [q]
      exact if_neg (by decide)
    · exact if_pos (nI_lt (a := w) (b := 5) (by omega) (by decide))
  · unfold begF
    rw [pt_f (by decide), pt_s]
  · unfold begF
    rw [pt_s]
  · unfold begF be1 filF cpyF
    rw [pt_f (by decide), pt_f (by decide), uu_n _ _ (show u ≠ u + 4 by omega), uu_n _ _ (show u ≠ u + 3 by omega), pt_n (show ¬ u = u + 2 by omega), uu_n _ _ (show u ≠ u + 2 by omega), uu_n _ _ (show u ≠ u + 1 by omega), pt_f (by decide)]
  · unfold begF be1 filF cpyF
    rw [pt_f (by decide), pt_f (by decide), uu_n _ _ (show u ≠ u + 4 by omega), uu_n _ _ (show u ≠ u + 3 by omega), pt_n (show ¬ u = u + 2 by omega), uu_n _ _ (show u ≠ u + 2 by omega), uu_n _ _ (show u ≠ u + 1 by omega), pt_f (by decide)]
theorem beg1 (hzu : z + 6 < u) {c : Nat} (hc : c < 5) : begF C u z (u + 1) c = C (z + 1) c := by
  unfold begF be1 filF cpyF
  rw [pt_n (show ¬ u + 1 = u by omega), pt_n (show ¬ u + 1 = u by omega), uu_n _ _ (show u + 1 ≠ u + 4 by omega), uu_n _ _ (show u + 1 ≠ u + 3 by omega), pt_n (show ¬ u + 1 = u + 2 by omega), uu_n _ _ (show u + 1 ≠ u + 2 by omega), uu_s]
  unfold va_cpy
  rw [if_pos ⟨Nat.zero_le c, by omega⟩, pt_n (show ¬ z + 1 = u by omega), show 0 + (c - 0) = c by omega]
theorem beg2 {k : Nat} (hk : k < 14) : begF C u z (u + 2) k = (if k = 6 then -1 else 0) := by
  unfold begF be1 filF
  rw [pt_n (show ¬ u + 2 = u by omega), pt_n (show ¬ u + 2 = u by omega), uu_n _ _ (show u + 2 ≠ u + 4 by omega), uu_n _ _ (show u + 2 ≠ u + 3 by omega)]
  by_cases e : k = 6
  · rw [e, pt_s, if_pos rfl]
  · rw [pt_f e, uu_s, if_neg e]
    exact if_pos hk
theorem beg3 {c : Nat} (hc : c < 5) : begF C u z (u + 3) c = 0 ∧ begF C u z (u + 4) c = 0 := by
  unfold begF filF
  refine ⟨?_, ?_⟩
  · rw [pt_n (show ¬ u + 3 = u by omega), pt_n (show ¬ u + 3 = u by omega), uu_n _ _ (show u + 3 ≠ u + 4 by omega), uu_s]
    exact if_pos hc
  · rw [pt_n (show ¬ u + 4 = u by omega), pt_n (show ¬ u + 4 = u by omega), uu_s]
    exact if_pos hc
/-- both begin alike -/
theorem begSR (hzu : z + 6 < u) (ec : C z 0 = nI w) (w3 : 3 ≤ w) (w5 : w ≤ 5) (e0 : J' 56 0 = nI w) (hb : ∀ c, c < 5 → ∃ x, 1 ≤ x ∧ x ≤ 9 ∧ C (z + 1) c = nI x ∧ J' 64 c = nI x) (h65 : ∀ c, c < 5 → J' 65 c = 0 ∧ J' 66 c = 0) (hk : ∀ k, 26 ≤ k → k ≤ 41 → J' 54 k = rs0v k) : SR u w (begF C u z) J' := by
  obtain ⟨q0, q5, q6, _, _⟩ := beg0 (C := C) hzu ec w5
  refine ⟨q0, w3, w5, e0, fun c hc => ⟨?_, ?_, ?_⟩, ⟨?_, Or.inl ⟨q5, hk 26 (by decide) (by decide)⟩⟩, ⟨0, by decide, q6, hk 27 (by decide) (by decide)⟩, fun k hk12 => ?_⟩
  · rw [beg1 hzu hc]
    exact hb c hc
  · rw [(beg3 hc).1]
    exact (h65 c hc).1.symm
  · rw [(beg3 hc).2]
    exact (h65 c hc).2.symm
  · rw [q5]
    exact hk 28 (by decide) (by decide)
  · rw [beg2 (by omega), hk (29 + k) (by omega) (by omega)]
    unfold rs0v
    by_cases e : k = 6
    · rw [if_pos e, if_pos (Or.inr (by omega))]
    · rw [if_neg e, if_neg (by omega)]
theorem gtR {w0 : Nat} (hS : Pm S) (hR : Pr R) (hr : r < 8) (hn : n ≤ 16) (hm : m ≤ 416) (en : I0 56 (60 + 1000 * r) = nI n) (hT : TxR (C0 k1) (C0 k2) (C0 k3) (fun j => I0 56 (60 + 1000 * r + j)) n) (hy : ∀ x, m ≤ x → x < 416 → C0 k3 x = 0) (h1 : u + 5 < k1) (h2 : u + 5 < k2) (h3 : u + 5 < k3) (hzu : z + 6 < u) (hsm : SmL u z C0 I0) (hx : ex = -1 ∨ ∃ i, i + 1 < n ∧ ex = nI i) : ∀ (N g x : Nat) (C J : mI) (L : mL) (y5 y6 y7 : Value), g + N = 100 → x ≤ 16 → J 54 41 = nI g → SR u w0 C J → SlR u C J L → J 54 35 = -1 → Gu u C0 C → Gq I0 J → (∀ J' L', SR u w0 (crF u z n k1 k2 k3 m ex N g (nI x) C).1 J' → SlR u (crF u z n k1 k2 k3 m ex N g (nI x) C).1 J' L' → Gq I0 J' → J' 54 41 = nI (crF u z n k1 k2 k3 m ex N g (nI x) C).2 → Q .null S J' L' R) → Ev (d + 5) 196 16 [.ref 54, .int (nI r), .int ex, .int (nI (60 + 1000 * r)), .int (nI x), y5, y6, y7] [] S J L R Q := by
  have t0 : inb (nI (60 + 1000 * r)) 8060 = True := inb_nI (by omega) (by decide)
  have t1 : (nI (60 + 1000 * r)).toNatClampNeg = 60 + 1000 * r := nI_clamp (by omega)
  have ext : ∀ (J : mI) (L : mL) (x g : Nat) (y5 y6 y7 : Value), x ≤ 16 → g ≤ 100 → J 56 = I0 56 → J 54 41 = nI g → (n ≤ x ∨ g = 100 ∨ ¬ J 54 35 = -1) → Q .null S J L R → Ev (d + 5) 196 16 [.ref 54, .int (nI r), .int ex, .int (nI (60 + 1000 * r)), .int (nI x), y5, y6, y7] [] S J L R Q := by
    intro J L x g y5 y6 y7 x16 g100 J6 e41 hc hq
    by_cases p1 : x < n
    · have p1' : (nI x < nI n) = True := eq_true (nI_lt p1 (by omega))
      by_cases p2 : g = 100
      · subst p2
        have e100 : (nI 100 < (100 : Int32)) = False := eq_false (by decide)
        simp only [E196_16, E196_18, E196_19, E196_22, E196_23, E196_24, E196_27, E196_28, E196_31, E196_33, E196_226, pk54 hS, pk56 hS, pl56 hS, pa56 hS, pi56 hS, pr54_3 hR, rfs, rfn, cs0, csi, csl, csr, csn, kti, ktl, ktr, ktn, ktv, ktf, true_and, and_true, and_self, ↓reduceIte, Nat.reduceAdd, Nat.reduceSub, Nat.reduceMul, Nat.reduceLT, Nat.reduceLeDiff, Nat.reduceEqDiff, true_or, or_true, false_or, or_false, not_true_eq_false, not_false_eq_true, reduceCtorEq, cmp_lt, cmp_gt, cmp_eq, Int32.reduceAdd, Int32.reduceSub, Int32.reduceMul, Int32.reduceLT, Int32.reduceToNatClampNeg, eq_self, ne_eq, Int64.reduceAdd, Int64.reduceSub, Int64.reduceMul, Int64.reduceLT, J6, en, t0, t1, p1', e41, e100]
        exact hq
      · have e100 : (nI g < (100 : Int32)) = True := eq_true (nI_lt (a := g) (b := 100) (by omega) (by decide))
        have p3 : ¬ J 54 35 = -1 := by
          rcases hc with hc | hc | hc
          · omega
          · exact absurd hc p2
          · exact hc
        simp only [E196_16, E196_18, E196_19, E196_22, E196_23, E196_24, E196_27, E196_28, E196_31, E196_33, E196_36, E196_37, E196_40, E196_41, E196_226, pk54 hS, pk56 hS, pl56 hS, pa56 hS, pi56 hS, pr54_3 hR, rfs, rfn, cs0, csi, csl, csr, csn, kti, ktl, ktr, ktn, ktv, ktf, true_and, and_true, and_self, ↓reduceIte, Nat.reduceAdd, Nat.reduceSub, Nat.reduceMul, Nat.reduceLT, Nat.reduceLeDiff, Nat.reduceEqDiff, true_or, or_true, false_or, or_false, not_true_eq_false, not_false_eq_true, reduceCtorEq, cmp_lt, cmp_gt, cmp_eq, Int32.reduceAdd, Int32.reduceSub, Int32.reduceMul, Int32.reduceLT, Int32.reduceToNatClampNeg, eq_self, ne_eq, Int64.reduceAdd, Int64.reduceSub, Int64.reduceMul, Int64.reduceLT, J6, en, t0, t1, p1', e41, e100, p3]
        exact hq
    · have p1' : (nI x < nI n) = False := eq_false (nI_nlt (by omega) (by omega))
      simp only [E196_16, E196_18, E196_19, E196_22, E196_23, E196_24, E196_226, pk54 hS, pk56 hS, pl56 hS, pa56 hS, pi56 hS, pr54_3 hR, rfs, rfn, cs0, csi, csl, csr, csn, kti, ktl, ktr, ktn, ktv, ktf, true_and, and_true, and_self, ↓reduceIte, Nat.reduceAdd, Nat.reduceSub, Nat.reduceMul, Nat.reduceLT, Nat.reduceLeDiff, Nat.reduceEqDiff, true_or, or_true, false_or, or_false, not_true_eq_false, not_false_eq_true, reduceCtorEq, cmp_lt, cmp_gt, cmp_eq, Int32.reduceAdd, Int32.reduceSub, Int32.reduceMul, Int32.reduceLT, Int32.reduceToNatClampNeg, eq_self, ne_eq, Int64.reduceAdd, Int64.reduceSub, Int64.reduceMul, Int64.reduceLT, J6, en, t0, t1, p1']
      exact hq
  intro N
  induction N with
  | zero =>
    intro g x C J L y5 y6 y7 hg x16 e41 h hsl e35 gC gJ hq
    exact ext J L x g _ _ _ x16 (by omega) gJ.w e41 (Or.inr (Or.inl (by omega))) (hq J L h hsl gJ e41)
  | succ N ih =>
    intro g x C J L y5 y6 y7 hg x16 e41 h hsl e35 gC gJ hq
    by_cases hxn : x < n
    · have ec : crF u z n k1 k2 k3 m ex (N + 1) g (nI x) C = crF u z n k1 k2 k3 m ex N (g + 1) (pasF C u z n k1 k2 k3 m (stp ex (nI x)) (nI x)).2 (pasF C u z n k1 k2 k3 m (stp ex (nI x)) (nI x)).1 := if_pos ⟨nI_pos (by omega), nI_lt hxn (by omega)⟩
      rw [ec] at hq
      have J6 := gJ.w
      have p1 : (nI x < nI n) = True := eq_true (nI_lt hxn (by omega))
      have e100 : (nI g < (100 : Int32)) = True := eq_true (nI_lt (a := g) (b := 100) (by omega) (by decide))
      have e35' : (J 54 35 = -1) = True := eq_true e35
      simp only [E196_16, E196_18, E196_19, E196_22, E196_23, E196_24, E196_27, E196_28, E196_31, E196_33, E196_36, E196_37, E196_40, E196_41, E196_44, E196_45, E196_46, E196_49, E196_50, E196_51, pk54 hS, pk56 hS, pl56 hS, pa56 hS, pi56 hS, pr54_3 hR, rfs, rfn, cs0, csi, csl, csr, csn, kti, ktl, ktr, ktn, ktv, ktf, true_and, and_true, and_self, ↓reduceIte, Nat.reduceAdd, Nat.reduceSub, Nat.reduceMul, Nat.reduceLT, Nat.reduceLeDiff, Nat.reduceEqDiff, true_or, or_true, false_or, or_false, not_true_eq_false, not_false_eq_true, reduceCtorEq, cmp_lt, cmp_gt, cmp_eq, Int32.reduceAdd, Int32.reduceSub, Int32.reduceMul, Int32.reduceLT, Int32.reduceToNatClampNeg, eq_self, ne_eq, Int64.reduceAdd, Int64.reduceSub, Int64.reduceMul, Int64.reduceLT, J6, en, t0, t1, p1, e41, e100, e35', nI_1, pt]
      have gK : Gq I0 (put J 54 41 (nI (g + 1))) := Gq.p4 gJ (by decide)
      have eK : put J 54 41 (nI (g + 1)) 54 41 = nI (g + 1) := pt_s
      have hK : SR u w0 C (put J 54 41 (nI (g + 1))) := h.g (fun _ _ => rfl) (fun _ _ _ => rfl) (pt_m (by decide)) (fun a h1 h2 => pt_n (by omega)) (fun k h1 h2 => pt_f (by omega))
      have sK : SlR u C (put J 54 41 (nI (g + 1))) L := hsl.e rfl rfl (pt_f (by decide))
      have K35 : put J 54 41 (nI (g + 1)) 54 35 = -1 := (pt_f (by decide)).trans e35
      generalize put J 54 41 (nI (g + 1)) = K at gK eK hK sK K35
      have key : ∀ (s : Nat) (y5 y6 y7 : Value), s < n → stp ex (nI x) = nI s → Ev (d + 5) 196 95 [.ref 54, .int (nI r), .int ex, .int (nI (60 + 1000 * r)), .int (nI x), y5, y6, y7] [.int (nI s)] S K L R Q := by
        intro s y5 y6 y7 hs es
        rw [es] at hq
        refine pasR (d := d) (z := z) hS hR hr hn hm hT hy h1 h2 h3 hzu hsm hs hK sK K35 gC gK eK (by omega) (fun J' L' x' y5 y6 y7 k1' k2' k3' k4' k5' k6' k7' => ?_)
        rcases k6' with ⟨a1, a2⟩ | ⟨a1, a2⟩
        · rw [a2] at hq
          exact ih (g + 1) x' _ J' L' _ _ _ (by omega) k5' k4' k1' k2' a1 k7' k3' hq
        · have e2 : crF u z n k1 k2 k3 m ex N (g + 1) (nI n) (pasF C u z n k1 k2 k3 m (nI s) (nI x)).1 = ((pasF C u z n k1 k2 k3 m (nI s) (nI x)).1, g + 1) := by
            cases N with
            | zero => rfl
            | succ N => exact if_neg (fun y => nI_nlt (Nat.le_refl n) (by omega) y.2)
          rw [a2, e2] at hq
          exact ext J' L' x' (g + 1) _ _ _ k5' (by omega) k3'.w k4' (Or.inr (Or.inr a1)) (hq J' L' k1' k2' k3' k4')
      rcases hx with rfl | ⟨i, hi, rfl⟩
      · simp only [E196_54, E196_55, E196_56, E196_73, E196_75, rfs, rfn, cs0, csi, csl, csr, csn, kti, ktl, ktr, ktn, ktv, ktf, true_and, and_true, and_self, ↓reduceIte, Nat.reduceAdd, Nat.reduceSub, Nat.reduceMul, Nat.reduceLT, Nat.reduceLeDiff, Nat.reduceEqDiff, true_or, or_true, false_or, or_false, not_true_eq_false, not_false_eq_true, reduceCtorEq, cmp_lt, cmp_gt, cmp_eq, Int32.reduceAdd, Int32.reduceSub, Int32.reduceMul, Int32.reduceLT, Int32.reduceToNatClampNeg, eq_self, ne_eq, Int64.reduceAdd, Int64.reduceSub, Int64.reduceMul, Int64.reduceLT]
        exact key x _ _ _ hxn (if_pos rfl)
      · have n1 : ¬ nI i = -1 := fun y => nI_pos (n := i) (by omega) (by rw [y]; decide)
        have p9 : (nI i = -1) = False := eq_false n1
        by_cases z1 : x = i
        · subst z1
          have es : stp (nI x) (nI x) = nI (x + 1) := by
            unfold stp
            rw [if_neg n1, if_pos rfl, nI_1]
          simp only [E196_54, E196_55, E196_56, E196_59, E196_61, E196_62, E196_78, E196_80, E196_81, E196_84, E196_86, E196_87, E196_88, rfs, rfn, cs0, csi, csl, csr, csn, kti, ktl, ktr, ktn, ktv, ktf, true_and, and_true, and_self, ↓reduceIte, Nat.reduceAdd, Nat.reduceSub, Nat.reduceMul, Nat.reduceLT, Nat.reduceLeDiff, Nat.reduceEqDiff, true_or, or_true, false_or, or_false, not_true_eq_false, not_false_eq_true, reduceCtorEq, cmp_lt, cmp_gt, cmp_eq, Int32.reduceAdd, Int32.reduceSub, Int32.reduceMul, Int32.reduceLT, Int32.reduceToNatClampNeg, eq_self, ne_eq, Int64.reduceAdd, Int64.reduceSub, Int64.reduceMul, Int64.reduceLT, p9, nI_1]
          exact key (x + 1) _ _ _ (by omega) es
        · have m1 : ¬ nI x = nI i := fun y => z1 ((nI_eq (by omega) (by omega)).mp y)
          have z1' : (nI x = nI i) = False := eq_false m1
          by_cases z2 : x = i + 1
          · subst z2
            have es : stp (nI i) (nI (i + 1)) = nI i := by
              unfold stp
              rw [if_neg n1, if_neg m1, nI_1, if_pos rfl]
            simp only [E196_54, E196_55, E196_56, E196_59, E196_61, E196_62, E196_65, E196_67, E196_68, E196_69, E196_70, E196_78, E196_80, E196_81, E196_91, E196_93, E196_94, rfs, rfn, cs0, csi, csl, csr, csn, kti, ktl, ktr, ktn, ktv, ktf, true_and, and_true, and_self, ↓reduceIte, Nat.reduceAdd, Nat.reduceSub, Nat.reduceMul, Nat.reduceLT, Nat.reduceLeDiff, Nat.reduceEqDiff, true_or, or_true, false_or, or_false, not_true_eq_false, not_false_eq_true, reduceCtorEq, cmp_lt, cmp_gt, cmp_eq, Int32.reduceAdd, Int32.reduceSub, Int32.reduceMul, Int32.reduceLT, Int32.reduceToNatClampNeg, eq_self, ne_eq, Int64.reduceAdd, Int64.reduceSub, Int64.reduceMul, Int64.reduceLT, p9, z1', nI_1, nI_m1]
            exact key i _ _ _ (by omega) es
          · have m2 : ¬ nI x = nI (i + 1) := fun y => z2 ((nI_eq (by omega) (by omega)).mp y)
            have z2' : (nI x = nI (i + 1)) = False := eq_false m2
            have es : stp (nI i) (nI x) = nI x := by
              unfold stp
              rw [if_neg n1, if_neg m1, nI_1, if_neg m2]
            simp only [E196_54, E196_55, E196_56, E196_59, E196_61, E196_62, E196_65, E196_67, E196_68, E196_69, E196_70, E196_73, E196_75, rfs, rfn, cs0, csi, csl, csr, csn, kti, ktl, ktr, ktn, ktv, ktf, true_and, and_true, and_self, ↓reduceIte, Nat.reduceAdd, Nat.reduceSub, Nat.reduceMul, Nat.reduceLT, Nat.reduceLeDiff, Nat.reduceEqDiff, true_or, or_true, false_or, or_false, not_true_eq_false, not_false_eq_true, reduceCtorEq, cmp_lt, cmp_gt, cmp_eq, Int32.reduceAdd, Int32.reduceSub, Int32.reduceMul, Int32.reduceLT, Int32.reduceToNatClampNeg, eq_self, ne_eq, Int64.reduceAdd, Int64.reduceSub, Int64.reduceMul, Int64.reduceLT, p9, z1', z2', nI_1]
            exact key x _ _ _ hxn es
    · have ec : crF u z n k1 k2 k3 m ex (N + 1) g (nI x) C = (C, g) := if_neg (fun y => nI_nlt (show n ≤ x by omega) (by omega) y.2)
      rw [ec] at hq
      exact ext J L x g _ _ _ x16 (by omega) gJ.w e41 (Or.inl (by omega)) (hq J L h hsl gJ e41)
/-- the class's Smithy z as the reference's row has it -/
def SmK (z : Nat) (C J : mI) : Prop := C z 0 = J 56 0 ∧ C z 3 = J 56 3 ∧ ∀ c, c < 5 → C (z + 1) c = J 56 (20 + c) ∧ C (z + 3) c = J 56 (10 + c)
/-- goThrough beside carryOut -/
theorem gthR (hS : Pm S) (hR : Pr R) (hRw : Rw (J 56)) (ew : J 56 0 = nI w) (hw31 : w < 2 ^ 31) (hr : r < 8) (hn : n ≤ 16) (hm : m ≤ 416) (en : J 56 (60 + 1000 * r) = nI n) (hT : TxR (C k1) (C k2) (C k3) (fun j => J 56 (60 + 1000 * r + j)) n) (hy : ∀ x, m ≤ x → x < 416 → C k3 x = 0) (h1 : u + 5 < k1) (h2 : u + 5 < k2) (h3 : u + 5 < k3) (hzu : z + 6 < u) (hsm : SmK z C J) (hx : ex = -1 ∨ ∃ i, i + 1 < n ∧ ex = nI i) (hsl : SlR u C J L) (hq : ∀ J' L', SR u w (carF C u z n k1 k2 k3 m ex).1 J' → SlR u (carF C u z n k1 k2 k3 m ex).1 J' L' → Gq J J' → J' 54 41 = nI (carF C u z n k1 k2 k3 m ex).2 → Q .null S J' L' R) : EvM (d + 5) 196 [.ref 54, .int (nI r), .int ex] S J L R Q := by
  obtain ⟨wc, w3, w5, ew'⟩ := hRw.1
  obtain rfl : wc = w := (nI_eq (by omega) hw31).mp (ew'.symm.trans ew)
  obtain ⟨_, ⟨B, B4, eB⟩, hZ⟩ := hRw.2.1
  obtain ⟨σ, s1, es⟩ := hZ 4 (by decide)
  obtain ⟨g0, g3, gc⟩ := hsm
  have t2 : (60 : Int32) + 1000 * nI r = nI (60 + 1000 * r) := by rw [show (1000 : Int32) = nI 1000 from rfl, show (60 : Int32) = nI 60 from rfl, pk_mul, nI_add]
  simp only [M196, E196_0, E196_1, pk54 hS, rfs, rfn, cs0, csi, csl, csr, csn, kti, ktl, ktr, ktn, ktv, ktf, true_and, and_true, and_self, ↓reduceIte, Nat.reduceAdd, Nat.reduceSub, Nat.reduceMul, Nat.reduceLT, Nat.reduceLeDiff, Nat.reduceEqDiff, true_or, or_true, false_or, or_false, not_true_eq_false, not_false_eq_true, reduceCtorEq, cmp_lt, cmp_gt, cmp_eq, Int32.reduceAdd, Int32.reduceSub, Int32.reduceMul, Int32.reduceLT, Int32.reduceToNatClampNeg, eq_self, ne_eq, Int64.reduceAdd, Int64.reduceSub, Int64.reduceMul, Int64.reduceLT]
  refine rs0R hS hR (fun J1 gJ k64 k54 => ?_)
  simp only [E196_4, E196_6, E196_9, E196_10, E196_11, E196_12, E196_13, E196_14, rfs, rfn, cs0, csi, csl, csr, csn, kti, ktl, ktr, ktn, ktv, ktf, true_and, and_true, and_self, ↓reduceIte, Nat.reduceAdd, Nat.reduceSub, Nat.reduceMul, Nat.reduceLT, Nat.reduceLeDiff, Nat.reduceEqDiff, true_or, or_true, false_or, or_false, not_true_eq_false, not_false_eq_true, reduceCtorEq, cmp_lt, cmp_gt, cmp_eq, Int32.reduceAdd, Int32.reduceSub, Int32.reduceMul, Int32.reduceLT, Int32.reduceToNatClampNeg, eq_self, ne_eq, Int64.reduceAdd, Int64.reduceSub, Int64.reduceMul, Int64.reduceLT, t2]
  have J6 := gJ.w
  obtain ⟨_, _, _, q9, q10⟩ := beg0 (C := C) hzu (g0.trans ew') w5
  have hb : SR u wc (begF C u z) J1 := begSR hzu (g0.trans ew') w3 w5 (by rw [J6]; exact ew') (fun c hc => by
    obtain ⟨x, x1, x9, ex⟩ := (hRw.2.2.1 c hc).1
    exact ⟨x, x1, x9, (gc c hc).1.trans ex, (k64 c hc).1.trans ex⟩) (fun c hc => (k64 c hc).2) k54
  exact gtR (d := d) (z := z) (C0 := C) (I0 := J) hS hR hr hn hm en hT hy h1 h2 h3 hzu ⟨⟨by omega, by omega⟩, g3, ⟨B, B4, eB, (gc 0 (by decide)).2.trans eB⟩, σ, s1, es, (gc 4 (by decide)).2.trans es⟩ hx 100 0 0 (begF C u z) J1 L _ _ _ (by omega) (by omega) (k54 41 (by decide) (by decide)) hb (hsl.e q9 q10 (gJ.2 42 (by decide))) (k54 35 (by decide) (by decide)) Gu.rf.be gJ hq
end GTH
