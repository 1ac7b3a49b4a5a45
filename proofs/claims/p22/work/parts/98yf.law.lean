/-! group C: run of the reference beside the class's -/
section RLW
variable {d t u q n m i : Nat} {S S1 : mS} {I I1 C J : mI} {L : mL} {R R1 : mR} {Q : mQ} {k v ex : Int32}
theorem rcB_in {r : Nat} (er : I 5 6 = nI r) (r8 : r ≤ 8) : inB k.toInt64 0 ((nI r).toInt64 - 1) = rcB I 5 k := by
  have h1 := inBu (x := k) (a := 0) (lo := 0) (w := r) rfl (by omega)
  rw [Bool.eq_iff_iff, h1]
  unfold rcB
  rw [decide_eq_true_iff, er]
  refine ⟨fun z => ⟨z.1, z.2, ?_⟩, fun z => ⟨z.1, z.2.1⟩⟩
  have a := Int32.lt_iff_toInt_lt.mp z.2
  rw [nI_toInt (by omega)] at a
  rw [Int32.lt_iff_toInt_lt]
  show k.toInt < 8
  omega
/-- a RECIPE's rows on both sides -/
theorem rx_d (X : XC S I R t) (h : ExB I R) (hk : rcB I 5 k = true) (x : RcX1 I R k q n m) : ∃ i r, i < r ∧ r ≤ 8 ∧ I 5 6 = nI r ∧ k = nI i ∧ I 56 (60 + 1000 * i) = nI n ∧ TxR (I (q + 1)) (I (q + 2)) (I (q + 3)) (fun j => I 56 (60 + 1000 * i + j)) n := by
  obtain ⟨_, r, r8, er⟩ := X.2.1.rcs
  obtain ⟨g1, g2, g3⟩ : ¬ k < 0 ∧ k < I 5 6 ∧ k < 8 := of_decide_eq_true hk
  rw [er] at g2
  obtain ⟨i, hi, rfl⟩ := lt_nI (by omega) g1 g2
  have x1 := x.1
  rw [nI_clamp (by omega)] at x1
  obtain ⟨h0, n', n1, e1, hT⟩ := h.1.2 i r q er r8 hi x1
  obtain rfl : n' = n := (nI_eq (by omega) (by have := x.2.1; omega)).mp (e1.symm.trans x.2.2.2.1)
  exact ⟨i, r, hi, r8, er, rfl, h0.symm.trans e1, hT⟩
theorem smk (rl : Rel I R) (eC : ∀ a, 5 ≤ a → a ≤ 8 → C a = I a) (e : J 56 = I 56) : SmK 5 C J := by
  obtain ⟨_, ⟨h0, h3, _, hc, _⟩, _, _⟩ := rl
  unfold SmK
  rw [e, eC 5 (by decide) (by decide), eC (5 + 1) (by decide) (by decide), eC (5 + 3) (by decide) (by decide)]
  exact ⟨h0, h3, fun c hc5 => ⟨(hc c hc5).1, (hc c hc5).2.2⟩⟩
/-- goThrough beside carryOut, in the relation -/
theorem gthL (hS : Pm S1) (hR : Pr R1) (rl : Rel I R) (hM : Rw (I 56)) (hi : i < 8) (n16 : n ≤ 16) (m416 : m ≤ 416) (en : I 56 (60 + 1000 * i) = nI n) (hT : TxR (I (q + 1)) (I (q + 2)) (I (q + 3)) (fun j => I 56 (60 + 1000 * i + j)) n) (q85 : 85 ≤ q) (hz : ∀ x, m ≤ x → x < 416 → I (q + 3) x = 0) (hu : 11 < u ∧ u ≤ 32) (eC : ∀ a, (5 ≤ a ∧ a ≤ 8) ∨ 85 ≤ a → C a = I a) (eJ : J 56 = I 56) (hsl : SlR u C J L) (hx : ex = -1 ∨ ∃ j, j + 1 < n ∧ ex = nI j) (hq : ∀ w J' L', I 5 0 = nI w → SR u w (carF C u 5 n (q + 1) (q + 2) (q + 3) m ex).1 J' → SlR u (carF C u 5 n (q + 1) (q + 2) (q + 3) m ex).1 J' L' → Gq J J' → J' 54 41 = nI (carF C u 5 n (q + 1) (q + 2) (q + 3) m ex).2 → Q .null S1 J' L' R1) : EvM (d + 5) 196 [.ref 54, .int (nI i), .int ex] S1 J L R1 Q := by
  obtain ⟨w, w3, w5, ew⟩ := hM.1
  have e0 : I 5 0 = nI w := by rw [← ew]; exact rl.2.1.1
  have c1 := eC (q + 1) (Or.inr (by omega))
  have c2 := eC (q + 2) (Or.inr (by omega))
  have c3 := eC (q + 3) (Or.inr (by omega))
  refine gthR (d := d) (z := 5) (w := w) hS hR (by rw [eJ]; exact hM) (by rw [eJ]; exact ew) (by omega) hi n16 m416 (by rw [eJ]; exact en) (by rw [c1, c2, c3, eJ]; exact hT) (by rw [c3]; exact hz) (by omega) (by omega) (by omega) (by omega) (smk rl (fun a h1 h2 => eC a (Or.inl ⟨h1, h2⟩)) eJ) hx hsl (fun J' L' a b c e => hq w J' L' e0 a b c e)
theorem car_le {z k1 k2 k3 : Nat} {w : Int32} : (carF C u z n k1 k2 k3 m w).2 ≤ 100 := cr_le 100 0 0 _
theorem runE (hS : Pm S1) (hR : Pr R1) (rl : Rel I R) (hM : Rw (I 56)) (hi : i < 8) {r : Nat} (e1 : I1 56 1 = nI r) (g : inB (nI i).toInt64 0 ((nI r).toInt64 - 1) = true) (n16 : n ≤ 16) (m416 : m ≤ 416) (en : I 56 (60 + 1000 * i) = nI n) (hT : TxR (I (q + 1)) (I (q + 2)) (I (q + 3)) (fun j => I 56 (60 + 1000 * i + j)) n) (q85 : 85 ≤ q) (hz : ∀ x, m ≤ x → x < 416 → I (q + 3) x = 0) (eC : ∀ a, (5 ≤ a ∧ a ≤ 8) ∨ 85 ≤ a → C a = I a) (e56 : I1 56 = I 56) (h9 : C 20 9 = -1) (hq : ∀ J L', Q (.int (nI (carF C 20 5 n (q + 1) (q + 2) (q + 3) m (-1)).2)) S1 J L' R1) : EvM (d + 6) 197 [.ref 54, .int (nI i)] S1 I1 L R1 Q := by
  obtain ⟨c, c1, c2, ec⟩ := hM.1
  have z0 : inb 0 8060 = True := inb_nI (j := 0) (by decide) (by decide)
  have hle := car_le (C := C) (u := 20) (z := 5) (n := n) (k1 := q + 1) (k2 := q + 2) (k3 := q + 3) (m := m) (w := -1)
  simp only [M197, E197_0, E197_1, E197_2, E197_5, E197_6, E197_7, E197_10, E197_13, E197_14, E197_16, E197_19, E197_20, E197_21, E197_22, E197_25, E197_26, E197_27, E197_28, isr hS hR, pt_m, e1, g, bI_t, n1_0, pk54 hS, pk56 hS, pl56 hS, pa56 hS, pi56 hS, pr54_3 hR, rfs, rfn, cs0, csi, csl, csr, csn, kti, ktl, ktr, ktn, ktv, ktf, true_and, and_true, and_self, ↓reduceIte, Nat.reduceAdd, Nat.reduceSub, Nat.reduceMul, Nat.reduceLT, Nat.reduceLeDiff, Nat.reduceEqDiff, true_or, or_true, false_or, or_false, not_true_eq_false, not_false_eq_true, reduceCtorEq, cmp_lt, cmp_gt, cmp_eq, Int32.reduceAdd, Int32.reduceSub, Int32.reduceMul, Int32.reduceLT, Int32.reduceToNatClampNeg, eq_self, ne_eq, Int64.reduceAdd, Int64.reduceSub, Int64.reduceMul, Int64.reduceLT, pt]
  refine gthL (d := d) (C := C) (u := 20) hS hR rl hM hi n16 m416 en hT q85 hz (by decide) eC (by rw [pt_n (by decide), pt_n (by decide)]; exact e56) ⟨h9.trans pt_s.symm, Or.inl h9⟩ (Or.inl rfl) (fun w J L' _ _ _ gJ e41 => ?_)
  have J6 : J 56 = I 56 := by rw [gJ.w, pt_n (by decide), pt_n (by decide)]; exact e56
  simp only [E197_0, E197_1, E197_2, E197_5, E197_6, E197_7, E197_10, E197_13, E197_14, E197_16, E197_19, E197_20, E197_21, E197_22, E197_25, E197_26, E197_27, E197_28, E197_31, E197_32, E197_33, E197_36, E197_37, E197_38, E197_41, E197_42, E197_43, E197_44, E197_45, E197_48, E197_49, E197_52, E197_53, E197_54, E197_57, E197_58, E197_59, E197_60, E197_61, E197_64, E197_65, E197_66, E197_69, E197_70, E197_71, E197_72, E197_75, E197_78, E197_79, E197_82, E197_83, E197_84, E197_87, E197_88, E197_89, E197_92, E197_93, E197_94, E197_97, E197_98, E197_99, E197_102, E197_103, E197_104, E197_107, E197_108, E197_109, E197_112, E197_113, E197_114, E197_117, E197_118, E197_119, E197_122, E197_123, E197_124, E197_127, E197_128, E197_129, E197_132, E197_133, E197_134, E197_137, E197_138, E197_139, E197_142, E197_144, E197_145, E197_148, E197_149, E197_150, E197_153, E197_155, E197_156, E197_159, E197_160, E197_161, E197_164, E197_166, E197_167, E197_170, E197_171, E197_172, E197_175, E197_177, E197_178, E197_181, E197_182, E197_183, E197_186, E197_188, E197_189, E197_192, E197_193, E197_194, E197_197, E197_199, E197_200, E197_203, E197_204, E197_205, E197_206, E197_209, E197_212, telI hS hR (n := (carF C 20 5 n (q + 1) (q + 2) (q + 3) m (-1)).2) (by omega), pk54 hS, pk56 hS, pl56 hS, pa56 hS, pi56 hS, pk64 hS, pl64 hS, pa64 hS, pi64 hS, pk66 hS, pl66 hS, pa66 hS, pi66 hS, pk68 hS, pl68 hS, pa68 hS, pi68 hS, pk69 hS, pl69 hS, pa69 hS, pi69 hS, pk70 hS, pl70 hS, pa70 hS, pi70 hS, pr54_3 hR, pr54_23 hR, pr54_25 hR, pr54_46 hR, pr54_47 hR, pr54_48 hR, rfs, rfn, cs0, csi, csl, csr, csn, kti, ktl, ktr, ktn, ktv, ktf, true_and, and_true, and_self, ↓reduceIte, Nat.reduceAdd, Nat.reduceSub, Nat.reduceMul, Nat.reduceLT, Nat.reduceLeDiff, Nat.reduceEqDiff, true_or, or_true, false_or, or_false, not_true_eq_false, not_false_eq_true, reduceCtorEq, cmp_lt, cmp_gt, cmp_eq, Int32.reduceAdd, Int32.reduceSub, Int32.reduceMul, Int32.reduceLT, Int32.reduceToNatClampNeg, eq_self, ne_eq, Int64.reduceAdd, Int64.reduceSub, Int64.reduceMul, Int64.reduceLT, z0, J6, ec, inb_is, pt, pt_m, pt_f, e41]
  exact hq _ _
/-- run: both answer alike -/
theorem run_law (X : XC S I R t) (rl : Rel I R) (h : ExB I R) (hd : HdR I) (M : InvM I1 t) (hS : Pm S1) (hR : Pr R1) (o1 : OutX I I1) (n1 : (rcB I 5 k = false ∧ v = -2 ∧ RuF I I1) ∨ (rcB I 5 k = true ∧ ∃ q n m, RcX1 I R k q n m ∧ v = nI (carF (put I 4 6 1) 20 5 n (q + 1) (q + 2) (q + 3) m (-1)).2 ∧ I1 = graF (finF (carF (put I 4 6 1) 20 5 n (q + 1) (q + 2) (q + 3) m (-1)).1 20 5))) (hq : ∀ J L', InvM J t → OutM I1 J → RlN I1 J → Q (.int v) S1 J L' R1) : EvM (d + 6) 197 [.ref 54, .int k] S1 I1 L R1 Q := by
  obtain ⟨_, r, r8, er⟩ := X.2.1.rcs
  have e56 : I1 56 = I 56 := o1 56 (by decide)
  have e1 : I1 56 1 = nI r := by rw [e56, ← h.1.1]; exact er
  rcases n1 with ⟨g, rfl, _⟩ | ⟨g, q, n, m, rx, rfl, _⟩
  · have g' : inB k.toInt64 0 ((nI r).toInt64 - 1) = false := (rcB_in er r8).trans g
    simp only [M197, E197_0, E197_1, E197_2, E197_5, E197_6, E197_7, E197_10, E197_13, E197_14, E197_16, E197_19, isr hS hR, pt_m, e1, g', bI_f, tel2 hS hR, pk54 hS, pk56 hS, pl56 hS, pa56 hS, pi56 hS, pr54_3 hR, rfs, rfn, cs0, csi, csl, csr, csn, kti, ktl, ktr, ktn, ktv, ktf, true_and, and_true, and_self, ↓reduceIte, Nat.reduceAdd, Nat.reduceSub, Nat.reduceMul, Nat.reduceLT, Nat.reduceLeDiff, Nat.reduceEqDiff, true_or, or_true, false_or, or_false, not_true_eq_false, not_false_eq_true, reduceCtorEq, cmp_lt, cmp_gt, cmp_eq, Int32.reduceAdd, Int32.reduceSub, Int32.reduceMul, Int32.reduceLT, Int32.reduceToNatClampNeg, eq_self, ne_eq, Int64.reduceAdd, Int64.reduceSub, Int64.reduceMul, Int64.reduceLT, pt]
    exact hq _ _ M.p0.tel (by repeat (first | exact OutM.rf | apply telF_o | refine OutM.pt ?_ (by decide) (by decide))) (by repeat (first | exact RlN.rf | apply RlN.tel | refine RlN.p4 ?_ (by decide) | refine RlN.pa ?_ (by decide)))
  · have g' : inB k.toInt64 0 ((nI r).toInt64 - 1) = true := (rcB_in er r8).trans g
    obtain ⟨i, r', hi, _, er', rfl, en, hT⟩ := rx_d X h g rx
    have er8 : r' = r := (nI_eq (by omega) (by omega)).mp (er'.symm.trans er)
    have eC : ∀ a, (5 ≤ a ∧ a ≤ 8) ∨ 85 ≤ a → put I 4 6 1 a = I a := fun a ha => pt_n (by omega)
    have k1 := m_run (d := d) (L := L) (r := nI i) (Q := fun v S' J L' R' => ∃ x, v = .int x ∧ S' = S1 ∧ R' = R1 ∧ InvM J t ∧ OutM I1 J ∧ RlN I1 J) hS hR M (fun v J L' a b c => ⟨v, rfl, rfl, rfl, a, b, c⟩)
    have k2 := runE (d := d) (L := L) (C := put I 4 6 1) (Q := fun v _ _ _ _ => v = .int (nI (carF (put I 4 6 1) 20 5 n (q + 1) (q + 2) (q + 3) m (-1)).2)) hS hR rl (by rw [← e56]; exact M.1) (by omega) e1 g' rx.2.1 rx.2.2.1 en hT rx.2.2.2.2.1 rx.2.2.2.2.2 eC e56 ((pt_m (by decide)).trans hd.1) (fun _ _ => rfl)
    refine evm_mono (evm_and k1 k2) (fun v S' J L' R' k => ?_)
    obtain ⟨⟨x, rfl, rfl, rfl, a, b, c⟩, e⟩ := k
    injection e with e
    subst e
    exact hq J L' a b c
end RLW
