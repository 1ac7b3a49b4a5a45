/-! group C: change of the reference beside the class's -/
theorem cel3 : ∀ c, c < 17 → (nI c - 1).toInt = (c : Int) - 1 := by decide +kernel
theorem inE2 {x : Int32} {c : Nat} (hc : c < 17) : inB x.toInt64 0 ((nI c).toInt64 - 2) = true ↔ ¬ x < 0 ∧ x < nI c - 1 := by
  unfold inB
  rw [decide_eq_true_iff, Int64.lt_iff_toInt_lt, Int64.lt_iff_toInt_lt, Int32.toInt_toInt64, cel2 c hc, Int32.lt_iff_toInt_lt, Int32.lt_iff_toInt_lt, cel3 c hc]
  show ¬ x.toInt < 0 ∧ ¬ (c : Int) - 2 < x.toInt ↔ ¬ x.toInt < 0 ∧ x.toInt < (c : Int) - 1
  omega
theorem lk_is {K : mI} {u v w : Nat} (e : K u 0 = nI w) (w5 : w ≤ 5) : ∀ (m i : Nat) (q : Bool), i + m = 5 → (lkF K u v m i q = true ↔ q = true ∧ ∀ c, i ≤ c → c < w → K (u + 1) c = K (v + 1) c)
  | 0, i, q, hi => ⟨fun h => ⟨h, fun c h1 h2 => absurd h2 (by omega)⟩, fun h => h.1⟩
  | m + 1, i, q, hi => by
    unfold lkF
    by_cases h : i < w
    · rw [e, if_pos (nI_lt h (by omega)), lk_is e w5 m (i + 1) _ (by omega), Bool.and_eq_true_iff, decide_eq_true_iff]
      refine ⟨fun z => ⟨z.1.1, fun c h1 h2 => ?_⟩, fun z => ⟨⟨z.1, z.2 i (Nat.le_refl i) h⟩, fun c h1 h2 => z.2 c (by omega) h2⟩⟩
      by_cases e : c = i
      · rw [e]
        exact z.1.2
      · exact z.2 c (by omega) h2
    · rw [e, if_neg (nI_nlt (by omega) (by omega))]
      exact ⟨fun z => ⟨z, fun c h1 h2 => absurd h2 (by omega)⟩, fun z => z.1⟩
theorem l2_is {K : mI} {u v : Nat} : ∀ (m i : Nat) (q : Bool), (l2F K u v m i q = true ↔ q = true ∧ ∀ c, i ≤ c → c < i + m → K (u + 2) c = K (v + 2) c)
  | 0, i, q => ⟨fun h => ⟨h, fun c h1 h2 => absurd h2 (by omega)⟩, fun h => h.1⟩
  | m + 1, i, q => by
    unfold l2F
    rw [l2_is m (i + 1) _, Bool.and_eq_true_iff, decide_eq_true_iff]
    refine ⟨fun z => ⟨z.1.1, fun c h1 h2 => ?_⟩, fun z => ⟨⟨z.1, z.2 i (Nat.le_refl i) (by omega)⟩, fun c h1 h2 => z.2 c (by omega) (by omega)⟩⟩
    by_cases e : c = i
    · rw [e]
      exact z.1.2
    · exact z.2 c (by omega) (by omega)
theorem lik_is {K : mI} {u v w : Nat} (e : K u 0 = nI w) (e2 : K v 0 = nI w) (w5 : w ≤ 5) : likF K u v = true ↔ (∀ c, c < w → K (u + 1) c = K (v + 1) c) ∧ ∀ c, 7 ≤ c → c < 12 → K (u + 2) c = K (v + 2) c := by
  unfold likF
  rw [l2_is, lk_is e w5 5 0 _ rfl, decide_eq_true (e.trans e2.symm)]
  exact ⟨fun z => ⟨fun c hc => z.1.2 c (Nat.zero_le c) hc, fun c h1 h2 => z.2 c h1 (by omega)⟩, fun z => ⟨⟨rfl, fun c _ hc => z.1 c hc⟩, fun c h1 h2 => z.2 c h1 (by omega)⟩⟩
section CHL
variable {d t u q n m i j w : Nat} {S S1 : mS} {I I1 C D J : mI} {L : mL} {R R1 : mR} {Q : mQ} {k v x : Int32}
theorem XC.rx1 (X : XC S I R t) (hk : rcB I 5 k = true) : ∃ q n m, RcX1 I R k q n m := by
  obtain ⟨q, n, k1, k2, k3, m, e1, e2, e3, _⟩ := X.2.1.rcs.1 k hk
  exact ⟨q, n, m, (X.rx hk e1 e2 e3).2.2.2⟩
theorem RcX1.un {q' n' m' : Nat} (a : RcX1 I R k q n m) (b : RcX1 I R k q' n' m') : q' = q ∧ n' = n := by
  obtain rfl : q' = q := Option.some.inj (b.1.symm.trans a.1)
  exact ⟨rfl, (nI_eq (by have := b.2.1; omega) (by have := a.2.1; omega)).mp (b.2.2.2.1.symm.trans a.2.2.2.1)⟩
theorem fin_n {a z : Nat} (h : ¬ a = u + 2) : finF D u z a = D a := by
  unfold finF
  rw [pt_n h, pt_n h]
theorem fin_f {z c : Nat} (hc : c < 12) : finF D u z (u + 2) c = D (u + 2) c := by
  unfold finF
  rw [pt_f (by omega), pt_f (by omega)]
/-- rows of IRON as numbers -/
theorem SR.nf (h : SR u w D J) : ∀ c, c < 5 → J 64 c = nI (J 64 c).toNatClampNeg ∧ (J 64 c).toNatClampNeg ≤ 9 := fun c hc => by
  obtain ⟨x, x1, x9, _, e⟩ := h.ir hc
  rw [e, nI_clamp (by omega)]
  exact ⟨rfl, x9⟩
theorem SR.ie (h : SR u w D J) {c : Nat} (hc : c < 5) : D (u + 1) c = J 64 c := by
  obtain ⟨x, _, _, e1, e2⟩ := h.ir hc
  rw [e1, e2]
theorem changeE (hS : Pm S1) (hR : Pr R1) (rl : Rel I R) (hM : Rw (I 56)) (hd : HdR I) (hi : i < 8) {r : Nat} (e1 : I1 56 1 = nI r) (g : inB (nI i).toInt64 0 ((nI r).toInt64 - 1) = true) (n16 : n ≤ 16) (m416 : m ≤ 416) (en : I 56 (60 + 1000 * i) = nI n) (hT : TxR (I (q + 1)) (I (q + 2)) (I (q + 3)) (fun j => I 56 (60 + 1000 * i + j)) n) (q85 : 85 ≤ q) (hz : ∀ x, m ≤ x → x < 416 → I (q + 3) x = 0) (e56 : I1 56 = I 56) (hj : j + 1 < n) (hq : ∀ J L', Q (.int (bI (likF (cgK I n (q + 1) (q + 2) (q + 3) m (nI j)) 26 32))) S1 J L' R1) : EvM (d + 6) 201 [.ref 54, .int (nI i), .int (nI j)] S1 I1 L R1 Q := by
  obtain ⟨w, w3, w5, ew⟩ := hM.1
  have t2 : (60 : Int32) + 1000 * nI i = nI (60 + 1000 * i) := by rw [show (1000 : Int32) = nI 1000 from rfl, show (60 : Int32) = nI 60 from rfl, pk_mul, nI_add]
  have f3 : inb (nI (60 + 1000 * i)) 8060 = True := inb_nI (by omega) (by decide)
  have f4 : (nI (60 + 1000 * i)).toNatClampNeg = 60 + 1000 * i := nI_clamp (by omega)
  have en1 : I1 56 (60 + 1000 * i) = nI n := by rw [e56]; exact en
  have g2 : inB (nI j).toInt64 0 ((nI n).toInt64 - 2) = true := (inE2 (by omega)).mpr ⟨nI_pos (by omega), by
    rw [Int32.lt_iff_toInt_lt, cel3 n (by omega), nI_toInt (by omega)]
    omega⟩
  simp only [M201, E201_0, E201_1, E201_2, E201_5, E201_6, E201_7, E201_10, E201_13, E201_14, E201_15, E201_16, E201_17, E201_20, E201_22, E201_25, E201_26, E201_27, E201_28, E201_29, E201_30, E201_33, E201_34, E201_37, E201_42, E201_43, E201_44, E201_47, E201_48, E201_49, E201_50, isr hS hR, inn, pt_m, e1, g, g2, bI_t, n1_0, pk54 hS, pk56 hS, pl56 hS, pa56 hS, pi56 hS, pr54_3 hR, rfs, rfn, cs0, csi, csl, csr, csn, kti, ktl, ktr, ktn, ktv, ktf, true_and, and_true, and_self, ↓reduceIte, Nat.reduceAdd, Nat.reduceSub, Nat.reduceMul, Nat.reduceLT, Nat.reduceLeDiff, Nat.reduceEqDiff, true_or, or_true, false_or, or_false, not_true_eq_false, not_false_eq_true, reduceCtorEq, cmp_lt, cmp_gt, cmp_eq, Int32.reduceAdd, Int32.reduceSub, Int32.reduceMul, Int32.reduceLT, Int32.reduceToNatClampNeg, eq_self, ne_eq, Int64.reduceAdd, Int64.reduceSub, Int64.reduceMul, Int64.reduceLT, pt, t2, f3, f4, en1]
  refine gthL (d := d) (C := I) (u := 32) hS hR rl hM hi n16 m416 en hT q85 hz (by decide) (fun _ _ => rfl) (by rw [pt_n (by decide), pt_n (by decide)]; exact e56) ⟨hd.2.2.trans pt_s.symm, Or.inl hd.2.2⟩ (Or.inl rfl) (fun w1 J1 L1 ew1 sr sl gJ _ => ?_)
  have J6 : J1 56 = I 56 := by rw [gJ.w, pt_n (by decide), pt_n (by decide)]; exact e56
  have J42 : J1 54 42 = -1 := (gJ.2 42 (by decide)).trans pt_s
  simp only [E201_53, E201_54, E201_57, E201_58, E201_59, E201_62, E201_64, E201_65, E201_68, E201_70, E201_71, E201_74, E201_76, E201_77, E201_80, E201_82, E201_83, pk54 hS, rfs, rfn, cs0, csi, csl, csr, csn, kti, ktl, ktr, ktn, ktv, ktf, true_and, and_true, and_self, ↓reduceIte, Nat.reduceAdd, Nat.reduceSub, Nat.reduceMul, Nat.reduceLT, Nat.reduceLeDiff, Nat.reduceEqDiff, true_or, or_true, false_or, or_false, not_true_eq_false, not_false_eq_true, reduceCtorEq, cmp_lt, cmp_gt, cmp_eq, Int32.reduceAdd, Int32.reduceSub, Int32.reduceMul, Int32.reduceLT, Int32.reduceToNatClampNeg, eq_self, ne_eq, Int64.reduceAdd, Int64.reduceSub, Int64.reduceMul, Int64.reduceLT]
  refine kpiE hS hR (fun J2 j2a j2b => ?_)
  simp only [E201_86, E201_87, E201_88, E201_89, pk54 hS, rfs, rfn, cs0, csi, csl, csr, csn, kti, ktl, ktr, ktn, ktv, ktf, true_and, and_true, and_self, ↓reduceIte, Nat.reduceAdd, Nat.reduceSub, Nat.reduceMul, Nat.reduceLT, Nat.reduceLeDiff, Nat.reduceEqDiff, true_or, or_true, false_or, or_false, not_true_eq_false, not_false_eq_true, reduceCtorEq, cmp_lt, cmp_gt, cmp_eq, Int32.reduceAdd, Int32.reduceSub, Int32.reduceMul, Int32.reduceLT, Int32.reduceToNatClampNeg, eq_self, ne_eq, Int64.reduceAdd, Int64.reduceSub, Int64.reduceMul, Int64.reduceLT]
  have gu1 := Gu.ca (Gu.rf (u := 32) (I := I)) (z := 5) (n := n) (k1 := q + 1) (k2 := q + 2) (k3 := q + 3) (m := m) (w := -1)
  have eJ : finF (carF I 32 5 n (q + 1) (q + 2) (q + 3) m (-1)).1 32 5 = cgJ I n (q + 1) (q + 2) (q + 3) m := rfl
  rw [eJ] at gu1
  refine gthL (d := d) (C := cgJ I n (q + 1) (q + 2) (q + 3) m) (u := 26) hS hR rl hM hi n16 m416 en hT q85 hz (by decide) (fun a ha => gu1 a (by omega)) (by rw [j2a 56 (by decide)]; exact J6) ⟨(by rw [gu1 26 (by decide), j2a 54 (by decide), J42]; exact hd.2.1), Or.inl (by rw [gu1 26 (by decide)]; exact hd.2.1)⟩ (Or.inr ⟨j, hj, rfl⟩) (fun w3' J3 L3 ew3 sr3 _ gJ3 _ => ?_)
  have e0 : I 5 0 = nI w := by rw [← ew]; exact rl.2.1.1
  have b1 := sr.w5
  have b3 := sr3.w5
  obtain rfl : w1 = w := (nI_eq (by omega) (by omega)).mp (ew1.symm.trans e0)
  obtain rfl : w3' = w1 := (nI_eq (by omega) (by omega)).mp (ew3.symm.trans ew1)
  have gu3 := Gu.ca (Gu.rf (u := 26) (I := cgJ I n (q + 1) (q + 2) (q + 3) m)) (z := 5) (n := n) (k1 := q + 1) (k2 := q + 2) (k3 := q + 3) (m := m) (w := nI j)
  have eK : finF (carF (cgJ I n (q + 1) (q + 2) (q + 3) m) 26 5 n (q + 1) (q + 2) (q + 3) m (nI j)).1 26 5 = cgK I n (q + 1) (q + 2) (q + 3) m (nI j) := rfl
  -- what class Run tells
  have c32 : ∀ c, c < 12 → cgJ I n (q + 1) (q + 2) (q + 3) m 34 c = J1 54 (29 + c) := fun c hc => by
    rw [← eJ, show (34 : Nat) = 32 + 2 from rfl, fin_f hc]
    exact sr.out hc
  have i32 : ∀ c, c < 5 → cgJ I n (q + 1) (q + 2) (q + 3) m 33 c = J1 64 c := fun c hc => by
    rw [← eJ, fin_n (by decide)]
    exact sr.ie hc
  have u32 : cgJ I n (q + 1) (q + 2) (q + 3) m 32 0 = nI w3' := by
    rw [← eJ, fin_n (by decide)]
    exact sr.1
  have c26 : ∀ c, c < 12 → cgK I n (q + 1) (q + 2) (q + 3) m (nI j) 28 c = J3 54 (29 + c) := fun c hc => by
    rw [← eK, show (28 : Nat) = 26 + 2 from rfl, fin_f hc]
    exact sr3.out hc
  have i26 : ∀ c, c < 5 → cgK I n (q + 1) (q + 2) (q + 3) m (nI j) 27 c = J3 64 c := fun c hc => by
    rw [← eK, fin_n (by decide)]
    exact sr3.ie hc
  have u26 : cgK I n (q + 1) (q + 2) (q + 3) m (nI j) 26 0 = nI w3' := by
    rw [← eK, fin_n (by decide)]
    exact sr3.1
  rw [eK] at gu3
  have k71 : ∀ c, c < 5 → J3 71 (5 * 0 + c) = J1 64 c := fun c hc => by
    rw [gJ3.1 71 (by decide) (by decide), show 5 * 0 + c = c by omega]
    exact j2b c hc
  have nf := sr3.nf
  have ng := sr.nf
  have li := lik_is (K := cgK I n (q + 1) (q + 2) (q + 3) m (nI j)) (u := 26) (v := 32) u26 (by rw [gu3 32 (by decide)]; exact u32) w5
  have ev : likF (cgK I n (q + 1) (q + 2) (q + 3) m (nI j)) 26 32 = true ↔ (∀ c, c < w3' → (J3 64 c).toNatClampNeg = (J1 64 c).toNatClampNeg) ∧ ∀ c, 7 ≤ c → c < 12 → J1 54 (29 + c) = J3 54 (29 + c) := by
    rw [li]
    refine ⟨fun z => ⟨fun c hc => ?_, fun c h1 h2 => ?_⟩, fun z => ⟨fun c hc => ?_, fun c h1 h2 => ?_⟩⟩
    · have a := z.1 c hc
      rw [i26 c (by omega), gu3 33 (by decide), i32 c (by omega)] at a
      rw [a]
    · have a := z.2 c h1 h2
      rw [c26 c h2, gu3 34 (by decide), c32 c h2] at a
      exact a.symm
    · rw [i26 c (by omega), gu3 33 (by decide), i32 c (by omega), (nf c (by omega)).1, (ng c (by omega)).1, z.1 c hc]
    · rw [c26 c h2, gu3 34 (by decide), c32 c h2]
      exact (z.2 c h1 h2).symm
  have no : ∀ c, 7 ≤ c → c < 12 → ¬ J1 54 (29 + c) = J3 54 (29 + c) → Q (.int 0) S1 J3 L3 R1 := fun c h1 h2 h3 => by
    have e : likF (cgK I n (q + 1) (q + 2) (q + 3) m (nI j)) 26 32 = false := Bool.eq_false_iff.mpr (fun z => h3 ((ev.mp z).2 c h1 h2))
    have k := hq J3 L3
    rw [e] at k
    exact k
  have ew3 : J3 56 0 = nI w3' := sr3.2.2.2.1
  by_cases h7 : J1 54 36 = J3 54 36
  · by_cases h8 : J1 54 37 = J3 54 37
    · by_cases h9 : J1 54 38 = J3 54 38
      · by_cases h10 : J1 54 39 = J3 54 39
        · by_cases h11 : J1 54 40 = J3 54 40
          · simp only [E201_92, E201_93, E201_94, E201_97, E201_100, E201_102, E201_103, E201_106, E201_109, E201_111, E201_112, E201_115, E201_118, E201_120, E201_121, E201_124, E201_127, E201_129, E201_130, E201_133, E201_136, E201_137, E201_140, E201_141, E201_143, E201_145, E201_148, E201_149, E201_150, pk54 hS, rfs, rfn, cs0, csi, csl, csr, csn, kti, ktl, ktr, ktn, ktv, ktf, true_and, and_true, and_self, ↓reduceIte, Nat.reduceAdd, Nat.reduceSub, Nat.reduceMul, Nat.reduceLT, Nat.reduceLeDiff, Nat.reduceEqDiff, true_or, or_true, false_or, or_false, not_true_eq_false, not_false_eq_true, reduceCtorEq, cmp_lt, cmp_gt, cmp_eq, Int32.reduceAdd, Int32.reduceSub, Int32.reduceMul, Int32.reduceLT, Int32.reduceToNatClampNeg, eq_self, ne_eq, Int64.reduceAdd, Int64.reduceSub, Int64.reduceMul, Int64.reduceLT, eq_true h7, eq_true h8, eq_true h9, eq_true h10, eq_true h11, n1_0]
            refine aptE (k := 0) (w := w3') (f := fun c => (J3 64 c).toNatClampNeg) (g := fun c => (J1 64 c).toNatClampNeg) hS hR w5 (by decide) ew3 (fun c hc => nf c (by omega)) (fun c hc => by rw [k71 c (by omega)]; exact ng c (by omega)) ?_
            have hall : ∀ c, 7 ≤ c → c < 12 → J1 54 (29 + c) = J3 54 (29 + c) := fun c a b => by
              have e : c = 7 ∨ c = 8 ∨ c = 9 ∨ c = 10 ∨ c = 11 := by omega
              rcases e with rfl | rfl | rfl | rfl | rfl
              · exact h7
              · exact h8
              · exact h9
              · exact h10
              · exact h11
            have d0 := dsum_0 (f := fun c => (J3 64 c).toNatClampNeg) (g := fun c => (J1 64 c).toNatClampNeg) w3' 0 0
            have db := dsum_b (f := fun c => (J3 64 c).toNatClampNeg) (g := fun c => (J1 64 c).toNatClampNeg) w3' 0 0 (fun c _ hc => ⟨(nf c (by omega)).2, (ng c (by omega)).2⟩)
            have k := hq J3 L3
            generalize dsum (fun c => (J3 64 c).toNatClampNeg) (fun c => (J1 64 c).toNatClampNeg) w3' 0 0 = s at d0 db ⊢
            by_cases s0 : s = 0
            · have e : likF (cgK I n (q + 1) (q + 2) (q + 3) m (nI j)) 26 32 = true := ev.mpr ⟨fun c hc => (d0.mp s0).2 c (Nat.zero_le c) (by omega), hall⟩
              rw [e] at k
              have z : (nI s = 0) = True := by rw [s0]; exact eq_true rfl
              simp only [E201_153, E201_156, E201_157, E201_160, E201_161, rfs, rfn, cs0, csi, csl, csr, csn, kti, ktl, ktr, ktn, ktv, ktf, true_and, and_true, and_self, ↓reduceIte, Nat.reduceAdd, Nat.reduceSub, Nat.reduceMul, Nat.reduceLT, Nat.reduceLeDiff, Nat.reduceEqDiff, true_or, or_true, false_or, or_false, not_true_eq_false, not_false_eq_true, reduceCtorEq, cmp_lt, cmp_gt, cmp_eq, Int32.reduceAdd, Int32.reduceSub, Int32.reduceMul, Int32.reduceLT, Int32.reduceToNatClampNeg, eq_self, ne_eq, Int64.reduceAdd, Int64.reduceSub, Int64.reduceMul, Int64.reduceLT, z]
              exact k
            · have e : likF (cgK I n (q + 1) (q + 2) (q + 3) m (nI j)) 26 32 = false := Bool.eq_false_iff.mpr (fun y => s0 (d0.mpr ⟨rfl, fun c _ hc => (ev.mp y).1 c (by omega)⟩))
              rw [e] at k
              have z : (nI s = 0) = False := eq_false (fun y => s0 ((nI_eq (a := s) (b := 0) (by omega) (by decide)).mp y))
              simp only [E201_153, E201_156, E201_157, E201_160, E201_161, rfs, rfn, cs0, csi, csl, csr, csn, kti, ktl, ktr, ktn, ktv, ktf, true_and, and_true, and_self, ↓reduceIte, Nat.reduceAdd, Nat.reduceSub, Nat.reduceMul, Nat.reduceLT, Nat.reduceLeDiff, Nat.reduceEqDiff, true_or, or_true, false_or, or_false, not_true_eq_false, not_false_eq_true, reduceCtorEq, cmp_lt, cmp_gt, cmp_eq, Int32.reduceAdd, Int32.reduceSub, Int32.reduceMul, Int32.reduceLT, Int32.reduceToNatClampNeg, eq_self, ne_eq, Int64.reduceAdd, Int64.reduceSub, Int64.reduceMul, Int64.reduceLT, z]
              exact k
          · simp only [E201_92, E201_93, E201_94, E201_97, E201_100, E201_102, E201_103, E201_106, E201_109, E201_111, E201_112, E201_115, E201_118, E201_120, E201_121, E201_124, E201_127, E201_129, E201_130, E201_133, E201_136, E201_137, E201_140, E201_141, E201_143, E201_145, E201_148, E201_149, E201_150, E201_153, E201_156, E201_157, E201_160, E201_161, pk54 hS, rfs, rfn, cs0, csi, csl, csr, csn, kti, ktl, ktr, ktn, ktv, ktf, true_and, and_true, and_self, ↓reduceIte, Nat.reduceAdd, Nat.reduceSub, Nat.reduceMul, Nat.reduceLT, Nat.reduceLeDiff, Nat.reduceEqDiff, true_or, or_true, false_or, or_false, not_true_eq_false, not_false_eq_true, reduceCtorEq, cmp_lt, cmp_gt, cmp_eq, Int32.reduceAdd, Int32.reduceSub, Int32.reduceMul, Int32.reduceLT, Int32.reduceToNatClampNeg, eq_self, ne_eq, Int64.reduceAdd, Int64.reduceSub, Int64.reduceMul, Int64.reduceLT, eq_true h7, eq_true h8, eq_true h9, eq_true h10, h11]
            exact no 11 (by decide) (by decide) h11
        · simp only [E201_92, E201_93, E201_94, E201_97, E201_100, E201_102, E201_103, E201_106, E201_109, E201_111, E201_112, E201_115, E201_118, E201_120, E201_121, E201_124, E201_127, E201_129, E201_130, E201_133, E201_136, E201_137, E201_140, E201_141, E201_143, E201_145, E201_148, E201_149, E201_150, E201_153, E201_156, E201_157, E201_160, E201_161, pk54 hS, rfs, rfn, cs0, csi, csl, csr, csn, kti, ktl, ktr, ktn, ktv, ktf, true_and, and_true, and_self, ↓reduceIte, Nat.reduceAdd, Nat.reduceSub, Nat.reduceMul, Nat.reduceLT, Nat.reduceLeDiff, Nat.reduceEqDiff, true_or, or_true, false_or, or_false, not_true_eq_false, not_false_eq_true, reduceCtorEq, cmp_lt, cmp_gt, cmp_eq, Int32.reduceAdd, Int32.reduceSub, Int32.reduceMul, Int32.reduceLT, Int32.reduceToNatClampNeg, eq_self, ne_eq, Int64.reduceAdd, Int64.reduceSub, Int64.reduceMul, Int64.reduceLT, eq_true h7, eq_true h8, eq_true h9, h10]
          exact no 10 (by decide) (by decide) h10
      · simp only [E201_92, E201_93, E201_94, E201_97, E201_100, E201_102, E201_103, E201_106, E201_109, E201_111, E201_112, E201_115, E201_118, E201_120, E201_121, E201_124, E201_127, E201_129, E201_130, E201_133, E201_136, E201_137, E201_140, E201_141, E201_143, E201_145, E201_148, E201_149, E201_150, E201_153, E201_156, E201_157, E201_160, E201_161, pk54 hS, rfs, rfn, cs0, csi, csl, csr, csn, kti, ktl, ktr, ktn, ktv, ktf, true_and, and_true, and_self, ↓reduceIte, Nat.reduceAdd, Nat.reduceSub, Nat.reduceMul, Nat.reduceLT, Nat.reduceLeDiff, Nat.reduceEqDiff, true_or, or_true, false_or, or_false, not_true_eq_false, not_false_eq_true, reduceCtorEq, cmp_lt, cmp_gt, cmp_eq, Int32.reduceAdd, Int32.reduceSub, Int32.reduceMul, Int32.reduceLT, Int32.reduceToNatClampNeg, eq_self, ne_eq, Int64.reduceAdd, Int64.reduceSub, Int64.reduceMul, Int64.reduceLT, eq_true h7, eq_true h8, h9]
        exact no 9 (by decide) (by decide) h9
    · simp only [E201_92, E201_93, E201_94, E201_97, E201_100, E201_102, E201_103, E201_106, E201_109, E201_111, E201_112, E201_115, E201_118, E201_120, E201_121, E201_124, E201_127, E201_129, E201_130, E201_133, E201_136, E201_137, E201_140, E201_141, E201_143, E201_145, E201_148, E201_149, E201_150, E201_153, E201_156, E201_157, E201_160, E201_161, pk54 hS, rfs, rfn, cs0, csi, csl, csr, csn, kti, ktl, ktr, ktn, ktv, ktf, true_and, and_true, and_self, ↓reduceIte, Nat.reduceAdd, Nat.reduceSub, Nat.reduceMul, Nat.reduceLT, Nat.reduceLeDiff, Nat.reduceEqDiff, true_or, or_true, false_or, or_false, not_true_eq_false, not_false_eq_true, reduceCtorEq, cmp_lt, cmp_gt, cmp_eq, Int32.reduceAdd, Int32.reduceSub, Int32.reduceMul, Int32.reduceLT, Int32.reduceToNatClampNeg, eq_self, ne_eq, Int64.reduceAdd, Int64.reduceSub, Int64.reduceMul, Int64.reduceLT, eq_true h7, h8]
      exact no 8 (by decide) (by decide) h8
  · simp only [E201_92, E201_93, E201_94, E201_97, E201_100, E201_102, E201_103, E201_106, E201_109, E201_111, E201_112, E201_115, E201_118, E201_120, E201_121, E201_124, E201_127, E201_129, E201_130, E201_133, E201_136, E201_137, E201_140, E201_141, E201_143, E201_145, E201_148, E201_149, E201_150, E201_153, E201_156, E201_157, E201_160, E201_161, pk54 hS, rfs, rfn, cs0, csi, csl, csr, csn, kti, ktl, ktr, ktn, ktv, ktf, true_and, and_true, and_self, ↓reduceIte, Nat.reduceAdd, Nat.reduceSub, Nat.reduceMul, Nat.reduceLT, Nat.reduceLeDiff, Nat.reduceEqDiff, true_or, or_true, false_or, or_false, not_true_eq_false, not_false_eq_true, reduceCtorEq, cmp_lt, cmp_gt, cmp_eq, Int32.reduceAdd, Int32.reduceSub, Int32.reduceMul, Int32.reduceLT, Int32.reduceToNatClampNeg, eq_self, ne_eq, Int64.reduceAdd, Int64.reduceSub, Int64.reduceMul, Int64.reduceLT, h7]
    exact no 7 (by decide) (by decide) h7
/-- change: both answer alike -/
theorem change_law (X : XC S I R t) (rl : Rel I R) (h : ExB I R) (hd : HdR I) (M : InvM I1 t) (hS : Pm S1) (hR : Pr R1) (o1 : OutX I I1) (n1 : (v = -1 ∧ ∀ q n m, rcB I 5 k = true → RcX1 I R k q n m → ¬ (¬ x < 0 ∧ x < nI n - 1)) ∨ ∃ q n m, rcB I 5 k = true ∧ RcX1 I R k q n m ∧ ¬ x < 0 ∧ x < nI n - 1 ∧ v = bI (likF (cgK I n (q + 1) (q + 2) (q + 3) m x) 26 32)) (hq : ∀ J L', InvM J t → OutM I1 J → RlN I1 J → Q (.int v) S1 J L' R1) : EvM (d + 6) 201 [.ref 54, .int k, .int x] S1 I1 L R1 Q := by
  obtain ⟨_, r, r8, er⟩ := X.2.1.rcs
  have e56 : I1 56 = I 56 := o1 56 (by decide)
  have e1 : I1 56 1 = nI r := by rw [e56, ← h.1.1]; exact er
  have hJ := M.p0 (x := 0)
  have oJ : OutM I1 (put I1 54 0 0) := (by repeat (first | exact OutM.rf | apply telF_o | refine OutM.pt ?_ (by decide) (by decide)))
  have rJ : RlN I1 (put I1 54 0 0) := (by repeat (first | exact RlN.rf | apply RlN.tel | refine RlN.p4 ?_ (by decide) | refine RlN.pa ?_ (by decide)))
  have hM : Rw (I 56) := by rw [← e56]; exact M.1
  rcases n1 with ⟨rfl, n1⟩ | ⟨q, n, m, g, rx, x0, xn, rfl⟩
  · cases g : rcB I 5 k
    · have g' : inB k.toInt64 0 ((nI r).toInt64 - 1) = false := (rcB_in er r8).trans g
      simp only [M201, E201_0, E201_1, E201_2, E201_5, E201_6, E201_7, E201_10, E201_40, E201_41, isr hS hR, pt_m, e1, g', bI_f, pk54 hS, pk56 hS, pl56 hS, pa56 hS, pi56 hS, pr54_3 hR, rfs, rfn, cs0, csi, csl, csr, csn, kti, ktl, ktr, ktn, ktv, ktf, true_and, and_true, and_self, ↓reduceIte, Nat.reduceAdd, Nat.reduceSub, Nat.reduceMul, Nat.reduceLT, Nat.reduceLeDiff, Nat.reduceEqDiff, true_or, or_true, false_or, or_false, not_true_eq_false, not_false_eq_true, reduceCtorEq, cmp_lt, cmp_gt, cmp_eq, Int32.reduceAdd, Int32.reduceSub, Int32.reduceMul, Int32.reduceLT, Int32.reduceToNatClampNeg, eq_self, ne_eq, Int64.reduceAdd, Int64.reduceSub, Int64.reduceMul, Int64.reduceLT, pt]
      exact hq _ _ hJ oJ rJ
    · have g' : inB k.toInt64 0 ((nI r).toInt64 - 1) = true := (rcB_in er r8).trans g
      obtain ⟨q, n, m, rx⟩ := X.rx1 g
      obtain ⟨i, r', hi, _, er', rfl, en, hT⟩ := rx_d X h g rx
      have er8 : r' = r := (nI_eq (by omega) (by omega)).mp (er'.symm.trans er)
      have t2 : (60 : Int32) + 1000 * nI i = nI (60 + 1000 * i) := by rw [show (1000 : Int32) = nI 1000 from rfl, show (60 : Int32) = nI 60 from rfl, pk_mul, nI_add]
      have f3 : inb (nI (60 + 1000 * i)) 8060 = True := inb_nI (by omega) (by decide)
      have f4 : (nI (60 + 1000 * i)).toNatClampNeg = 60 + 1000 * i := nI_clamp (by omega)
      have en1 : I1 56 (60 + 1000 * i) = nI n := by rw [e56]; exact en
      have g2 : inB x.toInt64 0 ((nI n).toInt64 - 2) = false := Bool.eq_false_iff.mpr (fun z => n1 q n m g rx ((inE2 (by have := rx.2.1; omega)).mp z))
      simp only [M201, E201_0, E201_1, E201_2, E201_5, E201_6, E201_7, E201_10, E201_13, E201_14, E201_15, E201_16, E201_17, E201_20, E201_22, E201_25, E201_26, E201_27, E201_28, E201_29, E201_30, E201_33, E201_34, E201_37, E201_40, E201_41, isr hS hR, inn, pt_m, e1, g', g2, bI_f, bI_t, n1_0, pk54 hS, pk56 hS, pl56 hS, pa56 hS, pi56 hS, pr54_3 hR, rfs, rfn, cs0, csi, csl, csr, csn, kti, ktl, ktr, ktn, ktv, ktf, true_and, and_true, and_self, ↓reduceIte, Nat.reduceAdd, Nat.reduceSub, Nat.reduceMul, Nat.reduceLT, Nat.reduceLeDiff, Nat.reduceEqDiff, true_or, or_true, false_or, or_false, not_true_eq_false, not_false_eq_true, reduceCtorEq, cmp_lt, cmp_gt, cmp_eq, Int32.reduceAdd, Int32.reduceSub, Int32.reduceMul, Int32.reduceLT, Int32.reduceToNatClampNeg, eq_self, ne_eq, Int64.reduceAdd, Int64.reduceSub, Int64.reduceMul, Int64.reduceLT, pt, t2, f3, f4, en1]
      exact hq _ _ hJ oJ rJ
  · have g' : inB k.toInt64 0 ((nI r).toInt64 - 1) = true := (rcB_in er r8).trans g
    obtain ⟨i, r', hi, _, er', rfl, en, hT⟩ := rx_d X h g rx
    have er8 : r' = r := (nI_eq (by omega) (by omega)).mp (er'.symm.trans er)
    have g2 := (inE2 (x := x) (c := n) (by have := rx.2.1; omega)).mpr ⟨x0, xn⟩
    obtain ⟨j, hj, rfl⟩ := inE (by have := rx.2.1; omega) g2
    have k1 := m_change (d := d) (L := L) (r := nI i) (i := nI j) (Q := fun v S' J L' R' => ∃ x, v = .int x ∧ S' = S1 ∧ R' = R1 ∧ InvM J t ∧ OutM I1 J ∧ RlN I1 J) hS hR M (fun v J L' a b c => ⟨v, rfl, rfl, rfl, a, b, c⟩)
    have k2 := changeE (d := d) (L := L) (Q := fun v _ _ _ _ => v = .int (bI (likF (cgK I n (q + 1) (q + 2) (q + 3) m (nI j)) 26 32))) hS hR rl hM hd (by omega) e1 g' rx.2.1 rx.2.2.1 en hT rx.2.2.2.2.1 rx.2.2.2.2.2 e56 hj (fun _ _ => rfl)
    refine evm_mono (evm_and k1 k2) (fun v S' J L' R' k => ?_)
    obtain ⟨⟨y, rfl, rfl, rfl, a, b, c⟩, e⟩ := k
    injection e with e
    subst e
    exact hq J L' a b c
end CHL
