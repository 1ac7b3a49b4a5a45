/-! follow; the levels one behind the other -/
section FO
variable {d f c n p a e B : Nat} {w : Nat → Nat} {nu : Int32} {N : Nat} {S : mS} {I : mI} {R : mR} {Q : mQ}
theorem folA {L : mL} {P : Nat → Prop} (hS : FoS S R f c n) (hI : FoI I f c n w) (hw : wOk w c) (hc : c ≤ 5) (hp : p < c) (hn : n < 2 ^ 24) (la : lon S a n) (le : lon S e n) (hae : ¬ a = e) (ha : a < f ∨ f + 7 + 3 * c < a) (he : e < f ∨ f + 7 + 3 * c < e) (hN : N ≤ 64 * n) (hm : ∀ y k, y < N → mv w c p y k → k < N) (hB : B < 2 ^ 24) (hL : FoL L f c n w) (hH : FoH L f c n w nu) (hP : ∀ k, P k → k < N) (hs : ∀ k, k < 64 * n → (gb (L a) k = true ↔ P k)) (h : ∀ L' : mL, (∀ b, ¬ b = e → ¬ b = f + 5 + 3 * c → ¬ b = f + 6 + 3 * c → L' b = L b) → (∀ k, k < 64 * n → (gb (L' e) k = true ↔ ∃ v, P v ∧ Xs (mv w c p) (hot w c nu p v) B k)) → Q .null S I L' R) : EvM (d + 3) 4 [.ref f, .ref a, .int (nI p), .int (nI B), .ref e] S I L R Q := by
  have hF := hS.1.1
  simp only [M4, E4_0, E4_1, E4_1n, E4_2, E4_3, E4_3n, E4_5, E4_8, E4_9, E4_9n, E4_11, E4_12, E4_13, E4_16, hF, rfs, rfn, cs0, csi, csl, csr, csn, kti, ktl, ktr, ktn, ktv, ktf, true_and, and_true, and_self, ↓reduceIte, Nat.reduceAdd, Nat.reduceSub, Nat.reduceMul, Nat.reduceLT, Nat.reduceLeDiff, Nat.reduceEqDiff, true_or, or_true, false_or, or_false, not_true_eq_false, not_false_eq_true, reduceCtorEq, cmp_lt, cmp_gt, cmp_eq, Int32.reduceAdd, Int32.reduceSub, Int32.reduceMul, Int32.reduceLT, Int32.reduceToNatClampNeg, eq_self, ne_eq, Int64.reduceAdd, Int64.reduceSub, Int64.reduceMul, Int64.reduceLT]
  refine heatA (d := d) (w := w) hS hI hw hc hn hp la le hae he (fun g hg => ?_)
  simp only [E4_0, E4_1, E4_1n, E4_2, E4_3, E4_3n, E4_5, E4_8, E4_9, E4_9n, E4_11, E4_12, E4_13, E4_16, hF, rfs, rfn, cs0, csi, csl, csr, csn, kti, ktl, ktr, ktn, ktv, ktf, true_and, and_true, and_self, ↓reduceIte, Nat.reduceAdd, Nat.reduceSub, Nat.reduceMul, Nat.reduceLT, Nat.reduceLeDiff, Nat.reduceEqDiff, true_or, or_true, false_or, or_false, not_true_eq_false, not_false_eq_true, reduceCtorEq, cmp_lt, cmp_gt, cmp_eq, Int32.reduceAdd, Int32.reduceSub, Int32.reduceMul, Int32.reduceLT, Int32.reduceToNatClampNeg, eq_self, ne_eq, Int64.reduceAdd, Int64.reduceSub, Int64.reduceMul, Int64.reduceLT]
  refine sprA (d := d) (N := N) (w := w) (A := fun k => ∃ v, P v ∧ hot w c nu p v k) hS hI hw hc hp hn le he hN (fun k q => ?_) hm hB (hL.mono (fun b h1 h2 => uu_n _ _ (by omega))) (fun k hk => ?_) (fun L' g1 g2 => ?_)
  · obtain ⟨v, q1, q2, (⟨_, q3⟩ | ⟨_, q3⟩)⟩ := q
    · have := hP v q1
      omega
    · have := hP v q1
      omega
  · rw [uu_s, hg k hk]
    constructor
    · rintro ⟨v, q1, q2, q3, q4⟩
      refine ⟨v, (hs v q1).mp q2, (hH p hp v q1).mp q3, ?_⟩
      have d1 : 1 ≤ dg w v p := by unfold dg; omega
      rcases q4 with ⟨q5, q6⟩ | ⟨q5, q6⟩
      · refine Or.inl ⟨?_, q6⟩
        have : ¬ 2 ≤ dg w v p := fun z => q5 ((hL p hp v q1).1.mpr z)
        omega
      · exact Or.inr ⟨(hL p hp v q1).1.mp q5, q6⟩
    · rintro ⟨v, q1, q2, q3⟩
      have hv : v < 64 * n := by have := hP v q1; omega
      refine ⟨v, hv, (hs v hv).mpr q1, (hH p hp v hv).mpr q2, ?_⟩
      rcases q3 with ⟨q5, q6⟩ | ⟨q5, q6⟩
      · refine Or.inl ⟨fun z => ?_, q6⟩
        have := (hL p hp v hv).1.mp z
        omega
      · exact Or.inr ⟨(hL p hp v hv).1.mpr q5, q6⟩
  · try simp only [E4_0, E4_1, E4_1n, E4_2, E4_3, E4_3n, E4_5, E4_8, E4_9, E4_9n, E4_11, E4_12, E4_13, E4_16, rfs, rfn, cs0, csi, csl, csr, csn, kti, ktl, ktr, ktn, ktv, ktf, true_and, and_true, and_self, ↓reduceIte, Nat.reduceAdd, Nat.reduceSub, Nat.reduceMul, Nat.reduceLT, Nat.reduceLeDiff, Nat.reduceEqDiff, true_or, or_true, false_or, or_false, not_true_eq_false, not_false_eq_true, reduceCtorEq, cmp_lt, cmp_gt, cmp_eq, Int32.reduceAdd, Int32.reduceSub, Int32.reduceMul, Int32.reduceLT, Int32.reduceToNatClampNeg, eq_self, ne_eq, Int64.reduceAdd, Int64.reduceSub, Int64.reduceMul, Int64.reduceLT]
    refine h L' (fun b h1 h2 h3 => ?_) (fun k hk => ?_)
    · rw [g1 b h1 h2 h3, uu_n _ _ h1]
    · rw [g2 k hk]
      exact Xs_ex
variable {l g m : Nat}
/-- one level more: its CELLS -/
theorem atc_lp {k : Nat} {hh ww : Int32} {P : Nat → Prop} (v : LvS S R l f g m n) (hS : FoS S R f c n) (hI : FoI I f c n w) (hw : wOk w c) (hc : c ≤ 5) (hn : n < 2 ^ 24) (hN : N ≤ 64 * n) (hm : ∀ p, p < c → ∀ y k, y < N → mv w c p y k → k < N) (hB : B < 2 ^ 24) (hP : ∀ k, P k → k < N) (hg : f + 7 + 3 * c < g) (hon : I l 1 = 1) (hbl : I l 7 = nI B) (hk : 1 ≤ k) (hkm : k < m) (h7 : m ≤ 7) : ∀ (q j : Nat) (L : mL), j + q = c → FoL L f c n w → FoH L f c n w nu → (∀ x, x < 64 * n → (gb (L (g + 1 + (k - 1))) x = true ↔ P x)) → (∀ x, x < 64 * n → (gb (L (g + 1 + k)) x = true ↔ ∃ p, p < j ∧ ∃ v, P v ∧ Xs (mv w c p) (hot w c nu p v) B x)) → (∀ L' : mL, (∀ b, ¬ b = g + 1 + m → ¬ b = g + 1 + k → ¬ b = f + 5 + 3 * c → ¬ b = f + 6 + 3 * c → L' b = L b) → (∀ x, x < 64 * n → (gb (L' (g + 1 + k)) x = true ↔ ∃ p, p < c ∧ ∃ v, P v ∧ Xs (mv w c p) (hot w c nu p v) B x)) → Ev (d + 4) 31 134 [.ref l, .int hh, .int ww, .int (nI k), .int (nI c)] [] S I L' R Q) → Ev (d + 4) 31 43 [.ref l, .int hh, .int ww, .int (nI k), .int (nI j)] [] S I L R Q := by
  obtain ⟨⟨o1, r0, r2, r3⟩, mL2, lw⟩ := v
  have oR := matR mL2
  have lg := mL2.1.2
  have hF := hS.1.1
  have hI0 := hI.1
  have k1 : nI k - 1 = nI (k - 1) := pk_sub (b := 1) (by omega)
  have k3 : inb (nI k) m = True := inb_nI hkm (by omega)
  have k4 : (nI k).toNatClampNeg = k := nI_clamp (by omega)
  have j3 : inb (nI (k - 1)) m = True := inb_nI (by omega) (by omega)
  have j4 : (nI (k - 1)).toNatClampNeg = k - 1 := nI_clamp (by omega)
  obtain ⟨rk, lk⟩ := mL2.2 k hkm
  obtain ⟨rj, lj⟩ := mL2.2 (k - 1) (by omega)
  have ne10 : ((1 : Int32) = 0) = False := eq_false (by decide)
  intro q
  induction q with
  | zero =>
    intro j L hj hL hH h0 h1 h
    obtain rfl : j = c := by omega
    have e0 : (nI j < nI j) = False := eq_false (nI_nlt (Nat.le_refl j) (by omega))
    rw [E31_43]
    simp only [E31_45, E31_46, E31_49, E31_52, o1, r0, hF, hI0, e0, rfs, rfn, cs0, csi, csl, csr, csn, kti, ktl, ktr, ktn, ktv, ktf, true_and, and_true, and_self, ↓reduceIte, Nat.reduceAdd, Nat.reduceSub, Nat.reduceMul, Nat.reduceLT, Nat.reduceLeDiff, Nat.reduceEqDiff, true_or, or_true, false_or, or_false, not_true_eq_false, not_false_eq_true, reduceCtorEq, cmp_lt, cmp_gt, cmp_eq, Int32.reduceAdd, Int32.reduceSub, Int32.reduceMul, Int32.reduceLT, Int32.reduceToNatClampNeg, eq_self, ne_eq, Int64.reduceAdd, Int64.reduceSub, Int64.reduceMul, Int64.reduceLT]
    exact h L (fun _ _ _ _ _ => rfl) h1
  | succ q ih =>
    intro j L hj hL hH h0 h1 h
    have e1 : (nI j < nI c) = True := eq_true (nI_lt (a := j) (b := c) (by omega) (by omega))
    rw [E31_43]
    simp only [E31_45, E31_46, E31_49, E31_52, E31_55, E31_56, E31_59, E31_62, E31_63, E31_66, E31_67, E31_70, E31_71, E31_72, E31_73, E31_74, E31_76, E31_77, E31_80, E31_81, E31_84, o1, r0, r2, r3, hF, hI0, e1, hon, hbl, ne10, oR, lg, k1, j3, j4, rj, rfs, rfn, cs0, csi, csl, csr, csn, kti, ktl, ktr, ktn, ktv, ktf, true_and, and_true, and_self, ↓reduceIte, Nat.reduceAdd, Nat.reduceSub, Nat.reduceMul, Nat.reduceLT, Nat.reduceLeDiff, Nat.reduceEqDiff, true_or, or_true, false_or, or_false, not_true_eq_false, not_false_eq_true, reduceCtorEq, cmp_lt, cmp_gt, cmp_eq, Int32.reduceAdd, Int32.reduceSub, Int32.reduceMul, Int32.reduceLT, Int32.reduceToNatClampNeg, eq_self, ne_eq, Int64.reduceAdd, Int64.reduceSub, Int64.reduceMul, Int64.reduceLT]
    refine folA (d := d) (N := N) (P := P) hS hI hw hc (by omega) hn lj lw (by omega) (by omega) (by omega) hN (hm j (by omega)) hB hL hH hP h0 (fun L1 g1 g2 => ?_)
    simp only [E31_87, E31_115, E31_116, E31_119, E31_120, E31_123, E31_124, E31_125, E31_128, E31_131, o1, r2, r3, oR, lg, k3, k4, rk, addA (d := d + 2) lw.1 lw.2 lk.1 lk.2 (by omega) (by omega), rfs, rfn, cs0, csi, csl, csr, csn, kti, ktl, ktr, ktn, ktv, ktf, true_and, and_true, and_self, ↓reduceIte, Nat.reduceAdd, Nat.reduceSub, Nat.reduceMul, Nat.reduceLT, Nat.reduceLeDiff, Nat.reduceEqDiff, true_or, or_true, false_or, or_false, not_true_eq_false, not_false_eq_true, reduceCtorEq, cmp_lt, cmp_gt, cmp_eq, Int32.reduceAdd, Int32.reduceSub, Int32.reduceMul, Int32.reduceLT, Int32.reduceToNatClampNeg, eq_self, ne_eq, Int64.reduceAdd, Int64.reduceSub, Int64.reduceMul, Int64.reduceLT, nI_1]
    refine ih (j + 1) _ (by omega) (hL.mono (fun b h1 h2 => ?_)) (fun i hi x hx => ?_) (fun x hx => ?_) (fun x hx => ?_) (fun L' q1 q2 => h L' (fun b h1 h2 h3 h4 => ?_) q2)
    · rw [uu_n _ _ (by omega), g1 b (by omega) (by omega) (by omega)]
    · rw [uu_n _ _ (by omega), g1 _ (by omega) (by omega) (by omega)]
      exact hH i hi x hx
    · rw [uu_n _ _ (by omega), g1 _ (by omega) (by omega) (by omega)]
      exact h0 x hx
    · rw [uu_s, gb_or hx, g2 x hx, g1 _ (by omega) (by omega) (by omega), h1 x hx]
      constructor
      · rintro (⟨p, z1, z2⟩ | z)
        · exact ⟨p, by omega, z2⟩
        · exact ⟨j, by omega, z⟩
      · rintro ⟨p, z1, z2⟩
        by_cases z : p = j
        · subst z
          exact Or.inr z2
        · exact Or.inl ⟨p, by omega, z2⟩
    · rw [q1 b h1 h2 h3 h4, uu_n _ _ h2, g1 b h1 h3 h4]
theorem Lev_lt {r : Nat} (hm : ∀ p, p < c → ∀ y k, y < N → mv w c p y k → k < N) (hr : r < N) (h k : Nat) (q : Lev w c nu B r h k) : k < N := by
  induction h generalizing k with
  | zero =>
    have : k = r := q
    omega
  | succ h ih =>
    obtain ⟨p, q1, v, q2, q3⟩ := q
    have hv := ih v q2
    refine Xs_lt (fun k z => ?_) (hm p q1) B k q3
    obtain ⟨_, (⟨_, z⟩ | ⟨_, z⟩)⟩ := z <;> omega
theorem at_lp {r ht : Nat} {hh y4 : Int32} (v : LvS S R l f g m n) (hS : FoS S R f c n) (hw : wOk w c) (hc : c ≤ 5) (hn : n < 2 ^ 24) (hN : N ≤ 64 * n) (hm : ∀ p, p < c → ∀ y k, y < N → mv w c p y k → k < N) (hB : B < 2 ^ 24) (hr : r < N) (hg : f + 7 + 3 * c < g) (hlf : ¬ l = f) (hlf1 : ¬ l = f + 1) (h7 : m ≤ 7) (hht : ht < m) : ∀ (q k : Nat) (I : mI) (L : mL) (y4 : Value), k + q = ht + 1 → 1 ≤ k → FoI I f c n w → I l 1 = 1 → I l 7 = nI B → FoL L f c n w → FoH L f c n w nu → (∀ i, i < k → ∀ x, x < 64 * n → (gb (L (g + 1 + i)) x = true ↔ Lev w c nu B r i x)) → (∀ (I' : mI) (L' : mL), (∀ b, ¬ b = l → I' b = I b) → (∀ i, i < ht + 1 → ∀ x, x < 64 * n → (gb (L' (g + 1 + i)) x = true ↔ Lev w c nu B r i x)) → Q (.ref (g + 1 + ht)) S I' L' R) → Ev (d + 4) 31 25 [.ref l, .int hh, .int (nI ht), .int (nI k), y4] [] S I L R Q := by
  have v' := v
  obtain ⟨⟨o1, r0, r2, r3⟩, mL2, lw⟩ := v'
  have oR := matR mL2
  have lg := mL2.1.2
  have t3 : inb (nI ht) m = True := inb_nI hht (by omega)
  have t4 : (nI ht).toNatClampNeg = ht := nI_clamp (by omega)
  obtain ⟨rt, lt⟩ := mL2.2 ht hht
  intro q
  induction q with
  | zero =>
    intro k I L y4 hk h1 hI hon hbl hL hH hl h
    obtain rfl : k = ht + 1 := by omega
    have e0 : (nI ht < nI (ht + 1)) = True := eq_true (nI_lt (by omega) (by omega))
    rw [E31_25]
    simp only [E31_26, E31_27, E31_147, E31_148, E31_151, E31_152, E31_153, e0, o1, r2, oR, lg, t3, t4, rt, rfs, rfn, cs0, csi, csl, csr, csn, kti, ktl, ktr, ktn, ktv, ktf, true_and, and_true, and_self, ↓reduceIte, Nat.reduceAdd, Nat.reduceSub, Nat.reduceMul, Nat.reduceLT, Nat.reduceLeDiff, Nat.reduceEqDiff, true_or, or_true, false_or, or_false, not_true_eq_false, not_false_eq_true, reduceCtorEq, cmp_lt, cmp_gt, cmp_eq, Int32.reduceAdd, Int32.reduceSub, Int32.reduceMul, Int32.reduceLT, Int32.reduceToNatClampNeg, eq_self, ne_eq, Int64.reduceAdd, Int64.reduceSub, Int64.reduceMul, Int64.reduceLT]
    exact h I L (fun _ _ => rfl) hl
  | succ q ih =>
    intro k I L y4 hk h1 hI hon hbl hL hH hl h
    have e0 : (nI ht < nI k) = False := eq_false (nI_nlt (by omega) (by omega))
    have k3 : inb (nI k) m = True := inb_nI (by omega) (by omega)
    have k4 : (nI k).toNatClampNeg = k := nI_clamp (by omega)
    obtain ⟨rk, lk⟩ := mL2.2 k (by omega)
    rw [E31_25]
    simp only [E31_26, E31_27, E31_30, E31_31, E31_34, E31_35, E31_36, E31_37, E31_40, E31_41, e0, o1, r2, oR, lg, k3, k4, rk, fillL (d := d + 2) lk.1 lk.2 (by omega), rfs, rfn, cs0, csi, csl, csr, csn, kti, ktl, ktr, ktn, ktv, ktf, true_and, and_true, and_self, ↓reduceIte, Nat.reduceAdd, Nat.reduceSub, Nat.reduceMul, Nat.reduceLT, Nat.reduceLeDiff, Nat.reduceEqDiff, true_or, or_true, false_or, or_false, not_true_eq_false, not_false_eq_true, reduceCtorEq, cmp_lt, cmp_gt, cmp_eq, Int32.reduceAdd, Int32.reduceSub, Int32.reduceMul, Int32.reduceLT, Int32.reduceToNatClampNeg, eq_self, ne_eq, Int64.reduceAdd, Int64.reduceSub, Int64.reduceMul, Int64.reduceLT]
    refine atc_lp (nu := nu) (N := N) (P := Lev w c nu B r (k - 1)) (m := m) v hS hI hw hc hn hN hm hB (fun x z => Lev_lt hm hr _ x z) hg hon hbl h1 (by omega) h7 c 0 _ (by omega) (hL.mono (fun b z1 z2 => uu_n _ _ (by omega))) (fun i hi x hx => ?_) (fun x hx => ?_) (fun x hx => ?_) (fun L1 g1 g2 => ?_)
    · rw [uu_n _ _ (by omega)]
      exact hH i hi x hx
    · rw [uu_n _ _ (by omega)]
      exact hl (k - 1) (by omega) x hx
    · rw [uu_s]
      constructor
      · intro z
        exact absurd z (gb_fill hx)
      · rintro ⟨p, z, _⟩
        omega
    simp only [E31_134, E31_135, E31_136, E31_137, E31_138, E31_141, E31_144, o1, rfs, rfn, cs0, csi, csl, csr, csn, kti, ktl, ktr, ktn, ktv, ktf, true_and, and_true, and_self, ↓reduceIte, Nat.reduceAdd, Nat.reduceSub, Nat.reduceMul, Nat.reduceLT, Nat.reduceLeDiff, Nat.reduceEqDiff, true_or, or_true, false_or, or_false, not_true_eq_false, not_false_eq_true, reduceCtorEq, cmp_lt, cmp_gt, cmp_eq, Int32.reduceAdd, Int32.reduceSub, Int32.reduceMul, Int32.reduceLT, Int32.reduceToNatClampNeg, eq_self, ne_eq, Int64.reduceAdd, Int64.reduceSub, Int64.reduceMul, Int64.reduceLT, nI_1]
    refine ih (k + 1) _ L1 _ (by omega) (by omega) (hI.mono ?_ ?_ ?_) ?_ ?_ (hL.mono (fun b z1 z2 => ?_)) (fun i hi x hx => ?_) (fun i hi x hx => ?_) (fun I' L' q1 q2 => h I' L' (fun b hb => ?_) q2)
    · rw [uu_n _ _ (fun z => hlf z.symm)]
    · rw [uu_n _ _ (fun z => hlf z.symm)]
    · rw [uu_n _ _ (fun z => hlf1 z.symm)]
    · rw [uu_s, uu_n _ _ (by decide)]
      exact hon
    · rw [uu_s, uu_n _ _ (by decide)]
      exact hbl
    · rw [g1 b (by omega) (by omega) (by omega) (by omega), uu_n _ _ (by omega)]
    · rw [g1 _ (by omega) (by omega) (by omega) (by omega), uu_n _ _ (by omega)]
      exact hH i hi x hx
    · by_cases z : i = k
      · subst z
        rw [g2 x hx]
        obtain ⟨j, rfl⟩ : ∃ j, i = j + 1 := ⟨i - 1, by omega⟩
        exact Iff.rfl
      · rw [g1 _ (by omega) (by omega) (by omega) (by omega), uu_n _ _ (by omega)]
        exact hl i (by omega) x hx
    · rw [q1 b hb, uu_n _ _ hb]
/-- the level of so many HEATS, of which only the first is known -/
theorem atA {r ht : Nat} {I : mI} {L : mL} (v : LvS S R l f g m n) (hS : FoS S R f c n) (hw : wOk w c) (hc : c ≤ 5) (hn : n < 2 ^ 24) (hN : N ≤ 64 * n) (hm : ∀ p, p < c → ∀ y k, y < N → mv w c p y k → k < N) (hB : B < 2 ^ 24) (hr : r < N) (hg : f + 7 + 3 * c < g) (hlf : ¬ l = f) (hlf1 : ¬ l = f + 1) (h7 : m ≤ 7) (hht : ht < m) (hI : FoI I f c n w) (hon : I l 1 = 1) (hk : I l 4 = 1) (hbl : I l 7 = nI B) (hL : FoL L f c n w) (hH : FoH L f c n w nu) (hl : ∀ x, x < 64 * n → (gb (L (g + 1)) x = true ↔ x = r)) (h : ∀ (I' : mI) (L' : mL), (∀ b, ¬ b = l → I' b = I b) → (∀ x, x < 64 * n → (gb (L' (g + 1 + ht)) x = true ↔ Lev w c nu B r ht x)) → Q (.ref (g + 1 + ht)) S I' L' R) : EvM (d + 4) 31 [.ref l, .int (nI ht)] S I L R Q := by
  have v' := v
  obtain ⟨⟨o1, r0, r2, r3⟩, mL2, lw⟩ := v'
  have oA : okA S g := ⟨mL2.1.1.1, by rw [mL2.1.1.2]; decide⟩
  have lg := mL2.1.2
  have m1 : nI m - 1 = nI (m - 1) := pk_sub (b := 1) (by omega)
  have c1 : (if nI ht < nI (m - 1) then nI ht else nI (m - 1)) = nI ht := by
    by_cases z : ht < m - 1
    · rw [if_pos (nI_lt z (by omega))]
    · rw [if_neg (nI_nlt (by omega) (by omega))]
      congr 1
      omega
  have c2 : (if (0 : Int32) < nI ht then nI ht else 0) = nI ht := by
    by_cases z : 0 < ht
    · rw [if_pos (show (0 : Int32) < nI ht from nI_lt (a := 0) z (by omega))]
    · obtain rfl : ht = 0 := by omega
      rfl
  have c3 : (if (1 : Int32) < 1 then (1 : Int32) else 1) = 1 := by decide
  simp only [M31, E31_0, E31_1, E31_2, E31_5, E31_6, E31_7, E31_8, E31_9, E31_12, E31_15, E31_16, E31_17, E31_18, E31_21, E31_24, o1, r2, oA, lg, m1, c1, c2, c3, hk, rfs, rfn, cs0, csi, csl, csr, csn, kti, ktl, ktr, ktn, ktv, ktf, true_and, and_true, and_self, ↓reduceIte, Nat.reduceAdd, Nat.reduceSub, Nat.reduceMul, Nat.reduceLT, Nat.reduceLeDiff, Nat.reduceEqDiff, true_or, or_true, false_or, or_false, not_true_eq_false, not_false_eq_true, reduceCtorEq, cmp_lt, cmp_gt, cmp_eq, Int32.reduceAdd, Int32.reduceSub, Int32.reduceMul, Int32.reduceLT, Int32.reduceToNatClampNeg, eq_self, ne_eq, Int64.reduceAdd, Int64.reduceSub, Int64.reduceMul, Int64.reduceLT]
  refine at_lp (d := d) (k := 1) (y4 := 0) v hS hw hc hn hN hm hB hr hg hlf hlf1 h7 hht ht I L _ (by omega) (by omega) hI hon hbl hL hH (fun i hi x hx => ?_) (fun I' L' q1 q2 => h I' L' q1 (q2 ht (by omega)))
  obtain rfl : i = 0 := by omega
  exact hl x hx
end FO
theorem mv4 : ∀ p, p < 4 → ∀ y k, y < 6561 → mv (wt 4) 4 p y k → k < 6561 := by
  intro p hp y k hy ⟨i, h1, h2, h3, h4⟩
  have w0 : wt 4 0 = 729 := by decide
  have w1 : wt 4 1 = 81 := by decide
  have w2 : wt 4 2 = 9 := by decide
  have w3 : wt 4 3 = 1 := by decide
  have hi : i = 0 ∨ i = 1 ∨ i = 2 := by omega
  unfold dg at h4
  rcases hi with rfl | rfl | rfl
  · simp only [Nat.reduceAdd, w0, w1] at h4
    omega
  · simp only [Nat.reduceAdd, w1, w2] at h4
    omega
  · simp only [Nat.reduceAdd, w2, w3] at h4
    omega
