/-! the class: fewest HEATS from one row to another -/
/-- h is the least from lo to 6 for which the row t is behind h HEATS from r, or there is none -/
def FeW (w : Nat → Nat) (c : Nat) (nu : Int32) (B r t : Nat) (lo v : Int32) : Prop := (v = -1 ∧ (lo.toInt < 0 ∨ ∀ h : Nat, h ≤ 6 → lo.toInt ≤ (h : Int) → ¬ LvD true w c nu B r h t)) ∨ ∃ h : Nat, h ≤ 6 ∧ 0 ≤ lo.toInt ∧ lo.toInt ≤ (h : Int) ∧ v = nI h ∧ LvD true w c nu B r h t ∧ ∀ h' : Nat, h' < h → lo.toInt ≤ (h' : Int) → ¬ LvD true w c nu B r h' t
theorem dv7 : ∀ i, i < 7 → nI i / 2 = nI (i / 2) ∧ nI i - nI (i / 2) = nI (i - i / 2) := by decide
section FE
variable {d f c n N B : Nat} {w : Nat → Nat} {nu : Int32} {S : mS} {I : mI} {L : mL} {R : mR} {Q : mQ}
theorem feK_lp {l1 l2 g1 g2 m1 m2 r t : Nat} {lo : Int32} {lz : Nat} (v1 : LvS S R l1 f g1 (m1 + 1) n) (v2 : LvS S R l2 f g2 (m2 + 1) n) (hS : FoS S R f c n) (hW : WN w c N) (hc : c ≤ 5) (hn : n < 2 ^ 24) (hN : N ≤ 64 * n) (hB : B < 2 ^ 24) (hm1 : 3 ≤ m1 ∧ m1 < 100) (hm2 : 3 ≤ m2 ∧ m2 < 100) (a1 : f + 7 + 3 * c < l1) (a2 : f + 7 + 3 * c < l2) (b1 : l1 < g1) (b2 : l2 < g2) (hd : g1 + 2 + m1 < l2 ∨ g2 + 2 + m2 < l1) (hlo : lo.toInt = lz) (hq : ∀ v (J : mI) (L' : mL) q1 q2, (∀ b, ¬ b = l1 → ¬ b = l2 → J b = I b) → (∀ b, (b ≤ g1 ∨ g1 + 2 + m1 < b) → (b ≤ g2 ∨ g2 + 2 + m2 < b) → ¬ b = f + 5 + 3 * c → ¬ b = f + 6 + 3 * c → ¬ b = f + 7 + 3 * c → L' b = L b) → LvK true w c N m1 n J L' l1 g1 nu B r q1 → LvK false w c N m2 n J L' l2 g2 nu B t q2 → FeW w c nu B r t lo v → Q (.int v) S J L' R) : ∀ (q i : Nat) (J : mI) (L1 : mL) (k1 k2 : Nat), (i + q = 7 ∨ (q = 0 ∧ 7 ≤ i ∧ i < 2 ^ 31)) → lz ≤ i → FoI J f c n w → FoL L1 f c n w → FoH L1 f c n w nu → LvK true w c N m1 n J L1 l1 g1 nu B r k1 → LvK false w c N m2 n J L1 l2 g2 nu B t k2 → (∀ b, ¬ b = l1 → ¬ b = l2 → J b = I b) → (∀ b, (b ≤ g1 ∨ g1 + 2 + m1 < b) → (b ≤ g2 ∨ g2 + 2 + m2 < b) → ¬ b = f + 5 + 3 * c → ¬ b = f + 6 + 3 * c → ¬ b = f + 7 + 3 * c → L1 b = L b) → (∀ h, h ≤ 6 → lz ≤ h → h < i → ¬ LvD true w c nu B r h t) → Ev (d + 5) 40 8 [.ref l1, .ref l2, .int lo, .int (nI i)] [] S J L1 R Q := by
  have q1 := v1.2.1
  have q2 := v2.2.1
  have n2 : ((2 : Int32) = 0) = False := eq_false (by decide)
  intro q
  induction q with
  | zero =>
    intro i J L1 k1 k2 hi hz hJ hL hH h1 h2 fI fL hno
    have e : ((6 : Int32) < nI i) = True := eq_true (nI_lt (a := 6) (b := i) (by omega) (by omega))
    rw [E40_8]
    simp only [E40_0, E40_1, E40_4, E40_5, E40_6, E40_7, E40_9, E40_11, E40_14, E40_15, E40_16, E40_17, E40_18, E40_21, E40_21n, E40_22, E40_23, E40_24, E40_25, E40_26, E40_27, E40_30, E40_33, E40_36, E40_37, E40_38, E40_41, E40_44, E40_45, rfs, rfn, cs0, csi, csl, csr, csn, kti, ktl, ktr, ktn, ktv, ktf, true_and, and_true, and_self, ↓reduceIte, Nat.reduceAdd, Nat.reduceSub, Nat.reduceMul, Nat.reduceLT, Nat.reduceLeDiff, Nat.reduceEqDiff, true_or, or_true, false_or, or_false, not_true_eq_false, not_false_eq_true, reduceCtorEq, cmp_lt, cmp_gt, cmp_eq, Int32.reduceAdd, Int32.reduceSub, Int32.reduceMul, Int32.reduceLT, Int32.reduceToNatClampNeg, eq_self, ne_eq, Int64.reduceAdd, Int64.reduceSub, Int64.reduceMul, Int64.reduceLT, e]
    exact hq _ _ _ _ _ fI fL h1 h2 (Or.inl ⟨rfl, Or.inr (fun h x1 x2 => hno h x1 (by omega) (by omega))⟩)
  | succ q ih =>
    intro i J L1 k1 k2 hi hz hJ hL hH h1 h2 fI fL hno
    have hi' : i + 1 + q = 7 := by omega
    have hz' : lz ≤ i + 1 := by omega
    have e : ((6 : Int32) < nI i) = False := eq_false (nI_nlt (a := 6) (b := i) (by omega) (by omega))
    obtain ⟨d1, d2⟩ := dv7 i (by omega)
    rw [E40_8]
    simp only [E40_0, E40_1, E40_4, E40_5, E40_6, E40_7, E40_9, E40_11, E40_14, E40_15, E40_16, E40_17, E40_18, E40_21, E40_21n, E40_22, E40_23, E40_24, E40_25, E40_26, E40_27, E40_30, E40_33, E40_36, E40_37, E40_38, E40_41, E40_44, E40_45, rfs, rfn, cs0, csi, csl, csr, csn, kti, ktl, ktr, ktn, ktv, ktf, true_and, and_true, and_self, ↓reduceIte, Nat.reduceAdd, Nat.reduceSub, Nat.reduceMul, Nat.reduceLT, Nat.reduceLeDiff, Nat.reduceEqDiff, true_or, or_true, false_or, or_false, not_true_eq_false, not_false_eq_true, reduceCtorEq, cmp_lt, cmp_gt, cmp_eq, Int32.reduceAdd, Int32.reduceSub, Int32.reduceMul, Int32.reduceLT, Int32.reduceToNatClampNeg, eq_self, ne_eq, Int64.reduceAdd, Int64.reduceSub, Int64.reduceMul, Int64.reduceLT, e, n2, d1, d2, v1.1.1]
    refine atV (m := m1) (N := N) v1 hS hJ hW hc hn hN hB hm1.2 (by omega) (by omega) (by omega) (by omega) hL hH h1 (fun J1 L2 k1' fV1 fG1 kk1 h1' => ?_)
    have hJ1 : FoI J1 f c n w := fV1.fi (by omega) (by omega) hJ
    have hL1 := fG1.fl (by omega) hL
    have hH1 := fG1.fh (by omega) hH
    have h2' : LvK false w c N m2 n J1 L2 l2 g2 nu B t k2 := h2.mono (fV1 _ (by omega)) (fun b x1 x2 => fG1 b (by omega) (by omega) (by omega) (by omega))
    simp only [E40_0, E40_1, E40_4, E40_5, E40_6, E40_7, E40_9, E40_11, E40_14, E40_15, E40_16, E40_17, E40_18, E40_21, E40_21n, E40_22, E40_23, E40_24, E40_25, E40_26, E40_27, E40_30, E40_33, E40_36, E40_37, E40_38, E40_41, E40_44, E40_45, rfs, rfn, cs0, csi, csl, csr, csn, kti, ktl, ktr, ktn, ktv, ktf, true_and, and_true, and_self, ↓reduceIte, Nat.reduceAdd, Nat.reduceSub, Nat.reduceMul, Nat.reduceLT, Nat.reduceLeDiff, Nat.reduceEqDiff, true_or, or_true, false_or, or_false, not_true_eq_false, not_false_eq_true, reduceCtorEq, cmp_lt, cmp_gt, cmp_eq, Int32.reduceAdd, Int32.reduceSub, Int32.reduceMul, Int32.reduceLT, Int32.reduceToNatClampNeg, eq_self, ne_eq, Int64.reduceAdd, Int64.reduceSub, Int64.reduceMul, Int64.reduceLT, n2, d1, d2, v2.1.1]
    refine atV (m := m2) (N := N) v2 hS hJ1 hW hc hn hN hB hm2.2 (by omega) (by omega) (by omega) (by omega) hL1 hH1 h2' (fun J2 L3 k2' fV2 fG2 kk2 h2'' => ?_)
    have hJ2 : FoI J2 f c n w := fV2.fi (by omega) (by omega) hJ1
    have hL2 := fG2.fl (by omega) hL1
    have hH2 := fG2.fh (by omega) hH1
    have h1'' : LvK true w c N m1 n J2 L3 l1 g1 nu B r k1' := h1'.mono (fV2 _ (by omega)) (fun b x1 x2 => fG2 b (by omega) (by omega) (by omega) (by omega))
    have fI2 : ∀ b, ¬ b = l1 → ¬ b = l2 → J2 b = I b := fun b x y => (fV2 b y).trans ((fV1 b x).trans (fI b x y))
    have fL2 : ∀ b, (b ≤ g1 ∨ g1 + 2 + m1 < b) → (b ≤ g2 ∨ g2 + 2 + m2 < b) → ¬ b = f + 5 + 3 * c → ¬ b = f + 6 + 3 * c → ¬ b = f + 7 + 3 * c → L3 b = L b := fun b x1 x2 x3 x4 x5 => (fG2 b x2 x3 x4 x5).trans ((fG1 b x1 x3 x4 x5).trans (fL b x1 x2 x3 x4 x5))
    have c1 := h1''.2.2 (i / 2) kk1
    have c2 := h2''.2.2 (i - i / 2) kk2
    have mt : (∃ k, k < 64 * n ∧ gb (L3 (g1 + 1 + i / 2)) k = true ∧ gb (L3 (g2 + 1 + (i - i / 2))) k = true) ↔ LvD true w c nu B r i t := by
      have hh := LvD_meet (w := w) (c := c) (B := B) (r := r) (t := t) (nu := nu) (i - i / 2) (i / 2)
      rw [show i / 2 + (i - i / 2) = i by omega] at hh
      rw [← hh]
      constructor
      · rintro ⟨k, x1, x2, x3⟩
        exact ⟨k, (c1 k x1).mp x2, (c2 k x1).mp x3⟩
      · rintro ⟨k, x2, x3⟩
        have := LvD_lt hW h1''.2.1.2.2 _ k x2
        exact ⟨k, by omega, (c1 k (by omega)).mpr x2, (c2 k (by omega)).mpr x3⟩
    refine meetA (q1.2 (i / 2) (by omega)).2.1 (q1.2 (i / 2) (by omega)).2.2 (q2.2 (i - i / 2) (by omega)).2.1 (q2.2 (i - i / 2) (by omega)).2.2 hn (fun x => ?_) (fun x => ?_)
    · simp only [E40_0, E40_1, E40_4, E40_5, E40_6, E40_7, E40_9, E40_11, E40_14, E40_15, E40_16, E40_17, E40_18, E40_21, E40_21n, E40_22, E40_23, E40_24, E40_25, E40_26, E40_27, E40_30, E40_33, E40_36, E40_37, E40_38, E40_41, E40_44, E40_45, rfs, rfn, cs0, csi, csl, csr, csn, kti, ktl, ktr, ktn, ktv, ktf, true_and, and_true, and_self, ↓reduceIte, Nat.reduceAdd, Nat.reduceSub, Nat.reduceMul, Nat.reduceLT, Nat.reduceLeDiff, Nat.reduceEqDiff, true_or, or_true, false_or, or_false, not_true_eq_false, not_false_eq_true, reduceCtorEq, cmp_lt, cmp_gt, cmp_eq, Int32.reduceAdd, Int32.reduceSub, Int32.reduceMul, Int32.reduceLT, Int32.reduceToNatClampNeg, eq_self, ne_eq, Int64.reduceAdd, Int64.reduceSub, Int64.reduceMul, Int64.reduceLT, n1_0]
      exact hq _ _ _ _ _ fI2 fL2 h1'' h2'' (Or.inr ⟨i, by omega, by omega, by omega, rfl, mt.mp x, fun h' y1 y2 => hno h' (by omega) (by omega) y1⟩)
    · simp only [E40_0, E40_1, E40_4, E40_5, E40_6, E40_7, E40_9, E40_11, E40_14, E40_15, E40_16, E40_17, E40_18, E40_21, E40_21n, E40_22, E40_23, E40_24, E40_25, E40_26, E40_27, E40_30, E40_33, E40_36, E40_37, E40_38, E40_41, E40_44, E40_45, rfs, rfn, cs0, csi, csl, csr, csn, kti, ktl, ktr, ktn, ktv, ktf, true_and, and_true, and_self, ↓reduceIte, Nat.reduceAdd, Nat.reduceSub, Nat.reduceMul, Nat.reduceLT, Nat.reduceLeDiff, Nat.reduceEqDiff, true_or, or_true, false_or, or_false, not_true_eq_false, not_false_eq_true, reduceCtorEq, cmp_lt, cmp_gt, cmp_eq, Int32.reduceAdd, Int32.reduceSub, Int32.reduceMul, Int32.reduceLT, Int32.reduceToNatClampNeg, eq_self, ne_eq, Int64.reduceAdd, Int64.reduceSub, Int64.reduceMul, Int64.reduceLT, nI_1]
      refine ih (i + 1) J2 L3 k1' k2' (Or.inl hi') hz' hJ2 hL2 hH2 h1'' h2'' fI2 fL2 (fun h y1 y2 y3 => ?_)
      by_cases z : h = i
      · rw [z]
        exact fun y => x (mt.mpr y)
      · exact hno h y1 y2 (by omega)
theorem feK {l1 l2 g1 g2 m1 m2 r t k1 k2 : Nat} {lo : Int32} (v1 : LvS S R l1 f g1 (m1 + 1) n) (v2 : LvS S R l2 f g2 (m2 + 1) n) (hS : FoS S R f c n) (hI : FoI I f c n w) (hW : WN w c N) (hc : c ≤ 5) (hn : n < 2 ^ 24) (hN : N ≤ 64 * n) (hB : B < 2 ^ 24) (hm1 : 3 ≤ m1 ∧ m1 < 100) (hm2 : 3 ≤ m2 ∧ m2 < 100) (a1 : f + 7 + 3 * c < l1) (a2 : f + 7 + 3 * c < l2) (b1 : l1 < g1) (b2 : l2 < g2) (hd : g1 + 2 + m1 < l2 ∨ g2 + 2 + m2 < l1) (hL : FoL L f c n w) (hH : FoH L f c n w nu) (h1 : LvK true w c N m1 n I L l1 g1 nu B r k1) (h2 : LvK false w c N m2 n I L l2 g2 nu B t k2) (hq : ∀ v (J : mI) (L' : mL) q1 q2, (∀ b, ¬ b = l1 → ¬ b = l2 → J b = I b) → (∀ b, (b ≤ g1 ∨ g1 + 2 + m1 < b) → (b ≤ g2 ∨ g2 + 2 + m2 < b) → ¬ b = f + 5 + 3 * c → ¬ b = f + 6 + 3 * c → ¬ b = f + 7 + 3 * c → L' b = L b) → LvK true w c N m1 n J L' l1 g1 nu B r q1 → LvK false w c N m2 n J L' l2 g2 nu B t q2 → FeW w c nu B r t lo v → Q (.int v) S J L' R) : EvM (d + 5) 40 [.ref l1, .ref l2, .int lo] S I L R Q := by
  by_cases g : lo < 0
  · simp only [M40, E40_0, E40_1, E40_4, E40_5, E40_6, E40_7, E40_9, E40_11, E40_14, E40_15, E40_16, E40_17, E40_18, E40_21, E40_21n, E40_22, E40_23, E40_24, E40_25, E40_26, E40_27, E40_30, E40_33, E40_36, E40_37, E40_38, E40_41, E40_44, E40_45, rfs, rfn, cs0, csi, csl, csr, csn, kti, ktl, ktr, ktn, ktv, ktf, true_and, and_true, and_self, ↓reduceIte, Nat.reduceAdd, Nat.reduceSub, Nat.reduceMul, Nat.reduceLT, Nat.reduceLeDiff, Nat.reduceEqDiff, true_or, or_true, false_or, or_false, not_true_eq_false, not_false_eq_true, reduceCtorEq, cmp_lt, cmp_gt, cmp_eq, Int32.reduceAdd, Int32.reduceSub, Int32.reduceMul, Int32.reduceLT, Int32.reduceToNatClampNeg, eq_self, ne_eq, Int64.reduceAdd, Int64.reduceSub, Int64.reduceMul, Int64.reduceLT, g]
    refine hq _ _ _ _ _ (fun _ _ _ => rfl) (fun _ _ _ _ _ _ => rfl) h1 h2 (Or.inl ⟨rfl, Or.inl ?_⟩)
    exact Int32.lt_iff_toInt_lt.mp g
  · simp only [M40, E40_0, E40_1, E40_4, E40_5, E40_6, E40_7, E40_9, E40_11, E40_14, E40_15, E40_16, E40_17, E40_18, E40_21, E40_21n, E40_22, E40_23, E40_24, E40_25, E40_26, E40_27, E40_30, E40_33, E40_36, E40_37, E40_38, E40_41, E40_44, E40_45, rfs, rfn, cs0, csi, csl, csr, csn, kti, ktl, ktr, ktn, ktv, ktf, true_and, and_true, and_self, ↓reduceIte, Nat.reduceAdd, Nat.reduceSub, Nat.reduceMul, Nat.reduceLT, Nat.reduceLeDiff, Nat.reduceEqDiff, true_or, or_true, false_or, or_false, not_true_eq_false, not_false_eq_true, reduceCtorEq, cmp_lt, cmp_gt, cmp_eq, Int32.reduceAdd, Int32.reduceSub, Int32.reduceMul, Int32.reduceLT, Int32.reduceToNatClampNeg, eq_self, ne_eq, Int64.reduceAdd, Int64.reduceSub, Int64.reduceMul, Int64.reduceLT, g]
    have z1 : ¬ lo.toInt < 0 := fun z => g (Int32.lt_iff_toInt_lt.mpr z)
    have z3 := Int32.toInt_lt lo
    have e : lo = nI lo.toInt.toNat := ti_nI (z := lo.toInt) rfl (by omega) (by omega)
    have k := feK_lp (d := d) (lo := lo) (lz := lo.toInt.toNat) (w := w) (Q := Q) v1 v2 hS hW hc hn hN hB hm1 hm2 a1 a2 b1 b2 hd (by omega) hq (7 - lo.toInt.toNat) lo.toInt.toNat I L k1 k2 (by omega) (by omega) hI hL hH h1 h2 (fun _ _ _ => rfl) (fun _ _ _ _ _ _ => rfl) (fun h x1 x2 x3 => by omega)
    rw [← e] at k
    exact k
end FE
/-! IRON in a row -/
def irn (w : Nat → Nat) (k : Nat) : Nat → Nat
  | 0 => 0
  | i + 1 => irn w k i + dg w k i
theorem irn_one {w : Nat → Nat} {k v p : Nat} (hp : dg w k p + 1 = dg w v p) : ∀ c, (∀ i, i < c → ¬ i = p → dg w k i = dg w v i) → (p < c → irn w k c + 1 = irn w v c) ∧ (¬ p < c → irn w k c = irn w v c) := by
  intro c
  induction c with
  | zero => exact fun _ => ⟨fun h => absurd h (by omega), fun _ => rfl⟩
  | succ c ih =>
    intro h
    obtain ⟨i1, i2⟩ := ih (fun i hi => h i (by omega))
    refine ⟨fun hc => ?_, fun hc => ?_⟩
    · show irn w k c + dg w k c + 1 = irn w v c + dg w v c
      by_cases z : c = p
      · subst z
        rw [i2 (by omega)]
        omega
      · rw [h c (by omega) z, ← i1 (by omega)]
        omega
    · show irn w k c + dg w k c = irn w v c + dg w v c
      rw [i2 (by omega), h c (by omega) (by omega)]
theorem w9_m {w : Nat → Nat} {c : Nat} (h9 : w9 w c) : ∀ j i, i < j → j < c → ∃ m, w i = w j * (9 * m) := by
  intro j
  induction j with
  | zero => exact fun i h => absurd h (by omega)
  | succ j ih =>
    intro i h1 h2
    have e := h9 j h2
    by_cases z : i = j
    · exact ⟨1, by rw [z, e]; omega⟩
    · obtain ⟨m, hm⟩ := ih i (by omega) (by omega)
      refine ⟨9 * m, ?_⟩
      rw [hm, e, Nat.mul_comm 9 (w (j + 1)), Nat.mul_assoc]
theorem dg_sub {w : Nat → Nat} {c k v p : Nat} (hw : wOk w c) (h9 : w9 w c) (hp : p < c) (h2 : 2 ≤ dg w v p) (e : k + w p = v) : dg w k p + 1 = dg w v p ∧ ∀ i, i < c → ¬ i = p → dg w k i = dg w v i := by
  have wp := (hw p hp).1
  unfold dg at *
  have a : v / w p = k / w p + 1 := by rw [← e]; exact Nat.add_div_right k wp
  refine ⟨by omega, fun i hi hne => ?_⟩
  by_cases z : i < p
  · obtain ⟨m, hm⟩ := w9_m h9 p i z hp
    rw [hm, ← Nat.div_div_eq_div_mul, ← Nat.div_div_eq_div_mul, ← Nat.div_div_eq_div_mul, ← Nat.div_div_eq_div_mul]
    have : v / w p / 9 = k / w p / 9 := by omega
    rw [this]
  · obtain ⟨m, hm⟩ := w9_m h9 i p (by omega) hi
    have wi := (hw i hi).1
    have b : v / w i = k / w i + 9 * m := by
      rw [← e, hm]
      exact Nat.add_mul_div_left k _ wi
    rw [b]
    omega
theorem irn_sub {w : Nat → Nat} {c k v p : Nat} (hw : wOk w c) (h9 : w9 w c) (hp : p < c) (h2 : 2 ≤ dg w v p) (e : k + w p = v) : irn w k c + 1 = irn w v c := by
  obtain ⟨a1, a2⟩ := dg_sub hw h9 hp h2 e
  exact (irn_one a1 c a2).1 hp
theorem irn_mv {w : Nat → Nat} {c p y k : Nat} (hw : wOk w c) (h9 : w9 w c) (h : mv w c p y k) : irn w k c = irn w y c := by
  obtain ⟨i, i1, i2, i3, h4⟩ := h
  have go : ∀ y k, 2 ≤ dg w y i → dg w y (i + 1) ≤ 8 → k + w i = y + w (i + 1) → irn w k c = irn w y c := fun y k b1 b2 b3 => by
    have wi : w i ≤ y := by
      unfold dg at b1
      have : 1 ≤ y / w i := by
        generalize y / w i = q at b1 ⊢
        omega
      have := (Nat.le_div_iff_mul_le (hw i (by omega)).1).mp this
      omega
    have s1 := irn_sub hw h9 (show i < c by omega) b1 (show y - w i + w i = y by omega)
    obtain ⟨_, s2⟩ := dg_sub hw h9 (show i < c by omega) b1 (show y - w i + w i = y by omega)
    have ek : y - w i + w (i + 1) = k := by omega
    have b4 : 2 ≤ dg w k (i + 1) := by
      rw [← ek]
      refine (dg_up hw i1).mp ?_
      rw [s2 (i + 1) i1 (by omega)]
      exact b2
    have s3 := irn_sub hw h9 i1 b4 ek
    omega
  rcases h4 with ⟨b1, b2, b3⟩ | ⟨b1, b2, b3⟩
  · exact go y k b1 b2 b3
  · refine (go k y ?_ ?_ b3.symm).symm
    · have e := h9 i i1
      unfold dg at b1 b2 ⊢
      rw [e] at b2 b3 ⊢
      exact (dgn (hw (i + 1) i1).1 b1 b2 b3).1
    · have e := h9 i i1
      unfold dg at b1 b2 ⊢
      rw [e] at b2 b3
      exact (dgn (hw (i + 1) i1).1 b1 b2 b3).2
theorem irn_ld {w : Nat → Nat} {c B p k v : Nat} {nu : Int32} (hw : wOk w c) (h9 : w9 w c) (hp : p < c) (h : ld w c nu B p k v) : irn w v c ≤ irn w k c ∧ irn w k c ≤ irn w v c + 1 := by
  have go : ∀ b v, Xs (mv w c p) (hot w c nu p k) b v → irn w v c ≤ irn w k c ∧ irn w k c ≤ irn w v c + 1 := by
    intro b
    induction b with
    | zero =>
      rintro v ⟨_, (⟨_, z⟩ | ⟨z1, z2⟩)⟩
      · rw [z]; omega
      · have := irn_sub hw h9 hp z1 z2
        omega
    | succ b ih =>
      rintro v (q | ⟨y, q1, q2⟩)
      · exact ih v q
      · rw [irn_mv hw h9 q2]
        exact ih y q1
  exact go B v h
theorem irn_lev {w : Nat → Nat} {c B r : Nat} {nu : Int32} (hw : wOk w c) (h9 : w9 w c) : ∀ h t, LvD true w c nu B r h t → irn w t c ≤ irn w r c ∧ irn w r c ≤ irn w t c + h := by
  intro h
  induction h with
  | zero =>
    intro t q
    have e : t = r := q
    rw [e]
    omega
  | succ h ih =>
    rintro t ⟨p, p1, v, v1, v2⟩
    have a := ih v v1
    have b := irn_ld hw h9 p1 v2
    omega
/-- the least number of HEATS, at most 6, or -1 -/
def MinH (w : Nat → Nat) (c : Nat) (nu : Int32) (B r t : Nat) (v : Int32) : Prop := (v = -1 ∧ ∀ h, h ≤ 6 → ¬ LvD true w c nu B r h t) ∨ ∃ h, h ≤ 6 ∧ v = nI h ∧ LvD true w c nu B r h t ∧ ∀ h', h' < h → ¬ LvD true w c nu B r h' t
theorem FeW.min {w : Nat → Nat} {c B r t : Nat} {nu lo v : Int32} (hw : wOk w c) (h9 : w9 w c) (h : FeW w c nu B r t lo v) (e : lo.toInt = (irn w r c : Int) - irn w t c) : MinH w c nu B r t v := by
  rcases h with ⟨h1, h2⟩ | ⟨h, h1, h2, h3, h4, h5, h6⟩
  · refine Or.inl ⟨h1, fun h hh q => ?_⟩
    have := irn_lev hw h9 h t q
    rcases h2 with h2 | h2
    · omega
    · exact h2 h hh (by omega) q
  · refine Or.inr ⟨h, h1, h4, h5, fun h' hh q => ?_⟩
    have := irn_lev hw h9 h' t q
    exact h6 h' hh (by omega) q
theorem MinH.eq {w : Nat → Nat} {c B r t : Nat} {nu u v : Int32} (h : MinH w c nu B r t u) (k : MinH w c nu B r t v) : u = v := by
  rcases h with ⟨h1, h2⟩ | ⟨h, h1, h2, h3, h4⟩
  · rcases k with ⟨k1, k2⟩ | ⟨k, k1, k2, k3, k4⟩
    · rw [h1, k1]
    · exact absurd k3 (h2 k k1)
  · rcases k with ⟨k1, k2⟩ | ⟨k, k1, k2, k3, k4⟩
    · exact absurd h3 (k2 h h1)
    · have : h = k := by
        refine Nat.le_antisymm (Nat.le_of_not_lt (fun z => h4 k z k3)) (Nat.le_of_not_lt (fun z => k4 h z h3))
      rw [h2, k2, this]
