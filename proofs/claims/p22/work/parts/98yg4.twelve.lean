/-! group C: twelve of the reference beside the class's -/
def rowOf (C : mI) (k : Nat) : Nat → Nat := fun c => (C 38 (5 * k + c)).toNatClampNeg
def cntN (ρ : Nat → Nat → Nat) (w : Nat) : Nat → Nat
  | 0 => 0
  | i + 1 => cntN ρ w i + (if dsum (ρ i) (ρ 0) w 0 0 = 0 then 1 else 0)
def mxI (ρ : Nat → Nat → Nat) (w i : Nat) : Nat → Nat → Nat
  | 0, v => v
  | j + 1, v => if mxI ρ w i j v < dsum (ρ i) (ρ j) w 0 0 then dsum (ρ i) (ρ j) w 0 0 else mxI ρ w i j v
def mxN (ρ : Nat → Nat → Nat) (w : Nat) : Nat → Nat
  | 0 => 0
  | i + 1 => mxI ρ w i i (mxN ρ w i)
def plN (ρ : Nat → Nat → Nat) (σ : Nat → Nat) (w : Nat) : Nat → Nat
  | 0 => 0
  | i + 1 => plN ρ σ w i + (if dsum (ρ i) σ w 0 0 = 0 then 1 else 0)
section CN
variable {ρ τ : Nat → Nat → Nat} {σ : Nat → Nat} {w : Nat}
theorem dsum_sy {f g : Nat → Nat} : ∀ q i s, dsum f g q i s = dsum g f q i s
  | 0, _, _ => rfl
  | q + 1, i, s => by
    show dsum f g q (i + 1) (s + (f i - g i + (g i - f i))) = dsum g f q (i + 1) (s + (g i - f i + (f i - g i)))
    rw [Nat.add_comm (f i - g i)]
    exact dsum_sy q (i + 1) _
theorem cntN_cg (w5 : w ≤ 5) : ∀ k, (∀ i, i < k → ∀ c, c < 5 → τ i c = ρ i c) → cntN τ w k = cntN ρ w k
  | 0, _ => rfl
  | k + 1, h => by
    have e : dsum (τ k) (τ 0) w 0 0 = dsum (ρ k) (ρ 0) w 0 0 := dsum_cg w 0 0 (fun c _ hc => ⟨h k (Nat.lt_succ_self k) c (by omega), h 0 (Nat.succ_pos k) c (by omega)⟩)
    show cntN τ w k + _ = cntN ρ w k + _
    rw [cntN_cg w5 k (fun i hi => h i (by omega)), e]
theorem mxI_cg (w5 : w ≤ 5) {i v : Nat} : ∀ j, (∀ l, (l < j ∨ l = i) → ∀ c, c < 5 → τ l c = ρ l c) → mxI τ w i j v = mxI ρ w i j v
  | 0, _ => rfl
  | j + 1, h => by
    have e : dsum (τ i) (τ j) w 0 0 = dsum (ρ i) (ρ j) w 0 0 := dsum_cg w 0 0 (fun c _ hc => ⟨h i (Or.inr rfl) c (by omega), h j (Or.inl (Nat.lt_succ_self j)) c (by omega)⟩)
    unfold mxI
    rw [mxI_cg w5 j (fun l hl => h l (by omega)), e]
theorem mxN_cg (w5 : w ≤ 5) : ∀ k, (∀ i, i < k → ∀ c, c < 5 → τ i c = ρ i c) → mxN τ w k = mxN ρ w k
  | 0, _ => rfl
  | k + 1, h => by
    show mxI τ w k k (mxN τ w k) = mxI ρ w k k (mxN ρ w k)
    rw [mxN_cg w5 k (fun i hi => h i (by omega))]
    exact mxI_cg w5 k (fun l hl => h l (by omega))
theorem cntN_b : ∀ k, cntN ρ w k ≤ k
  | 0 => Nat.le_refl _
  | k + 1 => by
    have := cntN_b k
    show cntN ρ w k + (if dsum (ρ k) (ρ 0) w 0 0 = 0 then 1 else 0) ≤ k + 1
    split <;> omega
theorem plN_b : ∀ k, plN ρ σ w k ≤ k
  | 0 => Nat.le_refl _
  | k + 1 => by
    have := plN_b k
    show plN ρ σ w k + (if dsum (ρ k) σ w 0 0 = 0 then 1 else 0) ≤ k + 1
    split <;> omega
theorem mxI_b {i v : Nat} (w5 : w ≤ 5) (hv : v ≤ 45) : ∀ j, (∀ l, (l < j ∨ l = i) → ∀ c, c < 5 → ρ l c ≤ 9) → mxI ρ w i j v ≤ 45
  | 0, _ => hv
  | j + 1, h => by
    have a := mxI_b (i := i) w5 hv j (fun l hl => h l (by omega))
    have b := dsum_b (f := ρ i) (g := ρ j) w 0 0 (fun c _ hc => ⟨h i (Or.inr rfl) c (by omega), h j (Or.inl (Nat.lt_succ_self j)) c (by omega)⟩)
    unfold mxI
    split <;> omega
theorem mxN_b (w5 : w ≤ 5) : ∀ k, (∀ i, i < k → ∀ c, c < 5 → ρ i c ≤ 9) → mxN ρ w k ≤ 45
  | 0, _ => Nat.zero_le _
  | k + 1, h => mxI_b w5 (mxN_b w5 k (fun i hi => h i (by omega))) k (fun l hl => h l (by omega))
end CN
section CLT
variable {I : mI} {w : Nat} {ρ : Nat → Nat → Nat} {σ : Nat → Nat}
/-- the class's counts -/
theorem maF_n {a : Nat} (ew : I 5 0 = nI w) (w5 : w ≤ 5) (h : ∀ i, i < 12 → ∀ c, c < 5 → I 38 (5 * i + c) = nI (ρ i c) ∧ ρ i c ≤ 9) (hσ : ∀ c, c < 5 → I a (5 * 0 + c) = nI (σ c) ∧ σ c ≤ 9) : ∀ N i, i + N = 12 → maF I a N i (nI (plN ρ σ w i)) = nI (plN ρ σ w 12)
  | 0, i, hi => by
    obtain rfl : i = 12 := by omega
    rfl
  | N + 1, i, hi => by
    have e := apL_d (p := 5 * i) (r := 5 * 0) (f := ρ i) (g := σ) ew w5 (fun c hc => h i (by omega) c (by omega)) (fun c hc => hσ c (by omega)) 5 0 0 rfl
    rw [Nat.sub_zero] at e
    have b := dsum_b (f := ρ i) (g := σ) w 0 0 (fun c _ hc => ⟨(h i (by omega) c (by omega)).2, (hσ c (by omega)).2⟩)
    have e2 : nI (plN ρ σ w i) + (if apL I (5 * i) a (5 * 0) 5 0 0 = 0 then 1 else 0) = nI (plN ρ σ w (i + 1)) := by
      rw [show apL I (5 * i) a (5 * 0) 5 0 0 = nI (dsum (ρ i) σ w 0 0) from e]
      show _ = nI (plN ρ σ w i + (if dsum (ρ i) σ w 0 0 = 0 then 1 else 0))
      by_cases g : dsum (ρ i) σ w 0 0 = 0
      · rw [g, if_pos rfl, if_pos (show nI 0 = 0 from rfl)]
        exact nI_1 _
      · rw [if_neg g, if_neg (show ¬ nI (dsum (ρ i) σ w 0 0) = (0 : Int32) from fun z => g ((nI_eq (a := dsum (ρ i) σ w 0 0) (b := 0) (by omega) (by decide)).mp z)), Nat.add_zero]
        exact Int32.add_zero _
    show maF I a N (i + 1) (nI (plN ρ σ w i) + (if apL I (5 * i) a (5 * 0) 5 0 0 = 0 then 1 else 0)) = _
    rw [e2]
    exact maF_n ew w5 h hσ N (i + 1) (by omega)
theorem cnt_pl : ∀ k, cntN ρ w k = plN ρ (ρ 0) w k
  | 0 => rfl
  | k + 1 => by
    show cntN ρ w k + _ = plN ρ (ρ 0) w k + _
    rw [cnt_pl k]
theorem wiI_n (ew : I 5 0 = nI w) (w5 : w ≤ 5) (h : ∀ i, i < 12 → ∀ c, c < 5 → I 38 (5 * i + c) = nI (ρ i c) ∧ ρ i c ≤ 9) {i v : Nat} (hi : i < 12) (hv : v ≤ 45) : ∀ N j, j + N = i → wiI I i N j (nI (mxI ρ w i j v)) = nI (mxI ρ w i i v)
  | 0, j, hj => by
    obtain rfl : j = i := by omega
    rfl
  | N + 1, j, hj => by
    have e := apL_d (p := 5 * i) (r := 5 * j) (f := ρ i) (g := ρ j) (a := 38) ew w5 (fun c hc => h i hi c (by omega)) (fun c hc => h j (by omega) c (by omega)) 5 0 0 rfl
    rw [Nat.sub_zero] at e
    have b := dsum_b (f := ρ i) (g := ρ j) w 0 0 (fun c _ hc => ⟨(h i hi c (by omega)).2, (h j (by omega) c (by omega)).2⟩)
    have b2 := mxI_b (i := i) w5 hv j (fun l hl c hc => (h l (by omega) c hc).2)
    have e2 : (if nI (mxI ρ w i j v) < apL I (5 * i) 38 (5 * j) 5 0 0 then apL I (5 * i) 38 (5 * j) 5 0 0 else nI (mxI ρ w i j v)) = nI (mxI ρ w i (j + 1) v) := by
      rw [show apL I (5 * i) 38 (5 * j) 5 0 0 = nI (dsum (ρ i) (ρ j) w 0 0) from e]
      show _ = nI (if mxI ρ w i j v < dsum (ρ i) (ρ j) w 0 0 then dsum (ρ i) (ρ j) w 0 0 else mxI ρ w i j v)
      by_cases g : mxI ρ w i j v < dsum (ρ i) (ρ j) w 0 0
      · rw [if_pos g, if_pos (nI_lt g (by omega))]
      · rw [if_neg g, if_neg (nI_nlt (by omega) (by omega))]
    show wiI I i N (j + 1) (if nI (mxI ρ w i j v) < apL I (5 * i) 38 (5 * j) 5 0 0 then apL I (5 * i) 38 (5 * j) 5 0 0 else nI (mxI ρ w i j v)) = _
    rw [e2]
    exact wiI_n ew w5 h hi hv N (j + 1) (by omega)
theorem wiF_n (ew : I 5 0 = nI w) (w5 : w ≤ 5) (h : ∀ i, i < 12 → ∀ c, c < 5 → I 38 (5 * i + c) = nI (ρ i c) ∧ ρ i c ≤ 9) : ∀ N i, i + N = 12 → wiF I N i (nI (mxN ρ w i)) = nI (mxN ρ w 12)
  | 0, i, hi => by
    obtain rfl : i = 12 := by omega
    rfl
  | N + 1, i, hi => by
    have b := mxN_b (ρ := ρ) w5 i (fun l hl c hc => (h l (by omega) c hc).2)
    have e := wiI_n ew w5 h (i := i) (v := mxN ρ w i) (by omega) b i 0 (by omega)
    show wiF I N (i + 1) (wiI I i i 0 (nI (mxI ρ w i 0 (mxN ρ w i)))) = _
    rw [e]
    exact wiF_n ew w5 h N (i + 1) (by omega)
end CLT
section TWL
variable {d t q n m w : Nat} {S S1 : mS} {I I1 C J : mI} {L : mL} {R R1 : mR} {Q : mQ} {k v x y b : Int32}
/-- the rows that have been made -/
def RwE (C J : mI) (k : Nat) : Prop := ∀ i, i < k → ∀ c, c < 5 → C 38 (5 * i + c) = nI (rowOf C i c) ∧ rowOf C i c ≤ 9 ∧ J 71 (5 * i + c) = nI (rowOf C i c)
theorem tk_E {k : Nat} (hS : Pm S) (hR : Pr R) (hk : k < 12) {v1 v2 v3 v4 v5 v6 : Value} : ∀ (q i : Nat) (I : mI) (y : Value), i + q = 5 → (∀ J y, (∀ a, ¬ a = 71 → J a = I a) → (∀ p, (p < 5 * k + i ∨ 5 * k + 5 ≤ p) → J 71 p = I 71 p) → (∀ c, i ≤ c → c < 5 → J 71 (5 * k + c) = I 64 c) → Ev (d + 1) 205 119 [.ref 54, v1, v2, v3, v4, v5, v6, .int (nI k), .int (nI 5), y] [] S J L R Q) → Ev (d + 1) 205 88 [.ref 54, v1, v2, v3, v4, v5, v6, .int (nI k), .int (nI i), y] [] S I L R Q := by
  intro q
  induction q with
  | zero =>
    intro i I y hi h1
    obtain rfl : i = 5 := by omega
    have e1 : (nI 5 < (5 : Int32)) = False := eq_false (by decide)
    simp only [E205_88, E205_90, E205_91, rfs, rfn, cs0, csi, csl, csr, csn, kti, ktl, ktr, ktn, ktv, ktf, true_and, and_true, and_self, ↓reduceIte, Nat.reduceAdd, Nat.reduceSub, Nat.reduceMul, Nat.reduceLT, Nat.reduceLeDiff, Nat.reduceEqDiff, true_or, or_true, false_or, or_false, not_true_eq_false, not_false_eq_true, reduceCtorEq, cmp_lt, cmp_gt, cmp_eq, Int32.reduceAdd, Int32.reduceSub, Int32.reduceMul, Int32.reduceLT, Int32.reduceToNatClampNeg, eq_self, ne_eq, Int64.reduceAdd, Int64.reduceSub, Int64.reduceMul, Int64.reduceLT, e1]
    exact h1 I _ (fun _ _ => rfl) (fun _ _ => rfl) (fun c h1 h2 => absurd h2 (by omega))
  | succ q ih =>
    intro i I y hi h1
    have e1 : (nI i < (5 : Int32)) = True := eq_true (nI_lt (a := i) (b := 5) (by omega) (by decide))
    have a4 : inb (nI i) 5 = True := inb_nI (by omega) (by decide)
    have b4 : (nI i).toNatClampNeg = i := nI_clamp (by omega)
    have e5 : (5 : Int32) * nI k + nI i = nI (5 * k + i) := by rw [show (5 : Int32) = nI 5 from rfl, pk_mul, nI_add]
    have a5 : inb (nI (5 * k + i)) 60 = True := inb_nI (by omega) (by decide)
    have b5 : (nI (5 * k + i)).toNatClampNeg = 5 * k + i := nI_clamp (by omega)
    rw [E205_88]
    simp only [E205_90, E205_91, E205_94, E205_95, E205_98, E205_99, E205_101, E205_102, E205_104, E205_105, E205_106, E205_109, E205_111, E205_112, E205_113, E205_116, pk54 hS, pk64 hS, pl64 hS, pa64 hS, pi64 hS, pk71 hS, pl71 hS, pa71 hS, pi71 hS, pr54_23 hR, pr54_49 hR, rfs, rfn, cs0, csi, csl, csr, csn, kti, ktl, ktr, ktn, ktv, ktf, true_and, and_true, and_self, ↓reduceIte, Nat.reduceAdd, Nat.reduceSub, Nat.reduceMul, Nat.reduceLT, Nat.reduceLeDiff, Nat.reduceEqDiff, true_or, or_true, false_or, or_false, not_true_eq_false, not_false_eq_true, reduceCtorEq, cmp_lt, cmp_gt, cmp_eq, Int32.reduceAdd, Int32.reduceSub, Int32.reduceMul, Int32.reduceLT, Int32.reduceToNatClampNeg, eq_self, ne_eq, Int64.reduceAdd, Int64.reduceSub, Int64.reduceMul, Int64.reduceLT, e1, a4, b4, e5, a5, b5, nI_1, pt]
    refine ih (i + 1) _ _ (by omega) (fun J y j1 j2 j3 => h1 J y (fun a ha => (j1 a ha).trans (pt_n ha)) (fun p hp => (j2 p (by omega)).trans (pt_f (by omega))) (fun c h1 h2 => ?_))
    by_cases e : c = i
    · rw [e, j2 (5 * k + i) (by omega), pt_s]
    · rw [j3 c (by omega) h2, pt_m (by decide)]
theorem in_lpE {k : Nat} {ρ : Nat → Nat → Nat} {v0 : Nat} (hS : Pm S) (hR : Pr R) (w5 : w ≤ 5) (hk : k < 12) (ew : J 56 0 = nI w) (hv : v0 ≤ 45) (hf : ∀ c, c < 5 → J 64 c = nI (ρ k c) ∧ ρ k c ≤ 9) (hg : ∀ i, i ≤ k → ∀ c, c < 5 → J 71 (5 * i + c) = nI (ρ i c) ∧ ρ i c ≤ 9) {v1 v2 v3 v4 : Value} {c5 : Int32} : ∀ (N j : Nat) (y : Value), j + N = k → (∀ y y2, Ev (d + 2) 205 177 [.ref 54, v1, v2, v3, v4, .int c5, .int (nI (mxI ρ w k k v0)), .int (nI k), y, y2] [] S J L R Q) → Ev (d + 2) 205 140 [.ref 54, v1, v2, v3, v4, .int c5, .int (nI (mxI ρ w k j v0)), .int (nI k), .int (nI j), y] [] S J L R Q := by
  intro N
  induction N with
  | zero =>
    intro j y hj hq
    obtain rfl : j = k := by omega
    have e1 : (nI j < nI j) = False := eq_false (nI_nlt (Nat.le_refl _) (by omega))
    simp only [E205_140, E205_142, E205_144, rfs, rfn, cs0, csi, csl, csr, csn, kti, ktl, ktr, ktn, ktv, ktf, true_and, and_true, and_self, ↓reduceIte, Nat.reduceAdd, Nat.reduceSub, Nat.reduceMul, Nat.reduceLT, Nat.reduceLeDiff, Nat.reduceEqDiff, true_or, or_true, false_or, or_false, not_true_eq_false, not_false_eq_true, reduceCtorEq, cmp_lt, cmp_gt, cmp_eq, Int32.reduceAdd, Int32.reduceSub, Int32.reduceMul, Int32.reduceLT, Int32.reduceToNatClampNeg, eq_self, ne_eq, Int64.reduceAdd, Int64.reduceSub, Int64.reduceMul, Int64.reduceLT, e1]
    exact hq _ _
  | succ N ih =>
    intro j y hj hq
    have e1 : (nI j < nI k) = True := eq_true (nI_lt (by omega) (by omega))
    have b := dsum_b (f := ρ k) (g := ρ j) w 0 0 (fun c _ hc => ⟨(hf c (by omega)).2, (hg j (by omega) c (by omega)).2⟩)
    have b2 := mxI_b (ρ := ρ) (i := k) w5 hv j (fun l hl c hc => (hg l (by omega) c hc).2)
    rw [E205_140]
    simp only [E205_142, E205_144, E205_147, E205_148, E205_150, pk54 hS, rfs, rfn, cs0, csi, csl, csr, csn, kti, ktl, ktr, ktn, ktv, ktf, true_and, and_true, and_self, ↓reduceIte, Nat.reduceAdd, Nat.reduceSub, Nat.reduceMul, Nat.reduceLT, Nat.reduceLeDiff, Nat.reduceEqDiff, true_or, or_true, false_or, or_false, not_true_eq_false, not_false_eq_true, reduceCtorEq, cmp_lt, cmp_gt, cmp_eq, Int32.reduceAdd, Int32.reduceSub, Int32.reduceMul, Int32.reduceLT, Int32.reduceToNatClampNeg, eq_self, ne_eq, Int64.reduceAdd, Int64.reduceSub, Int64.reduceMul, Int64.reduceLT, e1]
    refine aptE (k := j) (w := w) (f := ρ k) (g := ρ j) hS hR w5 (by omega) ew (fun c hc => hf c (by omega)) (fun c hc => hg j (by omega) c (by omega)) ?_
    have go : ∀ y, Ev (d + 2) 205 140 [.ref 54, v1, v2, v3, v4, .int c5, .int (nI (mxI ρ w k (j + 1) v0)), .int (nI k), .int (nI (j + 1)), y] [] S J L R Q := fun y => ih (j + 1) y (by omega) hq
    unfold mxI at go
    by_cases g : mxI ρ w k j v0 < dsum (ρ k) (ρ j) w 0 0
    · have g' : (nI (mxI ρ w k j v0) < nI (dsum (ρ k) (ρ j) w 0 0)) = True := eq_true (nI_lt g (by omega))
      rw [if_pos g] at go
      simp only [E205_153, E205_155, E205_157, E205_159, E205_162, E205_164, E205_167, E205_169, E205_171, E205_174, rfs, rfn, cs0, csi, csl, csr, csn, kti, ktl, ktr, ktn, ktv, ktf, true_and, and_true, and_self, ↓reduceIte, Nat.reduceAdd, Nat.reduceSub, Nat.reduceMul, Nat.reduceLT, Nat.reduceLeDiff, Nat.reduceEqDiff, true_or, or_true, false_or, or_false, not_true_eq_false, not_false_eq_true, reduceCtorEq, cmp_lt, cmp_gt, cmp_eq, Int32.reduceAdd, Int32.reduceSub, Int32.reduceMul, Int32.reduceLT, Int32.reduceToNatClampNeg, eq_self, ne_eq, Int64.reduceAdd, Int64.reduceSub, Int64.reduceMul, Int64.reduceLT, g', nI_1]
      exact go _
    · have g' : (nI (mxI ρ w k j v0) < nI (dsum (ρ k) (ρ j) w 0 0)) = False := eq_false (nI_nlt (by omega) (by omega))
      rw [if_neg g] at go
      simp only [E205_153, E205_155, E205_157, E205_159, E205_162, E205_164, E205_167, E205_169, E205_171, E205_174, rfs, rfn, cs0, csi, csl, csr, csn, kti, ktl, ktr, ktn, ktv, ktf, true_and, and_true, and_self, ↓reduceIte, Nat.reduceAdd, Nat.reduceSub, Nat.reduceMul, Nat.reduceLT, Nat.reduceLeDiff, Nat.reduceEqDiff, true_or, or_true, false_or, or_false, not_true_eq_false, not_false_eq_true, reduceCtorEq, cmp_lt, cmp_gt, cmp_eq, Int32.reduceAdd, Int32.reduceSub, Int32.reduceMul, Int32.reduceLT, Int32.reduceToNatClampNeg, eq_self, ne_eq, Int64.reduceAdd, Int64.reduceSub, Int64.reduceMul, Int64.reduceLT, g', nI_1]
      exact go _
theorem pl_lpE {ρ : Nat → Nat → Nat} {σ : Nat → Nat} (hS : Pm S) (hR : Pr R) (w5 : w ≤ 5) (ew : J 56 0 = nI w) (hf : ∀ c, c < 5 → J 64 c = nI (σ c) ∧ σ c ≤ 9) (hg : ∀ i, i < 12 → ∀ c, c < 5 → J 71 (5 * i + c) = nI (ρ i c) ∧ ρ i c ≤ 9) {v1 v2 v3 v4 v5 : Value} {c6 : Int32} : ∀ (N j : Nat) (y : Value), j + N = 12 → (∀ y y2, Ev (d + 2) 205 232 [.ref 54, v1, v2, v3, v4, v5, .int c6, .int (nI (plN ρ σ w 12)), y, y2] [] S J L R Q) → Ev (d + 2) 205 200 [.ref 54, v1, v2, v3, v4, v5, .int c6, .int (nI (plN ρ σ w j)), .int (nI j), y] [] S J L R Q := by
  intro N
  induction N with
  | zero =>
    intro j y hj hq
    obtain rfl : j = 12 := by omega
    have e1 : (nI 12 < (12 : Int32)) = False := eq_false (by decide)
    simp only [E205_200, E205_202, E205_204, rfs, rfn, cs0, csi, csl, csr, csn, kti, ktl, ktr, ktn, ktv, ktf, true_and, and_true, and_self, ↓reduceIte, Nat.reduceAdd, Nat.reduceSub, Nat.reduceMul, Nat.reduceLT, Nat.reduceLeDiff, Nat.reduceEqDiff, true_or, or_true, false_or, or_false, not_true_eq_false, not_false_eq_true, reduceCtorEq, cmp_lt, cmp_gt, cmp_eq, Int32.reduceAdd, Int32.reduceSub, Int32.reduceMul, Int32.reduceLT, Int32.reduceToNatClampNeg, eq_self, ne_eq, Int64.reduceAdd, Int64.reduceSub, Int64.reduceMul, Int64.reduceLT, e1]
    exact hq _ _
  | succ N ih =>
    intro j y hj hq
    have e1 : (nI j < (12 : Int32)) = True := eq_true (nI_lt (a := j) (b := 12) (by omega) (by decide))
    have b := dsum_b (f := σ) (g := ρ j) w 0 0 (fun c _ hc => ⟨(hf c (by omega)).2, (hg j (by omega) c (by omega)).2⟩)
    rw [E205_200]
    simp only [E205_202, E205_204, E205_207, E205_209, E205_210, E205_212, pk54 hS, rfs, rfn, cs0, csi, csl, csr, csn, kti, ktl, ktr, ktn, ktv, ktf, true_and, and_true, and_self, ↓reduceIte, Nat.reduceAdd, Nat.reduceSub, Nat.reduceMul, Nat.reduceLT, Nat.reduceLeDiff, Nat.reduceEqDiff, true_or, or_true, false_or, or_false, not_true_eq_false, not_false_eq_true, reduceCtorEq, cmp_lt, cmp_gt, cmp_eq, Int32.reduceAdd, Int32.reduceSub, Int32.reduceMul, Int32.reduceLT, Int32.reduceToNatClampNeg, eq_self, ne_eq, Int64.reduceAdd, Int64.reduceSub, Int64.reduceMul, Int64.reduceLT, e1]
    refine aptE (k := j) (w := w) (f := σ) (g := ρ j) hS hR w5 (by omega) ew (fun c hc => hf c (by omega)) (fun c hc => hg j (by omega) c (by omega)) ?_
    have go : ∀ y, Ev (d + 2) 205 200 [.ref 54, v1, v2, v3, v4, v5, .int c6, .int (nI (plN ρ σ w j + (if dsum (ρ j) σ w 0 0 = 0 then 1 else 0))), .int (nI (j + 1)), y] [] S J L R Q := fun y => ih (j + 1) y (by omega) hq
    rw [dsum_sy (f := ρ j)] at go
    by_cases g : dsum σ (ρ j) w 0 0 = 0
    · have g' : (nI (dsum σ (ρ j) w 0 0) = 0) = True := by rw [g]; exact eq_true rfl
      rw [if_pos g] at go
      simp only [E205_215, E205_218, E205_219, E205_222, E205_223, E205_224, E205_226, E205_229, rfs, rfn, cs0, csi, csl, csr, csn, kti, ktl, ktr, ktn, ktv, ktf, true_and, and_true, and_self, ↓reduceIte, Nat.reduceAdd, Nat.reduceSub, Nat.reduceMul, Nat.reduceLT, Nat.reduceLeDiff, Nat.reduceEqDiff, true_or, or_true, false_or, or_false, not_true_eq_false, not_false_eq_true, reduceCtorEq, cmp_lt, cmp_gt, cmp_eq, Int32.reduceAdd, Int32.reduceSub, Int32.reduceMul, Int32.reduceLT, Int32.reduceToNatClampNeg, eq_self, ne_eq, Int64.reduceAdd, Int64.reduceSub, Int64.reduceMul, Int64.reduceLT, g', nI_1]
      exact go _
    · have g' : (nI (dsum σ (ρ j) w 0 0) = 0) = False := eq_false (fun z => g ((nI_eq (a := dsum σ (ρ j) w 0 0) (b := 0) (by omega) (by decide)).mp z))
      rw [if_neg g, Nat.add_zero] at go
      simp only [E205_215, E205_218, E205_219, E205_222, E205_223, E205_224, E205_226, E205_229, rfs, rfn, cs0, csi, csl, csr, csn, kti, ktl, ktr, ktn, ktv, ktf, true_and, and_true, and_self, ↓reduceIte, Nat.reduceAdd, Nat.reduceSub, Nat.reduceMul, Nat.reduceLT, Nat.reduceLeDiff, Nat.reduceEqDiff, true_or, or_true, false_or, or_false, not_true_eq_false, not_false_eq_true, reduceCtorEq, cmp_lt, cmp_gt, cmp_eq, Int32.reduceAdd, Int32.reduceSub, Int32.reduceMul, Int32.reduceLT, Int32.reduceToNatClampNeg, eq_self, ne_eq, Int64.reduceAdd, Int64.reduceSub, Int64.reduceMul, Int64.reduceLT, g', nI_1, Int32.add_zero]
      exact go _
/-- the TWELVE, one after the other -/
theorem tw_lp {i0 : Nat} (rl : Rel I R) (hS : Pm S1) (hR : Pr R1) (hM : Rw (I 56)) (ew : I 5 0 = nI w) (w5 : w ≤ 5) (hi : i0 < 8) (n16 : n ≤ 16) (m416 : m ≤ 416) (en : I 56 (60 + 1000 * i0) = nI n) (hT : TxR (I (q + 1)) (I (q + 2)) (I (q + 3)) (fun j => I 56 (60 + 1000 * i0 + j)) n) (q85 : 85 ≤ q) (hz : ∀ x, m ≤ x → x < 416 → I (q + 3) x = 0) {v2 v3 : Value} {c4 : Int32} : ∀ (N k : Nat) (C J : mI) (L : mL) (y8 y9 : Value), k + N = 12 → Gt I C → SlR 26 C J L → J 56 = I 56 → RwE C J k → (∀ J' L' y8 y9, Gt I (twF n (q + 1) (q + 2) (q + 3) m N k C) → J' 56 = I 56 → RwE (twF n (q + 1) (q + 2) (q + 3) m N k C) J' 12 → Ev (d + 6) 205 183 [.ref 54, .int (nI i0), v2, v3, .int c4, .int (nI (cntN (rowOf (twF n (q + 1) (q + 2) (q + 3) m N k C)) w 12)), .int (nI (mxN (rowOf (twF n (q + 1) (q + 2) (q + 3) m N k C)) w 12)), .int (nI 12), y8, y9] [] S1 J' L' R1 Q) → Ev (d + 6) 205 72 [.ref 54, .int (nI i0), v2, v3, .int c4, .int (nI (cntN (rowOf C) w k)), .int (nI (mxN (rowOf C) w k)), .int (nI k), y8, y9] [] S1 J L R1 Q := by
  intro N
  induction N with
  | zero =>
    intro k C J L y8 y9 hk hC _ J6 hr hq
    obtain rfl : k = 12 := by omega
    have e1 : (nI 12 < (12 : Int32)) = False := eq_false (by decide)
    simp only [E205_72, E205_74, E205_76, rfs, rfn, cs0, csi, csl, csr, csn, kti, ktl, ktr, ktn, ktv, ktf, true_and, and_true, and_self, ↓reduceIte, Nat.reduceAdd, Nat.reduceSub, Nat.reduceMul, Nat.reduceLT, Nat.reduceLeDiff, Nat.reduceEqDiff, true_or, or_true, false_or, or_false, not_true_eq_false, not_false_eq_true, reduceCtorEq, cmp_lt, cmp_gt, cmp_eq, Int32.reduceAdd, Int32.reduceSub, Int32.reduceMul, Int32.reduceLT, Int32.reduceToNatClampNeg, eq_self, ne_eq, Int64.reduceAdd, Int64.reduceSub, Int64.reduceMul, Int64.reduceLT, e1]
    exact hq J L y8 y9 hC J6 hr
  | succ N ih =>
    intro k C J L y8 y9 hk hC hsl J6 hr hq
    have e1 : (nI k < (12 : Int32)) = True := eq_true (nI_lt (a := k) (b := 12) (by omega) (by decide))
    rw [E205_72]
    simp only [E205_74, E205_76, E205_79, E205_80, E205_81, E205_82, pk54 hS, rfs, rfn, cs0, csi, csl, csr, csn, kti, ktl, ktr, ktn, ktv, ktf, true_and, and_true, and_self, ↓reduceIte, Nat.reduceAdd, Nat.reduceSub, Nat.reduceMul, Nat.reduceLT, Nat.reduceLeDiff, Nat.reduceEqDiff, true_or, or_true, false_or, or_false, not_true_eq_false, not_false_eq_true, reduceCtorEq, cmp_lt, cmp_gt, cmp_eq, Int32.reduceAdd, Int32.reduceSub, Int32.reduceMul, Int32.reduceLT, Int32.reduceToNatClampNeg, eq_self, ne_eq, Int64.reduceAdd, Int64.reduceSub, Int64.reduceMul, Int64.reduceLT, e1]
    refine gthL (d := d) (C := C) (u := 26) hS hR rl hM hi n16 m416 en hT q85 hz (by decide) (fun a ha => hC a (by omega) (by omega)) J6 hsl (Or.inl rfl) (fun w1 J1 L1 ew1 sr sl gJ _ => ?_)
    have b1 := sr.w5
    obtain rfl : w1 = w := (nI_eq (by omega) (by omega)).mp (ew1.symm.trans ew)
    have eF : twF n (q + 1) (q + 2) (q + 3) m (N + 1) k C = twF n (q + 1) (q + 2) (q + 3) m N (k + 1) (twS n (q + 1) (q + 2) (q + 3) m k C) := rfl
    rw [eF] at hq
    have gu := Gu.ca (Gu.rf (u := 26) (I := C)) (z := 5) (n := n) (k1 := q + 1) (k2 := q + 2) (k3 := q + 3) (m := m) (w := -1)
    have s38 : ∀ j, j < 5 * k → twS n (q + 1) (q + 2) (q + 3) m k C 38 j = C 38 j := fun j hj => by
      unfold twS
      rw [uu_s]
      unfold va_cpy
      rw [if_neg (by omega), gu 38 (by decide)]
    have s38' : ∀ c, c < 5 → twS n (q + 1) (q + 2) (q + 3) m k C 38 (5 * k + c) = J1 64 c := fun c hc => by
      unfold twS
      rw [uu_s]
      unfold va_cpy
      rw [if_pos ⟨by omega, by omega⟩, show 0 + (5 * k + c - 5 * k) = c by omega, fin_n (by decide)]
      exact sr.ie hc
    have sa : ∀ a, ¬ a = 38 → twS n (q + 1) (q + 2) (q + 3) m k C a = finF (carF C 26 5 n (q + 1) (q + 2) (q + 3) m (-1)).1 26 5 a := fun a ha => uu_n _ _ ha
    have hC1 : Gt I (twS n (q + 1) (q + 2) (q + 3) m k C) := fun a a1 a2 => by
      rw [sa a a2, gu a a1]
      exact hC a a1 a2
    have sl1 : SlR 26 (twS n (q + 1) (q + 2) (q + 3) m k C) J1 L1 := sl.e (by rw [sa 26 (by decide), fin_n (by decide)]) (by rw [sa 26 (by decide), fin_n (by decide)]) rfl
    generalize twS n (q + 1) (q + 2) (q + 3) m k C = C1 at hq s38 s38' sa hC1 sl1
    have ro : ∀ i, i < k → ∀ c, c < 5 → rowOf C1 i c = rowOf C i c := fun i hi c hc => by
      unfold rowOf
      rw [s38 (5 * i + c) (by omega)]
    have nf := sr.nf
    have rk : ∀ c, c < 5 → J1 64 c = nI (rowOf C1 k c) ∧ rowOf C1 k c ≤ 9 := fun c hc => by
      unfold rowOf
      rw [s38' c hc]
      exact nf c hc
    have J16 : J1 56 = I 56 := gJ.w.trans J6
    simp only [E205_85, E205_86, rfs, rfn, cs0, csi, csl, csr, csn, kti, ktl, ktr, ktn, ktv, ktf, true_and, and_true, and_self, ↓reduceIte, Nat.reduceAdd, Nat.reduceSub, Nat.reduceMul, Nat.reduceLT, Nat.reduceLeDiff, Nat.reduceEqDiff, true_or, or_true, false_or, or_false, not_true_eq_false, not_false_eq_true, reduceCtorEq, cmp_lt, cmp_gt, cmp_eq, Int32.reduceAdd, Int32.reduceSub, Int32.reduceMul, Int32.reduceLT, Int32.reduceToNatClampNeg, eq_self, ne_eq, Int64.reduceAdd, Int64.reduceSub, Int64.reduceMul, Int64.reduceLT]
    refine tk_E (d := d + 5) hS hR (show k < 12 by omega) 5 0 J1 _ (by omega) (fun J2 y j1 j2 j3 => ?_)
    have J26 : J2 56 = I 56 := (j1 56 (by decide)).trans J16
    have hf : ∀ c, c < 5 → J2 64 c = nI (rowOf C1 k c) ∧ rowOf C1 k c ≤ 9 := fun c hc => by
      rw [j1 64 (by decide)]
      exact rk c hc
    have hg : ∀ i, i ≤ k → ∀ c, c < 5 → J2 71 (5 * i + c) = nI (rowOf C1 i c) ∧ rowOf C1 i c ≤ 9 := fun i hi c hc => by
      by_cases e : i = k
      · rw [e, j3 c (Nat.zero_le c) hc]
        exact rk c hc
      · obtain ⟨a1, a2, a3⟩ := hr i (by omega) c hc
        rw [j2 (5 * i + c) (by omega), gJ.1 71 (by decide) (by decide), ro i (by omega) c hc]
        exact ⟨a3, a2⟩
    have hr1 : RwE C1 J2 (k + 1) := fun i hi c hc => by
      obtain ⟨a1, a2⟩ := hg i (by omega) c hc
      refine ⟨?_, a2, a1⟩
      by_cases e : i = k
      · subst e
        rw [s38' c hc]
        exact (rk c hc).1
      · rw [s38 (5 * i + c) (by omega), ro i (by omega) c hc]
        exact (hr i (by omega) c hc).1
    have ec : cntN (rowOf C) w1 k = cntN (rowOf C1) w1 k := (cntN_cg w5 k ro).symm
    have em : mxN (rowOf C) w1 k = mxN (rowOf C1) w1 k := (mxN_cg w5 k ro).symm
    rw [ec, em]
    have ew2 : J2 56 0 = nI w1 := by rw [J26, ← ew]; exact rl.2.1.1.symm
    have bm := mxN_b (ρ := rowOf C1) w5 k (fun i hi c hc => (hg i (by omega) c hc).2)
    have b0 := dsum_b (f := rowOf C1 k) (g := rowOf C1 0) w1 0 0 (fun c _ hc => ⟨(hf c (by omega)).2, (hg 0 (Nat.zero_le k) c (by omega)).2⟩)
    simp only [E205_119, E205_121, E205_122, E205_123, pk54 hS, rfs, rfn, cs0, csi, csl, csr, csn, kti, ktl, ktr, ktn, ktv, ktf, true_and, and_true, and_self, ↓reduceIte, Nat.reduceAdd, Nat.reduceSub, Nat.reduceMul, Nat.reduceLT, Nat.reduceLeDiff, Nat.reduceEqDiff, true_or, or_true, false_or, or_false, not_true_eq_false, not_false_eq_true, reduceCtorEq, cmp_lt, cmp_gt, cmp_eq, Int32.reduceAdd, Int32.reduceSub, Int32.reduceMul, Int32.reduceLT, Int32.reduceToNatClampNeg, eq_self, ne_eq, Int64.reduceAdd, Int64.reduceSub, Int64.reduceMul, Int64.reduceLT]
    refine aptE (k := 0) (w := w1) (f := rowOf C1 k) (g := rowOf C1 0) hS hR w5 (by decide) ew2 (fun c hc => hf c (by omega)) (fun c hc => hg 0 (Nat.zero_le k) c (by omega)) ?_
    have nx : ∀ y, Ev (d + 6) 205 140 [.ref 54, .int (nI i0), v2, v3, .int c4, .int (nI (cntN (rowOf C1) w1 (k + 1))), .int (nI (mxI (rowOf C1) w1 k 0 (mxN (rowOf C1) w1 k))), .int (nI k), .int (nI 0), y] [] S1 J2 L1 R1 Q := fun y => in_lpE (d := d + 4) hS hR w5 (by omega) ew2 bm hf hg k 0 y (by omega) (fun y y2 => by
      simp only [E205_177, E205_180, rfs, rfn, cs0, csi, csl, csr, csn, kti, ktl, ktr, ktn, ktv, ktf, true_and, and_true, and_self, ↓reduceIte, Nat.reduceAdd, Nat.reduceSub, Nat.reduceMul, Nat.reduceLT, Nat.reduceLeDiff, Nat.reduceEqDiff, true_or, or_true, false_or, or_false, not_true_eq_false, not_false_eq_true, reduceCtorEq, cmp_lt, cmp_gt, cmp_eq, Int32.reduceAdd, Int32.reduceSub, Int32.reduceMul, Int32.reduceLT, Int32.reduceToNatClampNeg, eq_self, ne_eq, Int64.reduceAdd, Int64.reduceSub, Int64.reduceMul, Int64.reduceLT, nI_1]
      exact ih (k + 1) C1 J2 L1 _ _ (by omega) hC1 (sl1.e rfl rfl (by rw [j1 54 (by decide)])) J26 hr1 hq)
    have es : cntN (rowOf C1) w1 (k + 1) = cntN (rowOf C1) w1 k + (if dsum (rowOf C1 k) (rowOf C1 0) w1 0 0 = 0 then 1 else 0) := rfl
    rw [es] at nx
    by_cases g : dsum (rowOf C1 k) (rowOf C1 0) w1 0 0 = 0
    · have g' : (nI (dsum (rowOf C1 k) (rowOf C1 0) w1 0 0) = 0) = True := by rw [g]; exact eq_true rfl
      rw [if_pos g] at nx
      simp only [E205_126, E205_129, E205_130, E205_133, E205_134, E205_135, E205_137, E205_138, rfs, rfn, cs0, csi, csl, csr, csn, kti, ktl, ktr, ktn, ktv, ktf, true_and, and_true, and_self, ↓reduceIte, Nat.reduceAdd, Nat.reduceSub, Nat.reduceMul, Nat.reduceLT, Nat.reduceLeDiff, Nat.reduceEqDiff, true_or, or_true, false_or, or_false, not_true_eq_false, not_false_eq_true, reduceCtorEq, cmp_lt, cmp_gt, cmp_eq, Int32.reduceAdd, Int32.reduceSub, Int32.reduceMul, Int32.reduceLT, Int32.reduceToNatClampNeg, eq_self, ne_eq, Int64.reduceAdd, Int64.reduceSub, Int64.reduceMul, Int64.reduceLT, g', nI_1]
      exact nx _
    · have g' : (nI (dsum (rowOf C1 k) (rowOf C1 0) w1 0 0) = 0) = False := eq_false (fun z => g ((nI_eq (a := dsum (rowOf C1 k) (rowOf C1 0) w1 0 0) (b := 0) (by omega) (by decide)).mp z))
      rw [if_neg g, Nat.add_zero] at nx
      simp only [E205_126, E205_129, E205_130, E205_133, E205_134, E205_135, E205_137, E205_138, rfs, rfn, cs0, csi, csl, csr, csn, kti, ktl, ktr, ktn, ktv, ktf, true_and, and_true, and_self, ↓reduceIte, Nat.reduceAdd, Nat.reduceSub, Nat.reduceMul, Nat.reduceLT, Nat.reduceLeDiff, Nat.reduceEqDiff, true_or, or_true, false_or, or_false, not_true_eq_false, not_false_eq_true, reduceCtorEq, cmp_lt, cmp_gt, cmp_eq, Int32.reduceAdd, Int32.reduceSub, Int32.reduceMul, Int32.reduceLT, Int32.reduceToNatClampNeg, eq_self, ne_eq, Int64.reduceAdd, Int64.reduceSub, Int64.reduceMul, Int64.reduceLT, g', Int32.add_zero]
      exact nx _
theorem twelveE {i0 r : Nat} (rl : Rel I R) (hd : HdR I) (hS : Pm S1) (hR : Pr R1) (hM : Rw (I 56)) (e56 : I1 56 = I 56) (hi : i0 < 8) (e1 : I1 56 1 = nI r) (g : inB (nI i0).toInt64 0 ((nI r).toInt64 - 1) = true) (n16 : n ≤ 16) (m416 : m ≤ 416) (en : I 56 (60 + 1000 * i0) = nI n) (hT : TxR (I (q + 1)) (I (q + 2)) (I (q + 3)) (fun j => I 56 (60 + 1000 * i0 + j)) n) (q85 : 85 ≤ q) (hz : ∀ x, m ≤ x → x < 416 → I (q + 3) x = 0) (hb : twB x y b) (hq : ∀ J L', Q (.int (twV n (q + 1) (q + 2) (q + 3) m (twH n (q + 1) (q + 2) (q + 3) m I x y) b)) S1 J L' R1) : EvM (d + 6) 205 [.ref 54, .int (nI i0), .int x, .int y, .int b] S1 I1 L R1 Q := by
  obtain ⟨w, w3, w5, ew⟩ := hM.1
  have e0 : I 5 0 = nI w := by rw [← ew]; exact rl.2.1.1
  obtain ⟨x0, x1, y0, y1, z0, z1⟩ := id hb
  have gx : inB x.toInt64 0 100 = true := (inBc (a := 0) (b := 100) rfl rfl).mpr ⟨x0, x1⟩
  have gy : inB y.toInt64 0 1000000 = true := (inBc (a := 0) (b := 1000000) rfl rfl).mpr ⟨y0, y1⟩
  have gb : inB b.toInt64 0 2 = true := (inBc (a := 0) (b := 2) rfl rfl).mpr ⟨z0, z1⟩
  obtain ⟨s, s1, es⟩ : ∃ s, s < 1000003 ∧ y = nI s := by
    have a1 : ¬ y.toInt < 0 := fun z => y0 (Int32.lt_iff_toInt_lt.mpr z)
    have a2 : ¬ (1000000 : Int) < y.toInt := fun z => y1 (Int32.lt_iff_toInt_lt.mpr z)
    exact ⟨y.toInt.toNat, by omega, ti_nI (z := y.toInt) rfl (by omega) (by omega)⟩
  simp only [M205, E205_0, E205_1, E205_2, E205_5, E205_6, E205_7, E205_10, E205_13, E205_14, E205_15, E205_16, E205_19, E205_22, E205_25, E205_26, E205_27, E205_28, E205_31, E205_34, E205_37, E205_39, E205_40, E205_41, E205_44, E205_47, E205_50, E205_51, E205_52, E205_53, E205_54, E205_57, E205_58, E205_59, E205_60, E205_63, E205_64, E205_66, E205_67, E205_69, E205_70, isr hS hR, inn, pt_m, e1, g, gx, gy, gb, bI_t, n1_0, pk54 hS, pk56 hS, pl56 hS, pa56 hS, pi56 hS, pr54_3 hR, rfs, rfn, cs0, csi, csl, csr, csn, kti, ktl, ktr, ktn, ktv, ktf, true_and, and_true, and_self, ↓reduceIte, Nat.reduceAdd, Nat.reduceSub, Nat.reduceMul, Nat.reduceLT, Nat.reduceLeDiff, Nat.reduceEqDiff, true_or, or_true, false_or, or_false, not_true_eq_false, not_false_eq_true, reduceCtorEq, cmp_lt, cmp_gt, cmp_eq, Int32.reduceAdd, Int32.reduceSub, Int32.reduceMul, Int32.reduceLT, Int32.reduceToNatClampNeg, eq_self, ne_eq, Int64.reduceAdd, Int64.reduceSub, Int64.reduceMul, Int64.reduceLT, pt]
  have hC0 : Gt I (put (put I 26 9 x) 26 10 y) := fun a a1 a2 => by rw [pt_n (by omega), pt_n (by omega)]
  have k0 := fun y8 y9 => tw_lp (d := d) (Q := Q) (v2 := .int x) (v3 := .int y) (c4 := b) (L := va_up L 54 (va_up (L 54) 43 y.toInt64)) rl hS hR hM e0 w5 hi n16 m416 en hT q85 hz 12 0 (put (put I 26 9 x) 26 10 y) (put (put I1 54 0 0) 54 42 x) y8 y9 (by omega) hC0 ⟨((pt_f (by decide)).trans pt_s).trans pt_s.symm, Or.inr ⟨s, s1, pt_s.trans es, by rw [uu_s, uu_s, es]⟩⟩ (by rw [pt_n (by decide), pt_n (by decide)]; exact e56) (fun i hi => absurd hi (by omega)) (fun J L' y8 y9 hC J6 hr => ?_)
  · exact k0 _ _
  have hH : twH n (q + 1) (q + 2) (q + 3) m I x y = put (put (twF n (q + 1) (q + 2) (q + 3) m 12 0 (put (put I 26 9 x) 26 10 y)) 26 9 (-1)) 26 10 0 := rfl
  have h38 : twH n (q + 1) (q + 2) (q + 3) m I x y 38 = twF n (q + 1) (q + 2) (q + 3) m 12 0 (put (put I 26 9 x) 26 10 y) 38 := by
    rw [hH, pt_n (by decide), pt_n (by decide)]
  have hro : rowOf (twF n (q + 1) (q + 2) (q + 3) m 12 0 (put (put I 26 9 x) 26 10 y)) = rowOf (twH n (q + 1) (q + 2) (q + 3) m I x y) := by
    funext k c
    unfold rowOf
    rw [h38]
  rw [hro]
  have hg : ∀ i, i < 12 → ∀ c, c < 5 → twH n (q + 1) (q + 2) (q + 3) m I x y 38 (5 * i + c) = nI (rowOf (twH n (q + 1) (q + 2) (q + 3) m I x y) i c) ∧ rowOf (twH n (q + 1) (q + 2) (q + 3) m I x y) i c ≤ 9 := fun i hi c hc => by
    obtain ⟨a1, a2, _⟩ := hr i hi c hc
    rw [h38, ← hro]
    exact ⟨a1, a2⟩
  have hj : ∀ i, i < 12 → ∀ c, c < 5 → J 71 (5 * i + c) = nI (rowOf (twH n (q + 1) (q + 2) (q + 3) m I x y) i c) ∧ rowOf (twH n (q + 1) (q + 2) (q + 3) m I x y) i c ≤ 9 := fun i hi c hc => by
    obtain ⟨a1, a2, a3⟩ := hr i hi c hc
    rw [← hro]
    exact ⟨a3, a2⟩
  have hG : Gt I (twH n (q + 1) (q + 2) (q + 3) m I x y) := twH_g
  have h9 : twH n (q + 1) (q + 2) (q + 3) m I x y 26 9 = -1 := twH_9
  generalize twH n (q + 1) (q + 2) (q + 3) m I x y = H at hg hj hG h9 hq ⊢
  have H5 : H 5 0 = nI w := by rw [hG 5 (by decide) (by decide)]; exact e0
  simp only [E205_183, E205_184, E205_185, E205_188, E205_189, E205_190, E205_191, pk54 hS, rfs, rfn, cs0, csi, csl, csr, csn, kti, ktl, ktr, ktn, ktv, ktf, true_and, and_true, and_self, ↓reduceIte, Nat.reduceAdd, Nat.reduceSub, Nat.reduceMul, Nat.reduceLT, Nat.reduceLeDiff, Nat.reduceEqDiff, true_or, or_true, false_or, or_false, not_true_eq_false, not_false_eq_true, reduceCtorEq, cmp_lt, cmp_gt, cmp_eq, Int32.reduceAdd, Int32.reduceSub, Int32.reduceMul, Int32.reduceLT, Int32.reduceToNatClampNeg, eq_self, ne_eq, Int64.reduceAdd, Int64.reduceSub, Int64.reduceMul, Int64.reduceLT, pt]
  refine gthL (d := d) (C := H) (u := 26) hS hR rl hM hi n16 m416 en hT q85 hz (by decide) (fun a ha => hG a (by omega) (by omega)) (by rw [pt_n (by decide)]; exact J6) ⟨h9.trans pt_s.symm, Or.inl h9⟩ (Or.inl rfl) (fun w1 J3 L3 ew1 sr _ gJ _ => ?_)
  have b1 := sr.w5
  obtain rfl : w1 = w := (nI_eq (by omega) (by omega)).mp (ew1.symm.trans e0)
  have gu := Gu.ca (Gu.rf (u := 26) (I := H)) (z := 5) (n := n) (k1 := q + 1) (k2 := q + 2) (k3 := q + 3) (m := m) (w := -1)
  have nf := sr.nf
  simp only [E205_194, E205_195, E205_197, E205_198, rfs, rfn, cs0, csi, csl, csr, csn, kti, ktl, ktr, ktn, ktv, ktf, true_and, and_true, and_self, ↓reduceIte, Nat.reduceAdd, Nat.reduceSub, Nat.reduceMul, Nat.reduceLT, Nat.reduceLeDiff, Nat.reduceEqDiff, true_or, or_true, false_or, or_false, not_true_eq_false, not_false_eq_true, reduceCtorEq, cmp_lt, cmp_gt, cmp_eq, Int32.reduceAdd, Int32.reduceSub, Int32.reduceMul, Int32.reduceLT, Int32.reduceToNatClampNeg, eq_self, ne_eq, Int64.reduceAdd, Int64.reduceSub, Int64.reduceMul, Int64.reduceLT]
  refine pl_lpE (d := d + 4) (ρ := rowOf H) (σ := fun c => (J3 64 c).toNatClampNeg) hS hR w5 sr.2.2.2.1 nf (fun i hi c hc => by rw [gJ.1 71 (by decide) (by decide), pt_m (by decide)]; exact hj i hi c hc) 12 0 _ (by omega) (fun y8 y9 => ?_)
  have k := hq J3 L3
  unfold twV at k
  by_cases b0 : b = 0
  · have n1 : ¬ b = 1 := by rw [b0]; decide
    have m0 := maF_n (σ := rowOf H 0) (a := 38) H5 w5 hg (fun c hc => hg 0 (by decide) c hc) 12 0 rfl
    have m0' : maF H 38 12 0 0 = nI (plN (rowOf H) (rowOf H 0) w1 12) := m0
    rw [if_neg n1, if_pos b0, m0', ← cnt_pl] at k
    have b0' : (b = 0) = True := eq_true b0
    simp only [E205_232, E205_234, E205_237, E205_239, E205_242, E205_244, E205_245, E205_248, E205_250, E205_253, E205_255, rfs, rfn, cs0, csi, csl, csr, csn, kti, ktl, ktr, ktn, ktv, ktf, true_and, and_true, and_self, ↓reduceIte, Nat.reduceAdd, Nat.reduceSub, Nat.reduceMul, Nat.reduceLT, Nat.reduceLeDiff, Nat.reduceEqDiff, true_or, or_true, false_or, or_false, not_true_eq_false, not_false_eq_true, reduceCtorEq, cmp_lt, cmp_gt, cmp_eq, Int32.reduceAdd, Int32.reduceSub, Int32.reduceMul, Int32.reduceLT, Int32.reduceToNatClampNeg, eq_self, ne_eq, Int64.reduceAdd, Int64.reduceSub, Int64.reduceMul, Int64.reduceLT, b0']
    exact k
  · by_cases b1' : b = 1
    · have m1 := wiF_n H5 w5 hg 12 0 rfl
      have m1' : wiF H 12 0 0 = nI (mxN (rowOf H) w1 12) := m1
      rw [if_pos b1', m1'] at k
      have b1'' : (b = 1) = True := eq_true b1'
      simp only [E205_232, E205_234, E205_237, E205_239, E205_242, E205_244, E205_245, E205_248, E205_250, E205_253, E205_255, rfs, rfn, cs0, csi, csl, csr, csn, kti, ktl, ktr, ktn, ktv, ktf, true_and, and_true, and_self, ↓reduceIte, Nat.reduceAdd, Nat.reduceSub, Nat.reduceMul, Nat.reduceLT, Nat.reduceLeDiff, Nat.reduceEqDiff, true_or, or_true, false_or, or_false, not_true_eq_false, not_false_eq_true, reduceCtorEq, cmp_lt, cmp_gt, cmp_eq, Int32.reduceAdd, Int32.reduceSub, Int32.reduceMul, Int32.reduceLT, Int32.reduceToNatClampNeg, eq_self, ne_eq, Int64.reduceAdd, Int64.reduceSub, Int64.reduceMul, Int64.reduceLT, b0, b1'']
      exact k
    · rw [if_neg b1', if_neg b0] at k
      have F5 : finF (carF H 26 5 n (q + 1) (q + 2) (q + 3) m (-1)).1 26 5 5 0 = nI w1 := by rw [gu 5 (by decide)]; exact H5
      have F38 : finF (carF H 26 5 n (q + 1) (q + 2) (q + 3) m (-1)).1 26 5 38 = H 38 := gu 38 (by decide)
      have m2 := maF_n (I := finF (carF H 26 5 n (q + 1) (q + 2) (q + 3) m (-1)).1 26 5) (ρ := rowOf H) (σ := fun c => (J3 64 c).toNatClampNeg) (a := 27) F5 w5 (fun i hi c hc => by rw [F38]; exact hg i hi c hc) (fun c hc => by
        rw [fin_n (by decide), show 5 * 0 + c = c by omega]
        have e := sr.ie hc
        rw [show (27 : Nat) = 26 + 1 from rfl, e]
        exact nf c hc) 12 0 rfl
      have m2' : maF (finF (carF H 26 5 n (q + 1) (q + 2) (q + 3) m (-1)).1 26 5) 27 12 0 0 = nI (plN (rowOf H) (fun c => (J3 64 c).toNatClampNeg) w1 12) := m2
      rw [m2'] at k
      simp only [E205_232, E205_234, E205_237, E205_239, E205_242, E205_244, E205_245, E205_248, E205_250, E205_253, E205_255, rfs, rfn, cs0, csi, csl, csr, csn, kti, ktl, ktr, ktn, ktv, ktf, true_and, and_true, and_self, ↓reduceIte, Nat.reduceAdd, Nat.reduceSub, Nat.reduceMul, Nat.reduceLT, Nat.reduceLeDiff, Nat.reduceEqDiff, true_or, or_true, false_or, or_false, not_true_eq_false, not_false_eq_true, reduceCtorEq, cmp_lt, cmp_gt, cmp_eq, Int32.reduceAdd, Int32.reduceSub, Int32.reduceMul, Int32.reduceLT, Int32.reduceToNatClampNeg, eq_self, ne_eq, Int64.reduceAdd, Int64.reduceSub, Int64.reduceMul, Int64.reduceLT, b0, b1']
      exact k
/-- twelve: both answer alike -/
theorem twelve_law (X : XC S I R t) (rl : Rel I R) (h : ExB I R) (hd : HdR I) (M : InvM I1 t) (hS : Pm S1) (hR : Pr R1) (o1 : OutX I I1) (n1 : ((rcB I 5 k = false ∨ ¬ twB x y b) ∧ v = -1) ∨ (rcB I 5 k = true ∧ twB x y b ∧ ∃ q n m, RcX1 I R k q n m ∧ v = twV n (q + 1) (q + 2) (q + 3) m (twH n (q + 1) (q + 2) (q + 3) m I x y) b)) (hq : ∀ J L', InvM J t → OutM I1 J → RlN I1 J → Q (.int v) S1 J L' R1) : EvM (d + 6) 205 [.ref 54, .int k, .int x, .int y, .int b] S1 I1 L R1 Q := by
  obtain ⟨_, r, r8, er⟩ := X.2.1.rcs
  have e56 : I1 56 = I 56 := o1 56 (by decide)
  have e1 : I1 56 1 = nI r := by rw [e56, ← h.1.1]; exact er
  have hM : Rw (I 56) := by rw [← e56]; exact M.1
  have hJ := M.p0 (x := 0)
  have oJ : OutM I1 (put I1 54 0 0) := (by repeat (first | exact OutM.rf | apply telF_o | refine OutM.pt ?_ (by decide) (by decide)))
  have rJ : RlN I1 (put I1 54 0 0) := (by repeat (first | exact RlN.rf | apply RlN.tel | refine RlN.p4 ?_ (by decide) | refine RlN.pa ?_ (by decide)))
  have bx : inB x.toInt64 0 100 = true ↔ ¬ x < 0 ∧ ¬ 100 < x := inBc rfl rfl
  have bY : inB y.toInt64 0 1000000 = true ↔ ¬ y < 0 ∧ ¬ 1000000 < y := inBc rfl rfl
  have bb : inB b.toInt64 0 2 = true ↔ ¬ b < 0 ∧ ¬ 2 < b := inBc rfl rfl
  rcases n1 with ⟨n1, rfl⟩ | ⟨g, hb, q, n, m, rx, rfl⟩
  · cases g : inB k.toInt64 0 ((nI r).toInt64 - 1)
    · simp only [M205, E205_0, E205_1, E205_2, E205_5, E205_6, E205_7, E205_10, E205_13, E205_14, E205_15, E205_16, E205_19, E205_22, E205_25, E205_26, E205_27, E205_28, E205_31, E205_34, E205_37, E205_39, E205_40, E205_41, E205_44, E205_47, E205_50, E205_51, isr hS hR, pt_m, e1, g, bI_f, pk54 hS, pk56 hS, pl56 hS, pa56 hS, pi56 hS, pr54_3 hR, rfs, rfn, cs0, csi, csl, csr, csn, kti, ktl, ktr, ktn, ktv, ktf, true_and, and_true, and_self, ↓reduceIte, Nat.reduceAdd, Nat.reduceSub, Nat.reduceMul, Nat.reduceLT, Nat.reduceLeDiff, Nat.reduceEqDiff, true_or, or_true, false_or, or_false, not_true_eq_false, not_false_eq_true, reduceCtorEq, cmp_lt, cmp_gt, cmp_eq, Int32.reduceAdd, Int32.reduceSub, Int32.reduceMul, Int32.reduceLT, Int32.reduceToNatClampNeg, eq_self, ne_eq, Int64.reduceAdd, Int64.reduceSub, Int64.reduceMul, Int64.reduceLT, pt]
      exact hq _ _ hJ oJ rJ
    cases gx : inB x.toInt64 0 100
    · simp only [M205, E205_0, E205_1, E205_2, E205_5, E205_6, E205_7, E205_10, E205_13, E205_14, E205_15, E205_16, E205_19, E205_22, E205_25, E205_26, E205_27, E205_28, E205_31, E205_34, E205_37, E205_39, E205_40, E205_41, E205_44, E205_47, E205_50, E205_51, isr hS hR, inn, pt_m, e1, g, gx, bI_f, bI_t, n1_0, pk54 hS, pk56 hS, pl56 hS, pa56 hS, pi56 hS, pr54_3 hR, rfs, rfn, cs0, csi, csl, csr, csn, kti, ktl, ktr, ktn, ktv, ktf, true_and, and_true, and_self, ↓reduceIte, Nat.reduceAdd, Nat.reduceSub, Nat.reduceMul, Nat.reduceLT, Nat.reduceLeDiff, Nat.reduceEqDiff, true_or, or_true, false_or, or_false, not_true_eq_false, not_false_eq_true, reduceCtorEq, cmp_lt, cmp_gt, cmp_eq, Int32.reduceAdd, Int32.reduceSub, Int32.reduceMul, Int32.reduceLT, Int32.reduceToNatClampNeg, eq_self, ne_eq, Int64.reduceAdd, Int64.reduceSub, Int64.reduceMul, Int64.reduceLT, pt]
      exact hq _ _ hJ oJ rJ
    cases gy : inB y.toInt64 0 1000000
    · simp only [M205, E205_0, E205_1, E205_2, E205_5, E205_6, E205_7, E205_10, E205_13, E205_14, E205_15, E205_16, E205_19, E205_22, E205_25, E205_26, E205_27, E205_28, E205_31, E205_34, E205_37, E205_39, E205_40, E205_41, E205_44, E205_47, E205_50, E205_51, isr hS hR, inn, pt_m, e1, g, gx, gy, bI_f, bI_t, n1_0, pk54 hS, pk56 hS, pl56 hS, pa56 hS, pi56 hS, pr54_3 hR, rfs, rfn, cs0, csi, csl, csr, csn, kti, ktl, ktr, ktn, ktv, ktf, true_and, and_true, and_self, ↓reduceIte, Nat.reduceAdd, Nat.reduceSub, Nat.reduceMul, Nat.reduceLT, Nat.reduceLeDiff, Nat.reduceEqDiff, true_or, or_true, false_or, or_false, not_true_eq_false, not_false_eq_true, reduceCtorEq, cmp_lt, cmp_gt, cmp_eq, Int32.reduceAdd, Int32.reduceSub, Int32.reduceMul, Int32.reduceLT, Int32.reduceToNatClampNeg, eq_self, ne_eq, Int64.reduceAdd, Int64.reduceSub, Int64.reduceMul, Int64.reduceLT, pt]
      exact hq _ _ hJ oJ rJ
    cases gb : inB b.toInt64 0 2
    · simp only [M205, E205_0, E205_1, E205_2, E205_5, E205_6, E205_7, E205_10, E205_13, E205_14, E205_15, E205_16, E205_19, E205_22, E205_25, E205_26, E205_27, E205_28, E205_31, E205_34, E205_37, E205_39, E205_40, E205_41, E205_44, E205_47, E205_50, E205_51, isr hS hR, inn, pt_m, e1, g, gx, gy, gb, bI_f, bI_t, n1_0, pk54 hS, pk56 hS, pl56 hS, pa56 hS, pi56 hS, pr54_3 hR, rfs, rfn, cs0, csi, csl, csr, csn, kti, ktl, ktr, ktn, ktv, ktf, true_and, and_true, and_self, ↓reduceIte, Nat.reduceAdd, Nat.reduceSub, Nat.reduceMul, Nat.reduceLT, Nat.reduceLeDiff, Nat.reduceEqDiff, true_or, or_true, false_or, or_false, not_true_eq_false, not_false_eq_true, reduceCtorEq, cmp_lt, cmp_gt, cmp_eq, Int32.reduceAdd, Int32.reduceSub, Int32.reduceMul, Int32.reduceLT, Int32.reduceToNatClampNeg, eq_self, ne_eq, Int64.reduceAdd, Int64.reduceSub, Int64.reduceMul, Int64.reduceLT, pt]
      exact hq _ _ hJ oJ rJ
    rcases n1 with n1 | n1
    · rw [← rcB_in er r8, g] at n1
      cases n1
    · exact absurd ⟨(bx.mp gx).1, (bx.mp gx).2, (bY.mp gy).1, (bY.mp gy).2, (bb.mp gb).1, (bb.mp gb).2⟩ n1
  · have g' : inB k.toInt64 0 ((nI r).toInt64 - 1) = true := (rcB_in er r8).trans g
    obtain ⟨i, r', hi, _, er', rfl, en, hT⟩ := rx_d X h g rx
    have er8 : r' = r := (nI_eq (by omega) (by omega)).mp (er'.symm.trans er)
    have k1 := m_twelve (d := d) (L := L) (r := nI i) (a := x) (b := y) (z := b) (Q := fun v S' J L' R' => ∃ x, v = .int x ∧ S' = S1 ∧ R' = R1 ∧ InvM J t ∧ OutM I1 J ∧ RlN I1 J) hS hR M (fun v J L' a b c => ⟨v, rfl, rfl, rfl, a, b, c⟩)
    have k2 := twelveE (d := d) (L := L) (Q := fun z _ _ _ _ => z = .int (twV n (q + 1) (q + 2) (q + 3) m (twH n (q + 1) (q + 2) (q + 3) m I x y) b)) rl hd hS hR hM e56 (by omega) e1 g' rx.2.1 rx.2.2.1 en hT rx.2.2.2.2.1 rx.2.2.2.2.2 hb (fun _ _ => rfl)
    refine evm_mono (evm_and k1 k2) (fun z S' J L' R' k => ?_)
    obtain ⟨⟨u, rfl, rfl, rfl, a, b, c⟩, e⟩ := k
    injection e with e
    subst e
    exact hq J L' a b c
end TWL
