/-! the class's Planner: numbers of rows, IRON, aiming: with content -/
def rnum (w a : Nat → Nat) : Nat → Nat
  | 0 => 0
  | i + 1 => rnum w a i + (a i - 1) * w i
def isum (a : Nat → Nat) : Nat → Nat
  | 0 => 0
  | i + 1 => isum a i + a i
/-- CELLS of a row: from 1 to 9 each -/
def RwK (I : mI) (b c : Nat) (a : Nat → Nat) : Prop := ∀ i, i < c → I b i = nI (a i) ∧ 1 ≤ a i ∧ a i ≤ 9
theorem RwK.cg {I J : mI} {b c : Nat} {a : Nat → Nat} (h : RwK I b c a) (e : J b = I b) : RwK J b c a := fun i hi => by
  rw [e]
  exact h i hi
theorem rn_dg {c : Nat} {a : Nat → Nat} (hc : c = 3 ∨ c = 4 ∨ c = 5) (h : ∀ i, i < c → 1 ≤ a i ∧ a i ≤ 9) : rnum (wt c) a c < 9 ^ c ∧ ∀ i, i < c → dg (wt c) (rnum (wt c) a c) i = a i := by
  rcases hc with rfl | rfl | rfl
  · have w0 : wt 3 0 = 81 := by decide
    have w1 : wt 3 1 = 9 := by decide
    have w2 : wt 3 2 = 1 := by decide
    have a0 := h 0 (by decide)
    have a1 := h 1 (by decide)
    have a2 := h 2 (by decide)
    have e : rnum (wt 3) a 3 = (a 0 - 1) * 81 + (a 1 - 1) * 9 + (a 2 - 1) := by
      simp only [rnum, w0, w1, w2]
      omega
    rw [e]
    refine ⟨by omega, fun i hi => ?_⟩
    unfold dg
    rcases (by omega : i = 0 ∨ i = 1 ∨ i = 2) with rfl | rfl | rfl
    · rw [w0]; omega
    · rw [w1]; omega
    · rw [w2]; omega
  · have w0 : wt 4 0 = 729 := by decide
    have w1 : wt 4 1 = 81 := by decide
    have w2 : wt 4 2 = 9 := by decide
    have w3 : wt 4 3 = 1 := by decide
    have a0 := h 0 (by decide)
    have a1 := h 1 (by decide)
    have a2 := h 2 (by decide)
    have a3 := h 3 (by decide)
    have e : rnum (wt 4) a 4 = (a 0 - 1) * 729 + (a 1 - 1) * 81 + (a 2 - 1) * 9 + (a 3 - 1) := by
      simp only [rnum, w0, w1, w2, w3]
      omega
    rw [e]
    refine ⟨by omega, fun i hi => ?_⟩
    unfold dg
    rcases (by omega : i = 0 ∨ i = 1 ∨ i = 2 ∨ i = 3) with rfl | rfl | rfl | rfl
    · rw [w0]; omega
    · rw [w1]; omega
    · rw [w2]; omega
    · rw [w3]; omega
  · have w0 : wt 5 0 = 6561 := by decide
    have w1 : wt 5 1 = 729 := by decide
    have w2 : wt 5 2 = 81 := by decide
    have w3 : wt 5 3 = 9 := by decide
    have w4 : wt 5 4 = 1 := by decide
    have a0 := h 0 (by decide)
    have a1 := h 1 (by decide)
    have a2 := h 2 (by decide)
    have a3 := h 3 (by decide)
    have a4 := h 4 (by decide)
    have e : rnum (wt 5) a 5 = (a 0 - 1) * 6561 + (a 1 - 1) * 729 + (a 2 - 1) * 81 + (a 3 - 1) * 9 + (a 4 - 1) := by
      simp only [rnum, w0, w1, w2, w3, w4]
      omega
    rw [e]
    refine ⟨by omega, fun i hi => ?_⟩
    unfold dg
    rcases (by omega : i = 0 ∨ i = 1 ∨ i = 2 ∨ i = 3 ∨ i = 4) with rfl | rfl | rfl | rfl | rfl
    · rw [w0]; omega
    · rw [w1]; omega
    · rw [w2]; omega
    · rw [w3]; omega
    · rw [w4]; omega
theorem irn_cg {w a : Nat → Nat} {k : Nat} : ∀ c, (∀ i, i < c → dg w k i = a i) → irn w k c = isum a c := by
  intro c
  induction c with
  | zero => exact fun _ => rfl
  | succ c ih =>
    intro h
    show irn w k c + _ = isum a c + _
    rw [ih (fun i hi => h i (by omega)), h c (by omega)]
theorem irn_rn {c : Nat} {a : Nat → Nat} (hc : c = 3 ∨ c = 4 ∨ c = 5) (h : ∀ i, i < c → 1 ≤ a i ∧ a i ≤ 9) : irn (wt c) (rnum (wt c) a c) c = isum a c := irn_cg c (rn_dg hc h).2
theorem isum_le {a : Nat → Nat} : ∀ c, (∀ i, i < c → 1 ≤ a i ∧ a i ≤ 9) → isum a c ≤ 9 * c := by
  intro c
  induction c with
  | zero => exact fun _ => Nat.le_refl 0
  | succ c ih =>
    intro h
    have := ih (fun i hi => h i (by omega))
    have := h c (by omega)
    show isum a c + a c ≤ _
    omega
theorem wt_9 {c : Nat} (hc : c = 3 ∨ c = 4 ∨ c = 5) : w9 (wt c) c := by
  rcases hc with rfl | rfl | rfl <;> (intro i hi; rcases (by omega : i = 0 ∨ i = 1 ∨ i = 2 ∨ i = 3) with rfl | rfl | rfl | rfl <;> first | decide | (exfalso; omega))
theorem mvC3 : ∀ p, p < 3 → ∀ y k, y < 9 ^ 3 → mv (wt 3) 3 p y k → k < 9 ^ 3 := by
  intro p hp y k hy ⟨i, h1, h2, h3, h4⟩
  have w0 : wt 3 0 = 81 := by decide
  have w1 : wt 3 1 = 9 := by decide
  have w2 : wt 3 2 = 1 := by decide
  have hi : i = 0 ∨ i = 1 := by omega
  have hy' : y < 729 := hy
  show k < 729
  unfold dg at h4
  rcases hi with rfl | rfl
  · simp only [Nat.reduceAdd, w0, w1] at h4
    omega
  · simp only [Nat.reduceAdd, w1, w2] at h4
    omega
theorem mvC4 : ∀ p, p < 4 → ∀ y k, y < 9 ^ 4 → mv (wt 4) 4 p y k → k < 9 ^ 4 := by
  intro p hp y k hy ⟨i, h1, h2, h3, h4⟩
  have w0 : wt 4 0 = 729 := by decide
  have w1 : wt 4 1 = 81 := by decide
  have w2 : wt 4 2 = 9 := by decide
  have w3 : wt 4 3 = 1 := by decide
  have hi : i = 0 ∨ i = 1 ∨ i = 2 := by omega
  have hy' : y < 6561 := hy
  show k < 6561
  unfold dg at h4
  rcases hi with rfl | rfl | rfl
  · simp only [Nat.reduceAdd, w0, w1] at h4
    omega
  · simp only [Nat.reduceAdd, w1, w2] at h4
    omega
  · simp only [Nat.reduceAdd, w2, w3] at h4
    omega
theorem mvC5 : ∀ p, p < 5 → ∀ y k, y < 9 ^ 5 → mv (wt 5) 5 p y k → k < 9 ^ 5 := by
  intro p hp y k hy ⟨i, h1, h2, h3, h4⟩
  have w0 : wt 5 0 = 6561 := by decide
  have w1 : wt 5 1 = 729 := by decide
  have w2 : wt 5 2 = 81 := by decide
  have w3 : wt 5 3 = 9 := by decide
  have w4 : wt 5 4 = 1 := by decide
  have hi : i = 0 ∨ i = 1 ∨ i = 2 ∨ i = 3 := by omega
  have hy' : y < 59049 := hy
  show k < 59049
  unfold dg at h4
  rcases hi with rfl | rfl | rfl | rfl
  · simp only [Nat.reduceAdd, w0, w1] at h4
    omega
  · simp only [Nat.reduceAdd, w1, w2] at h4
    omega
  · simp only [Nat.reduceAdd, w2, w3] at h4
    omega
  · simp only [Nat.reduceAdd, w3, w4] at h4
    omega
theorem upC {c : Nat} (hc : c = 3 ∨ c = 4 ∨ c = 5) : ∀ p, p < c → ∀ j, j < 9 ^ c → dg (wt c) j p ≤ 8 → j + wt c p < 9 ^ c := by
  intro p hp j hj h
  unfold dg at h
  rcases hc with rfl | rfl | rfl
  · have w0 : wt 3 0 = 81 := by decide
    have w1 : wt 3 1 = 9 := by decide
    have w2 : wt 3 2 = 1 := by decide
    have hj' : j < 729 := hj
    show _ < 729
    rcases (by omega : p = 0 ∨ p = 1 ∨ p = 2) with rfl | rfl | rfl
    · rw [w0] at *; omega
    · rw [w1] at *; omega
    · rw [w2] at *; omega
  · have w0 : wt 4 0 = 729 := by decide
    have w1 : wt 4 1 = 81 := by decide
    have w2 : wt 4 2 = 9 := by decide
    have w3 : wt 4 3 = 1 := by decide
    have hj' : j < 6561 := hj
    show _ < 6561
    rcases (by omega : p = 0 ∨ p = 1 ∨ p = 2 ∨ p = 3) with rfl | rfl | rfl | rfl
    · rw [w0] at *; omega
    · rw [w1] at *; omega
    · rw [w2] at *; omega
    · rw [w3] at *; omega
  · have w0 : wt 5 0 = 6561 := by decide
    have w1 : wt 5 1 = 729 := by decide
    have w2 : wt 5 2 = 81 := by decide
    have w3 : wt 5 3 = 9 := by decide
    have w4 : wt 5 4 = 1 := by decide
    have hj' : j < 59049 := hj
    show _ < 59049
    rcases (by omega : p = 0 ∨ p = 1 ∨ p = 2 ∨ p = 3 ∨ p = 4) with rfl | rfl | rfl | rfl | rfl
    · rw [w0] at *; omega
    · rw [w1] at *; omega
    · rw [w2] at *; omega
    · rw [w3] at *; omega
    · rw [w4] at *; omega
theorem WNc {c : Nat} (hc : c = 3 ∨ c = 4 ∨ c = 5) : WN (wt c) c (9 ^ c) := by
  refine ⟨wtO hc, wt_9 hc, ?_, upC hc⟩
  rcases hc with rfl | rfl | rfl
  · exact mvC3
  · exact mvC4
  · exact mvC5
theorem n9c {c : Nat} (hc : c = 3 ∨ c = 4 ∨ c = 5) : 9 ^ c ≤ 64 * nW c ∧ 9 ^ c ≤ 59049 := by
  rcases hc with rfl | rfl | rfl <;> decide
section AK
variable {d P c n f z a : Nat} {w : Nat → Nat} {A : Nat → Nat} {S : mS} {I : mI} {L : mL} {R : mR} {Q : mQ}
theorem nuK_lp (hS : FoS S R f c n) (hI : FoI I f c n w) (hc : c ≤ 5) (oa : okI S a) (la : S.2.2.2 a = 5) (hr : RwK I a c A) (hq : Q (.int (nI (rnum w A c))) S I L R) : ∀ (N i : Nat), i + N = c → Ev (d + 1) 1 4 [.ref f, .ref a, .int (nI (rnum w A i)), .int (nI i)] [] S I L R Q := by
  have o0 := hS.1.1
  have o1 : okI S (f + 1) := ⟨hS.1.2.1.1, Or.inl hS.1.2.1.2⟩
  have o2 := hS.1.2.2
  have r2 := hS.2.1.1
  have i0 := hI.1
  have AA : okA S a := ⟨oa.1, by rcases oa.2 with h | h <;> rw [h] <;> decide⟩
  intro N
  induction N with
  | zero =>
    intro i hi
    obtain rfl : i = c := by omega
    have e : (nI i < nI i) = False := eq_false (nI_nlt (Nat.le_refl _) (by omega))
    rw [E1_4]
    simp only [E1_0, E1_1, E1_2, E1_3, E1_5, E1_6, E1_9, E1_12, E1_13, E1_13n, E1_14, E1_15, E1_18, E1_19, E1_19n, E1_20, E1_21, E1_22, E1_23, E1_24, E1_25, E1_28, E1_29, E1_30, E1_31, E1_32, E1_33, E1_36, E1_39, E1_40, rfs, rfn, cs0, csi, csl, csr, csn, kti, ktl, ktr, ktn, ktv, ktf, true_and, and_true, and_self, ↓reduceIte, Nat.reduceAdd, Nat.reduceSub, Nat.reduceMul, Nat.reduceLT, Nat.reduceLeDiff, Nat.reduceEqDiff, true_or, or_true, false_or, or_false, not_true_eq_false, not_false_eq_true, reduceCtorEq, cmp_lt, cmp_gt, cmp_eq, Int32.reduceAdd, Int32.reduceSub, Int32.reduceMul, Int32.reduceLT, Int32.reduceToNatClampNeg, eq_self, ne_eq, Int64.reduceAdd, Int64.reduceSub, Int64.reduceMul, Int64.reduceLT, o0, i0, e]
    exact hq
  | succ N ih =>
    intro i hi
    have e1 : (nI i < nI c) = True := eq_true (nI_lt (by omega) (by omega))
    have e2 : (nI i < nI 5) = True := eq_true (nI_lt (by omega) (by omega))
    have j1 : inb (nI i) c = True := inb_nI (by omega) (by omega)
    have j2 : inb (nI i) 5 = True := inb_nI (by omega) (by omega)
    have ei : (nI i).toNatClampNeg = i := nI_clamp (by omega)
    obtain ⟨r1, r2', r3⟩ := hr i (by omega)
    have wi := hI.2.2 i (by omega)
    have s1 : nI (A i) - 1 = nI (A i - 1) := by
      obtain ⟨q, hq⟩ : ∃ q, A i = q + 1 := ⟨A i - 1, by omega⟩
      rw [hq]
      exact nI_m1 q
    have es : nI (rnum w A i) + nI (A i - 1) * nI (w i) = nI (rnum w A (i + 1)) := by rw [pk_mul, nI_add]; rfl
    rw [E1_4]
    simp only [E1_0, E1_1, E1_2, E1_3, E1_5, E1_6, E1_9, E1_12, E1_13, E1_13n, E1_14, E1_15, E1_18, E1_19, E1_19n, E1_20, E1_21, E1_22, E1_23, E1_24, E1_25, E1_28, E1_29, E1_30, E1_31, E1_32, E1_33, E1_36, E1_39, E1_40, rfs, rfn, cs0, csi, csl, csr, csn, kti, ktl, ktr, ktn, ktv, ktf, true_and, and_true, and_self, ↓reduceIte, Nat.reduceAdd, Nat.reduceSub, Nat.reduceMul, Nat.reduceLT, Nat.reduceLeDiff, Nat.reduceEqDiff, true_or, or_true, false_or, or_false, not_true_eq_false, not_false_eq_true, reduceCtorEq, cmp_lt, cmp_gt, cmp_eq, Int32.reduceAdd, Int32.reduceSub, Int32.reduceMul, Int32.reduceLT, Int32.reduceToNatClampNeg, eq_self, ne_eq, Int64.reduceAdd, Int64.reduceSub, Int64.reduceMul, Int64.reduceLT, o0, o1, o2, r2, i0, AA, oa, la, e1, e2, j1, j2, ei, r1, wi, s1, es, nI_1]
    exact ih (i + 1) (by omega)
theorem nuK (hS : FoS S R f c n) (hI : FoI I f c n w) (hc : c ≤ 5) (oa : okI S a) (la : S.2.2.2 a = 5) (hr : RwK I a c A) (hq : Q (.int (nI (rnum w A c))) S I L R) : EvM (d + 1) 1 [.ref f, .ref a] S I L R Q := by
  have k := nuK_lp (d := d) hS hI hc oa la hr hq c 0 (by omega)
  rw [show nI (rnum w A 0) = 0 from rfl, show nI 0 = 0 from rfl] at k
  simp only [M1, E1_0, E1_1, E1_2, E1_3, E1_5, E1_6, E1_9, E1_12, E1_13, E1_13n, E1_14, E1_15, E1_18, E1_19, E1_19n, E1_20, E1_21, E1_22, E1_23, E1_24, E1_25, E1_28, E1_29, E1_30, E1_31, E1_32, E1_33, E1_36, E1_39, E1_40, rfs, rfn, cs0, csi, csl, csr, csn, kti, ktl, ktr, ktn, ktv, ktf, true_and, and_true, and_self, ↓reduceIte, Nat.reduceAdd, Nat.reduceSub, Nat.reduceMul, Nat.reduceLT, Nat.reduceLeDiff, Nat.reduceEqDiff, true_or, or_true, false_or, or_false, not_true_eq_false, not_false_eq_true, reduceCtorEq, cmp_lt, cmp_gt, cmp_eq, Int32.reduceAdd, Int32.reduceSub, Int32.reduceMul, Int32.reduceLT, Int32.reduceToNatClampNeg, eq_self, ne_eq, Int64.reduceAdd, Int64.reduceSub, Int64.reduceMul, Int64.reduceLT]
  exact k
theorem smL_v {I : mI} (h0 : I z 0 = nI c) (hc : c ≤ 5) (hr : RwK I a c A) : ∀ (m i : Nat), i + m = 5 → i ≤ c → smL I z a m i (nI (isum A i)) = nI (isum A c) := by
  intro m
  induction m with
  | zero =>
    intro i hi hic
    obtain rfl : i = c := by omega
    rfl
  | succ m ih =>
    intro i hi hic
    unfold smL
    by_cases g : i < c
    · rw [if_pos (by rw [h0]; exact nI_lt g (by omega)), (hr i g).1, nI_add]
      exact ih (i + 1) (by omega) g
    · obtain rfl : i = c := by omega
      rw [if_neg (by rw [h0]; exact nI_nlt (Nat.le_refl _) (by omega))]
theorem ioK (hz : ok S z 7) (ha : ok S a 11) (hl : S.2.2.2 a = 5) (h0 : I z 0 = nI c) (hc : c ≤ 5) (hr : RwK I a c A) : EvM (d + 1) 97 [.ref z, .ref a] S I L R Q = Q (.int (nI (isum A c))) S I L R := by
  rw [sm hz ha hl]
  have := smL_v (z := z) h0 hc hr 5 0 (by decide) (by omega)
  rw [show nI (isum A 0) = 0 from rfl] at this
  rw [this]
/-- takeTongs -/
theorem tkK {nu : Int32} (hS : FoS S R f c n) (hI : FoI I f c n w) (hw : wOk w c) (hc : c ≤ 5) (hn : n < 2 ^ 24) (hL : FoL L f c n w) (hH : FoH L f c n w (I f 6)) (hq : ∀ (J : mI) (L' : mL), (∀ b, ¬ b = f → J b = I b) → (∀ k, ¬ k = 6 → J f k = I f k) → J f 6 = nu → (∀ b, (b < f ∨ f + 7 + 3 * c < b) → L' b = L b) → FoL L' f c n w → FoH L' f c n w nu → Q .null S J L' R) : EvM (d + 3) 3 [.ref f, .int nu] S I L R Q := by
  by_cases g : I f 6 = nu
  · have g' : (I f 6 = nu) = True := eq_true g
    have o0 := hS.1.1
    simp only [M3, E3_0, E3_1, E3_4, E3_5, E3_8, rfs, rfn, cs0, csi, csl, csr, csn, kti, ktl, ktr, ktn, ktv, ktf, true_and, and_true, and_self, ↓reduceIte, Nat.reduceAdd, Nat.reduceSub, Nat.reduceMul, Nat.reduceLT, Nat.reduceLeDiff, Nat.reduceEqDiff, true_or, or_true, false_or, or_false, not_true_eq_false, not_false_eq_true, reduceCtorEq, cmp_lt, cmp_gt, cmp_eq, Int32.reduceAdd, Int32.reduceSub, Int32.reduceMul, Int32.reduceLT, Int32.reduceToNatClampNeg, eq_self, ne_eq, Int64.reduceAdd, Int64.reduceSub, Int64.reduceMul, Int64.reduceLT, o0, g']
    exact hq I L (fun _ _ => rfl) (fun _ _ => rfl) g (fun _ _ => rfl) hL (g ▸ hH)
  · refine tkA hS hI hw hc hn g (fun L' q1 q2 => hq _ L' (fun b hb => uu_n _ _ hb) (fun k hk => by rw [uu_s, uu_n _ _ hk]) (by rw [uu_s, uu_s]) (fun b hb => q1 b (by omega)) (hL.mono (fun b b1 b2 => q1 b (by omega))) q2)
end AK
/-! what a Planner holds, between two questions -/
/-- forge, levels -/
def PlV (w : Nat → Nat) (c N n P : Nat) (I : mI) (L : mL) : Prop := (FoL L (P + 3) c n w ∧ FoH L (P + 3) c n w (I (P + 3) 6)) ∧ LvJ true w c N 6 n I L (pL1 P c) (pL1 P c + 1) ∧ LvJ false w c N 6 n I L (pL1 P c + 10) (pL1 P c + 11) ∧ LvJ true w c N 3 n I L (pL1 P c + 20) (pL1 P c + 21) ∧ LvJ false w c N 3 n I L (pL1 P c + 27) (pL1 P c + 28)
/-- nothing but forge, levels, path has changed -/
def PfV (P c : Nat) (I J : mI) (L L' : mL) : Prop := (∀ a, (a ≤ P + 2 ∨ P + 54 + 3 * c ≤ a) → J a = I a) ∧ ∀ a, (a ≤ P ∨ P + 54 + 3 * c ≤ a) → L' a = L a
theorem PfV.rf {P c : Nat} {I : mI} {L : mL} : PfV P c I I L L := ⟨fun _ _ => rfl, fun _ _ => rfl⟩
theorem PfV.tr {P c : Nat} {I J K : mI} {L L' L'' : mL} (h : PfV P c I J L L') (k : PfV P c J K L' L'') : PfV P c I K L L'' := ⟨fun a q => (k.1 a q).trans (h.1 a q), fun a q => (k.2 a q).trans (h.2 a q)⟩
/-- a planner's Levels: which: object, rows behind it, how many -/
def lvO : Nat → Nat
  | 0 => 0
  | 1 => 10
  | 2 => 20
  | _ => 27
def lvM : Nat → Nat
  | 0 => 6
  | 1 => 6
  | _ => 3
def lvB : Nat → Bool
  | 0 => true
  | 1 => false
  | 2 => true
  | _ => false
def PlJ (w : Nat → Nat) (c N n P q : Nat) (I : mI) (L : mL) : Prop := LvJ (lvB q) w c N (lvM q) n I L (pL1 P c + lvO q) (pL1 P c + lvO q + 1)
theorem PlV.g {w : Nat → Nat} {c N n P : Nat} {I : mI} {L : mL} (h : PlV w c N n P I L) {q : Nat} (hq : q < 4) : PlJ w c N n P q I L := by
  rcases (by omega : q = 0 ∨ q = 1 ∨ q = 2 ∨ q = 3) with rfl | rfl | rfl | rfl
  · exact h.2.1
  · exact h.2.2.1
  · exact h.2.2.2.1
  · exact h.2.2.2.2
theorem PlV.mk {w : Nat → Nat} {c N n P : Nat} {I : mI} {L : mL} (h1 : FoL L (P + 3) c n w) (h2 : FoH L (P + 3) c n w (I (P + 3) 6)) (h : ∀ q, q < 4 → PlJ w c N n P q I L) : PlV w c N n P I L := ⟨⟨h1, h2⟩, h 0 (by decide), h 1 (by decide), h 2 (by decide), h 3 (by decide)⟩
theorem lvOM : ∀ q, q < 4 → ∀ q', q' < 4 → ¬ q = q' → (lvO q + lvM q + 4 ≤ lvO q' ∨ lvO q' + lvM q' + 4 ≤ lvO q) := by decide
theorem lvO_le : ∀ q, q < 4 → lvO q + lvM q + 3 ≤ 33 ∧ 3 ≤ lvM q ∧ lvM q < 100 := by decide
theorem PlS.lv {S : mS} {R : mR} {P c n : Nat} (h : PlS S R P c n) {q : Nat} (hq : q < 4) : LvS S R (pL1 P c + lvO q) (P + 3) (pL1 P c + lvO q + 1) (lvM q + 1) n := by
  rcases (by omega : q = 0 ∨ q = 1 ∨ q = 2 ∨ q = 3) with rfl | rfl | rfl | rfl
  · exact h.2.2.2.1.1
  · exact h.2.2.2.1.2.1
  · exact h.2.2.2.1.2.2.1
  · exact h.2.2.2.1.2.2.2
/-- one Levels object has changed, its own rows -/
theorem PlV.one {w : Nat → Nat} {c N n P q : Nat} {I J : mI} {L L' : mL} (h : PlV w c N n P I L) (hq : q < 4) (fV : FrV (pL1 P c + lvO q) I J) (fG : FrG (P + 3) c (pL1 P c + lvO q + 1) (lvM q) L L') (j : PlJ w c N n P q J L') : PlV w c N n P J L' ∧ PfV P c I J L L' := by
  have e : pL1 P c = P + 11 + 3 * c := rfl
  have z := lvO_le q hq
  refine ⟨PlV.mk (fG.fl (by omega) h.1.1) ?_ (fun q' hq' => ?_), fun a ha => fV a (by omega), fun a ha => fG a (by omega) (by omega) (by omega) (by omega)⟩
  · rw [fV (P + 3) (by omega)]
    exact fG.fh (by omega) h.1.2
  · by_cases y : q' = q
    · rw [y]; exact j
    · have o := lvOM q hq q' hq' (fun z => y z.symm)
      have z' := lvO_le q' hq'
      exact LvJ.mono (h.g hq') (fV _ (by omega)) (fun b b1 b2 => fG b (by omega) (by omega) (by omega) (by omega))
