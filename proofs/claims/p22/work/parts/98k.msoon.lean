/-! the reference's soonest: safety -/
def nmb (o : Nat → Nat) : Nat → Nat
  | 0 => 0
  | n + 1 => nmb o n * 8 + o n
theorem nmb_cg {o o' : Nat → Nat} : ∀ n, (∀ k, k < n → o' k = o k) → nmb o' n = nmb o n := by
  intro n
  induction n with
  | zero => intro _; rfl
  | succ n ih =>
    intro h
    show nmb o' n * 8 + o' n = nmb o n * 8 + o n
    rw [ih (fun k hk => h k (by omega)), h n (by omega)]
theorem nmb_lt {o o' : Nat → Nat} {k : Nat} : ∀ n, k < n → (∀ j, j < k → o' j = o j) → o k < o' k → (∀ j, j < n → o j < 8) → nmb o n < nmb o' n := by
  intro n
  induction n with
  | zero => intro h; omega
  | succ n ih =>
    intro hk h1 h2 h3
    show nmb o n * 8 + o n < nmb o' n * 8 + o' n
    by_cases e : k = n
    · subst e
      rw [nmb_cg k h1]
      omega
    · have := ih (by omega) h1 h2 (fun j hj => h3 j (by omega))
      have := h3 n (by omega)
      omega
theorem nmb_b {o : Nat → Nat} : ∀ n, (∀ j, j < n → o j < 8) → nmb o n < 8 ^ n := by
  intro n
  induction n with
  | zero => intro _; exact Nat.zero_lt_one
  | succ n ih =>
    intro h
    have h1 := ih (fun j hj => h j (by omega))
    have h2 := h n (by omega)
    rw [Nat.pow_succ]
    show nmb o n * 8 + o n < 8 ^ n * 8
    omega
def Odr (I : mI) (n : Nat) (o : Nat → Nat) : Prop := (∀ k, k < n → o k < n ∧ I 81 k = nI (o k)) ∧ ∀ j k, j < k → k < n → ¬ o j = o k
theorem Odr.cg {I J : mI} {n : Nat} {o : Nat → Nat} (h : Odr I n o) (e : J 81 = I 81) : Odr J n o := by
  unfold Odr; rw [e]; exact h
def swp (o : Nat → Nat) (a b : Nat) : Nat → Nat := fun k => if k = b then o a else if k = a then o b else o k
theorem Odr.swap {I : mI} {n a b : Nat} {o : Nat → Nat} (h : Odr I n o) (ha : a < n) (hb : b < n) : Odr (put (put I 81 a (I 81 b)) 81 b (I 81 a)) n (swp o a b) := by
  refine ⟨fun k hk => ?_, fun j k hj hk e => ?_⟩
  · unfold swp
    by_cases e1 : k = b
    · subst e1
      rw [if_pos rfl, pt_s]
      exact h.1 a ha
    · rw [if_neg e1, pt_f e1]
      by_cases e2 : k = a
      · subst e2
        rw [if_pos rfl, pt_s]
        exact h.1 b hb
      · rw [if_neg e2, pt_f e2]
        exact h.1 k hk
  · have inj : ∀ x y, x < n → y < n → ¬ x = y → ¬ o x = o y := fun x y hx hy hne z => by
      by_cases l : x < y
      · exact h.2 x y l hy z
      · exact h.2 y x (by omega) hx z.symm
    unfold swp at e
    by_cases j1 : j = b
    · rw [if_pos j1] at e
      by_cases k1 : k = b
      · omega
      rw [if_neg k1] at e
      by_cases k2 : k = a
      · rw [if_pos k2] at e; exact inj a b ha hb (by omega) e
      · rw [if_neg k2] at e; exact inj a k ha hk (by omega) e
    · rw [if_neg j1] at e
      by_cases j2 : j = a
      · rw [if_pos j2] at e
        by_cases k1 : k = b
        · rw [if_pos k1] at e; exact inj b a hb ha (by omega) e
        rw [if_neg k1] at e
        by_cases k2 : k = a
        · omega
        · rw [if_neg k2] at e; exact inj b k hb hk (by omega) e
      · rw [if_neg j2] at e
        by_cases k1 : k = b
        · rw [if_pos k1] at e; exact inj j a (by omega) ha (by omega) e
        rw [if_neg k1] at e
        by_cases k2 : k = a
        · rw [if_pos k2] at e; exact inj j b (by omega) hb (by omega) e
        · rw [if_neg k2] at e; exact inj j k (by omega) hk (by omega) e
section SQ
variable {d n : Nat} {S : mS} {I : mI} {L : mL} {R : mR} {Q : mQ}
theorem exc {a b : Nat} (hS : Pm S) (hR : Pr R) (ha : a < 8) (hb : b < 8) : EvM (d + 1) 226 [.ref 54, .int (nI a), .int (nI b)] S I L R Q = Q .null S (put (put I 81 a (I 81 b)) 81 b (I 81 a)) L R := by
  have a0 : inb (nI a) 8 = True := inb_nI (by omega) (by decide)
  have a1 : (nI a).toNatClampNeg = a := nI_clamp (by omega)
  have b0 : inb (nI b) 8 = True := inb_nI (by omega) (by decide)
  have b1 : (nI b).toNatClampNeg = b := nI_clamp (by omega)
  simp only [M226, E226_0, E226_1, E226_4, E226_5, E226_6, E226_7, E226_8, E226_11, E226_12, E226_13, E226_16, E226_17, E226_18, E226_19, E226_20, E226_23, E226_24, E226_25, E226_26, pk54 hS, pk81 hS, pl81 hS, pa81 hS, pi81 hS, pr54_63 hR, rfs, rfn, cs0, csi, csl, csr, csn, kti, ktl, ktr, ktn, ktv, ktf, true_and, and_true, and_self, ↓reduceIte, Nat.reduceAdd, Nat.reduceSub, Nat.reduceMul, Nat.reduceLT, Nat.reduceLeDiff, Nat.reduceEqDiff, true_or, or_true, false_or, or_false, not_true_eq_false, not_false_eq_true, reduceCtorEq, cmp_lt, cmp_gt, cmp_eq, Int32.reduceAdd, Int32.reduceSub, Int32.reduceMul, Int32.reduceLT, Int32.reduceToNatClampNeg, eq_self, ne_eq, Int64.reduceAdd, Int64.reduceSub, Int64.reduceMul, Int64.reduceLT, a0, a1, b0, b1, pt]
theorem nm2 : ∀ n, n < 9 → 1 ≤ n → nI n - 2 = nI (n - 1) - 1 := by decide
theorem no3_lp {k : Nat} {o : Nat → Nat} {y2 : Value} {y3 : Int32} (hS : Pm S) (hR : Pr R) (hn : n ≤ 8) (hq : ∀ J o', Odr J n o' → (∀ j, j ≤ k → o' j = o j) → (∀ a, ¬ a = 81 → J a = I a) → Q (.int (bI true)) S J L R) : ∀ (q a b : Nat) (J : mI) (o' : Nat → Nat), b + 1 ≤ a + q → k < a → a ≤ n → b < n → Odr J n o' → (∀ j, j ≤ k → o' j = o j) → (∀ a, ¬ a = 81 → J a = I a) → Ev (d + 2) 225 85 [.ref 54, .int (nI n), y2, .int y3, .int (nI a), .int (nI b)] [] S J L R Q := by
  intro q
  induction q with
  | zero =>
    intro a b J o' h1 h2 h3 h4 h5 h6 h7
    have e1 : (nI a < nI b) = False := eq_false (nI_nlt (by omega) (by omega))
    simp only [E225_85, E225_87, E225_89, E225_109, E225_110, rfs, rfn, cs0, csi, csl, csr, csn, kti, ktl, ktr, ktn, ktv, ktf, true_and, and_true, and_self, ↓reduceIte, Nat.reduceAdd, Nat.reduceSub, Nat.reduceMul, Nat.reduceLT, Nat.reduceLeDiff, Nat.reduceEqDiff, true_or, or_true, false_or, or_false, not_true_eq_false, not_false_eq_true, reduceCtorEq, cmp_lt, cmp_gt, cmp_eq, Int32.reduceAdd, Int32.reduceSub, Int32.reduceMul, Int32.reduceLT, Int32.reduceToNatClampNeg, eq_self, ne_eq, Int64.reduceAdd, Int64.reduceSub, Int64.reduceMul, Int64.reduceLT, e1]
    exact hq J o' h5 h6 h7
  | succ q ih =>
    intro a b J o' h1 h2 h3 h4 h5 h6 h7
    by_cases g : a < b
    · have e1 : (nI a < nI b) = True := eq_true (nI_lt g (by omega))
      obtain ⟨b', rfl⟩ : ∃ b', b = b' + 1 := ⟨b - 1, by omega⟩
      rw [E225_85]
      simp only [E225_87, E225_89, E225_92, E225_93, E225_95, E225_97, E225_100, E225_103, E225_106, exc hS hR (show a < 8 by omega) (show b' + 1 < 8 by omega), pk54 hS, rfs, rfn, cs0, csi, csl, csr, csn, kti, ktl, ktr, ktn, ktv, ktf, true_and, and_true, and_self, ↓reduceIte, Nat.reduceAdd, Nat.reduceSub, Nat.reduceMul, Nat.reduceLT, Nat.reduceLeDiff, Nat.reduceEqDiff, true_or, or_true, false_or, or_false, not_true_eq_false, not_false_eq_true, reduceCtorEq, cmp_lt, cmp_gt, cmp_eq, Int32.reduceAdd, Int32.reduceSub, Int32.reduceMul, Int32.reduceLT, Int32.reduceToNatClampNeg, eq_self, ne_eq, Int64.reduceAdd, Int64.reduceSub, Int64.reduceMul, Int64.reduceLT, e1, nI_1, nI_a1, nI_m1]
      refine ih (a + 1) b' _ (swp o' a (b' + 1)) (by omega) (by omega) (by omega) (by omega) (h5.swap (by omega) h4) (fun j hj => ?_) (fun c hc => by rw [pt_n hc, pt_n hc]; exact h7 c hc)
      unfold swp
      rw [if_neg (by omega), if_neg (by omega)]
      exact h6 j hj
    · have e1 : (nI a < nI b) = False := eq_false (nI_nlt (by omega) (by omega))
      simp only [E225_85, E225_87, E225_89, E225_109, E225_110, rfs, rfn, cs0, csi, csl, csr, csn, kti, ktl, ktr, ktn, ktv, ktf, true_and, and_true, and_self, ↓reduceIte, Nat.reduceAdd, Nat.reduceSub, Nat.reduceMul, Nat.reduceLT, Nat.reduceLeDiff, Nat.reduceEqDiff, true_or, or_true, false_or, or_false, not_true_eq_false, not_false_eq_true, reduceCtorEq, cmp_lt, cmp_gt, cmp_eq, Int32.reduceAdd, Int32.reduceSub, Int32.reduceMul, Int32.reduceLT, Int32.reduceToNatClampNeg, eq_self, ne_eq, Int64.reduceAdd, Int64.reduceSub, Int64.reduceMul, Int64.reduceLT, e1]
      exact hq J o' h5 h6 h7
theorem no2_lp {k : Nat} {o : Nat → Nat} {y4 y5 : Value} (hS : Pm S) (hR : Pr R) (hn : n ≤ 8) (h : Odr I n o) (hk : k + 1 < n) (ho : o k < o (k + 1)) (hq : ∀ i, k < i → i < n → o k < o i → Ev (d + 2) 225 69 [.ref 54, .int (nI n), .int (nI k), .int (nI i), y4, y5] [] S I L R Q) : ∀ (q i : Nat), i = k + 1 + q → i < n → Ev (d + 2) 225 48 [.ref 54, .int (nI n), .int (nI k), .int (nI i), y4, y5] [] S I L R Q := by
  have k0 : inb (nI k) 8 = True := inb_nI (by omega) (by decide)
  have k1 : (nI k).toNatClampNeg = k := nI_clamp (by omega)
  obtain ⟨k2, k3⟩ := h.1 k (by omega)
  intro q
  induction q with
  | zero =>
    intro i hi hin
    have i0 : inb (nI i) 8 = True := inb_nI (by omega) (by decide)
    have i1 : (nI i).toNatClampNeg = i := nI_clamp (by omega)
    obtain ⟨i2, i3⟩ := h.1 i hin
    obtain rfl : i = k + 1 := by omega
    have e1 : (nI (o (k + 1)) < nI (o k)) = False := eq_false (nI_nlt (by omega) (by omega))
    simp only [E225_48, E225_49, E225_52, E225_53, E225_54, E225_55, E225_58, E225_59, E225_60, pk54 hS, pk81 hS, pl81 hS, pa81 hS, pi81 hS, pr54_63 hR, rfs, rfn, cs0, csi, csl, csr, csn, kti, ktl, ktr, ktn, ktv, ktf, true_and, and_true, and_self, ↓reduceIte, Nat.reduceAdd, Nat.reduceSub, Nat.reduceMul, Nat.reduceLT, Nat.reduceLeDiff, Nat.reduceEqDiff, true_or, or_true, false_or, or_false, not_true_eq_false, not_false_eq_true, reduceCtorEq, cmp_lt, cmp_gt, cmp_eq, Int32.reduceAdd, Int32.reduceSub, Int32.reduceMul, Int32.reduceLT, Int32.reduceToNatClampNeg, eq_self, ne_eq, Int64.reduceAdd, Int64.reduceSub, Int64.reduceMul, Int64.reduceLT, k0, k1, k3, i0, i1, i3, e1]
    exact hq (k + 1) (by omega) hin ho
  | succ q ih =>
    intro i hi hin
    have i0 : inb (nI i) 8 = True := inb_nI (by omega) (by decide)
    have i1 : (nI i).toNatClampNeg = i := nI_clamp (by omega)
    obtain ⟨i2, i3⟩ := h.1 i hin
    by_cases g : o i < o k
    · have e1 : (nI (o i) < nI (o k)) = True := eq_true (nI_lt g (by omega))
      obtain ⟨i', rfl⟩ : ∃ i', i = i' + 1 := ⟨i - 1, by omega⟩
      rw [E225_48]
      simp only [E225_49, E225_52, E225_53, E225_54, E225_55, E225_58, E225_59, E225_60, E225_63, E225_66, pk54 hS, pk81 hS, pl81 hS, pa81 hS, pi81 hS, pr54_63 hR, rfs, rfn, cs0, csi, csl, csr, csn, kti, ktl, ktr, ktn, ktv, ktf, true_and, and_true, and_self, ↓reduceIte, Nat.reduceAdd, Nat.reduceSub, Nat.reduceMul, Nat.reduceLT, Nat.reduceLeDiff, Nat.reduceEqDiff, true_or, or_true, false_or, or_false, not_true_eq_false, not_false_eq_true, reduceCtorEq, cmp_lt, cmp_gt, cmp_eq, Int32.reduceAdd, Int32.reduceSub, Int32.reduceMul, Int32.reduceLT, Int32.reduceToNatClampNeg, eq_self, ne_eq, Int64.reduceAdd, Int64.reduceSub, Int64.reduceMul, Int64.reduceLT, k0, k1, k3, i0, i1, i3, e1, nI_a1, nI_m1]
      exact ih i' (by omega) (by omega)
    · have e1 : (nI (o i) < nI (o k)) = False := eq_false (nI_nlt (by omega) (by omega))
      simp only [E225_48, E225_49, E225_52, E225_53, E225_54, E225_55, E225_58, E225_59, E225_60, pk54 hS, pk81 hS, pl81 hS, pa81 hS, pi81 hS, pr54_63 hR, rfs, rfn, cs0, csi, csl, csr, csn, kti, ktl, ktr, ktn, ktv, ktf, true_and, and_true, and_self, ↓reduceIte, Nat.reduceAdd, Nat.reduceSub, Nat.reduceMul, Nat.reduceLT, Nat.reduceLeDiff, Nat.reduceEqDiff, true_or, or_true, false_or, or_false, not_true_eq_false, not_false_eq_true, reduceCtorEq, cmp_lt, cmp_gt, cmp_eq, Int32.reduceAdd, Int32.reduceSub, Int32.reduceMul, Int32.reduceLT, Int32.reduceToNatClampNeg, eq_self, ne_eq, Int64.reduceAdd, Int64.reduceSub, Int64.reduceMul, Int64.reduceLT, k0, k1, k3, i0, i1, i3, e1]
      have := h.2 k i (by omega) hin
      exact hq i (by omega) hin (by omega)
theorem no1_lp {o : Nat → Nat} {y3 y4 y5 : Value} (hS : Pm S) (hR : Pr R) (hn : n ≤ 8) (h : Odr I n o) (h0 : Q (.int (bI false)) S I L R) (hq : ∀ k, k + 1 < n → o k < o (k + 1) → Ev (d + 2) 225 44 [.ref 54, .int (nI n), .int (nI k), y3, y4, y5] [] S I L R Q) : ∀ j, j < n → Ev (d + 2) 225 11 [.ref 54, .int (nI n), .int (nI j - 1), y3, y4, y5] [] S I L R Q := by
  intro j
  induction j with
  | zero =>
    intro _
    have e1 : (nI 0 - 1 < (0 : Int32)) = True := eq_true (by decide)
    simp only [E225_11, E225_12, E225_38, E225_39, E225_42, E225_43, rfs, rfn, cs0, csi, csl, csr, csn, kti, ktl, ktr, ktn, ktv, ktf, true_and, and_true, and_self, ↓reduceIte, Nat.reduceAdd, Nat.reduceSub, Nat.reduceMul, Nat.reduceLT, Nat.reduceLeDiff, Nat.reduceEqDiff, true_or, or_true, false_or, or_false, not_true_eq_false, not_false_eq_true, reduceCtorEq, cmp_lt, cmp_gt, cmp_eq, Int32.reduceAdd, Int32.reduceSub, Int32.reduceMul, Int32.reduceLT, Int32.reduceToNatClampNeg, eq_self, ne_eq, Int64.reduceAdd, Int64.reduceSub, Int64.reduceMul, Int64.reduceLT, e1]
    exact h0
  | succ j ih =>
    intro hj
    have e1 : (nI j < (0 : Int32)) = False := eq_false (nI_pos (by omega))
    have k0 : inb (nI j) 8 = True := inb_nI (by omega) (by decide)
    have k1 : (nI j).toNatClampNeg = j := nI_clamp (by omega)
    obtain ⟨k2, k3⟩ := h.1 j (by omega)
    have i0 : inb (nI (j + 1)) 8 = True := inb_nI (by omega) (by decide)
    have i1 : (nI (j + 1)).toNatClampNeg = j + 1 := nI_clamp (by omega)
    obtain ⟨i2, i3⟩ := h.1 (j + 1) hj
    by_cases g : o (j + 1) < o j
    · have e2 : (nI (o (j + 1)) < nI (o j)) = True := eq_true (nI_lt g (by omega))
      rw [E225_11]
      simp only [E225_12, E225_15, E225_16, E225_19, E225_20, E225_21, E225_22, E225_25, E225_26, E225_27, E225_28, E225_29, E225_32, E225_35, pk54 hS, pk81 hS, pl81 hS, pa81 hS, pi81 hS, pr54_63 hR, rfs, rfn, cs0, csi, csl, csr, csn, kti, ktl, ktr, ktn, ktv, ktf, true_and, and_true, and_self, ↓reduceIte, Nat.reduceAdd, Nat.reduceSub, Nat.reduceMul, Nat.reduceLT, Nat.reduceLeDiff, Nat.reduceEqDiff, true_or, or_true, false_or, or_false, not_true_eq_false, not_false_eq_true, reduceCtorEq, cmp_lt, cmp_gt, cmp_eq, Int32.reduceAdd, Int32.reduceSub, Int32.reduceMul, Int32.reduceLT, Int32.reduceToNatClampNeg, eq_self, ne_eq, Int64.reduceAdd, Int64.reduceSub, Int64.reduceMul, Int64.reduceLT, nI_m1, nI_a1, nI_1, e1, k0, k1, k3, i0, i1, i3, e2]
      exact ih (by omega)
    · have e2 : (nI (o (j + 1)) < nI (o j)) = False := eq_false (nI_nlt (by omega) (by omega))
      simp only [E225_11, E225_12, E225_15, E225_16, E225_19, E225_20, E225_21, E225_22, E225_25, E225_26, E225_27, E225_28, E225_29, E225_38, E225_39, pk54 hS, pk81 hS, pl81 hS, pa81 hS, pi81 hS, pr54_63 hR, rfs, rfn, cs0, csi, csl, csr, csn, kti, ktl, ktr, ktn, ktv, ktf, true_and, and_true, and_self, ↓reduceIte, Nat.reduceAdd, Nat.reduceSub, Nat.reduceMul, Nat.reduceLT, Nat.reduceLeDiff, Nat.reduceEqDiff, true_or, or_true, false_or, or_false, not_true_eq_false, not_false_eq_true, reduceCtorEq, cmp_lt, cmp_gt, cmp_eq, Int32.reduceAdd, Int32.reduceSub, Int32.reduceMul, Int32.reduceLT, Int32.reduceToNatClampNeg, eq_self, ne_eq, Int64.reduceAdd, Int64.reduceSub, Int64.reduceMul, Int64.reduceLT, nI_m1, nI_1, e1, k0, k1, k3, i0, i1, i3, e2]
      have := h.2 j (j + 1) (by omega) hj
      exact hq j hj (by omega)
theorem nxo {o : Nat → Nat} (hS : Pm S) (hR : Pr R) (h1 : 1 ≤ n) (hn : n ≤ 8) (en : I 56 2 = nI n) (h : Odr I n o) (hq : ∀ b J o', Odr J n o' → (b = true → nmb o n < nmb o' n) → (∀ a, ¬ a = 81 → J a = I a) → Q (.int (bI b)) S J L R) : EvM (d + 2) 225 [.ref 54] S I L R Q := by
  have z2 : inb 2 8060 = True := inb_nI (j := 2) (by decide) (by decide)
  obtain ⟨m, rfl⟩ : ∃ m, n = m + 1 := ⟨n - 1, by omega⟩
  have e2 : nI (m + 1) - 2 = nI m - 1 := nm2 (m + 1) (by omega) (by omega)
  simp only [M225, E225_0, E225_1, E225_4, E225_5, E225_6, E225_7, E225_8, E225_9, E225_10, pk54 hS, pk56 hS, pl56 hS, pa56 hS, pi56 hS, pr54_3 hR, rfs, rfn, cs0, csi, csl, csr, csn, kti, ktl, ktr, ktn, ktv, ktf, true_and, and_true, and_self, ↓reduceIte, Nat.reduceAdd, Nat.reduceSub, Nat.reduceMul, Nat.reduceLT, Nat.reduceLeDiff, Nat.reduceEqDiff, true_or, or_true, false_or, or_false, not_true_eq_false, not_false_eq_true, reduceCtorEq, cmp_lt, cmp_gt, cmp_eq, Int32.reduceAdd, Int32.reduceSub, Int32.reduceMul, Int32.reduceLT, Int32.reduceToNatClampNeg, eq_self, ne_eq, Int64.reduceAdd, Int64.reduceSub, Int64.reduceMul, Int64.reduceLT, z2, en, e2]
  refine no1_lp (d := d) hS hR hn h (hq false I o h (fun z => by cases z) (fun _ _ => rfl)) (fun k hk ho => ?_) m (by omega)
  simp only [E225_44, E225_45, E225_46, E225_47, rfs, rfn, cs0, csi, csl, csr, csn, kti, ktl, ktr, ktn, ktv, ktf, true_and, and_true, and_self, ↓reduceIte, Nat.reduceAdd, Nat.reduceSub, Nat.reduceMul, Nat.reduceLT, Nat.reduceLeDiff, Nat.reduceEqDiff, true_or, or_true, false_or, or_false, not_true_eq_false, not_false_eq_true, reduceCtorEq, cmp_lt, cmp_gt, cmp_eq, Int32.reduceAdd, Int32.reduceSub, Int32.reduceMul, Int32.reduceLT, Int32.reduceToNatClampNeg, eq_self, ne_eq, Int64.reduceAdd, Int64.reduceSub, Int64.reduceMul, Int64.reduceLT, nI_m1]
  refine no2_lp (d := d) hS hR hn h hk ho (fun i i1 i2 i3 => ?_) (m - k - 1) m (by omega) (by omega)
  simp only [E225_69, E225_70, E225_71, E225_72, E225_75, E225_76, E225_77, E225_78, E225_80, E225_81, E225_82, E225_83, exc hS hR (show k < 8 by omega) (show i < 8 by omega), pk54 hS, rfs, rfn, cs0, csi, csl, csr, csn, kti, ktl, ktr, ktn, ktv, ktf, true_and, and_true, and_self, ↓reduceIte, Nat.reduceAdd, Nat.reduceSub, Nat.reduceMul, Nat.reduceLT, Nat.reduceLeDiff, Nat.reduceEqDiff, true_or, or_true, false_or, or_false, not_true_eq_false, not_false_eq_true, reduceCtorEq, cmp_lt, cmp_gt, cmp_eq, Int32.reduceAdd, Int32.reduceSub, Int32.reduceMul, Int32.reduceLT, Int32.reduceToNatClampNeg, eq_self, ne_eq, Int64.reduceAdd, Int64.reduceSub, Int64.reduceMul, Int64.reduceLT, nI_1, nI_m1]
  refine no3_lp (d := d) (k := k) (o := swp o k i) (I := I) hS hR hn (fun J o' g1 g2 g3 => hq true J o' g1 (fun _ => ?_) g3) (m + 1) (k + 1) m _ (swp o k i) (by omega) (by omega) (by omega) (by omega) (h.swap (by omega) i2) (fun _ _ => rfl) (fun c hc => by rw [pt_n hc, pt_n hc])
  refine nmb_lt (k := k) (m + 1) (by omega) (fun j hj => ?_) ?_ (fun j hj => by have := (h.1 j hj).1; omega)
  · rw [g2 j (by omega)]
    unfold swp
    rw [if_neg (by omega), if_neg (by omega)]
  · rw [g2 k (by omega)]
    unfold swp
    rw [if_neg (by omega), if_pos rfl]
    exact i3
theorem df_lp {F : Nat} {y1 y2 y3 y4 y5 : Value} {y6 : Int32} (hS : Pm S) (hR : Pr R) (hF : F ≤ 3) (hq : ∀ f, f < 3 → Ev (d + 1) 224 134 [.ref 54, .int (nI F), y2, y3, y4, y5, .int y6, .int (nI f), .int (nI F)] [] S I L R Q) : ∀ (q i f : Nat), i + q = F → f < 3 → Ev (d + 1) 224 96 [.ref 54, .int (nI F), y2, y3, y4, y5, .int y6, .int (nI f), .int (nI i)] [] S I L R Q := by
  intro q
  induction q with
  | zero =>
    intro i f hi hf
    obtain rfl : i = F := by omega
    have e1 : (nI i < nI i) = False := eq_false (nI_nlt (by omega) (by omega))
    simp only [E224_96, E224_98, E224_99, rfs, rfn, cs0, csi, csl, csr, csn, kti, ktl, ktr, ktn, ktv, ktf, true_and, and_true, and_self, ↓reduceIte, Nat.reduceAdd, Nat.reduceSub, Nat.reduceMul, Nat.reduceLT, Nat.reduceLeDiff, Nat.reduceEqDiff, true_or, or_true, false_or, or_false, not_true_eq_false, not_false_eq_true, reduceCtorEq, cmp_lt, cmp_gt, cmp_eq, Int32.reduceAdd, Int32.reduceSub, Int32.reduceMul, Int32.reduceLT, Int32.reduceToNatClampNeg, eq_self, ne_eq, Int64.reduceAdd, Int64.reduceSub, Int64.reduceMul, Int64.reduceLT, e1]
    exact hq f hf
  | succ q ih =>
    intro i f hi hf
    have e1 : (nI i < nI F) = True := eq_true (nI_lt (by omega) (by omega))
    have i0 : inb (nI i) 3 = True := inb_nI (by omega) (by decide)
    have f0 : inb (nI f) 3 = True := inb_nI (by omega) (by decide)
    rw [E224_96]
    simp only [E224_98, E224_99, E224_102, E224_103, E224_106, E224_108, E224_109, E224_110, E224_113, E224_115, E224_116, E224_119, E224_121, E224_124, E224_126, E224_128, E224_131, pk54 hS, pk83 hS, pl83 hS, pa83 hS, pi83 hS, pr54_65 hR, rfs, rfn, cs0, csi, csl, csr, csn, kti, ktl, ktr, ktn, ktv, ktf, true_and, and_true, and_self, ↓reduceIte, Nat.reduceAdd, Nat.reduceSub, Nat.reduceMul, Nat.reduceLT, Nat.reduceLeDiff, Nat.reduceEqDiff, true_or, or_true, false_or, or_false, not_true_eq_false, not_false_eq_true, reduceCtorEq, cmp_lt, cmp_gt, cmp_eq, Int32.reduceAdd, Int32.reduceSub, Int32.reduceMul, Int32.reduceLT, Int32.reduceToNatClampNeg, eq_self, ne_eq, Int64.reduceAdd, Int64.reduceSub, Int64.reduceMul, Int64.reduceLT, e1, i0, f0, nI_1]
    apply iteB
    · exact ih (i + 1) i (by omega) (by omega)
    · exact ih (i + 1) f (by omega) hf
theorem dk_lp {F : Nat} {o : Nat → Nat} {I0 : mI} (hS : Pm S) (hR : Pr R) (hF : 1 ≤ F ∧ F ≤ 3) (hn : n ≤ 8) (en : I0 56 2 = nI n) (h : Odr I0 n o) (hp : ∀ p, p < n → I0 56 (41 + 2 * p) = -1 ∨ ∃ q, q < 8 ∧ I0 56 (41 + 2 * p) = nI q) (hq : ∀ v J, (∀ a, ¬ a = 82 → ¬ a = 83 → J a = I0 a) → Q (.int v) S J L R) : ∀ (q k : Nat) (x2 x3 : Int32) (J : mI) (y5 y6 y7 y8 : Value), k + q = n → (∀ a, ¬ a = 82 → ¬ a = 83 → J a = I0 a) → Ev (d + 1) 224 30 [.ref 54, .int (nI F), .int x2, .int x3, .int (nI k), y5, y6, y7, y8] [] S J L R Q := by
  have z2 : inb 2 8060 = True := inb_nI (j := 2) (by decide) (by decide)
  intro q
  induction q with
  | zero =>
    intro k x2 x3 J y5 y6 y7 y8 hk hJ
    obtain rfl : k = n := by omega
    have J6 : J 56 = I0 56 := hJ 56 (by decide) (by decide)
    have e1 : (nI k < nI k) = False := eq_false (nI_nlt (by omega) (by omega))
    simp only [E224_30, E224_32, E224_33, E224_36, E224_37, E224_38, E224_253, E224_254, pk54 hS, pk56 hS, pl56 hS, pa56 hS, pi56 hS, pr54_3 hR, rfs, rfn, cs0, csi, csl, csr, csn, kti, ktl, ktr, ktn, ktv, ktf, true_and, and_true, and_self, ↓reduceIte, Nat.reduceAdd, Nat.reduceSub, Nat.reduceMul, Nat.reduceLT, Nat.reduceLeDiff, Nat.reduceEqDiff, true_or, or_true, false_or, or_false, not_true_eq_false, not_false_eq_true, reduceCtorEq, cmp_lt, cmp_gt, cmp_eq, Int32.reduceAdd, Int32.reduceSub, Int32.reduceMul, Int32.reduceLT, Int32.reduceToNatClampNeg, eq_self, ne_eq, Int64.reduceAdd, Int64.reduceSub, Int64.reduceMul, Int64.reduceLT, z2, J6, en, e1]
    exact hq _ _ hJ
  | succ q ih =>
    intro k x2 x3 J y5 y6 y7 y8 hk hJ
    have J6 : J 56 = I0 56 := hJ 56 (by decide) (by decide)
    have J1 : J 81 = I0 81 := hJ 81 (by decide) (by decide)
    have e1 : (nI k < nI n) = True := eq_true (nI_lt (by omega) (by omega))
    have k0 : inb (nI k) 8 = True := inb_nI (by omega) (by decide)
    have k1 : (nI k).toNatClampNeg = k := nI_clamp (by omega)
    obtain ⟨o1, o2⟩ := h.1 k (by omega)
    generalize o k = p at o1 o2
    have m2 : (2 : Int32) * nI p = nI (2 * p) := by rw [show (2 : Int32) = nI 2 from rfl, pk_mul]
    have m4 : (40 : Int32) + nI (2 * p) = nI (40 + 2 * p) := by rw [show (40 : Int32) = nI 40 from rfl, nI_add]
    have a0 : inb (nI (40 + 2 * p)) 8060 = True := inb_nI (by omega) (by decide)
    have a1 : inb (nI (40 + 2 * p + 1)) 8060 = True := inb_nI (by omega) (by decide)
    have b1 : (nI (40 + 2 * p + 1)).toNatClampNeg = 40 + 2 * p + 1 := nI_clamp (by omega)
    have p0 : inb (nI p) 8 = True := inb_nI (by omega) (by decide)
    have key : ∀ (x2 x3 : Int32) (J : mI) (y5 y6 y7 y8 : Value) (u v : Int32) (i f : Nat), (∀ a, ¬ a = 82 → ¬ a = 83 → J a = I0 a) → Ev (d + 1) 224 30 [.ref 54, .int (nI F), .int x2, .int x3, .int (nI (k + 1)), y5, y6, y7, y8] [] S (put (put J 82 i u) 83 f v) L R Q := fun x2 x3 J y5 y6 y7 y8 u v i f hJ => ih (k + 1) x2 x3 _ y5 y6 y7 y8 (by omega) (fun a h1 h2 => by rw [pt_n h2, pt_n h1]; exact hJ a h1 h2)
    rcases hp p o1 with hx | ⟨c, hc, hx⟩
    · have hx' : I0 56 (40 + 2 * p + 1) = -1 := by rw [← hx]; congr 1; omega
      simp only [E224_30, E224_32, E224_33, E224_36, E224_37, E224_38, E224_41, E224_42, E224_45, E224_47, E224_48, E224_50, E224_51, E224_54, E224_56, E224_57, E224_59, E224_60, E224_61, E224_62, E224_63, E224_64, E224_66, E224_68, E224_69, E224_83, E224_84, E224_85, E224_87, E224_88, E224_89, E224_90, E224_91, E224_93, E224_94, pk54 hS, pk56 hS, pl56 hS, pa56 hS, pi56 hS, pk81 hS, pl81 hS, pa81 hS, pi81 hS, pr54_3 hR, pr54_63 hR, rfs, rfn, cs0, csi, csl, csr, csn, kti, ktl, ktr, ktn, ktv, ktf, true_and, and_true, and_self, ↓reduceIte, Nat.reduceAdd, Nat.reduceSub, Nat.reduceMul, Nat.reduceLT, Nat.reduceLeDiff, Nat.reduceEqDiff, true_or, or_true, false_or, or_false, not_true_eq_false, not_false_eq_true, reduceCtorEq, cmp_lt, cmp_gt, cmp_eq, Int32.reduceAdd, Int32.reduceSub, Int32.reduceMul, Int32.reduceLT, Int32.reduceToNatClampNeg, eq_self, ne_eq, Int64.reduceAdd, Int64.reduceSub, Int64.reduceMul, Int64.reduceLT, z2, J6, J1, en, e1, k0, k1, o2, m2, m4, nI_1, a1, b1, hx']
      refine df_lp (d := d) (y1 := .null) hS hR hF.2 (fun f hf => ?_) (F - 1) 1 0 (by omega) (by omega)
      have f0 : inb (nI f) 3 = True := inb_nI (by omega) (by decide)
      have f1 : (nI f).toNatClampNeg = f := nI_clamp (by omega)
      simp only [E224_134, E224_136, E224_137, E224_140, E224_141, E224_164, E224_166, E224_167, E224_170, E224_172, E224_173, E224_176, E224_178, E224_179, E224_181, E224_184, E224_185, E224_188, E224_190, E224_191, E224_194, E224_196, E224_197, E224_198, E224_201, E224_203, E224_204, E224_207, E224_209, E224_210, E224_211, E224_214, E224_216, E224_217, E224_219, E224_220, E224_221, E224_222, E224_223, E224_224, E224_225, E224_228, E224_230, E224_231, E224_232, E224_235, E224_236, E224_239, E224_241, E224_242, E224_245, E224_246, E224_247, E224_250, pk54 hS, pk56 hS, pl56 hS, pa56 hS, pi56 hS, pk82 hS, pl82 hS, pa82 hS, pi82 hS, pk83 hS, pl83 hS, pa83 hS, pi83 hS, pr54_3 hR, pr54_64 hR, pr54_65 hR, rfs, rfn, cs0, csi, csl, csr, csn, kti, ktl, ktr, ktn, ktv, ktf, true_and, and_true, and_self, ↓reduceIte, Nat.reduceAdd, Nat.reduceSub, Nat.reduceMul, Nat.reduceLT, Nat.reduceLeDiff, Nat.reduceEqDiff, true_or, or_true, false_or, or_false, not_true_eq_false, not_false_eq_true, reduceCtorEq, cmp_lt, cmp_gt, cmp_eq, Int32.reduceAdd, Int32.reduceSub, Int32.reduceMul, Int32.reduceLT, Int32.reduceToNatClampNeg, eq_self, ne_eq, Int64.reduceAdd, Int64.reduceSub, Int64.reduceMul, Int64.reduceLT, f0, p0, m2, m4, a0, nI_1, pt]
      repeat' apply iteB
      all_goals exact key _ _ _ _ _ _ _ _ _ _ _ hJ
    · have hx' : I0 56 (40 + 2 * p + 1) = nI c := by rw [← hx]; congr 1; omega
      have nc : (nI c = -1) = False := eq_false (fun z => nI_pos (n := c) (by omega) (by rw [z]; decide))
      have c0 : inb (nI c) 8 = True := inb_nI (by omega) (by decide)
      have m2c : (2 : Int32) * nI c = nI (2 * c) := by rw [show (2 : Int32) = nI 2 from rfl, pk_mul]
      have m4c : (40 : Int32) + nI (2 * c) = nI (40 + 2 * c) := by rw [show (40 : Int32) = nI 40 from rfl, nI_add]
      have a0c : inb (nI (40 + 2 * c)) 8060 = True := inb_nI (by omega) (by decide)
      simp only [E224_30, E224_32, E224_33, E224_36, E224_37, E224_38, E224_41, E224_42, E224_45, E224_47, E224_48, E224_50, E224_51, E224_54, E224_56, E224_57, E224_59, E224_60, E224_61, E224_62, E224_63, E224_64, E224_66, E224_68, E224_69, E224_72, E224_73, E224_75, E224_76, E224_77, E224_78, E224_81, E224_82, E224_83, E224_84, E224_85, E224_87, E224_88, E224_89, E224_90, E224_91, E224_93, E224_94, pk54 hS, pk56 hS, pl56 hS, pa56 hS, pi56 hS, pk81 hS, pl81 hS, pa81 hS, pi81 hS, pr54_3 hR, pr54_63 hR, rfs, rfn, cs0, csi, csl, csr, csn, kti, ktl, ktr, ktn, ktv, ktf, true_and, and_true, and_self, ↓reduceIte, Nat.reduceAdd, Nat.reduceSub, Nat.reduceMul, Nat.reduceLT, Nat.reduceLeDiff, Nat.reduceEqDiff, true_or, or_true, false_or, or_false, not_true_eq_false, not_false_eq_true, reduceCtorEq, cmp_lt, cmp_gt, cmp_eq, Int32.reduceAdd, Int32.reduceSub, Int32.reduceMul, Int32.reduceLT, Int32.reduceToNatClampNeg, eq_self, ne_eq, Int64.reduceAdd, Int64.reduceSub, Int64.reduceMul, Int64.reduceLT, z2, J6, J1, en, e1, k0, k1, o2, m2, m4, nI_1, a1, b1, hx', nc]
      apply iteB
      · exact hq _ _ hJ
      · refine df_lp (d := d) (y1 := .null) hS hR hF.2 (fun f hf => ?_) (F - 1) 1 0 (by omega) (by omega)
        have f0 : inb (nI f) 3 = True := inb_nI (by omega) (by decide)
        have f1 : (nI f).toNatClampNeg = f := nI_clamp (by omega)
        simp only [E224_134, E224_136, E224_137, E224_144, E224_145, E224_148, E224_150, E224_151, E224_152, E224_155, E224_157, E224_158, E224_160, E224_161, E224_162, E224_163, E224_164, E224_166, E224_167, E224_170, E224_172, E224_173, E224_176, E224_178, E224_179, E224_181, E224_184, E224_185, E224_188, E224_190, E224_191, E224_194, E224_196, E224_197, E224_198, E224_201, E224_203, E224_204, E224_207, E224_209, E224_210, E224_211, E224_214, E224_216, E224_217, E224_219, E224_220, E224_221, E224_222, E224_223, E224_224, E224_225, E224_228, E224_230, E224_231, E224_232, E224_235, E224_236, E224_239, E224_241, E224_242, E224_245, E224_246, E224_247, E224_250, pk54 hS, pk56 hS, pl56 hS, pa56 hS, pi56 hS, pk82 hS, pl82 hS, pa82 hS, pi82 hS, pk83 hS, pl83 hS, pa83 hS, pi83 hS, pr54_3 hR, pr54_64 hR, pr54_65 hR, rfs, rfn, cs0, csi, csl, csr, csn, kti, ktl, ktr, ktn, ktv, ktf, true_and, and_true, and_self, ↓reduceIte, Nat.reduceAdd, Nat.reduceSub, Nat.reduceMul, Nat.reduceLT, Nat.reduceLeDiff, Nat.reduceEqDiff, true_or, or_true, false_or, or_false, not_true_eq_false, not_false_eq_true, reduceCtorEq, cmp_lt, cmp_gt, cmp_eq, Int32.reduceAdd, Int32.reduceSub, Int32.reduceMul, Int32.reduceLT, Int32.reduceToNatClampNeg, eq_self, ne_eq, Int64.reduceAdd, Int64.reduceSub, Int64.reduceMul, Int64.reduceLT, f0, p0, c0, m2, m4, m2c, m4c, a0, a0c, nc, nI_1, pt]
        repeat' apply iteB
        all_goals exact key _ _ _ _ _ _ _ _ _ _ _ hJ
theorem dnb {F : Nat} {o : Nat → Nat} (hS : Pm S) (hR : Pr R) (hF : 1 ≤ F ∧ F ≤ 3) (hn : n ≤ 8) (en : I 56 2 = nI n) (h : Odr I n o) (hp : ∀ p, p < n → I 56 (41 + 2 * p) = -1 ∨ ∃ q, q < 8 ∧ I 56 (41 + 2 * p) = nI q) (hq : ∀ v J, (∀ a, ¬ a = 82 → ¬ a = 83 → J a = I a) → Q (.int v) S J L R) : EvM (d + 1) 224 [.ref 54, .int (nI F)] S I L R Q := by
  simp only [M224, E224_0, E224_1, E224_2, E224_3, E224_4, E224_5, E224_7, E224_9, E224_10, E224_13, E224_14, E224_17, E224_19, E224_20, E224_21, E224_24, E224_27, E224_28, pk54 hS, pk83 hS, pl83 hS, pa83 hS, pi83 hS, pr54_65 hR, rfs, rfn, cs0, csi, csl, csr, csn, kti, ktl, ktr, ktn, ktv, ktf, true_and, and_true, and_self, ↓reduceIte, Nat.reduceAdd, Nat.reduceSub, Nat.reduceMul, Nat.reduceLT, Nat.reduceLeDiff, Nat.reduceEqDiff, true_or, or_true, false_or, or_false, not_true_eq_false, not_false_eq_true, reduceCtorEq, cmp_lt, cmp_gt, cmp_eq, Int32.reduceAdd, Int32.reduceSub, Int32.reduceMul, Int32.reduceLT, Int32.reduceToNatClampNeg, eq_self, ne_eq, Int64.reduceAdd, Int64.reduceSub, Int64.reduceMul, Int64.reduceLT, inb_is, pt]
  refine dk_lp (d := d) (I0 := I) hS hR hF hn en h hp hq n 0 _ _ _ _ _ _ _ (by omega) (fun a h1 h2 => ?_)
  rw [pt_n h2, pt_n h2, pt_n h2]
theorem so_lp {F : Nat} {w : Int32} {I0 : mI} (hS : Pm S) (hR : Pr R) (hF : 1 ≤ F ∧ F ≤ 3) (h1 : 1 ≤ n) (hn : n ≤ 8) (en : I0 56 2 = nI n) (hp : ∀ p, p < n → I0 56 (41 + 2 * p) = -1 ∨ ∃ q, q < 8 ∧ I0 56 (41 + 2 * p) = nI q) (hw : w = -1 ∨ ∃ q, q < n ∧ w = nI q) (hq : ∀ v J, (∀ a, (a < 81 ∨ 84 < a) → J a = I0 a) → Q (.int v) S J L R) : ∀ (N : Nat) (b : Bool) (o : Nat → Nat) (x : Int32) (J : mI) (y5 y6 : Value), 8 ^ n - nmb o n < N → Odr J n o → (∀ a, (a < 81 ∨ 84 < a) → J a = I0 a) → Ev (d + 3) 227 74 [.ref 54, .int (nI F), .int w, .int x, .int (bI b), y5, y6] [] S J L R Q := by
  have out : ∀ (x : Int32) (J : mI) (y5 y6 : Value), (∀ a, (a < 81 ∨ 84 < a) → J a = I0 a) → Ev (d + 3) 227 74 [.ref 54, .int (nI F), .int w, .int x, .int (bI false), y5, y6] [] S J L R Q := by
    intro x J y5 y6 hJ
    rcases hw with rfl | ⟨q, q1, rfl⟩
    · simp only [E227_74, E227_76, E227_145, E227_146, E227_147, E227_150, E227_151, E227_160, rfs, rfn, cs0, csi, csl, csr, csn, kti, ktl, ktr, ktn, ktv, ktf, true_and, and_true, and_self, ↓reduceIte, Nat.reduceAdd, Nat.reduceSub, Nat.reduceMul, Nat.reduceLT, Nat.reduceLeDiff, Nat.reduceEqDiff, true_or, or_true, false_or, or_false, not_true_eq_false, not_false_eq_true, reduceCtorEq, cmp_lt, cmp_gt, cmp_eq, Int32.reduceAdd, Int32.reduceSub, Int32.reduceMul, Int32.reduceLT, Int32.reduceToNatClampNeg, eq_self, ne_eq, Int64.reduceAdd, Int64.reduceSub, Int64.reduceMul, Int64.reduceLT, bI_f]
      exact hq _ _ hJ
    · have nq : (nI q = -1) = False := eq_false (fun z => nI_pos (n := q) (by omega) (by rw [z]; decide))
      have q0 : inb (nI q) 8 = True := inb_nI (by omega) (by decide)
      simp only [E227_74, E227_76, E227_145, E227_146, E227_147, E227_150, E227_151, E227_154, E227_155, E227_158, E227_159, E227_160, pk54 hS, pk84 hS, pl84 hS, pa84 hS, pi84 hS, pr54_66 hR, rfs, rfn, cs0, csi, csl, csr, csn, kti, ktl, ktr, ktn, ktv, ktf, true_and, and_true, and_self, ↓reduceIte, Nat.reduceAdd, Nat.reduceSub, Nat.reduceMul, Nat.reduceLT, Nat.reduceLeDiff, Nat.reduceEqDiff, true_or, or_true, false_or, or_false, not_true_eq_false, not_false_eq_true, reduceCtorEq, cmp_lt, cmp_gt, cmp_eq, Int32.reduceAdd, Int32.reduceSub, Int32.reduceMul, Int32.reduceLT, Int32.reduceToNatClampNeg, eq_self, ne_eq, Int64.reduceAdd, Int64.reduceSub, Int64.reduceMul, Int64.reduceLT, bI_f, nq, q0]
      exact hq _ _ hJ
  intro N
  induction N with
  | zero => intro b o x J y5 y6 h; omega
  | succ N ih =>
    intro b o x J y5 y6 hN ho hJ
    cases b
    · exact out x J y5 y6 hJ
    · have J6 : J 56 = I0 56 := hJ 56 (by decide)
      have key : ∀ (K : mI) (x : Int32) (y5 y6 : Value), K 81 = J 81 → (∀ a, (a < 81 ∨ 84 < a) → K a = I0 a) → Ev (d + 3) 227 136 [.ref 54, .int (nI F), .int w, .int x, .int 1, y5, y6] [] S K L R Q := by
        intro K x y5 y6 hk hK
        have K6 : K 56 = I0 56 := hK 56 (by decide)
        simp only [E227_136, E227_137, pk54 hS, rfs, rfn, cs0, csi, csl, csr, csn, kti, ktl, ktr, ktn, ktv, ktf, true_and, and_true, and_self, ↓reduceIte, Nat.reduceAdd, Nat.reduceSub, Nat.reduceMul, Nat.reduceLT, Nat.reduceLeDiff, Nat.reduceEqDiff, true_or, or_true, false_or, or_false, not_true_eq_false, not_false_eq_true, reduceCtorEq, cmp_lt, cmp_gt, cmp_eq, Int32.reduceAdd, Int32.reduceSub, Int32.reduceMul, Int32.reduceLT, Int32.reduceToNatClampNeg, eq_self, ne_eq, Int64.reduceAdd, Int64.reduceSub, Int64.reduceMul, Int64.reduceLT]
        refine nxo (d := d) hS hR h1 hn (by rw [K6]; exact en) (ho.cg hk) (fun b J2 o' g1 g2 g3 => ?_)
        simp only [E227_137, E227_140, E227_142, rfs, rfn, cs0, csi, csl, csr, csn, kti, ktl, ktr, ktn, ktv, ktf, true_and, and_true, and_self, ↓reduceIte, Nat.reduceAdd, Nat.reduceSub, Nat.reduceMul, Nat.reduceLT, Nat.reduceLeDiff, Nat.reduceEqDiff, true_or, or_true, false_or, or_false, not_true_eq_false, not_false_eq_true, reduceCtorEq, cmp_lt, cmp_gt, cmp_eq, Int32.reduceAdd, Int32.reduceSub, Int32.reduceMul, Int32.reduceLT, Int32.reduceToNatClampNeg, eq_self, ne_eq, Int64.reduceAdd, Int64.reduceSub, Int64.reduceMul, Int64.reduceLT]
        have hJ2 : ∀ a, (a < 81 ∨ 84 < a) → J2 a = I0 a := fun a ha => (g3 a (by omega)).trans (hK a ha)
        cases b
        · exact out x J2 _ _ hJ2
        · refine ih true o' x J2 _ _ ?_ g1 hJ2
          have l1 := g2 rfl
          have l2 := nmb_b (o := o') n (fun j hj => by have := (g1.1 j hj).1; omega)
          omega
      simp only [E227_74, E227_76, E227_79, E227_80, E227_81, pk54 hS, rfs, rfn, cs0, csi, csl, csr, csn, kti, ktl, ktr, ktn, ktv, ktf, true_and, and_true, and_self, ↓reduceIte, Nat.reduceAdd, Nat.reduceSub, Nat.reduceMul, Nat.reduceLT, Nat.reduceLeDiff, Nat.reduceEqDiff, true_or, or_true, false_or, or_false, not_true_eq_false, not_false_eq_true, reduceCtorEq, cmp_lt, cmp_gt, cmp_eq, Int32.reduceAdd, Int32.reduceSub, Int32.reduceMul, Int32.reduceLT, Int32.reduceToNatClampNeg, eq_self, ne_eq, Int64.reduceAdd, Int64.reduceSub, Int64.reduceMul, Int64.reduceLT, bI_t, n1_0]
      refine dnb (d := d + 1) hS hR hF hn (by rw [J6]; exact en) ho (by rw [J6]; exact hp) (fun v J2 g => ?_)
      have hJ2 : ∀ a, (a < 81 ∨ 84 < a) → J2 a = I0 a := fun a ha => (g a (by omega) (by omega)).trans (hJ a ha)
      have j81 : J2 81 = J 81 := g 81 (by decide) (by decide)
      simp only [E227_81, E227_84, E227_86, E227_88, E227_89, E227_92, E227_93, E227_94, E227_97, E227_99, E227_100, E227_103, E227_105, E227_106, E227_107, E227_109, E227_111, E227_113, E227_116, E227_117, E227_120, E227_122, E227_123, E227_126, E227_128, E227_129, E227_130, E227_133, pk54 hS, pk82 hS, pl82 hS, pa82 hS, pi82 hS, pk84 hS, pl84 hS, pa84 hS, pi84 hS, pr54_64 hR, pr54_66 hR, rfs, rfn, cs0, csi, csl, csr, csn, kti, ktl, ktr, ktn, ktv, ktf, true_and, and_true, and_self, ↓reduceIte, Nat.reduceAdd, Nat.reduceSub, Nat.reduceMul, Nat.reduceLT, Nat.reduceLeDiff, Nat.reduceEqDiff, true_or, or_true, false_or, or_false, not_true_eq_false, not_false_eq_true, reduceCtorEq, cmp_lt, cmp_gt, cmp_eq, Int32.reduceAdd, Int32.reduceSub, Int32.reduceMul, Int32.reduceLT, Int32.reduceToNatClampNeg, eq_self, ne_eq, Int64.reduceAdd, Int64.reduceSub, Int64.reduceMul, Int64.reduceLT, inb_is, pt, pt_m]
      repeat' apply iteB
      all_goals first
        | exact key _ _ _ _ j81 hJ2
        | (refine key _ _ _ _ ?_ (fun a ha => ?_)
           · simp (disch := omega) only [pt_n]; exact j81
           · simp (disch := omega) only [pt_n]; exact hJ2 a ha)
theorem m_soonest {t : Nat} {f w : Int32} (hS : Pm S) (hR : Pr R) (h : InvM I t) (hq : ∀ v J L', InvM J t → OutM I J → RlN I J → Q (.int v) S J L' R) : EvM (d + 4) 227 [.ref 54, .int f, .int w] S I L R Q := by
  obtain ⟨c, c1, ec, hp⟩ := h.1.2.2.2.1
  have z2 : inb 2 8060 = True := inb_nI (j := 2) (by decide) (by decide)
  have hJ := h.p0 (x := 0)
  have oJ : OutM I (put I 54 0 0) := (by repeat (first | exact OutM.rf | apply telF_o | refine OutM.pt ?_ (by decide) (by decide)))
  have rJ : RlN I (put I 54 0 0) := (by repeat (first | exact RlN.rf | apply RlN.tel | refine RlN.p4 ?_ (by decide) | refine RlN.pa ?_ (by decide)))
  cases g1 : inB f.toInt64 1 3
  · simp only [M227, E227_0, E227_1, E227_2, E227_5, E227_6, E227_7, E227_8, E227_11, E227_14, E227_46, E227_47, inn, g1, bI_f, pk54 hS, rfs, rfn, cs0, csi, csl, csr, csn, kti, ktl, ktr, ktn, ktv, ktf, true_and, and_true, and_self, ↓reduceIte, Nat.reduceAdd, Nat.reduceSub, Nat.reduceMul, Nat.reduceLT, Nat.reduceLeDiff, Nat.reduceEqDiff, true_or, or_true, false_or, or_false, not_true_eq_false, not_false_eq_true, reduceCtorEq, cmp_lt, cmp_gt, cmp_eq, Int32.reduceAdd, Int32.reduceSub, Int32.reduceMul, Int32.reduceLT, Int32.reduceToNatClampNeg, eq_self, ne_eq, Int64.reduceAdd, Int64.reduceSub, Int64.reduceMul, Int64.reduceLT, pt]
    exact hq _ _ _ hJ oJ rJ
  obtain ⟨F, F1, F2, rfl⟩ := inN (a := 1) (b := 3) g1 rfl rfl (by decide)
  cases g2 : inB w.toInt64 (-1) ((nI c).toInt64 - 1)
  · simp only [M227, E227_0, E227_1, E227_2, E227_5, E227_6, E227_7, E227_8, E227_11, E227_14, E227_17, E227_18, E227_19, E227_22, E227_23, E227_26, E227_27, E227_28, E227_29, E227_30, E227_31, E227_34, E227_37, E227_38, E227_41, E227_42, E227_43, E227_46, E227_47, inn, g1, g2, bI_f, bI_t, n1_0, pk54 hS, pk56 hS, pl56 hS, pa56 hS, pi56 hS, pr54_3 hR, rfs, rfn, cs0, csi, csl, csr, csn, kti, ktl, ktr, ktn, ktv, ktf, true_and, and_true, and_self, ↓reduceIte, Nat.reduceAdd, Nat.reduceSub, Nat.reduceMul, Nat.reduceLT, Nat.reduceLeDiff, Nat.reduceEqDiff, true_or, or_true, false_or, or_false, not_true_eq_false, not_false_eq_true, reduceCtorEq, cmp_lt, cmp_gt, cmp_eq, Int32.reduceAdd, Int32.reduceSub, Int32.reduceMul, Int32.reduceLT, Int32.reduceToNatClampNeg, eq_self, ne_eq, Int64.reduceAdd, Int64.reduceSub, Int64.reduceMul, Int64.reduceLT, pt, pt_m, z2, ec]
    exact hq _ _ _ hJ oJ rJ
  by_cases g3 : c = 0
  · subst g3
    have z : nI 0 = (0 : Int32) := rfl
    rw [z] at ec g2
    simp only [M227, E227_0, E227_1, E227_2, E227_5, E227_6, E227_7, E227_8, E227_11, E227_14, E227_17, E227_18, E227_19, E227_22, E227_23, E227_26, E227_27, E227_28, E227_29, E227_30, E227_31, E227_34, E227_37, E227_38, E227_41, E227_42, E227_43, E227_46, E227_47, inn, g1, g2, bI_t, n1_0, pk54 hS, pk56 hS, pl56 hS, pa56 hS, pi56 hS, pr54_3 hR, rfs, rfn, cs0, csi, csl, csr, csn, kti, ktl, ktr, ktn, ktv, ktf, true_and, and_true, and_self, ↓reduceIte, Nat.reduceAdd, Nat.reduceSub, Nat.reduceMul, Nat.reduceLT, Nat.reduceLeDiff, Nat.reduceEqDiff, true_or, or_true, false_or, or_false, not_true_eq_false, not_false_eq_true, reduceCtorEq, cmp_lt, cmp_gt, cmp_eq, Int32.reduceAdd, Int32.reduceSub, Int32.reduceMul, Int32.reduceLT, Int32.reduceToNatClampNeg, eq_self, ne_eq, Int64.reduceAdd, Int64.reduceSub, Int64.reduceMul, Int64.reduceLT, pt, pt_m, z2, ec]
    exact hq _ _ _ hJ oJ rJ
  have g3' : (nI c = 0) = False := eq_false (nI_ne0 (by omega) (by omega))
  have N := inD (by omega) g2
  simp only [M227, E227_0, E227_1, E227_2, E227_5, E227_6, E227_7, E227_8, E227_11, E227_14, E227_17, E227_18, E227_19, E227_22, E227_23, E227_26, E227_27, E227_28, E227_29, E227_30, E227_31, E227_34, E227_37, E227_38, E227_41, E227_42, E227_43, E227_46, E227_47, E227_48, E227_49, E227_50, E227_51, E227_53, E227_56, E227_57, E227_60, E227_61, E227_62, E227_63, E227_66, E227_69, E227_70, E227_71, E227_72, inn, g1, g2, bI_t, n1_0, pk54 hS, pk56 hS, pl56 hS, pa56 hS, pi56 hS, pk81 hS, pl81 hS, pa81 hS, pi81 hS, pr54_3 hR, pr54_63 hR, rfs, rfn, cs0, csi, csl, csr, csn, kti, ktl, ktr, ktn, ktv, ktf, true_and, and_true, and_self, ↓reduceIte, Nat.reduceAdd, Nat.reduceSub, Nat.reduceMul, Nat.reduceLT, Nat.reduceLeDiff, Nat.reduceEqDiff, true_or, or_true, false_or, or_false, not_true_eq_false, not_false_eq_true, reduceCtorEq, cmp_lt, cmp_gt, cmp_eq, Int32.reduceAdd, Int32.reduceSub, Int32.reduceMul, Int32.reduceLT, Int32.reduceToNatClampNeg, eq_self, ne_eq, Int64.reduceAdd, Int64.reduceSub, Int64.reduceMul, Int64.reduceLT, inb_is, pt, pt_m, ec, g3']
  refine so_lp (d := d + 1) (n := c) (I0 := put I 54 0 0) hS hR ⟨F1, F2⟩ (by omega) c1 (by rw [pt_m (by decide)]; exact ec) (fun p hp' => by rw [pt_m (by decide)]; exact hp p hp') N (fun v J g => ?_) (8 ^ c + 1) true (fun k => k) _ _ _ _ (Nat.lt_succ_of_le (Nat.sub_le _ _)) ⟨fun k hk => ⟨hk, ?_⟩, fun j k h1 h2 e => by have e' : j = k := e; omega⟩ (fun a ha => ?_)
  · have hg : ∀ a, ¬ a = 54 → (a < 81 ∨ 84 < a) → J a = I a := fun a h1 h2 => by rw [g a h2, pt_n h1]
    have h4 : ∀ k, ¬ k = 0 → J 54 k = I 54 k := fun k hk => by rw [g 54 (by decide), pt_f hk]
    exact hq _ _ _ (h.cg (hg _ (by decide) (by decide)) (hg _ (by decide) (by decide)) (hg _ (by decide) (by decide)) (hg _ (by decide) (by decide)) (hg _ (by decide) (by decide)) (h4 _ (by decide)) (h4 _ (by decide)) (h4 _ (by decide)) (h4 _ (by decide))) (fun a ha => hg a (by omega) (by omega)) (RlN.al (hg _ (by decide) (by decide)) (hg _ (by decide) (by decide)) (hg _ (by decide) (by decide)) (hg _ (by decide) (by decide)) (h4 _ (by decide)) (h4 _ (by decide)))
  · rcases (by omega : k = 0 ∨ k = 1 ∨ k = 2 ∨ k = 3 ∨ k = 4 ∨ k = 5 ∨ k = 6 ∨ k = 7) with rfl | rfl | rfl | rfl | rfl | rfl | rfl | rfl <;> (simp (disch := omega) only [pt_s, pt_f]; rfl)
  · simp (disch := omega) only [pt_n]
end SQ
