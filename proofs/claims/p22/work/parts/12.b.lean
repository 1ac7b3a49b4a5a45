theorem tg_bits : ∀ k, k < 1023 → 2 ≤ k → nI k &&& 1 = 1 ∨ nI k &&& (-1023) = 0 := by decide +kernel
theorem tg {n : Int32} : (n = 0 ∧ n < 2) ∨ (¬ n = 0 ∧ ¬ n &&& (-1023) = 0 ∧ (n < 2 ∨ (¬ n < 2 ∧ 1022 < n) ∨ (¬ n < 2 ∧ ¬ 1022 < n ∧ n &&& 1 = 1))) ∨ (¬ n = 0 ∧ n &&& (-1023) = 0 ∧ ¬ n < 2 ∧ ¬ 1022 < n ∧ ¬ n &&& 1 = 1) := by
  by_cases h0 : n = 0
  · left; rw [h0]; exact ⟨rfl, by decide⟩
  by_cases h1 : n &&& (-1023) = 0
  · right; right
    have hb : n.toBitVec &&& (-1023 : Int32).toBitVec = 0#32 := congrArg Int32.toBitVec h1
    have hn : n.toBitVec = n.toBitVec &&& 1022#32 := by
      apply BitVec.eq_of_getLsbD_eq
      intro i hi
      have := congrArg (fun b => b.getLsbD i) hb
      simp only [BitVec.getLsbD_and, BitVec.getLsbD_zero] at this ⊢
      have key : ∀ i, i < 32 → ((-1023 : Int32).toBitVec.getLsbD i = true ∨ (1022#32).getLsbD i = true) := by decide
      rcases key i hi with k | k
      · rw [k, Bool.and_true] at this
        rw [this, Bool.false_and]
      · rw [k, Bool.and_true]
    have h9 : n.toBitVec.toNat ≤ 1022 := by
      rw [hn, BitVec.toNat_and]
      exact Nat.and_le_right
    have e : n = nI n.toBitVec.toNat := by
      apply Int32.toBitVec_inj.mp
      apply BitVec.eq_of_toNat_eq
      rw [pk_tn (by omega)]
    generalize n.toBitVec.toNat = k at e h9
    subst e
    have fin : ∀ k, k < 1023 → nI k &&& (-1023) = 0 → nI k = 0 ∨ (¬ nI k < 2 ∧ ¬ 1022 < nI k ∧ ¬ nI k &&& 1 = 1) := by decide +kernel
    rcases fin k (by omega) h1 with q | q
    · exact absurd q h0
    · exact ⟨h0, h1, q⟩
  · right; left
    refine ⟨h0, h1, ?_⟩
    by_cases h2 : n < 2
    · exact Or.inl h2
    by_cases h3 : 1022 < n
    · exact Or.inr (Or.inl ⟨h2, h3⟩)
    refine Or.inr (Or.inr ⟨h2, h3, ?_⟩)
    have g2 := h2
    have g3 := h3
    rw [Int32.lt_iff_toInt_lt, show (2 : Int32).toInt = 2 from rfl] at g2
    rw [Int32.lt_iff_toInt_lt, show (1022 : Int32).toInt = 1022 from rfl] at g3
    obtain ⟨k, hk, rfl⟩ := nI_of (x := n) (by rw [Int32.lt_iff_toInt_lt, show (0 : Int32).toInt = 0 from rfl]; omega)
    rw [nI_toInt hk] at g2 g3
    rcases tg_bits k (by omega) (by omega) with q | q
    · exact q
    · exact absurd q h1
theorem inb_nI {j N : Nat} (h : j < N) (hN : N < 2 ^ 31) : inb (nI j) N = True := eq_true ⟨nI_pos (by omega), by rw [nI_clamp (by omega)]; exact h⟩
theorem pm_mono {S S' : mS} (h : Pm S) (h1 : S.1 ≤ S'.1) (h2 : ∀ a, a < 85 → S'.2.2.1 a = S.2.2.1 a ∧ S'.2.2.2 a = S.2.2.2 a) : Pm S' := ⟨Nat.le_trans h.1 h1, fun a ha h9 => by rw [(h2 a ha).1, (h2 a ha).2]; exact h.2 a ha h9⟩
theorem img_lp {d : Nat} {S : mS} {L : mL} {R : mR} {k : Nat} (hS : Pm S) (hR : Pr R) (hk : k < 2) {Q : mQ} : ∀ (n i : Nat) (I : mI), i + n = 8060 → (∀ I' : mI, (∀ a, a ≠ 57 → I' a = I a) → Ev (d + 1) 142 54 [.ref 54, .int (nI k), .int (nI 8060)] [] S I' L R Q) → Ev (d + 1) 142 23 [.ref 54, .int (nI k), .int (nI i)] [] S I L R Q := by
  intro n
  induction n with
  | zero =>
    intro i I hi h
    obtain rfl : i = 8060 := by omega
    have e : (nI 8060 < (8060 : Int32)) = False := eq_false (by decide)
    simp only [E142_23, E142_24, E142_27, e, rfs, rfn, cs0, csi, csl, csr, csn, kti, ktl, ktr, ktn, ktv, ktf, true_and, and_true, and_self, ↓reduceIte, Nat.reduceAdd, Nat.reduceSub, Nat.reduceMul, Nat.reduceLT, Nat.reduceLeDiff, Nat.reduceEqDiff, true_or, or_true, false_or, or_false, not_true_eq_false, not_false_eq_true, reduceCtorEq, cmp_lt, cmp_gt, cmp_eq, Int32.reduceAdd, Int32.reduceSub, Int32.reduceMul, Int32.reduceLT, Int32.reduceToNatClampNeg, eq_self, ne_eq, Int64.reduceAdd, Int64.reduceSub, Int64.reduceMul, Int64.reduceLT]
    exact h I (fun _ _ => rfl)
  | succ n ih =>
    intro i I hi h
    have e1 : (nI i < (8060 : Int32)) = True := eq_true (nI_lt (a := i) (b := 8060) (by omega) (by decide))
    have e2 : (8060 : Int32) * nI k + nI i = nI (8060 * k + i) := by
      rw [show (8060 : Int32) = nI 8060 from rfl, pk_mul, nI_add]
    have e3 : inb (nI i) 8060 = True := inb_nI (by omega) (by decide)
    have hk2 : 8060 * k + i < 16120 := by
      have : k = 0 ∨ k = 1 := by omega
      rcases this with rfl | rfl <;> omega
    have e4 : inb (nI (8060 * k + i)) 16120 = True := inb_nI hk2 (by decide)
    rw [E142_23]
    simp only [E142_0, E142_1, E142_2, E142_5, E142_6, E142_7, E142_8, E142_9, E142_12, E142_15, E142_16, E142_17, E142_20, E142_21, E142_22, E142_24, E142_27, E142_30, E142_31, E142_34, E142_37, E142_38, E142_39, E142_40, E142_41, E142_42, E142_45, E142_46, E142_47, E142_48, E142_51, E142_54, E142_55, E142_58, E142_59, E142_60, E142_61, E142_62, E142_63, E142_66, e1, e2, e3, e4, pk54 hS, pk56 hS, pl56 hS, pa56 hS, pi56 hS, pk57 hS, pl57 hS, pa57 hS, pi57 hS, pk58 hS, pl58 hS, pa58 hS, pr54_3 hR, pr54_4 hR, pr54_5 hR, rfs, rfn, cs0, csi, csl, csr, csn, kti, ktl, ktr, ktn, ktv, ktf, true_and, and_true, and_self, ↓reduceIte, Nat.reduceAdd, Nat.reduceSub, Nat.reduceMul, Nat.reduceLT, Nat.reduceLeDiff, Nat.reduceEqDiff, true_or, or_true, false_or, or_false, not_true_eq_false, not_false_eq_true, reduceCtorEq, cmp_lt, cmp_gt, cmp_eq, Int32.reduceAdd, Int32.reduceSub, Int32.reduceMul, Int32.reduceLT, Int32.reduceToNatClampNeg, eq_self, ne_eq, Int64.reduceAdd, Int64.reduceSub, Int64.reduceMul, Int64.reduceLT, nI_1]
    exact ih (i + 1) _ (by omega) (fun I' h' => h I' (fun a ha => by rw [h' a ha, up_is, if_neg ha]))
