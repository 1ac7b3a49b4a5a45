/-! the law's loop and switch -/
def swT (k : Nat) : Nat := ([164, 187, 220, 253, 276, 309, 372, 395, 408, 421, 434, 457, 480, 503, 526, 550, 563, 596, 619, 632, 665, 708, 761, 794, 827, 840, 863, 886, 909, 922, 922, 922] : List Nat).getD k 922
theorem sw_law : ∀ k, k < 32 → (if (nI k).toInt < 0 ∨ 0 + (([164, 187, 220, 253, 276, 309, 372, 395, 408, 421, 434, 457, 480, 503, 526, 550, 563, 596, 619, 632, 665, 708, 761, 794, 827, 840, 863, 886, 909] : List Int).length : Int) ≤ (nI k).toInt then 922 else (([164, 187, 220, 253, 276, 309, 372, 395, 408, 421, 434, 457, 480, 503, 526, 550, 563, 596, 619, 632, 665, 708, 761, 794, 827, 840, 863, 886, 909] : List Int).getD ((nI k).toInt - 0).toNat 0).toNat) = swT k := by decide +kernel
theorem law_of {d L : Nat} {xs : Nat → Int32} {S : mS} {I : mI} {Lm : mL} {R : mR} (hL : L ≤ 6) (F : Fsh L xs S I R) (hh : L = 6 → Ev (d + 20) 248 550 [.ref 0, .ref 4, .ref 54, .int 0] [] S I Lm R lawQ ∧ Ev (d + 20) 248 563 [.ref 0, .ref 4, .ref 54, .int 0] [] S I Lm R lawQ ∧ Ev (d + 20) 248 596 [.ref 0, .ref 4, .ref 54, .int 0] [] S I Lm R lawQ ∧ Ev (d + 20) 248 619 [.ref 0, .ref 4, .ref 54, .int 0] [] S I Lm R lawQ ∧ Ev (d + 20) 248 827 [.ref 0, .ref 4, .ref 54, .int 0] [] S I Lm R lawQ) : Ev (d + 20) 248 18 [.ref 0, .ref 4, .ref 54, .int 0] [] S I Lm R lawQ := by
  obtain ⟨⟨⟨hS, hR⟩, hn, hu⟩, hI, hN, ⟨hk, hl⟩, hx⟩ := id F
  have k0A : okA S 0 := ⟨by rw [hn]; decide, by rw [hk]; decide⟩
  have k0I : okI S 0 = True := eq_true ⟨by rw [hn]; decide, Or.inr hk⟩
  by_cases h6 : L = 6
  · subst h6
    obtain ⟨h15, h16, h17, h18, h24⟩ := hh rfl
    have e6 : nI 6 = 6 := rfl
    obtain ⟨k, hk32, ek⟩ : ∃ k, k < 32 ∧ xs 0 &&& 31 = nI k := ⟨_, Nat.mod_lt _ (by decide), pk_and (xs 0) 5 (by decide)⟩
    simp only [E248_18, E248_19, E248_20, E248_21, E248_23, E248_24, E248_27, E248_28, E248_29, E248_30, E248_32, E248_33, k0A, k0I, hl, e6, hx, inb_is, rfs, rfn, cs0, csi, csl, csr, csn, kti, ktl, ktr, ktn, ktv, ktf, true_and, and_true, and_self, ↓reduceIte, Nat.reduceAdd, Nat.reduceSub, Nat.reduceMul, Nat.reduceLT, Nat.reduceLeDiff, Nat.reduceEqDiff, true_or, or_true, false_or, or_false, not_true_eq_false, not_false_eq_true, reduceCtorEq, cmp_lt, cmp_gt, cmp_eq, Int32.reduceAdd, Int32.reduceSub, Int32.reduceMul, Int32.reduceLT, Int32.reduceToNatClampNeg, eq_self, ne_eq, Int64.reduceAdd, Int64.reduceSub, Int64.reduceMul, Int64.reduceLT, ek, sw_law k hk32]
    match k, hk32 with
    | 0, _ => exact kc0 F
    | 1, _ => exact kc1 F
    | 2, _ => exact kc2 F
    | 3, _ => exact kc3 F
    | 4, _ => exact kc4 F
    | 5, _ => exact kc5 F
    | 6, _ => exact kc6 F
    | 7, _ => exact kc7 F
    | 8, _ => exact kc8 F
    | 9, _ => exact kc9 F
    | 10, _ => exact kc10 F
    | 11, _ => exact kc11 F
    | 12, _ => exact kc12 F
    | 13, _ => exact kc13 F
    | 14, _ => exact kc14 F
    | 15, _ => exact h15
    | 16, _ => exact h16
    | 17, _ => exact h17
    | 18, _ => exact h18
    | 19, _ => exact kc19 F
    | 20, _ => exact kc20 F
    | 21, _ => exact kc21 F
    | 22, _ => exact kc22 F
    | 23, _ => exact kc23 F
    | 24, _ => exact h24
    | 25, _ => exact kc25 F
    | 26, _ => exact kc26 F
    | 27, _ => exact kc27 F
    | 28, _ => exact kc28 F
    | 29, _ => exact of_eq_true (law_e k0A hl (by rw [hn]; decide) (by rw [hu]; decide) _ _ _)
    | 30, _ => exact of_eq_true (law_e k0A hl (by rw [hn]; decide) (by rw [hu]; decide) _ _ _)
    | 31, _ => exact of_eq_true (law_e k0A hl (by rw [hn]; decide) (by rw [hu]; decide) _ _ _)
    | k + 32, h9 => exact absurd h9 (by omega)
  · have e : ((nI L - 6 : Int32) < 0) = True := eq_true ((by decide : ∀ L, L < 6 → (nI L - 6 : Int32) < 0) L (by omega))
    simp only [E248_18, E248_19, E248_20, E248_21, E248_23, E248_24, E248_928, E248_929, k0A, hl, e, rfs, rfn, cs0, csi, csl, csr, csn, kti, ktl, ktr, ktn, ktv, ktf, true_and, and_true, and_self, ↓reduceIte, Nat.reduceAdd, Nat.reduceSub, Nat.reduceMul, Nat.reduceLT, Nat.reduceLeDiff, Nat.reduceEqDiff, true_or, or_true, false_or, or_false, not_true_eq_false, not_false_eq_true, reduceCtorEq, cmp_lt, cmp_gt, cmp_eq, Int32.reduceAdd, Int32.reduceSub, Int32.reduceMul, Int32.reduceLT, Int32.reduceToNatClampNeg, eq_self, ne_eq, Int64.reduceAdd, Int64.reduceSub, Int64.reduceMul, Int64.reduceLT, lawQ]
    exact ⟨by rw [hn]; decide, by rw [hu]; decide⟩
