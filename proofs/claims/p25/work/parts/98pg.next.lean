/-! group G (p25): the reference's order, the next one -/
def sg (o : Nat → Nat) : Nat → Nat → List Nat
  | _, 0 => []
  | k, m + 1 => o k :: sg o (k + 1) m
section GN
variable {d n : Nat} {S : mS} {I : mI} {L : mL} {R : mR} {Q : mQ} {o : Nat → Nat}
theorem sg_ap : ∀ (a b k : Nat), sg o k (a + b) = sg o k a ++ sg o (k + a) b
  | 0, b, k => by
    rw [Nat.zero_add, Nat.add_zero]
    rfl
  | a + 1, b, k => by
    rw [show a + 1 + b = (a + b) + 1 by omega]
    show o k :: sg o (k + 1) (a + b) = o k :: (sg o (k + 1) a ++ sg o (k + (a + 1)) b)
    rw [sg_ap a b (k + 1), show k + 1 + a = k + (a + 1) by omega]
theorem sg_cg {g : Nat → Nat} : ∀ (m k : Nat), (∀ j, k ≤ j → j < k + m → g j = o j) → sg g k m = sg o k m
  | 0, _, _ => rfl
  | m + 1, k, h => by
    show g k :: sg g (k + 1) m = o k :: sg o (k + 1) m
    rw [h k (Nat.le_refl k) (by omega), sg_cg m (k + 1) (fun j h1 h2 => h j (by omega) (by omega))]
theorem sg_rv {g : Nat → Nat} : ∀ (m k k' : Nat), (∀ j, j < m → g (k + j) = o (k' + (m - 1 - j))) → sg g k m = (sg o k' m).reverse
  | 0, _, _, _ => rfl
  | m + 1, k, k', h => by
    have e : sg o k' (m + 1) = sg o k' m ++ [o (k' + m)] := sg_ap m 1 k'
    rw [e, List.reverse_append]
    have h0 := h 0 (by omega)
    rw [Nat.add_zero, show m + 1 - 1 - 0 = m by omega] at h0
    show g k :: sg g (k + 1) m = o (k' + m) :: (sg o k' m).reverse
    rw [h0, sg_rv m (k + 1) k' (fun j hj => by
      have := h (j + 1) (by omega)
      rw [show k + 1 + j = k + (j + 1) by omega, this, show m + 1 - 1 - (j + 1) = m - 1 - j by omega])]
theorem sg_mem {x : Nat} : ∀ (m k : Nat), x ∈ sg o k m ↔ ∃ j, k ≤ j ∧ j < k + m ∧ o j = x
  | 0, k => ⟨fun h => (by cases h), fun ⟨j, h1, h2, _⟩ => absurd h2 (by omega)⟩
  | m + 1, k => by
    show x ∈ o k :: sg o (k + 1) m ↔ _
    rw [List.mem_cons, sg_mem m (k + 1)]
    constructor
    · rintro (e | ⟨j, h1, h2, e⟩)
      · exact ⟨k, Nat.le_refl k, by omega, e.symm⟩
      · exact ⟨j, by omega, by omega, e⟩
    · rintro ⟨j, h1, h2, e⟩
      by_cases g : j = k
      · exact Or.inl (by rw [← e, g])
      · exact Or.inr ⟨j, by omega, by omega, e⟩
theorem sg_len : ∀ (m k : Nat), (sg o k m).length = m
  | 0, _ => rfl
  | m + 1, k => by
    show (sg o (k + 1) m).length + 1 = m + 1
    rw [sg_len m (k + 1)]
theorem sg_pw {P : Nat → Nat → Prop} : ∀ (m k : Nat), (∀ i j, k ≤ i → i < j → j < k + m → P (o i) (o j)) → (sg o k m).Pairwise P
  | 0, _, _ => List.Pairwise.nil
  | m + 1, k, h => List.pairwise_cons.mpr ⟨fun x hx => by
    obtain ⟨j, h1, h2, e⟩ := (sg_mem m (k + 1)).mp hx
    rw [← e]
    exact h k j (Nat.le_refl k) (by omega) (by omega), sg_pw m (k + 1) (fun i j h1 h2 h3 => h i j (by omega) h2 (by omega))⟩
theorem desc_all {k : Nat} (h : ∀ i, k < i → i + 1 < n → o (i + 1) < o i) : ∀ (q i : Nat), k < i → i + (q + 1) < n → o (i + (q + 1)) < o i
  | 0, i, h1, h2 => h i h1 h2
  | q + 1, i, h1, h2 => by
    have a := desc_all h q i h1 (by omega)
    have b := h (i + (q + 1)) (by omega) (by omega)
    rw [show i + (q + 1 + 1) = i + (q + 1) + 1 by omega]
    omega
theorem desc_lt {k i j : Nat} (h : ∀ i, k < i → i + 1 < n → o (i + 1) < o i) (h1 : k < i) (h2 : i < j) (h3 : j < n) : o j < o i := by
  have := desc_all h (j - i - 1) i h1 (by omega)
  rw [show i + (j - i - 1 + 1) = j by omega] at this
  exact this
theorem no3E {k : Nat} {o : Nat → Nat} {y2 : Value} {y3 : Int32} (hS : Pm S) (hR : Pr R) (hn : n ≤ 8) (hq : ∀ J o', Odr J n o' → (∀ j, j ≤ k → o' j = o j) → (∀ j, k < j → j < n → o' j = o (k + n - j)) → (∀ a, ¬ a = 81 → J a = I a) → Q (.int (bI true)) S J L R) : ∀ (q a b : Nat) (J : mI) (o' : Nat → Nat), b + 1 ≤ a + q → k < a → a ≤ n → b < n → a + b = k + n → Odr J n o' → (∀ j, j ≤ k → o' j = o j) → (∀ j, k < j → j < n → (j < a ∨ b < j) → o' j = o (k + n - j)) → (∀ j, a ≤ j → j ≤ b → o' j = o j) → (∀ a, ¬ a = 81 → J a = I a) → Ev (d + 2) 225 85 [.ref 54, .int (nI n), y2, .int y3, .int (nI a), .int (nI b)] [] S J L R Q := by
  have out : ∀ (a b : Nat) (J : mI) (o' : Nat → Nat), ¬ a < b → k < a → a ≤ n → b < n → a + b = k + n → Odr J n o' → (∀ j, j ≤ k → o' j = o j) → (∀ j, k < j → j < n → (j < a ∨ b < j) → o' j = o (k + n - j)) → (∀ j, a ≤ j → j ≤ b → o' j = o j) → (∀ a, ¬ a = 81 → J a = I a) → Ev (d + 2) 225 85 [.ref 54, .int (nI n), y2, .int y3, .int (nI a), .int (nI b)] [] S J L R Q := by
    intro a b J o' g h2 h3 h4 hab h5 h6 h8 h9 h7
    have e1 : (nI a < nI b) = False := eq_false (nI_nlt (by omega) (by omega))
    simp only [E225_85, E225_87, E225_89, E225_109, E225_110, rfs, rfn, cs0, csi, csl, csr, csn, kti, ktl, ktr, ktn, ktv, ktf, true_and, and_true, and_self, ↓reduceIte, Nat.reduceAdd, Nat.reduceSub, Nat.reduceMul, Nat.reduceLT, Nat.reduceLeDiff, Nat.reduceEqDiff, true_or, or_true, false_or, or_false, not_true_eq_false, not_false_eq_true, reduceCtorEq, cmp_lt, cmp_gt, cmp_eq, Int32.reduceAdd, Int32.reduceSub, Int32.reduceMul, Int32.reduceLT, Int32.reduceToNatClampNeg, eq_self, ne_eq, Int64.reduceAdd, Int64.reduceSub, Int64.reduceMul, Int64.reduceLT, e1]
    refine hq J o' h5 h6 (fun j j1 j2 => ?_) h7
    by_cases c : j < a ∨ b < j
    · exact h8 j j1 j2 c
    · rw [h9 j (by omega) (by omega), show k + n - j = j by omega]
  intro q
  induction q with
  | zero =>
    intro a b J o' h1 h2 h3 h4 hab h5 h6 h8 h9 h7
    exact out a b J o' (by omega) h2 h3 h4 hab h5 h6 h8 h9 h7
  | succ q ih =>
    intro a b J o' h1 h2 h3 h4 hab h5 h6 h8 h9 h7
    by_cases g : a < b
    · have e1 : (nI a < nI b) = True := eq_true (nI_lt g (by omega))
      obtain ⟨b', rfl⟩ : ∃ b', b = b' + 1 := ⟨b - 1, by omega⟩
      rw [E225_85]
      simp only [E225_87, E225_89, E225_92, E225_93, E225_95, E225_97, E225_100, E225_103, E225_106, exc hS hR (show a < 8 by omega) (show b' + 1 < 8 by omega), pk54 hS, rfs, rfn, cs0, csi, csl, csr, csn, kti, ktl, ktr, ktn, ktv, ktf, true_and, and_true, and_self, ↓reduceIte, Nat.reduceAdd, Nat.reduceSub, Nat.reduceMul, Nat.reduceLT, Nat.reduceLeDiff, Nat.reduceEqDiff, true_or, or_true, false_or, or_false, not_true_eq_false, not_false_eq_true, reduceCtorEq, cmp_lt, cmp_gt, cmp_eq, Int32.reduceAdd, Int32.reduceSub, Int32.reduceMul, Int32.reduceLT, Int32.reduceToNatClampNeg, eq_self, ne_eq, Int64.reduceAdd, Int64.reduceSub, Int64.reduceMul, Int64.reduceLT, e1, nI_1, nI_a1, nI_m1]
      refine ih (a + 1) b' _ (swp o' a (b' + 1)) (by omega) (by omega) (by omega) (by omega) (by omega) (h5.swap (by omega) h4) (fun j hj => ?_) (fun j j1 j2 j3 => ?_) (fun j j1 j2 => ?_) (fun c hc => by rw [pt_n hc, pt_n hc]; exact h7 c hc)
      · unfold swp
        rw [if_neg (by omega), if_neg (by omega)]
        exact h6 j hj
      · unfold swp
        by_cases c1 : j = b' + 1
        · rw [if_pos c1, h9 a (Nat.le_refl a) (by omega), show k + n - j = a by omega]
        · rw [if_neg c1]
          by_cases c2 : j = a
          · rw [if_pos c2, h9 (b' + 1) (by omega) (Nat.le_refl _), show k + n - j = b' + 1 by omega]
          · rw [if_neg c2]
            exact h8 j j1 j2 (by omega)
      · unfold swp
        rw [if_neg (by omega), if_neg (by omega)]
        exact h9 j (by omega) (by omega)
    · exact out a b J o' g h2 h3 h4 hab h5 h6 h8 h9 h7
theorem no2E {k : Nat} {o : Nat → Nat} {y4 y5 : Value} (hS : Pm S) (hR : Pr R) (hn : n ≤ 8) (h : Odr I n o) (hk : k + 1 < n) (ho : o k < o (k + 1)) (hq : ∀ i, k < i → i < n → o k < o i → (∀ l, i < l → l < n → o l < o k) → Ev (d + 2) 225 69 [.ref 54, .int (nI n), .int (nI k), .int (nI i), y4, y5] [] S I L R Q) : ∀ (q i : Nat), i = k + 1 + q → i < n → (∀ l, i < l → l < n → o l < o k) → Ev (d + 2) 225 48 [.ref 54, .int (nI n), .int (nI k), .int (nI i), y4, y5] [] S I L R Q := by
  have k0 : inb (nI k) 8 = True := inb_nI (by omega) (by decide)
  have k1 : (nI k).toNatClampNeg = k := nI_clamp (by omega)
  obtain ⟨k2, k3⟩ := h.1 k (by omega)
  intro q
  induction q with
  | zero =>
    intro i hi hin hl
    have i0 : inb (nI i) 8 = True := inb_nI (by omega) (by decide)
    have i1 : (nI i).toNatClampNeg = i := nI_clamp (by omega)
    obtain ⟨i2, i3⟩ := h.1 i hin
    obtain rfl : i = k + 1 := by omega
    have e1 : (nI (o (k + 1)) < nI (o k)) = False := eq_false (nI_nlt (by omega) (by omega))
    simp only [E225_48, E225_49, E225_52, E225_53, E225_54, E225_55, E225_58, E225_59, E225_60, pk54 hS, pk81 hS, pl81 hS, pa81 hS, pi81 hS, pr54_63 hR, rfs, rfn, cs0, csi, csl, csr, csn, kti, ktl, ktr, ktn, ktv, ktf, true_and, and_true, and_self, ↓reduceIte, Nat.reduceAdd, Nat.reduceSub, Nat.reduceMul, Nat.reduceLT, Nat.reduceLeDiff, Nat.reduceEqDiff, true_or, or_true, false_or, or_false, not_true_eq_false, not_false_eq_true, reduceCtorEq, cmp_lt, cmp_gt, cmp_eq, Int32.reduceAdd, Int32.reduceSub, Int32.reduceMul, Int32.reduceLT, Int32.reduceToNatClampNeg, eq_self, ne_eq, Int64.reduceAdd, Int64.reduceSub, Int64.reduceMul, Int64.reduceLT, k0, k1, k3, i0, i1, i3, e1]
    exact hq (k + 1) (by omega) hin ho hl
  | succ q ih =>
    intro i hi hin hl
    have i0 : inb (nI i) 8 = True := inb_nI (by omega) (by decide)
    have i1 : (nI i).toNatClampNeg = i := nI_clamp (by omega)
    obtain ⟨i2, i3⟩ := h.1 i hin
    by_cases g : o i < o k
    · have e1 : (nI (o i) < nI (o k)) = True := eq_true (nI_lt g (by omega))
      obtain ⟨i', rfl⟩ : ∃ i', i = i' + 1 := ⟨i - 1, by omega⟩
      rw [E225_48]
      simp only [E225_49, E225_52, E225_53, E225_54, E225_55, E225_58, E225_59, E225_60, E225_63, E225_66, pk54 hS, pk81 hS, pl81 hS, pa81 hS, pi81 hS, pr54_63 hR, rfs, rfn, cs0, csi, csl, csr, csn, kti, ktl, ktr, ktn, ktv, ktf, true_and, and_true, and_self, ↓reduceIte, Nat.reduceAdd, Nat.reduceSub, Nat.reduceMul, Nat.reduceLT, Nat.reduceLeDiff, Nat.reduceEqDiff, true_or, or_true, false_or, or_false, not_true_eq_false, not_false_eq_true, reduceCtorEq, cmp_lt, cmp_gt, cmp_eq, Int32.reduceAdd, Int32.reduceSub, Int32.reduceMul, Int32.reduceLT, Int32.reduceToNatClampNeg, eq_self, ne_eq, Int64.reduceAdd, Int64.reduceSub, Int64.reduceMul, Int64.reduceLT, k0, k1, k3, i0, i1, i3, e1, nI_a1, nI_m1]
      exact ih i' (by omega) (by omega) (fun l l1 l2 => by
        by_cases c : l = i' + 1
        · rw [c]; exact g
        · exact hl l (by omega) l2)
    · have e1 : (nI (o i) < nI (o k)) = False := eq_false (nI_nlt (by omega) (by omega))
      simp only [E225_48, E225_49, E225_52, E225_53, E225_54, E225_55, E225_58, E225_59, E225_60, pk54 hS, pk81 hS, pl81 hS, pa81 hS, pi81 hS, pr54_63 hR, rfs, rfn, cs0, csi, csl, csr, csn, kti, ktl, ktr, ktn, ktv, ktf, true_and, and_true, and_self, ↓reduceIte, Nat.reduceAdd, Nat.reduceSub, Nat.reduceMul, Nat.reduceLT, Nat.reduceLeDiff, Nat.reduceEqDiff, true_or, or_true, false_or, or_false, not_true_eq_false, not_false_eq_true, reduceCtorEq, cmp_lt, cmp_gt, cmp_eq, Int32.reduceAdd, Int32.reduceSub, Int32.reduceMul, Int32.reduceLT, Int32.reduceToNatClampNeg, eq_self, ne_eq, Int64.reduceAdd, Int64.reduceSub, Int64.reduceMul, Int64.reduceLT, k0, k1, k3, i0, i1, i3, e1]
      have := h.2 k i (by omega) hin
      exact hq i (by omega) hin (by omega) hl
theorem no1E {o : Nat → Nat} {y3 y4 y5 : Value} (hS : Pm S) (hR : Pr R) (hn : n ≤ 8) (h : Odr I n o) (h0 : (∀ i, i + 1 < n → o (i + 1) < o i) → Q (.int (bI false)) S I L R) (hq : ∀ k, k + 1 < n → o k < o (k + 1) → (∀ i, k < i → i + 1 < n → o (i + 1) < o i) → Ev (d + 2) 225 44 [.ref 54, .int (nI n), .int (nI k), y3, y4, y5] [] S I L R Q) : ∀ j, j < n → (∀ i, j ≤ i → i + 1 < n → o (i + 1) < o i) → Ev (d + 2) 225 11 [.ref 54, .int (nI n), .int (nI j - 1), y3, y4, y5] [] S I L R Q := by
  intro j
  induction j with
  | zero =>
    intro _ hd
    have e1 : (nI 0 - 1 < (0 : Int32)) = True := eq_true (by decide)
    simp only [E225_11, E225_12, E225_38, E225_39, E225_42, E225_43, rfs, rfn, cs0, csi, csl, csr, csn, kti, ktl, ktr, ktn, ktv, ktf, true_and, and_true, and_self, ↓reduceIte, Nat.reduceAdd, Nat.reduceSub, Nat.reduceMul, Nat.reduceLT, Nat.reduceLeDiff, Nat.reduceEqDiff, true_or, or_true, false_or, or_false, not_true_eq_false, not_false_eq_true, reduceCtorEq, cmp_lt, cmp_gt, cmp_eq, Int32.reduceAdd, Int32.reduceSub, Int32.reduceMul, Int32.reduceLT, Int32.reduceToNatClampNeg, eq_self, ne_eq, Int64.reduceAdd, Int64.reduceSub, Int64.reduceMul, Int64.reduceLT, e1]
    exact h0 (fun i hi => hd i (Nat.zero_le i) hi)
  | succ j ih =>
    intro hj hd
    have e1 : (nI j < (0 : Int32)) = False := eq_false (nI_pos (by omega))
    have k0 : inb (nI j) 8 = True := inb_nI (by omega) (by decide)
    have k1 : (nI j).toNatClampNeg = j := nI_clamp (by omega)
    obtain ⟨k2, k3⟩ := h.1 j (by omega)
    have i0 : inb (nI (j + 1)) 8 = True := inb_nI (by omega) (by decide)
    have i1 : (nI (j + 1)).toNatClampNeg = j + 1 := nI_clamp (by omega)
    obtain ⟨i2, i3⟩ := h.1 (j + 1) hj
    by_cases g : o (j + 1) < o j
    · have e2 : (nI (o (j + 1)) < nI (o j)) = True := eq_true (nI_lt g (by omega))
      rw [E225_11]
      simp only [E225_12, E225_15, E225_16, E225_19, E225_20, E225_21, E225_22, E225_25, E225_26, E225_27, E225_28, E225_29, E225_32, E225_35, pk54 hS, pk81 hS, pl81 hS, pa81 hS, pi81 hS, pr54_63 hR, rfs, rfn, cs0, csi, csl, csr, csn, kti, ktl, ktr, ktn, ktv, ktf, true_and, and_true, and_self, ↓reduceIte, Nat.reduceAdd, Nat.reduceSub, Nat.reduceMul, Nat.reduceLT, Nat.reduceLeDiff, Nat.reduceEqDiff, true_or, or_true, false_or, or_false, not_true_eq_false, not_false_eq_true, reduceCtorEq, cmp_lt, cmp_gt, cmp_eq, Int32.reduceAdd, Int32.reduceSub, Int32.reduceMul, Int32.reduceLT, Int32.reduceToNatClampNeg, eq_self, ne_eq, Int64.reduceAdd, Int64.reduceSub, Int64.reduceMul, Int64.reduceLT, nI_m1, nI_a1, nI_1, e1, k0, k1, k3, i0, i1, i3, e2]
      exact ih (by omega) (fun i h1 h2 => by
        by_cases c : i = j
        · rw [c]; exact g
        · exact hd i (by omega) h2)
    · have e2 : (nI (o (j + 1)) < nI (o j)) = False := eq_false (nI_nlt (by omega) (by omega))
      simp only [E225_11, E225_12, E225_15, E225_16, E225_19, E225_20, E225_21, E225_22, E225_25, E225_26, E225_27, E225_28, E225_29, E225_38, E225_39, pk54 hS, pk81 hS, pl81 hS, pa81 hS, pi81 hS, pr54_63 hR, rfs, rfn, cs0, csi, csl, csr, csn, kti, ktl, ktr, ktn, ktv, ktf, true_and, and_true, and_self, ↓reduceIte, Nat.reduceAdd, Nat.reduceSub, Nat.reduceMul, Nat.reduceLT, Nat.reduceLeDiff, Nat.reduceEqDiff, true_or, or_true, false_or, or_false, not_true_eq_false, not_false_eq_true, reduceCtorEq, cmp_lt, cmp_gt, cmp_eq, Int32.reduceAdd, Int32.reduceSub, Int32.reduceMul, Int32.reduceLT, Int32.reduceToNatClampNeg, eq_self, ne_eq, Int64.reduceAdd, Int64.reduceSub, Int64.reduceMul, Int64.reduceLT, nI_m1, nI_1, e1, k0, k1, k3, i0, i1, i3, e2]
      have := h.2 j (j + 1) (by omega) hj
      exact hq j hj (by omega) (fun i h1 h2 => hd i (by omega) h2)
/-- the next row, if there is one -/
def NxO (n : Nat) (o o' : Nat → Nat) (b : Bool) : Prop := (b = false ∧ ∀ r, r.Perm (sg o 0 n) → ¬ ltL (sg o 0 n) r) ∨ (b = true ∧ (sg o' 0 n).Perm (sg o 0 n) ∧ ltL (sg o 0 n) (sg o' 0 n) ∧ ∀ r, r.Perm (sg o 0 n) → ltL (sg o 0 n) r → sg o' 0 n = r ∨ ltL (sg o' 0 n) r)
theorem nxoE {o : Nat → Nat} (hS : Pm S) (hR : Pr R) (h1 : 1 ≤ n) (hn : n ≤ 8) (en : I 56 2 = nI n) (h : Odr I n o) (hq : ∀ b J o', Odr J n o' → NxO n o o' b → (b = true → nmb o n < nmb o' n) → (∀ a, ¬ a = 81 → J a = I a) → Q (.int (bI b)) S J L R) : EvM (d + 2) 225 [.ref 54] S I L R Q := by
  have z2 : inb 2 8060 = True := inb_nI (j := 2) (by decide) (by decide)
  obtain ⟨m, rfl⟩ : ∃ m, n = m + 1 := ⟨n - 1, by omega⟩
  have e2 : nI (m + 1) - 2 = nI m - 1 := nm2 (m + 1) (by omega) (by omega)
  simp only [M225, E225_0, E225_1, E225_4, E225_5, E225_6, E225_7, E225_8, E225_9, E225_10, pk54 hS, pk56 hS, pl56 hS, pa56 hS, pi56 hS, pr54_3 hR, rfs, rfn, cs0, csi, csl, csr, csn, kti, ktl, ktr, ktn, ktv, ktf, true_and, and_true, and_self, ↓reduceIte, Nat.reduceAdd, Nat.reduceSub, Nat.reduceMul, Nat.reduceLT, Nat.reduceLeDiff, Nat.reduceEqDiff, true_or, or_true, false_or, or_false, not_true_eq_false, not_false_eq_true, reduceCtorEq, cmp_lt, cmp_gt, cmp_eq, Int32.reduceAdd, Int32.reduceSub, Int32.reduceMul, Int32.reduceLT, Int32.reduceToNatClampNeg, eq_self, ne_eq, Int64.reduceAdd, Int64.reduceSub, Int64.reduceMul, Int64.reduceLT, z2, en, e2]
  refine no1E (d := d) hS hR hn h (fun hd => hq false I o h (Or.inl ⟨rfl, fun r hr => ltL_max (sg_pw (m + 1) 0 (fun i j _ i2 i3 => ?_)) hr⟩) (fun z => by cases z) (fun _ _ => rfl)) (fun k hk ho hd => ?_) m (by omega) (fun i i1 i2 => absurd i2 (by omega))
  · have q : ∀ (q i : Nat), i + (q + 1) < m + 1 → o (i + (q + 1)) < o i := fun q => by
      induction q with
      | zero => intro i hi; exact hd i hi
      | succ q ih =>
        intro i hi
        have a := ih i (by omega)
        have b := hd (i + (q + 1)) (by omega)
        rw [show i + (q + 1 + 1) = i + (q + 1) + 1 by omega]
        omega
    have := q (j - i - 1) i (by omega)
    rw [show i + (j - i - 1 + 1) = j by omega] at this
    exact this
  simp only [E225_44, E225_45, E225_46, E225_47, rfs, rfn, cs0, csi, csl, csr, csn, kti, ktl, ktr, ktn, ktv, ktf, true_and, and_true, and_self, ↓reduceIte, Nat.reduceAdd, Nat.reduceSub, Nat.reduceMul, Nat.reduceLT, Nat.reduceLeDiff, Nat.reduceEqDiff, true_or, or_true, false_or, or_false, not_true_eq_false, not_false_eq_true, reduceCtorEq, cmp_lt, cmp_gt, cmp_eq, Int32.reduceAdd, Int32.reduceSub, Int32.reduceMul, Int32.reduceLT, Int32.reduceToNatClampNeg, eq_self, ne_eq, Int64.reduceAdd, Int64.reduceSub, Int64.reduceMul, Int64.reduceLT, nI_m1]
  refine no2E (d := d) hS hR hn h hk ho (fun i i1 i2 i3 i4 => ?_) (m - k - 1) m (by omega) (by omega) (fun l l1 l2 => absurd l2 (by omega))
  simp only [E225_69, E225_70, E225_71, E225_72, E225_75, E225_76, E225_77, E225_78, E225_80, E225_81, E225_82, E225_83, exc hS hR (show k < 8 by omega) (show i < 8 by omega), pk54 hS, rfs, rfn, cs0, csi, csl, csr, csn, kti, ktl, ktr, ktn, ktv, ktf, true_and, and_true, and_self, ↓reduceIte, Nat.reduceAdd, Nat.reduceSub, Nat.reduceMul, Nat.reduceLT, Nat.reduceLeDiff, Nat.reduceEqDiff, true_or, or_true, false_or, or_false, not_true_eq_false, not_false_eq_true, reduceCtorEq, cmp_lt, cmp_gt, cmp_eq, Int32.reduceAdd, Int32.reduceSub, Int32.reduceMul, Int32.reduceLT, Int32.reduceToNatClampNeg, eq_self, ne_eq, Int64.reduceAdd, Int64.reduceSub, Int64.reduceMul, Int64.reduceLT, nI_1, nI_m1]
  refine no3E (d := d) (k := k) (o := swp o k i) (I := I) hS hR hn (fun J o' g1 g2 g4 g3 => hq true J o' g1 (Or.inr ?_) (fun _ => ?_) g3) (m + 1) (k + 1) m _ (swp o k i) (by omega) (by omega) (by omega) (by omega) (by omega) (h.swap (by omega) i2) (fun _ _ => rfl) (fun j j1 j2 j3 => absurd j3 (by omega)) (fun _ _ _ => rfl) (fun c hc => by rw [pt_n hc, pt_n hc])
  · have sk : swp o k i k = o i := by
      unfold swp
      rw [if_neg (by omega), if_pos rfl]
    have si : swp o k i i = o k := if_pos rfl
    have so : ∀ j, ¬ j = k → ¬ j = i → swp o k i j = o j := fun j c1 c2 => by
      unfold swp
      rw [if_neg c2, if_neg c1]
    have e0 : sg o 0 (m + 1) = sg o 0 k ++ o k :: (sg o (k + 1) (i - k - 1) ++ o i :: sg o (i + 1) (m - i)) := by
      rw [show m + 1 = k + ((i - k - 1 + (m - i + 1)) + 1) by omega, sg_ap, Nat.zero_add]
      show _ ++ o k :: sg o (k + 1) (i - k - 1 + (m - i + 1)) = _
      rw [sg_ap, show k + 1 + (i - k - 1) = i by omega]
      rfl
    have e1 : sg o' 0 (m + 1) = sg o 0 k ++ o i :: ((sg o (i + 1) (m - i)).reverse ++ o k :: (sg o (k + 1) (i - k - 1)).reverse) := by
      rw [show m + 1 = k + ((m - k) + 1) by omega, sg_ap, Nat.zero_add]
      show _ ++ o' k :: sg o' (k + 1) (m - k) = _
      rw [sg_cg (o := o) k 0 (fun j _ j2 => by rw [g2 j (by omega)]; exact so j (by omega) (by omega)), g2 k (Nat.le_refl k), sk]
      rw [sg_rv (o := swp o k i) (m - k) (k + 1) (k + 1) (fun j hj => by rw [g4 (k + 1 + j) (by omega) (by omega)]; congr 1; omega)]
      rw [show m - k = (i - k - 1) + ((m - i) + 1) by omega, sg_ap, show k + 1 + (i - k - 1) = i by omega]
      show _ ++ o i :: (_ ++ (swp o k i i :: sg (swp o k i) (i + 1) (m - i))).reverse = _
      rw [si, sg_cg (o := o) (i - k - 1) (k + 1) (fun j j1 j2 => so j (by omega) (by omega)), sg_cg (o := o) (m - i) (i + 1) (fun j j1 j2 => so j (by omega) (by omega)), List.reverse_append, List.reverse_cons, List.append_assoc]
      rfl
    have dd : (sg o (k + 1) (i - k - 1) ++ o i :: sg o (i + 1) (m - i)).Pairwise (fun x y => y < x) := by
      have e3 : sg o (k + 1) (i - k - 1) ++ o i :: sg o (i + 1) (m - i) = sg o (k + 1) (m - k) := by
        rw [show m - k = (i - k - 1) + ((m - i) + 1) by omega, sg_ap, show k + 1 + (i - k - 1) = i by omega]
        rfl
      rw [e3]
      exact sg_pw (m - k) (k + 1) (fun x y x1 x2 x3 => desc_lt hd (by omega) x2 (by omega))
    have l2 : ∀ z, z ∈ sg o (i + 1) (m - i) → z < o k := fun z hz => by
      obtain ⟨j, j1, j2, e⟩ := (sg_mem _ _).mp hz
      rw [← e]
      exact i4 j (by omega) (by omega)
    rw [e0, e1]
    refine ⟨rfl, ?_, ltL_ap i3 _, fun r hr hl => ltL_nx dd i3 l2 _ hr hl⟩
    refine List.Perm.append_left _ ?_
    have p1 : ((sg o (i + 1) (m - i)).reverse ++ o k :: (sg o (k + 1) (i - k - 1)).reverse).Perm (o k :: (sg o (k + 1) (i - k - 1) ++ sg o (i + 1) (m - i))) := List.perm_middle.trans (List.Perm.cons _ ((List.Perm.append (List.reverse_perm _) (List.reverse_perm _)).trans List.perm_append_comm))
    exact (List.Perm.cons (o i) p1).trans ((List.Perm.swap _ _ _).trans (List.Perm.cons _ List.perm_middle.symm))
  · refine nmb_lt (k := k) (m + 1) (by omega) (fun j hj => ?_) ?_ (fun j hj => by have := (h.1 j hj).1; omega)
    · rw [g2 j (by omega)]
      unfold swp
      rw [if_neg (by omega), if_neg (by omega)]
    · rw [g2 k (by omega)]
      unfold swp
      rw [if_neg (by omega), if_pos rfl]
      exact i3
end GN
