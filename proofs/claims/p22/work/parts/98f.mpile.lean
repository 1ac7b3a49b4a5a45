/-! the reference's reader: the pile -/
def Opv (x : Int32) : Prop := x = 20 ∨ x = 21 ∨ x = 24 ∨ x = 25 ∨ x = 26 ∨ x = 27 ∨ x = 28 ∨ x = 29 ∨ x = 30 ∨ x = 31 ∨ x = 32 ∨ x = 33
def bn1 (x : Int32) : Nat := if x = 27 ∨ ¬ x < 30 then 0 else 1
def Bc (P : Nat → Int32) : Nat → Nat
  | 0 => 0
  | p + 1 => Bc P p + bn1 (P p)
def bnF (x : Int32) : Int32 := if x < 30 then (if x = 29 then 1 else if x = 28 then 2 else if x = 27 then 3 else if x < 24 then 5 else 4) else 0
def PlO (P : Nat → Int32) (p : Nat) : Prop := (∀ i, i < p → Opv (P i)) ∧ ∀ i j, i < j → j < p → 30 < P i → (P j = 20 ∨ P j = 21 ∨ 30 < P j)
theorem PlO.mono {P : Nat → Int32} {p q : Nat} (h : PlO P p) (hq : q ≤ p) : PlO P q := ⟨fun i hi => h.1 i (by omega), fun i j h1 h2 => h.2 i j h1 (by omega)⟩
theorem Bc.cg {P P' : Nat → Int32} : ∀ p, (∀ i, i < p → P' i = P i) → Bc P' p = Bc P p := by
  intro p
  induction p with
  | zero => intro _; rfl
  | succ p ih =>
    intro e
    show Bc P' p + bn1 (P' p) = Bc P p + bn1 (P p)
    rw [ih (fun i hi => e i (by omega)), e p (by omega)]
theorem PlO.up {P : Nat → Int32} {p : Nat} {x : Int32} (h : PlO P p) (hx : Opv x) (h2 : (∀ i, i < p → ¬ 30 < P i) ∨ x = 20 ∨ x = 21 ∨ 30 < x) : PlO (va_up P p x) (p + 1) := by
  refine ⟨fun i hi => ?_, fun i j h1 h3 h4 => ?_⟩
  · by_cases e : i = p
    · rw [e, uu_s]; exact hx
    · rw [uu_n _ _ e]; exact h.1 i (by omega)
  · rw [uu_n _ _ (show ¬ i = p by omega)] at h4
    by_cases e : j = p
    · rw [e, uu_s]
      rcases h2 with h2 | h2
      · exact absurd h4 (h2 i (by omega))
      · exact h2
    · rw [uu_n _ _ e]
      exact h.2 i j h1 (by omega) h4
theorem Bc.up {P : Nat → Int32} {p : Nat} {x : Int32} : Bc (va_up P p x) (p + 1) = Bc P p + bn1 x := by
  show Bc (va_up P p x) p + bn1 (va_up P p x p) = _
  rw [uu_s, Bc.cg p (fun i hi => uu_n _ _ (by omega))]
theorem Dp.put {O O' : Nat → Int32} {a nc m n : Nat} {x : Int32} (h : Dp O a (nc - a) m) (ha : a ≤ nc) (e : ∀ k, k < nc → O' k = O k) (ex : O' nc = x) (hx : dst x m n) : Dp O' a (nc + 1 - a) n := by
  rw [show nc + 1 - a = nc - a + 1 by omega]
  refine ⟨m, h.cg _ (fun k hk => e _ (by omega)), ?_⟩
  rw [show a + (nc - a) = nc by omega, ex]
  exact hx
theorem dst_pop {x : Int32} {m : Nat} (hx : Opv x) (hb : x < 30) : dst x (m + bn1 x + 1) (m + 1) := by
  rcases hx with rfl | rfl | rfl | rfl | rfl | rfl | rfl | rfl | rfl | rfl | rfl | rfl
  · exact Or.inr (Or.inr ⟨by decide, by decide, by decide, by show 2 ≤ m + 1 + 1; omega, by show m + 1 + 1 = m + 1 + 1; rfl⟩)
  · exact Or.inr (Or.inr ⟨by decide, by decide, by decide, by show 2 ≤ m + 1 + 1; omega, by show m + 1 + 1 = m + 1 + 1; rfl⟩)
  · exact Or.inr (Or.inr ⟨by decide, by decide, by decide, by show 2 ≤ m + 1 + 1; omega, by show m + 1 + 1 = m + 1 + 1; rfl⟩)
  · exact Or.inr (Or.inr ⟨by decide, by decide, by decide, by show 2 ≤ m + 1 + 1; omega, by show m + 1 + 1 = m + 1 + 1; rfl⟩)
  · exact Or.inr (Or.inr ⟨by decide, by decide, by decide, by show 2 ≤ m + 1 + 1; omega, by show m + 1 + 1 = m + 1 + 1; rfl⟩)
  · exact Or.inr (Or.inl ⟨by decide, Or.inl rfl, by show 1 ≤ m + 0 + 1; omega, by show m + 1 = m + 0 + 1; rfl⟩)
  · exact Or.inr (Or.inr ⟨by decide, by decide, by decide, by show 2 ≤ m + 1 + 1; omega, by show m + 1 + 1 = m + 1 + 1; rfl⟩)
  · exact Or.inr (Or.inr ⟨by decide, by decide, by decide, by show 2 ≤ m + 1 + 1; omega, by show m + 1 + 1 = m + 1 + 1; rfl⟩)
  all_goals exact absurd hb (by decide)
theorem bnF0 {x : Int32} (h : ¬ x < 30) : bnF x = 0 := if_neg h
theorem bnFb {x least : Int32} (hl : 0 < least) (h : ¬ bnF x < least) : x < 30 := Classical.byContradiction (fun z => h (by rw [bnF0 z]; exact hl))
theorem bnF1 {x : Int32} (h : bnF x < 1) : ¬ x < 30 := fun z => by
  unfold bnF at h
  rw [if_pos z] at h
  by_cases e1 : x = 29
  · rw [if_pos e1] at h; exact absurd h (by decide)
  rw [if_neg e1] at h
  by_cases e2 : x = 28
  · rw [if_pos e2] at h; exact absurd h (by decide)
  rw [if_neg e2] at h
  by_cases e3 : x = 27
  · rw [if_pos e3] at h; exact absurd h (by decide)
  rw [if_neg e3] at h
  by_cases e4 : x < 24
  · rw [if_pos e4] at h; exact absurd h (by decide)
  rw [if_neg e4] at h; exact absurd h (by decide)
theorem bnF5 {x : Int32} (h : x = 20 ∨ x = 21) : ¬ bnF x < 5 := by
  rcases h with rfl | rfl <;> decide
def Fs (I J : mI) (a : Nat) : Prop := (∀ b, ¬ b = 54 → ¬ b = 60 → ¬ b = 61 → J b = I b) ∧ (∀ k, ¬ k = 15 → ¬ k = 19 → J 54 k = I 54 k) ∧ ∀ k, k < a → J 60 k = I 60 k
theorem Fs.rf {I : mI} {a : Nat} : Fs I I a := ⟨fun _ _ _ _ => rfl, fun _ _ _ => rfl, fun _ _ => rfl⟩
theorem Fs.tr {I J K : mI} {a b : Nat} (h : Fs I J a) (h2 : Fs J K b) (hb : a ≤ b) : Fs I K a := ⟨fun c h1 h3 h4 => (h2.1 c h1 h3 h4).trans (h.1 c h1 h3 h4), fun k h1 h3 => (h2.2.1 k h1 h3).trans (h.2.1 k h1 h3), fun k h1 => (h2.2.2 k (by omega)).trans (h.2.2 k h1)⟩
section PI
variable {d a : Nat} {S : mS} {I : mI} {L : mL} {R : mR} {Q : mQ}
theorem emt {nc : Nat} {op arg : Int32} (hS : Pm S) (hR : Pr R) (e : I 54 15 = nI nc) (h : nc < 400) : EvM (d + 1) 166 [.ref 54, .int op, .int arg] S I L R Q = Q .null S (put (put (put I 60 nc op) 61 nc arg) 54 15 (nI (nc + 1))) L R := by
  have a0 : inb (nI nc) 400 = True := inb_nI (by omega) (by decide)
  have b0 : (nI nc).toNatClampNeg = nc := nI_clamp (by omega)
  simp only [M166, E166_0, E166_1, E166_4, E166_5, E166_8, E166_9, E166_10, E166_11, E166_14, E166_15, E166_18, E166_19, E166_20, E166_21, E166_22, E166_25, E166_26, E166_27, E166_30, pk54 hS, pk60 hS, pl60 hS, pa60 hS, pi60 hS, pk61 hS, pl61 hS, pa61 hS, pi61 hS, pr54_16 hR, pr54_17 hR, rfs, rfn, cs0, csi, csl, csr, csn, kti, ktl, ktr, ktn, ktv, ktf, true_and, and_true, and_self, ↓reduceIte, Nat.reduceAdd, Nat.reduceSub, Nat.reduceMul, Nat.reduceLT, Nat.reduceLeDiff, Nat.reduceEqDiff, true_or, or_true, false_or, or_false, not_true_eq_false, not_false_eq_true, reduceCtorEq, cmp_lt, cmp_gt, cmp_eq, Int32.reduceAdd, Int32.reduceSub, Int32.reduceMul, Int32.reduceLT, Int32.reduceToNatClampNeg, eq_self, ne_eq, Int64.reduceAdd, Int64.reduceSub, Int64.reduceMul, Int64.reduceLT, pt, pt_m, e, a0, b0, nI_1]
theorem psh_m {p : Nat} {op : Int32} (hS : Pm S) (hR : Pr R) (e : I 54 19 = nI p) (h : p < 400) : EvM (d + 1) 167 [.ref 54, .int op] S I L R Q = Q .null S (put (put I 62 p op) 54 19 (nI (p + 1))) L R := by
  have a0 : inb (nI p) 400 = True := inb_nI (by omega) (by decide)
  have b0 : (nI p).toNatClampNeg = p := nI_clamp (by omega)
  simp only [M167, E167_0, E167_1, E167_4, E167_5, E167_8, E167_9, E167_10, E167_11, E167_12, E167_15, E167_16, E167_17, E167_20, pk54 hS, pk62 hS, pl62 hS, pa62 hS, pi62 hS, pr54_18 hR, rfs, rfn, cs0, csi, csl, csr, csn, kti, ktl, ktr, ktn, ktv, ktf, true_and, and_true, and_self, ↓reduceIte, Nat.reduceAdd, Nat.reduceSub, Nat.reduceMul, Nat.reduceLT, Nat.reduceLeDiff, Nat.reduceEqDiff, true_or, or_true, false_or, or_false, not_true_eq_false, not_false_eq_true, reduceCtorEq, cmp_lt, cmp_gt, cmp_eq, Int32.reduceAdd, Int32.reduceSub, Int32.reduceMul, Int32.reduceLT, Int32.reduceToNatClampNeg, eq_self, ne_eq, Int64.reduceAdd, Int64.reduceSub, Int64.reduceMul, Int64.reduceLT, pt, pt_m, e, a0, b0, nI_1]
theorem bnd_m {x : Int32} : EvM (d + 1) 168 [.int x] S I L R Q = Q (.int (bnF x)) S I L R := by
  have e : bnF x = if x < 30 then (if x = 29 then 1 else if x = 28 then 2 else if x = 27 then 3 else if x < 24 then 5 else 4) else 0 := rfl
  rw [e]
  by_cases h1 : x < 30
  · by_cases h2 : x = 29
    · have h2' : (x = 29) = True := eq_true h2
      simp only [M168, E168_0, E168_1, E168_3, E168_6, E168_7, E168_10, E168_11, E168_13, E168_16, E168_17, E168_20, E168_21, E168_23, E168_26, E168_27, E168_30, E168_31, E168_33, E168_36, E168_37, E168_40, E168_41, E168_43, E168_46, E168_47, E168_50, E168_51, rfs, rfn, cs0, csi, csl, csr, csn, kti, ktl, ktr, ktn, ktv, ktf, true_and, and_true, and_self, ↓reduceIte, Nat.reduceAdd, Nat.reduceSub, Nat.reduceMul, Nat.reduceLT, Nat.reduceLeDiff, Nat.reduceEqDiff, true_or, or_true, false_or, or_false, not_true_eq_false, not_false_eq_true, reduceCtorEq, cmp_lt, cmp_gt, cmp_eq, Int32.reduceAdd, Int32.reduceSub, Int32.reduceMul, Int32.reduceLT, Int32.reduceToNatClampNeg, eq_self, ne_eq, Int64.reduceAdd, Int64.reduceSub, Int64.reduceMul, Int64.reduceLT, h1, h2']
    by_cases h3 : x = 28
    · have h3' : (x = 28) = True := eq_true h3
      simp only [M168, E168_0, E168_1, E168_3, E168_6, E168_7, E168_10, E168_11, E168_13, E168_16, E168_17, E168_20, E168_21, E168_23, E168_26, E168_27, E168_30, E168_31, E168_33, E168_36, E168_37, E168_40, E168_41, E168_43, E168_46, E168_47, E168_50, E168_51, rfs, rfn, cs0, csi, csl, csr, csn, kti, ktl, ktr, ktn, ktv, ktf, true_and, and_true, and_self, ↓reduceIte, Nat.reduceAdd, Nat.reduceSub, Nat.reduceMul, Nat.reduceLT, Nat.reduceLeDiff, Nat.reduceEqDiff, true_or, or_true, false_or, or_false, not_true_eq_false, not_false_eq_true, reduceCtorEq, cmp_lt, cmp_gt, cmp_eq, Int32.reduceAdd, Int32.reduceSub, Int32.reduceMul, Int32.reduceLT, Int32.reduceToNatClampNeg, eq_self, ne_eq, Int64.reduceAdd, Int64.reduceSub, Int64.reduceMul, Int64.reduceLT, h1, h2, h3']
    by_cases h4 : x = 27
    · have h4' : (x = 27) = True := eq_true h4
      simp only [M168, E168_0, E168_1, E168_3, E168_6, E168_7, E168_10, E168_11, E168_13, E168_16, E168_17, E168_20, E168_21, E168_23, E168_26, E168_27, E168_30, E168_31, E168_33, E168_36, E168_37, E168_40, E168_41, E168_43, E168_46, E168_47, E168_50, E168_51, rfs, rfn, cs0, csi, csl, csr, csn, kti, ktl, ktr, ktn, ktv, ktf, true_and, and_true, and_self, ↓reduceIte, Nat.reduceAdd, Nat.reduceSub, Nat.reduceMul, Nat.reduceLT, Nat.reduceLeDiff, Nat.reduceEqDiff, true_or, or_true, false_or, or_false, not_true_eq_false, not_false_eq_true, reduceCtorEq, cmp_lt, cmp_gt, cmp_eq, Int32.reduceAdd, Int32.reduceSub, Int32.reduceMul, Int32.reduceLT, Int32.reduceToNatClampNeg, eq_self, ne_eq, Int64.reduceAdd, Int64.reduceSub, Int64.reduceMul, Int64.reduceLT, h1, h2, h3, h4']
    by_cases h5 : x < 24
    · simp only [M168, E168_0, E168_1, E168_3, E168_6, E168_7, E168_10, E168_11, E168_13, E168_16, E168_17, E168_20, E168_21, E168_23, E168_26, E168_27, E168_30, E168_31, E168_33, E168_36, E168_37, E168_40, E168_41, E168_43, E168_46, E168_47, E168_50, E168_51, rfs, rfn, cs0, csi, csl, csr, csn, kti, ktl, ktr, ktn, ktv, ktf, true_and, and_true, and_self, ↓reduceIte, Nat.reduceAdd, Nat.reduceSub, Nat.reduceMul, Nat.reduceLT, Nat.reduceLeDiff, Nat.reduceEqDiff, true_or, or_true, false_or, or_false, not_true_eq_false, not_false_eq_true, reduceCtorEq, cmp_lt, cmp_gt, cmp_eq, Int32.reduceAdd, Int32.reduceSub, Int32.reduceMul, Int32.reduceLT, Int32.reduceToNatClampNeg, eq_self, ne_eq, Int64.reduceAdd, Int64.reduceSub, Int64.reduceMul, Int64.reduceLT, h1, h2, h3, h4, h5]
    · simp only [M168, E168_0, E168_1, E168_3, E168_6, E168_7, E168_10, E168_11, E168_13, E168_16, E168_17, E168_20, E168_21, E168_23, E168_26, E168_27, E168_30, E168_31, E168_33, E168_36, E168_37, E168_40, E168_41, E168_43, E168_46, E168_47, E168_50, E168_51, rfs, rfn, cs0, csi, csl, csr, csn, kti, ktl, ktr, ktn, ktv, ktf, true_and, and_true, and_self, ↓reduceIte, Nat.reduceAdd, Nat.reduceSub, Nat.reduceMul, Nat.reduceLT, Nat.reduceLeDiff, Nat.reduceEqDiff, true_or, or_true, false_or, or_false, not_true_eq_false, not_false_eq_true, reduceCtorEq, cmp_lt, cmp_gt, cmp_eq, Int32.reduceAdd, Int32.reduceSub, Int32.reduceMul, Int32.reduceLT, Int32.reduceToNatClampNeg, eq_self, ne_eq, Int64.reduceAdd, Int64.reduceSub, Int64.reduceMul, Int64.reduceLT, h1, h2, h3, h4, h5]
  · simp only [M168, E168_0, E168_1, E168_3, E168_6, E168_7, E168_10, E168_11, E168_13, E168_16, E168_17, E168_20, E168_21, E168_23, E168_26, E168_27, E168_30, E168_31, E168_33, E168_36, E168_37, E168_40, E168_41, E168_43, E168_46, E168_47, E168_50, E168_51, rfs, rfn, cs0, csi, csl, csr, csn, kti, ktl, ktr, ktn, ktv, ktf, true_and, and_true, and_self, ↓reduceIte, Nat.reduceAdd, Nat.reduceSub, Nat.reduceMul, Nat.reduceLT, Nat.reduceLeDiff, Nat.reduceEqDiff, true_or, or_true, false_or, or_false, not_true_eq_false, not_false_eq_true, reduceCtorEq, cmp_lt, cmp_gt, cmp_eq, Int32.reduceAdd, Int32.reduceSub, Int32.reduceMul, Int32.reduceLT, Int32.reduceToNatClampNeg, eq_self, ne_eq, Int64.reduceAdd, Int64.reduceSub, Int64.reduceMul, Int64.reduceLT, h1]
theorem st_lp {least : Int32} {v : Prop} {P : Nat → Int32} (hS : Pm S) (hR : Pr R) (hl : 0 < least) : ∀ (p nc : Nat) (I : mI), I 54 15 = nI nc → I 54 19 = nI p → nc + p ≤ 400 → a ≤ nc → I 62 = P → (v → (∀ i, i < p → Opv (P i)) ∧ Dp (I 60) a (nc - a) (Bc P p + 1)) → (∀ J p' nc', p' ≤ p → nc' + p' = nc + p → nc ≤ nc' → J 54 15 = nI nc' → J 54 19 = nI p' → J 62 = P → (∀ i, p' ≤ i → i < p → ¬ bnF (P i) < least) → (p' = 0 ∨ bnF (P (p' - 1)) < least) → (v → Dp (J 60) a (nc' - a) (Bc P p' + 1)) → Fs I J nc → Q .null S J L R) → Ev (d + 2) 169 0 [.ref 54, .int least] [] S I L R Q := by
  intro p
  induction p with
  | zero =>
    intro nc I e15 e19 h4 ha eP hv hq
    have e1 : ((0 : Int32) < nI 0) = False := eq_false (by decide)
    simp only [E169_0, E169_1, E169_4, E169_52, pk54 hS, rfs, rfn, cs0, csi, csl, csr, csn, kti, ktl, ktr, ktn, ktv, ktf, true_and, and_true, and_self, ↓reduceIte, Nat.reduceAdd, Nat.reduceSub, Nat.reduceMul, Nat.reduceLT, Nat.reduceLeDiff, Nat.reduceEqDiff, true_or, or_true, false_or, or_false, not_true_eq_false, not_false_eq_true, reduceCtorEq, cmp_lt, cmp_gt, cmp_eq, Int32.reduceAdd, Int32.reduceSub, Int32.reduceMul, Int32.reduceLT, Int32.reduceToNatClampNeg, eq_self, ne_eq, Int64.reduceAdd, Int64.reduceSub, Int64.reduceMul, Int64.reduceLT, e19, e1]
    exact hq I 0 nc (by omega) (by omega) (by omega) e15 e19 eP (fun i h1 h2 => absurd h2 (by omega)) (Or.inl rfl) (fun h => (hv h).2) Fs.rf
  | succ p ih =>
    intro nc I e15 e19 h4 ha eP hv hq
    have e1 : ((0 : Int32) < nI (p + 1)) = True := eq_true (nI_lt (a := 0) (b := p + 1) (by omega) (by omega))
    have a0 : inb (nI p) 400 = True := inb_nI (by omega) (by decide)
    have b0 : (nI p).toNatClampNeg = p := nI_clamp (by omega)
    have eP' : I 62 p = P p := by rw [eP]
    by_cases g : bnF (P p) < least
    · simp only [E169_0, E169_1, E169_4, E169_7, E169_8, E169_11, E169_12, E169_15, E169_16, E169_17, E169_18, E169_21, E169_22, E169_52, bnd_m, pk54 hS, pk62 hS, pl62 hS, pa62 hS, pi62 hS, pr54_18 hR, rfs, rfn, cs0, csi, csl, csr, csn, kti, ktl, ktr, ktn, ktv, ktf, true_and, and_true, and_self, ↓reduceIte, Nat.reduceAdd, Nat.reduceSub, Nat.reduceMul, Nat.reduceLT, Nat.reduceLeDiff, Nat.reduceEqDiff, true_or, or_true, false_or, or_false, not_true_eq_false, not_false_eq_true, reduceCtorEq, cmp_lt, cmp_gt, cmp_eq, Int32.reduceAdd, Int32.reduceSub, Int32.reduceMul, Int32.reduceLT, Int32.reduceToNatClampNeg, eq_self, ne_eq, Int64.reduceAdd, Int64.reduceSub, Int64.reduceMul, Int64.reduceLT, e19, e1, nI_m1, a0, b0, eP', g]
      exact hq I (p + 1) nc (by omega) (by omega) (by omega) e15 e19 eP (fun i h1 h2 => absurd h2 (by omega)) (Or.inr g) (fun h => (hv h).2) Fs.rf
    · have e15' : put I 54 19 (nI p) 54 15 = nI nc := by rw [pt_f (by decide)]; exact e15
      rw [E169_0]
      simp only [E169_1, E169_4, E169_7, E169_8, E169_11, E169_12, E169_15, E169_16, E169_17, E169_18, E169_21, E169_22, E169_25, E169_26, E169_27, E169_30, E169_31, E169_32, E169_35, E169_36, E169_37, E169_40, E169_41, E169_44, E169_45, E169_46, E169_49, bnd_m, emt hS hR e15' (show nc < 400 by omega), pk54 hS, pk62 hS, pl62 hS, pa62 hS, pi62 hS, pr54_18 hR, rfs, rfn, cs0, csi, csl, csr, csn, kti, ktl, ktr, ktn, ktv, ktf, true_and, and_true, and_self, ↓reduceIte, Nat.reduceAdd, Nat.reduceSub, Nat.reduceMul, Nat.reduceLT, Nat.reduceLeDiff, Nat.reduceEqDiff, true_or, or_true, false_or, or_false, not_true_eq_false, not_false_eq_true, reduceCtorEq, cmp_lt, cmp_gt, cmp_eq, Int32.reduceAdd, Int32.reduceSub, Int32.reduceMul, Int32.reduceLT, Int32.reduceToNatClampNeg, eq_self, ne_eq, Int64.reduceAdd, Int64.reduceSub, Int64.reduceMul, Int64.reduceLT, e19, e1, nI_m1, a0, b0, eP', g, pt, pt_s, pt_m]
      refine ih (nc + 1) _ pt_s (by rw [pt_f (by decide), pt_m (by decide), pt_m (by decide), pt_s]) (by omega) (by omega) ?_ (fun h => ⟨fun i hi => (hv h).1 i (by omega), ?_⟩) (fun J p' nc' k1 k2 k3 k4 k5 k6 k7 k8 k9 k10 => hq J p' nc' (by omega) (by omega) (by omega) k4 k5 k6 (fun i h1 h2 => ?_) k8 k9 (Fs.tr ⟨fun b h1 h3 h4 => ?_, fun k h1 h3 => ?_, fun k h1 => ?_⟩ k10 (by omega)))
      · rw [pt_n (by decide), pt_n (by decide), pt_n (by decide), pt_n (by decide)]; exact eP
      · refine Dp.put (x := P p) (hv h).2 ha (fun k hk => ?_) ?_ (dst_pop ((hv h).1 p (by omega)) (bnFb hl g))
        · rw [pt_m (by decide), pt_m (by decide), pt_f (by omega), pt_m (by decide)]
        · rw [pt_m (by decide), pt_m (by decide), pt_s]
      · by_cases e : i = p
        · rw [e]; exact g
        · exact k7 i h1 (by omega)
      · rw [pt_n h1, pt_n h4, pt_n h3, pt_n h1]
      · rw [pt_f h1, pt_m (by decide), pt_m (by decide), pt_f h3]
      · rw [pt_m (by decide), pt_m (by decide), pt_f (by omega), pt_m (by decide)]
theorem set_ {least : Int32} {p nc : Nat} {v : Prop} (hS : Pm S) (hR : Pr R) (hl : 0 < least) (e15 : I 54 15 = nI nc) (e19 : I 54 19 = nI p) (h4 : nc + p ≤ 400) (ha : a ≤ nc) (hv : v → (∀ i, i < p → Opv (I 62 i)) ∧ Dp (I 60) a (nc - a) (Bc (I 62) p + 1)) (hq : ∀ J p' nc', p' ≤ p → nc' + p' = nc + p → nc ≤ nc' → J 54 15 = nI nc' → J 54 19 = nI p' → J 62 = I 62 → (∀ i, p' ≤ i → i < p → ¬ bnF (I 62 i) < least) → (p' = 0 ∨ bnF (I 62 (p' - 1)) < least) → (v → Dp (J 60) a (nc' - a) (Bc (I 62) p' + 1)) → Fs I J nc → Q .null S J L R) : EvM (d + 2) 169 [.ref 54, .int least] S I L R Q := by
  simp only [M169, rfs, rfn, cs0, csi, csl, csr, csn, kti, ktl, ktr, ktn, ktv, ktf, true_and, and_true, and_self, ↓reduceIte, Nat.reduceAdd, Nat.reduceSub, Nat.reduceMul, Nat.reduceLT, Nat.reduceLeDiff, Nat.reduceEqDiff, true_or, or_true, false_or, or_false, not_true_eq_false, not_false_eq_true, reduceCtorEq, cmp_lt, cmp_gt, cmp_eq, Int32.reduceAdd, Int32.reduceSub, Int32.reduceMul, Int32.reduceLT, Int32.reduceToNatClampNeg, eq_self, ne_eq, Int64.reduceAdd, Int64.reduceSub, Int64.reduceMul, Int64.reduceLT]
  exact st_lp (d := d) (P := I 62) hS hR hl p nc I e15 e19 h4 ha rfl hv hq
theorem in_lp {p : Nat} {P : Nat → Int32} (hS : Pm S) (hR : Pr R) (hp : p ≤ 400) (eP : I 62 = P) (e19 : I 54 19 = nI p) (hq : ∀ v, (v = -1 ∧ ∀ i, i < p → P i < 30) ∨ (∃ i, i < p ∧ v = P i ∧ ¬ P i < 30 ∧ ∀ j, i < j → j < p → P j < 30) → Q (.int v) S I L R) : ∀ (q k : Nat) (v : Int32), k + q = p → (v = -1 ∧ ∀ i, i < k → P i < 30) ∨ (∃ i, i < k ∧ v = P i ∧ ¬ P i < 30 ∧ ∀ j, i < j → j < k → P j < 30) → Ev (d + 1) 170 4 [.ref 54, .int v, .int (nI k)] [] S I L R Q := by
  intro q
  induction q with
  | zero =>
    intro k v hk hv
    obtain rfl : k = p := by omega
    have e1 : (nI k < nI k) = False := eq_false (nI_nlt (by omega) (by omega))
    simp only [E170_4, E170_5, E170_6, E170_9, E170_40, E170_41, pk54 hS, rfs, rfn, cs0, csi, csl, csr, csn, kti, ktl, ktr, ktn, ktv, ktf, true_and, and_true, and_self, ↓reduceIte, Nat.reduceAdd, Nat.reduceSub, Nat.reduceMul, Nat.reduceLT, Nat.reduceLeDiff, Nat.reduceEqDiff, true_or, or_true, false_or, or_false, not_true_eq_false, not_false_eq_true, reduceCtorEq, cmp_lt, cmp_gt, cmp_eq, Int32.reduceAdd, Int32.reduceSub, Int32.reduceMul, Int32.reduceLT, Int32.reduceToNatClampNeg, eq_self, ne_eq, Int64.reduceAdd, Int64.reduceSub, Int64.reduceMul, Int64.reduceLT, e19, e1]
    exact hq v hv
  | succ q ih =>
    intro k v hk hv
    have e1 : (nI k < nI p) = True := eq_true (nI_lt (by omega) (by omega))
    have a0 : inb (nI k) 400 = True := inb_nI (by omega) (by decide)
    have b0 : (nI k).toNatClampNeg = k := nI_clamp (by omega)
    have eP' : I 62 k = P k := by rw [eP]
    by_cases g : P k < 30
    · rw [E170_4]
      simp only [E170_5, E170_6, E170_9, E170_12, E170_13, E170_16, E170_17, E170_18, E170_20, E170_32, E170_33, E170_34, E170_37, pk54 hS, pk62 hS, pl62 hS, pa62 hS, pi62 hS, pr54_18 hR, rfs, rfn, cs0, csi, csl, csr, csn, kti, ktl, ktr, ktn, ktv, ktf, true_and, and_true, and_self, ↓reduceIte, Nat.reduceAdd, Nat.reduceSub, Nat.reduceMul, Nat.reduceLT, Nat.reduceLeDiff, Nat.reduceEqDiff, true_or, or_true, false_or, or_false, not_true_eq_false, not_false_eq_true, reduceCtorEq, cmp_lt, cmp_gt, cmp_eq, Int32.reduceAdd, Int32.reduceSub, Int32.reduceMul, Int32.reduceLT, Int32.reduceToNatClampNeg, eq_self, ne_eq, Int64.reduceAdd, Int64.reduceSub, Int64.reduceMul, Int64.reduceLT, e19, e1, a0, b0, eP', g, nI_1]
      refine ih (k + 1) v (by omega) ?_
      rcases hv with ⟨h1, h2⟩ | ⟨i, h1, h2, h3, h4⟩
      · refine Or.inl ⟨h1, fun i hi => ?_⟩
        by_cases e : i = k
        · rw [e]; exact g
        · exact h2 i (by omega)
      · refine Or.inr ⟨i, by omega, h2, h3, fun j j1 j2 => ?_⟩
        by_cases e : j = k
        · rw [e]; exact g
        · exact h4 j j1 (by omega)
    · rw [E170_4]
      simp only [E170_5, E170_6, E170_9, E170_12, E170_13, E170_16, E170_17, E170_18, E170_20, E170_23, E170_24, E170_27, E170_28, E170_29, E170_32, E170_33, E170_34, E170_37, pk54 hS, pk62 hS, pl62 hS, pa62 hS, pi62 hS, pr54_18 hR, rfs, rfn, cs0, csi, csl, csr, csn, kti, ktl, ktr, ktn, ktv, ktf, true_and, and_true, and_self, ↓reduceIte, Nat.reduceAdd, Nat.reduceSub, Nat.reduceMul, Nat.reduceLT, Nat.reduceLeDiff, Nat.reduceEqDiff, true_or, or_true, false_or, or_false, not_true_eq_false, not_false_eq_true, reduceCtorEq, cmp_lt, cmp_gt, cmp_eq, Int32.reduceAdd, Int32.reduceSub, Int32.reduceMul, Int32.reduceLT, Int32.reduceToNatClampNeg, eq_self, ne_eq, Int64.reduceAdd, Int64.reduceSub, Int64.reduceMul, Int64.reduceLT, e19, e1, a0, b0, eP', g, nI_1]
      exact ih (k + 1) _ (by omega) (Or.inr ⟨k, by omega, rfl, g, fun j j1 j2 => absurd j2 (by omega)⟩)
theorem inr_ {p : Nat} (hS : Pm S) (hR : Pr R) (hp : p ≤ 400) (e19 : I 54 19 = nI p) (hq : ∀ v, (v = -1 ∧ ∀ i, i < p → I 62 i < 30) ∨ (∃ i, i < p ∧ v = I 62 i ∧ ¬ I 62 i < 30 ∧ ∀ j, i < j → j < p → I 62 j < 30) → Q (.int v) S I L R) : EvM (d + 1) 170 [.ref 54] S I L R Q := by
  simp only [M170, E170_0, E170_1, E170_2, E170_3, rfs, rfn, cs0, csi, csl, csr, csn, kti, ktl, ktr, ktn, ktv, ktf, true_and, and_true, and_self, ↓reduceIte, Nat.reduceAdd, Nat.reduceSub, Nat.reduceMul, Nat.reduceLT, Nat.reduceLeDiff, Nat.reduceEqDiff, true_or, or_true, false_or, or_false, not_true_eq_false, not_false_eq_true, reduceCtorEq, cmp_lt, cmp_gt, cmp_eq, Int32.reduceAdd, Int32.reduceSub, Int32.reduceMul, Int32.reduceLT, Int32.reduceToNatClampNeg, eq_self, ne_eq, Int64.reduceAdd, Int64.reduceSub, Int64.reduceMul, Int64.reduceLT]
  exact in_lp (d := d) hS hR hp rfl e19 hq p 0 (-1) (by omega) (Or.inl ⟨rfl, fun i hi => absurd hi (by omega)⟩)
theorem ic_lp {p : Nat} (hS : Pm S) (hR : Pr R) (hp : p ≤ 400) (hq : ∀ b, Q (.int (bI b)) S I L R) : ∀ k, k ≤ p → Ev (d + 2) 171 7 [.ref 54, .int (nI k - 1)] [] S I L R Q := by
  intro k
  induction k with
  | zero =>
    intro _
    have e1 : (nI 0 - 1 < (0 : Int32)) = True := eq_true (by decide)
    simp only [E171_7, E171_8, E171_36, E171_37, E171_63, E171_64, rfs, rfn, cs0, csi, csl, csr, csn, kti, ktl, ktr, ktn, ktv, ktf, true_and, and_true, and_self, ↓reduceIte, Nat.reduceAdd, Nat.reduceSub, Nat.reduceMul, Nat.reduceLT, Nat.reduceLeDiff, Nat.reduceEqDiff, true_or, or_true, false_or, or_false, not_true_eq_false, not_false_eq_true, reduceCtorEq, cmp_lt, cmp_gt, cmp_eq, Int32.reduceAdd, Int32.reduceSub, Int32.reduceMul, Int32.reduceLT, Int32.reduceToNatClampNeg, eq_self, ne_eq, Int64.reduceAdd, Int64.reduceSub, Int64.reduceMul, Int64.reduceLT, e1]
    exact hq false
  | succ k ih =>
    intro hk
    have e1 : (nI k < (0 : Int32)) = False := eq_false (nI_pos (by omega))
    have a0 : inb (nI k) 400 = True := inb_nI (by omega) (by decide)
    have b0 : (nI k).toNatClampNeg = k := nI_clamp (by omega)
    cases g : inB (I 62 k).toInt64 20 21
    · simp only [E171_7, E171_8, E171_11, E171_12, E171_15, E171_16, E171_17, E171_18, E171_21, E171_24, E171_27, E171_36, E171_37, E171_40, E171_41, E171_44, E171_45, E171_46, E171_47, E171_50, E171_53, E171_56, E171_59, E171_60, E171_63, E171_64, inn, pk54 hS, pk62 hS, pl62 hS, pa62 hS, pi62 hS, pr54_18 hR, rfs, rfn, cs0, csi, csl, csr, csn, kti, ktl, ktr, ktn, ktv, ktf, true_and, and_true, and_self, ↓reduceIte, Nat.reduceAdd, Nat.reduceSub, Nat.reduceMul, Nat.reduceLT, Nat.reduceLeDiff, Nat.reduceEqDiff, true_or, or_true, false_or, or_false, not_true_eq_false, not_false_eq_true, reduceCtorEq, cmp_lt, cmp_gt, cmp_eq, Int32.reduceAdd, Int32.reduceSub, Int32.reduceMul, Int32.reduceLT, Int32.reduceToNatClampNeg, eq_self, ne_eq, Int64.reduceAdd, Int64.reduceSub, Int64.reduceMul, Int64.reduceLT, nI_m1, e1, a0, b0, g, bI_f]
      apply iteB
      all_goals first | exact hq true | exact hq false
    · rw [E171_7]
      simp only [E171_8, E171_11, E171_12, E171_15, E171_16, E171_17, E171_18, E171_21, E171_24, E171_27, E171_30, E171_33, inn, pk54 hS, pk62 hS, pl62 hS, pa62 hS, pi62 hS, pr54_18 hR, rfs, rfn, cs0, csi, csl, csr, csn, kti, ktl, ktr, ktn, ktv, ktf, true_and, and_true, and_self, ↓reduceIte, Nat.reduceAdd, Nat.reduceSub, Nat.reduceMul, Nat.reduceLT, Nat.reduceLeDiff, Nat.reduceEqDiff, true_or, or_true, false_or, or_false, not_true_eq_false, not_false_eq_true, reduceCtorEq, cmp_lt, cmp_gt, cmp_eq, Int32.reduceAdd, Int32.reduceSub, Int32.reduceMul, Int32.reduceLT, Int32.reduceToNatClampNeg, eq_self, ne_eq, Int64.reduceAdd, Int64.reduceSub, Int64.reduceMul, Int64.reduceLT, nI_m1, nI_a1, e1, a0, b0, g, bI_t, n1_0]
      exact ih (by omega)
theorem icm {p : Nat} (hS : Pm S) (hR : Pr R) (hp : p ≤ 400) (e19 : I 54 19 = nI p) (hq : ∀ b, Q (.int (bI b)) S I L R) : EvM (d + 2) 171 [.ref 54] S I L R Q := by
  simp only [M171, E171_0, E171_1, E171_4, E171_5, E171_6, pk54 hS, rfs, rfn, cs0, csi, csl, csr, csn, kti, ktl, ktr, ktn, ktv, ktf, true_and, and_true, and_self, ↓reduceIte, Nat.reduceAdd, Nat.reduceSub, Nat.reduceMul, Nat.reduceLT, Nat.reduceLeDiff, Nat.reduceEqDiff, true_or, or_true, false_or, or_false, not_true_eq_false, not_false_eq_true, reduceCtorEq, cmp_lt, cmp_gt, cmp_eq, Int32.reduceAdd, Int32.reduceSub, Int32.reduceMul, Int32.reduceLT, Int32.reduceToNatClampNeg, eq_self, ne_eq, Int64.reduceAdd, Int64.reduceSub, Int64.reduceMul, Int64.reduceLT, e19]
  exact ic_lp (d := d) hS hR hp hq p (Nat.le_refl p)
end PI
