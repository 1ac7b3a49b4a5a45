/-! group C: made of the reference beside the class's -/
def tN (f : Nat → Nat) : Nat → Nat → Nat → Nat
  | 0, _, q => q
  | m + 1, i, q => tN f m (i + 1) (q * 10 + f i)
def DgT (g : Nat → Nat) : Nat → Nat → Prop
  | 0, T => T = 0
  | j + 1, T => g j = T % 10 ∧ DgT g j (T / 10)
theorem tN_s {f : Nat → Nat} : ∀ m i q, tN f (m + 1) i q = tN f m i q * 10 + f (i + m)
  | 0, i, q => rfl
  | m + 1, i, q => by
    show tN f (m + 1) (i + 1) (q * 10 + f i) = tN f m (i + 1) (q * 10 + f i) * 10 + f (i + (m + 1))
    rw [tN_s m (i + 1), show i + 1 + m = i + (m + 1) by omega]
theorem DgT.cg {g h : Nat → Nat} : ∀ j T, (∀ c, c < j → h c = g c) → DgT g j T → DgT h j T
  | 0, _, _, d => d
  | j + 1, T, e, d => ⟨(e j (Nat.lt_succ_self j)).trans d.1, DgT.cg j _ (fun c hc => e c (by omega)) d.2⟩
theorem DgT.is {f g : Nat → Nat} : ∀ w T, DgT g w T → (∀ c, c < w → f c < 10) → (tN f w 0 0 = T ↔ ∀ c, c < w → f c = g c)
  | 0, T, d, _ => by
    have e : T = 0 := d
    subst e
    exact ⟨fun _ c hc => absurd hc (by omega), fun _ => rfl⟩
  | w + 1, T, d, h => by
    obtain ⟨d1, d2⟩ := d
    have a := DgT.is w (T / 10) d2 (fun c hc => h c (by omega))
    have b := h w (Nat.lt_succ_self w)
    rw [tN_s, Nat.zero_add]
    refine ⟨fun z => ?_, fun z => ?_⟩
    · have z1 : tN f w 0 0 = T / 10 := by omega
      have z2 : f w = T % 10 := by omega
      intro c hc
      by_cases e : c = w
      · rw [e, z2, d1]
      · exact a.mp z1 c (by omega)
    · have z1 := a.mpr (fun c hc => z c (by omega))
      have z2 := z w (Nat.lt_succ_self w)
      omega
theorem tN_b {f : Nat → Nat} : ∀ m i q, (∀ c, i ≤ c → c < i + m → f c ≤ 9) → tN f m i q < (q + 1) * 10 ^ m
  | 0, i, q, _ => by
    show q < (q + 1) * 1
    omega
  | m + 1, i, q, h => by
    have a := h i (Nat.le_refl i) (by omega)
    have b := tN_b m (i + 1) (q * 10 + f i) (fun c h1 h2 => h c (by omega) (by omega))
    show tN f m (i + 1) (q * 10 + f i) < _
    refine Nat.lt_of_lt_of_le b ?_
    rw [Nat.pow_succ, Nat.mul_comm (10 ^ m) 10, ← Nat.mul_assoc]
    exact Nat.mul_le_mul_right _ (by omega)
theorem toF_n {F : mI} {u w : Nat} {f : Nat → Nat} (ew : F u 0 = nI w) (w5 : w ≤ 5) (hf : ∀ c, c < 5 → F (u + 1) c = nI (f c)) : ∀ m i q, i + m = 5 → toF F u m i (nI q) = nI (tN f (w - i) i q)
  | 0, i, q, hi => by
    rw [show w - i = 0 by omega]
    rfl
  | m + 1, i, q, hi => by
    unfold toF
    by_cases h : i < w
    · rw [ew, if_pos (nI_lt h (by omega)), hf i (by omega), show (10 : Int32) = nI 10 from rfl, pk_mul, nI_add, toF_n ew w5 hf m (i + 1) _ (by omega), show w - i = (w - (i + 1)) + 1 by omega]
      rfl
    · rw [ew, if_neg (nI_nlt (by omega) (by omega)), show w - i = 0 by omega]
      rfl
theorem dgq {T : Nat} (h : T < 2 ^ 31) : nI T - nI T / 10 * 10 = nI (T % 10) ∧ nI T / 10 = nI (T / 10) := ⟨pk_rem h (by decide) (by decide), pk_div h (by decide) (by decide)⟩
section MDL
variable {d t w : Nat} {S S1 : mS} {I I1 C J : mI} {L : mL} {R R1 : mR} {Q : mQ} {v v' x a b : Int32} {C' : mI}
/-- the number's digits -/
theorem mdE {m0 : Int64} {c : Nat} (hS : Pm S) (hR : Pr R) (hc : c ≤ 5) : ∀ (j T : Nat) (I : mI) (y : Value), j ≤ c → T < 2 ^ 31 → (tbL (nI c) (5 - (c - j)) (c - j) (nI T) = false → ∀ J, (∀ a, ¬ a = 71 → J a = I a) → Q (.int (-1)) S J L R) → (tbL (nI c) (5 - (c - j)) (c - j) (nI T) = true → ∀ J v y, (∀ a, ¬ a = 71 → J a = I a) → (∀ k, j ≤ k → J 71 k = I 71 k) → DgT (fun k => (J 71 k).toNatClampNeg) j T → (∀ k, k < j → ∃ d, d ≤ 9 ∧ J 71 k = nI d) → Ev (d + 1) 204 107 [.ref 54, .int x, .int a, .int b, .int (nI c), .long m0, nv, .int v, .int (nI 0 - 1), y] [] S J L R Q) → Ev (d + 1) 204 58 [.ref 54, .int x, .int a, .int b, .int (nI c), .long m0, nv, .int (nI T), .int (nI j - 1), y] [] S I L R Q := by
  have n10 : ((10 : Int32) = 0) = False := eq_false (by decide)
  intro j
  induction j with
  | zero =>
    intro T I y hj hT h1 h2
    have e1 : (nI 0 - 1 < (0 : Int32)) = True := eq_true (by decide)
    have et : tbL (nI c) (5 - (c - 0)) (c - 0) (nI T) = decide (nI T = 0) := by
      rw [Nat.sub_zero]
      cases hk : 5 - c with
      | zero => rfl
      | succ n => exact if_neg (nI_nlt (Nat.le_refl c) (by omega))
    rw [et] at h1 h2
    by_cases g : nI T = 0
    · have g' : (nI T = 0) = True := eq_true g
      have T0 : T = 0 := (nI_eq (a := T) (b := 0) hT (by decide)).mp g
      simp only [E204_58, E204_60, E204_100, E204_102, rfs, rfn, cs0, csi, csl, csr, csn, kti, ktl, ktr, ktn, ktv, ktf, true_and, and_true, and_self, ↓reduceIte, Nat.reduceAdd, Nat.reduceSub, Nat.reduceMul, Nat.reduceLT, Nat.reduceLeDiff, Nat.reduceEqDiff, true_or, or_true, false_or, or_false, not_true_eq_false, not_false_eq_true, reduceCtorEq, cmp_lt, cmp_gt, cmp_eq, Int32.reduceAdd, Int32.reduceSub, Int32.reduceMul, Int32.reduceLT, Int32.reduceToNatClampNeg, eq_self, ne_eq, Int64.reduceAdd, Int64.reduceSub, Int64.reduceMul, Int64.reduceLT, e1, g']
      exact h2 (decide_eq_true g) I _ y (fun _ _ => rfl) (fun _ _ => rfl) T0 (fun k hk => absurd hk (by omega))
    · simp only [E204_58, E204_60, E204_100, E204_102, E204_105, E204_106, rfs, rfn, cs0, csi, csl, csr, csn, kti, ktl, ktr, ktn, ktv, ktf, true_and, and_true, and_self, ↓reduceIte, Nat.reduceAdd, Nat.reduceSub, Nat.reduceMul, Nat.reduceLT, Nat.reduceLeDiff, Nat.reduceEqDiff, true_or, or_true, false_or, or_false, not_true_eq_false, not_false_eq_true, reduceCtorEq, cmp_lt, cmp_gt, cmp_eq, Int32.reduceAdd, Int32.reduceSub, Int32.reduceMul, Int32.reduceLT, Int32.reduceToNatClampNeg, eq_self, ne_eq, Int64.reduceAdd, Int64.reduceSub, Int64.reduceMul, Int64.reduceLT, e1, g]
      exact h1 (decide_eq_false g) I (fun _ _ => rfl)
  | succ j ih =>
    intro T I y hj hT h1 h2
    have e1 : (nI j < (0 : Int32)) = False := eq_false (nI_pos (by omega))
    have a4 : inb (nI j) 60 = True := inb_nI (by omega) (by decide)
    have b4 : (nI j).toNatClampNeg = j := nI_clamp (by omega)
    obtain ⟨p1, p2⟩ := dgq hT
    have p3 : nI T - nI (T / 10) * 10 = nI (T % 10) := by rw [← p2]; exact p1
    have hlt : nI (c - (j + 1)) < nI c := nI_lt (by omega) (by omega)
    obtain ⟨m, em⟩ : ∃ m, 5 - (c - (j + 1)) = m + 1 := ⟨4 - (c - (j + 1)), by omega⟩
    have et : tbL (nI c) (5 - (c - (j + 1))) (c - (j + 1)) (nI T) = (if 0 < nI T then (if nI (T % 10) = 0 then false else tbL (nI c) (5 - (c - j)) (c - j) (nI (T / 10))) else false) := by
      rw [em]
      show (if nI (c - (j + 1)) < nI c then (if 0 < nI T then (if nI T - nI T / 10 * 10 = 0 then false else tbL (nI c) m (c - (j + 1) + 1) (nI T / 10)) else false) else decide (nI T = 0)) = _
      rw [if_pos hlt, p1, p2, show c - (j + 1) + 1 = c - j by omega, show m = 5 - (c - j) by omega]
    rw [et] at h1 h2
    rw [E204_58]
    by_cases g : nI (T % 10) = 0
    · have g' : (nI (T % 10) = 0) = True := eq_true g
      simp only [E204_60, E204_63, E204_64, E204_67, E204_69, E204_71, E204_73, E204_74, E204_75, E204_77, E204_79, E204_80, E204_82, E204_83, E204_86, E204_88, E204_89, E204_92, E204_93, pk54 hS, pk71 hS, pl71 hS, pa71 hS, pi71 hS, pr54_49 hR, rfs, rfn, cs0, csi, csl, csr, csn, kti, ktl, ktr, ktn, ktv, ktf, true_and, and_true, and_self, ↓reduceIte, Nat.reduceAdd, Nat.reduceSub, Nat.reduceMul, Nat.reduceLT, Nat.reduceLeDiff, Nat.reduceEqDiff, true_or, or_true, false_or, or_false, not_true_eq_false, not_false_eq_true, reduceCtorEq, cmp_lt, cmp_gt, cmp_eq, Int32.reduceAdd, Int32.reduceSub, Int32.reduceMul, Int32.reduceLT, Int32.reduceToNatClampNeg, eq_self, ne_eq, Int64.reduceAdd, Int64.reduceSub, Int64.reduceMul, Int64.reduceLT, nI_m1, e1, a4, b4, n10, p3, p2, pt, pt_s, g']
      refine h1 ?_ _ (fun a ha => pt_n ha)
      rw [if_pos g]
      split <;> rfl
    · have T0 : 0 < T := by
        refine Classical.byContradiction (fun z => g ?_)
        rw [show T = 0 by omega]
        rfl
      have tp : (0 : Int32) < nI T := nI_lt (a := 0) (b := T) T0 hT
      rw [if_pos tp, if_neg g] at h1 h2
      simp only [E204_60, E204_63, E204_64, E204_67, E204_69, E204_71, E204_73, E204_74, E204_75, E204_77, E204_79, E204_80, E204_82, E204_83, E204_86, E204_88, E204_89, E204_92, E204_93, E204_94, E204_97, pk54 hS, pk71 hS, pl71 hS, pa71 hS, pi71 hS, pr54_49 hR, rfs, rfn, cs0, csi, csl, csr, csn, kti, ktl, ktr, ktn, ktv, ktf, true_and, and_true, and_self, ↓reduceIte, Nat.reduceAdd, Nat.reduceSub, Nat.reduceMul, Nat.reduceLT, Nat.reduceLeDiff, Nat.reduceEqDiff, true_or, or_true, false_or, or_false, not_true_eq_false, not_false_eq_true, reduceCtorEq, cmp_lt, cmp_gt, cmp_eq, Int32.reduceAdd, Int32.reduceSub, Int32.reduceMul, Int32.reduceLT, Int32.reduceToNatClampNeg, eq_self, ne_eq, Int64.reduceAdd, Int64.reduceSub, Int64.reduceMul, Int64.reduceLT, nI_m1, nI_a1, e1, a4, b4, n10, p3, p2, pt, pt_s, g]
      refine ih (T / 10) (put I 71 j (nI (T % 10))) _ (by omega) (by omega) (fun z J hJ => h1 z J (fun a ha => (hJ a ha).trans (pt_n ha))) (fun z J v y hJ j1 j2 j3 => h2 z J v y (fun a ha => (hJ a ha).trans (pt_n ha)) (fun k hk => (j1 k (by omega)).trans (pt_f (by omega))) ⟨?_, j2⟩ (fun k hk => ?_))
      · show (J 71 j).toNatClampNeg = T % 10
        rw [j1 j (Nat.le_refl j), pt_s, nI_clamp (by omega)]
      · by_cases e : k = j
        · rw [e, j1 j (Nat.le_refl j), pt_s]
          exact ⟨T % 10, by omega, rfl⟩
        · exact j3 k (by omega)
/-- one RECIPE after the other -/
theorem mrE {m0 : Int64} {T : Nat} {r : Nat} (X : XC S I R t) (rl : Rel I R) (h : ExB I R) (hS : Pm S1) (hR : Pr R1) (hM : Rw (I 56)) (ew : I 5 0 = nI w) (w5 : w ≤ 5) (r8 : r ≤ 8) (er : I 5 6 = nI r) (hT : T < 2 ^ 31) {g : Nat → Nat} (hg : ∀ k, k < w → g k ≤ 9) (hD : DgT g w T) (hd9 : I 26 9 = -1) {vi : Int32} : ∀ (N i : Nat) (bs : Int32) (C J : mI) (L : mL) (v' : Int32) (C' : mI), i + N = r → MdS S R (nI T) a b N i bs C v' C' → Gu 26 I C → C 26 9 = -1 → J 56 = I 56 → J 54 42 = -1 → (∀ k, k < w → J 71 (5 * 0 + k) = nI (g k)) → (∀ J L', Q (.int v') S1 J L' R1) → Ev (d + 6) 204 118 [.ref 54, .int (nI T), .int a, .int b, .int (nI w), .long m0, nv, .int vi, .int bs, .int (nI i)] [] S1 J L R1 Q := by
  have z1 : inb 1 8060 = True := inb_nI (j := 1) (by decide) (by decide)
  have e1 : I 56 1 = nI r := by rw [← h.1.1]; exact er
  intro N
  induction N with
  | zero =>
    intro i bs C J L v' C' hi hMd gC c9 J6 J42 k71 hq
    have ei : i = r := by omega
    have p1 : (nI i < nI r) = False := eq_false (nI_nlt (by omega) (by omega))
    obtain ⟨rfl, _⟩ := hMd
    simp only [E204_118, E204_120, E204_121, E204_124, E204_125, E204_126, E204_187, E204_189, pk54 hS, pk56 hS, pl56 hS, pa56 hS, pi56 hS, pr54_3 hR, rfs, rfn, cs0, csi, csl, csr, csn, kti, ktl, ktr, ktn, ktv, ktf, true_and, and_true, and_self, ↓reduceIte, Nat.reduceAdd, Nat.reduceSub, Nat.reduceMul, Nat.reduceLT, Nat.reduceLeDiff, Nat.reduceEqDiff, true_or, or_true, false_or, or_false, not_true_eq_false, not_false_eq_true, reduceCtorEq, cmp_lt, cmp_gt, cmp_eq, Int32.reduceAdd, Int32.reduceSub, Int32.reduceMul, Int32.reduceLT, Int32.reduceToNatClampNeg, eq_self, ne_eq, Int64.reduceAdd, Int64.reduceSub, Int64.reduceMul, Int64.reduceLT, z1, J6, e1, p1]
    exact hq J L
  | succ N ih =>
    intro i bs C J L v' C' hi hMd gC c9 J6 J42 k71 hq
    have p1 : (nI i < nI r) = True := eq_true (nI_lt (by omega) (by omega))
    obtain ⟨q, n, k1, k2, k3, m, m1, m2, m3, hMd⟩ := hMd
    have gk : rcB I 5 (nI i) = true := decide_eq_true ⟨nI_pos (by omega), by rw [er]; exact nI_lt (by omega) (by omega), nI_lt (a := i) (b := 8) (by omega) (by decide)⟩
    have m1' : R 9 (nI i).toNatClampNeg = some q := by rw [nI_clamp (by omega)]; exact m1
    obtain ⟨q', n', k1', k2', k3', m', f1, f2, f3, f4, f5, f6, f7⟩ := X.2.1.rcs.1 (nI i) gk
    have eq : q' = q := Option.some.inj (f1.symm.trans m1')
    subst eq
    have m3' : I q' 0 = nI n := by
      rw [← gC q' (Or.inr (by omega))]
      exact m3
    obtain ⟨rfl, rfl, rfl, rx⟩ := X.rx gk m1' m2 m3'
    obtain ⟨i', r', hi', _, er', ei', en, hTx⟩ := rx_d X h gk rx
    have r31 : r' < 2 ^ 31 := by omega
    obtain rfl : i = i' := (nI_eq (by omega) (by omega)).mp ei'
    simp only [E204_118, E204_120, E204_121, E204_124, E204_125, E204_126, E204_129, E204_130, E204_132, E204_133, pk54 hS, pk56 hS, pl56 hS, pa56 hS, pi56 hS, pr54_3 hR, rfs, rfn, cs0, csi, csl, csr, csn, kti, ktl, ktr, ktn, ktv, ktf, true_and, and_true, and_self, ↓reduceIte, Nat.reduceAdd, Nat.reduceSub, Nat.reduceMul, Nat.reduceLT, Nat.reduceLeDiff, Nat.reduceEqDiff, true_or, or_true, false_or, or_false, not_true_eq_false, not_false_eq_true, reduceCtorEq, cmp_lt, cmp_gt, cmp_eq, Int32.reduceAdd, Int32.reduceSub, Int32.reduceMul, Int32.reduceLT, Int32.reduceToNatClampNeg, eq_self, ne_eq, Int64.reduceAdd, Int64.reduceSub, Int64.reduceMul, Int64.reduceLT, z1, J6, e1, p1]
    refine gthL (d := d) (C := C) (u := 26) hS hR rl hM (by omega) rx.2.1 rx.2.2.1 en hTx rx.2.2.2.2.1 rx.2.2.2.2.2 (by decide) (fun a ha => gC a (by omega)) J6 ⟨c9.trans J42.symm, Or.inl c9⟩ (Or.inl rfl) (fun w1 J1 L1 ew1 sr sl gJ _ => ?_)
    have b1 := sr.w5
    obtain rfl : w1 = w := (nI_eq (by omega) (by omega)).mp (ew1.symm.trans ew)
    have J16 : J1 56 = I 56 := gJ.w.trans J6
    have k71' : ∀ k, k < w1 → J1 71 (5 * 0 + k) = nI (g k) := fun k hk => by
      rw [gJ.1 71 (by decide) (by decide)]
      exact k71 k hk
    simp only [E204_136, E204_138, E204_139, E204_140, pk54 hS, rfs, rfn, cs0, csi, csl, csr, csn, kti, ktl, ktr, ktn, ktv, ktf, true_and, and_true, and_self, ↓reduceIte, Nat.reduceAdd, Nat.reduceSub, Nat.reduceMul, Nat.reduceLT, Nat.reduceLeDiff, Nat.reduceEqDiff, true_or, or_true, false_or, or_false, not_true_eq_false, not_false_eq_true, reduceCtorEq, cmp_lt, cmp_gt, cmp_eq, Int32.reduceAdd, Int32.reduceSub, Int32.reduceMul, Int32.reduceLT, Int32.reduceToNatClampNeg, eq_self, ne_eq, Int64.reduceAdd, Int64.reduceSub, Int64.reduceMul, Int64.reduceLT]
    have nf := sr.nf
    refine aptE (k := 0) (w := w1) (f := fun c => (J1 64 c).toNatClampNeg) (g := g) hS hR w5 (by decide) sr.2.2.2.1 (fun c hc => nf c (by omega)) (fun c hc => ⟨k71' c hc, hg c hc⟩) ?_
    have gu := Gu.ca (Gu.rf (u := 26) (I := C)) (z := 5) (n := n) (k1 := q' + 1) (k2 := q' + 2) (k3 := q' + 3) (m := m) (w := -1)
    have f9 := F9.ca (F9.rf (u := 26) (I := C)) (z := 5) (n := n) (k1 := q' + 1) (k2 := q' + 2) (k3 := q' + 3) (m := m) (w := -1)
    have F0 : finF (carF C 26 5 n (q' + 1) (q' + 2) (q' + 3) m (-1)).1 26 5 26 0 = nI w1 := by
      rw [fin_n (by decide)]
      exact sr.1
    have Fi : ∀ c, c < 5 → finF (carF C 26 5 n (q' + 1) (q' + 2) (q' + 3) m (-1)).1 26 5 (26 + 1) c = nI (J1 64 c).toNatClampNeg := fun c hc => by
      rw [fin_n (by decide), sr.ie hc]
      exact (nf c hc).1
    have Fo : ∀ c, c < 12 → finF (carF C 26 5 n (q' + 1) (q' + 2) (q' + 3) m (-1)).1 26 5 28 c = J1 54 (29 + c) := fun c hc => by
      rw [show (28 : Nat) = 26 + 2 from rfl, fin_f hc]
      exact sr.out hc
    have tn := toF_n F0 w5 Fi 5 0 0 rfl
    rw [show nI 0 = 0 from rfl, Nat.sub_zero] at tn
    have tb := tN_b (f := fun c => (J1 64 c).toNatClampNeg) w1 0 0 (fun c _ hc => (nf c (by omega)).2)
    have tb5 : tN (fun c => (J1 64 c).toNatClampNeg) w1 0 0 < 2 ^ 31 := by
      refine Nat.lt_of_lt_of_le tb ?_
      have : (10 : Nat) ^ w1 ≤ 10 ^ 5 := Nat.pow_le_pow_right (by decide) w5
      omega
    have ti := DgT.is (f := fun c => (J1 64 c).toNatClampNeg) w1 T hD (fun c hc => by have := (nf c (by omega)).2; omega)
    have d0 := dsum_0 (f := fun c => (J1 64 c).toNatClampNeg) (g := g) w1 0 0
    have db := dsum_b (f := fun c => (J1 64 c).toNatClampNeg) (g := g) w1 0 0 (fun c _ hc => ⟨(nf c (by omega)).2, hg c (by omega)⟩)
    have ee : endF (finF (carF C 26 5 n (q' + 1) (q' + 2) (q' + 3) m (-1)).1 26 5) 26 (nI T) a b = true ↔ dsum (fun c => (J1 64 c).toNatClampNeg) g w1 0 0 = 0 ∧ J1 54 37 = a ∧ J1 54 39 = b ∧ J1 54 35 = -1 := by
      unfold endF
      rw [decide_eq_true_iff, tn, Fo 8 (by decide), Fo 10 (by decide), Fo 6 (by decide), nI_eq tb5 hT, ti, d0]
      exact ⟨fun z => ⟨⟨rfl, fun c _ hc => z.1 c (by omega)⟩, z.2⟩, fun z => ⟨fun c hc => z.1.2 c (Nat.zero_le c) (by omega), z.2⟩⟩
    have nx : ∀ (bs' : Int32), bs' = (bs ||| (if endF (finF (carF C 26 5 n (q' + 1) (q' + 2) (q' + 3) m (-1)).1 26 5) 26 (nI T) a b = true then 1 <<< (nI i &&& 31) else 0)) → Ev (d + 6) 204 118 [.ref 54, .int (nI T), .int a, .int b, .int (nI w1), .long m0, nv, .int vi, .int bs', .int (nI (i + 1))] [] S1 J1 L1 R1 Q := fun bs' e => by
      subst e
      exact ih (i + 1) _ _ J1 L1 v' C' (by omega) hMd (gC.tr gu) (f9.trans c9) J16 ((gJ.2 42 (by decide)).trans J42) k71' hq
    generalize dsum (fun c => (J1 64 c).toNatClampNeg) g w1 0 0 = s at d0 db ee ⊢
    have no : ¬ (s = 0 ∧ J1 54 37 = a ∧ J1 54 39 = b ∧ J1 54 35 = -1) → Ev (d + 6) 204 118 [.ref 54, .int (nI T), .int a, .int b, .int (nI w1), .long m0, nv, .int vi, .int (bs ||| 0), .int (nI (i + 1))] [] S1 J1 L1 R1 Q := fun z => nx _ (by rw [if_neg (fun y => z (ee.mp y))])
    by_cases s0 : s = 0
    · have s0' : (nI s = 0) = True := by rw [s0]; exact eq_true rfl
      by_cases h37 : J1 54 37 = a
      · by_cases h39 : J1 54 39 = b
        · by_cases h35 : J1 54 35 = -1
          · simp only [E204_143, E204_146, E204_147, E204_150, E204_151, E204_154, E204_155, E204_158, E204_159, E204_162, E204_163, E204_166, E204_167, E204_170, E204_171, E204_173, E204_174, E204_177, E204_178, E204_179, E204_181, E204_184, pk54 hS, rfs, rfn, cs0, csi, csl, csr, csn, kti, ktl, ktr, ktn, ktv, ktf, true_and, and_true, and_self, ↓reduceIte, Nat.reduceAdd, Nat.reduceSub, Nat.reduceMul, Nat.reduceLT, Nat.reduceLeDiff, Nat.reduceEqDiff, true_or, or_true, false_or, or_false, not_true_eq_false, not_false_eq_true, reduceCtorEq, cmp_lt, cmp_gt, cmp_eq, Int32.reduceAdd, Int32.reduceSub, Int32.reduceMul, Int32.reduceLT, Int32.reduceToNatClampNeg, eq_self, ne_eq, Int64.reduceAdd, Int64.reduceSub, Int64.reduceMul, Int64.reduceLT, s0', eq_true h37, eq_true h39, eq_true h35, nI_1]
            exact nx _ (by rw [if_pos (ee.mpr ⟨s0, h37, h39, h35⟩)])
          · simp only [E204_143, E204_146, E204_147, E204_150, E204_151, E204_154, E204_155, E204_158, E204_159, E204_162, E204_163, E204_166, E204_167, E204_170, E204_171, E204_173, E204_174, E204_177, E204_178, E204_179, E204_181, E204_184, pk54 hS, rfs, rfn, cs0, csi, csl, csr, csn, kti, ktl, ktr, ktn, ktv, ktf, true_and, and_true, and_self, ↓reduceIte, Nat.reduceAdd, Nat.reduceSub, Nat.reduceMul, Nat.reduceLT, Nat.reduceLeDiff, Nat.reduceEqDiff, true_or, or_true, false_or, or_false, not_true_eq_false, not_false_eq_true, reduceCtorEq, cmp_lt, cmp_gt, cmp_eq, Int32.reduceAdd, Int32.reduceSub, Int32.reduceMul, Int32.reduceLT, Int32.reduceToNatClampNeg, eq_self, ne_eq, Int64.reduceAdd, Int64.reduceSub, Int64.reduceMul, Int64.reduceLT, s0', eq_true h37, eq_true h39, h35, nI_1]
            exact no (fun z => h35 z.2.2.2)
        · simp only [E204_143, E204_146, E204_147, E204_150, E204_151, E204_154, E204_155, E204_158, E204_159, E204_162, E204_163, E204_166, E204_167, E204_170, E204_171, E204_173, E204_174, E204_177, E204_178, E204_179, E204_181, E204_184, pk54 hS, rfs, rfn, cs0, csi, csl, csr, csn, kti, ktl, ktr, ktn, ktv, ktf, true_and, and_true, and_self, ↓reduceIte, Nat.reduceAdd, Nat.reduceSub, Nat.reduceMul, Nat.reduceLT, Nat.reduceLeDiff, Nat.reduceEqDiff, true_or, or_true, false_or, or_false, not_true_eq_false, not_false_eq_true, reduceCtorEq, cmp_lt, cmp_gt, cmp_eq, Int32.reduceAdd, Int32.reduceSub, Int32.reduceMul, Int32.reduceLT, Int32.reduceToNatClampNeg, eq_self, ne_eq, Int64.reduceAdd, Int64.reduceSub, Int64.reduceMul, Int64.reduceLT, s0', eq_true h37, h39, nI_1]
          exact no (fun z => h39 z.2.2.1)
      · simp only [E204_143, E204_146, E204_147, E204_150, E204_151, E204_154, E204_155, E204_158, E204_159, E204_162, E204_163, E204_166, E204_167, E204_170, E204_171, E204_173, E204_174, E204_177, E204_178, E204_179, E204_181, E204_184, pk54 hS, rfs, rfn, cs0, csi, csl, csr, csn, kti, ktl, ktr, ktn, ktv, ktf, true_and, and_true, and_self, ↓reduceIte, Nat.reduceAdd, Nat.reduceSub, Nat.reduceMul, Nat.reduceLT, Nat.reduceLeDiff, Nat.reduceEqDiff, true_or, or_true, false_or, or_false, not_true_eq_false, not_false_eq_true, reduceCtorEq, cmp_lt, cmp_gt, cmp_eq, Int32.reduceAdd, Int32.reduceSub, Int32.reduceMul, Int32.reduceLT, Int32.reduceToNatClampNeg, eq_self, ne_eq, Int64.reduceAdd, Int64.reduceSub, Int64.reduceMul, Int64.reduceLT, s0', h37, nI_1]
        exact no (fun z => h37 z.2.1)
    · have s0' : (nI s = 0) = False := eq_false (fun y => s0 ((nI_eq (a := s) (b := 0) (by omega) (by decide)).mp y))
      simp only [E204_143, E204_146, E204_147, E204_150, E204_151, E204_154, E204_155, E204_158, E204_159, E204_162, E204_163, E204_166, E204_167, E204_170, E204_171, E204_173, E204_174, E204_177, E204_178, E204_179, E204_181, E204_184, pk54 hS, rfs, rfn, cs0, csi, csl, csr, csn, kti, ktl, ktr, ktn, ktv, ktf, true_and, and_true, and_self, ↓reduceIte, Nat.reduceAdd, Nat.reduceSub, Nat.reduceMul, Nat.reduceLT, Nat.reduceLeDiff, Nat.reduceEqDiff, true_or, or_true, false_or, or_false, not_true_eq_false, not_false_eq_true, reduceCtorEq, cmp_lt, cmp_gt, cmp_eq, Int32.reduceAdd, Int32.reduceSub, Int32.reduceMul, Int32.reduceLT, Int32.reduceToNatClampNeg, eq_self, ne_eq, Int64.reduceAdd, Int64.reduceSub, Int64.reduceMul, Int64.reduceLT, s0', nI_1]
      exact no (fun z => s0 z.1)
theorem tb_neg {c : Nat} (h3 : 3 ≤ c) (h5 : c ≤ 5) (hx : x < 0) : tbL (nI c) 5 0 x = false := by
  show (if nI 0 < nI c then (if 0 < x then (if x - x / 10 * 10 = 0 then false else tbL (nI c) 4 1 (x / 10)) else false) else decide (x = 0)) = false
  rw [if_pos (nI_lt (by omega) (by omega)), if_neg (fun z => by
    rw [Int32.lt_iff_toInt_lt] at hx z
    omega)]
theorem msk : ∀ c, c < 6 → 3 ≤ c → (1 <<< (nI c &&& 31) - 1 : Int32) = nI (2 ^ c - 1) ∧ (1 <<< ((nI c).toInt64 &&& 63) - 1 : Int64) = (nI (2 ^ c - 1)).toInt64 := by decide +kernel
theorem msk2 : ∀ c, c < 6 → 3 ≤ c → ∀ y, y < 2 ^ c → nI y &&& ((1 <<< (nI c &&& 31) - 1) ^^^ -1) = 0 := by decide +kernel
theorem msk3 : ∀ c, c < 6 → 3 ≤ c → ∀ i, i < 32 → ((((1 <<< (nI c &&& 31) - 1) ^^^ -1 : Int32)).toBitVec).getLsbD i = !decide (i < c) := by decide +kernel
theorem msk4 {c : Nat} (h3 : 3 ≤ c) (h5 : c ≤ 5) : x &&& ((1 <<< (nI c &&& 31) - 1) ^^^ -1) = 0 ↔ ∃ y, y < 2 ^ c ∧ x = nI y := by
  refine ⟨fun z => ?_, fun ⟨y, y1, e⟩ => by rw [e]; exact msk2 c (by omega) h3 y y1⟩
  have b : ∀ i, c ≤ i → x.toBitVec.getLsbD i = false := fun i hi => by
    by_cases h : i < 32
    · have e := congrArg (fun v => v.toBitVec.getLsbD i) z
      simp only [Int32.toBitVec_and, BitVec.getLsbD_and] at e
      rw [msk3 c (by omega) h3 i h, decide_eq_false (by omega)] at e
      have e0 : ((0 : Int32).toBitVec).getLsbD i = false := by
        show (0#32).getLsbD i = false
        exact BitVec.getLsbD_zero
      rw [e0] at e
      simpa using e
    · exact BitVec.getLsbD_of_ge _ _ (by omega)
  have hl : x.toBitVec.toNat < 2 ^ c := by
    refine Nat.lt_pow_two_of_testBit _ (fun i hi => ?_)
    rw [BitVec.testBit_toNat]
    exact b i hi
  refine ⟨x.toBitVec.toNat, hl, Int32.toBitVec_inj.mp ?_⟩
  show x.toBitVec = BitVec.ofNat 32 x.toBitVec.toNat
  exact BitVec.eq_of_toNat_eq (by rw [BitVec.toNat_ofNat, Nat.mod_eq_of_lt x.toBitVec.isLt])
theorem inM {c : Nat} (h5 : c ≤ 5) : inB x.toInt64 0 (nI (2 ^ c - 1)).toInt64 = true ↔ ∃ y, y < 2 ^ c ∧ x = nI y := by
  have p : 2 ^ c ≤ 2 ^ 5 := Nat.pow_le_pow_right (by decide) h5
  have p1 : 1 ≤ 2 ^ c := Nat.one_le_two_pow
  have e := inBc (x := x) (a := 0) (b := nI (2 ^ c - 1)) (lo := 0) (hi := (nI (2 ^ c - 1)).toInt64) rfl rfl
  rw [e]
  clear e
  generalize 2 ^ c = P at p p1 ⊢
  rw [Int32.lt_iff_toInt_lt, Int32.lt_iff_toInt_lt, nI_toInt (by omega)]
  show ¬ x.toInt < 0 ∧ ¬ ((P - 1 : Nat) : Int) < x.toInt ↔ _
  refine ⟨fun z => ⟨x.toInt.toNat, by omega, ti_nI (z := x.toInt) rfl (by omega) (by omega)⟩, fun ⟨t, t1, e⟩ => ?_⟩
  rw [e, nI_toInt (by omega)]
  omega
theorem madeE (X : XC S I R t) (rl : Rel I R) (h : ExB I R) (hd : HdR I) (hS : Pm S1) (hR : Pr R1) (hM : Rw (I 56)) (e56 : I1 56 = I 56) {c r : Nat} (c3 : 3 ≤ c) (c5 : c ≤ 5) (e0 : I 5 0 = nI c) (r8 : r ≤ 8) (er : I 5 6 = nI r) (n1 : (¬ (a &&& ((1 <<< (nI c &&& 31) - 1) ^^^ -1) = 0 ∧ b &&& ((1 <<< (nI c &&& 31) - 1) ^^^ -1) = 0 ∧ tbL (nI c) 5 0 x = true) ∧ v = -1) ∨ (a &&& ((1 <<< (nI c &&& 31) - 1) ^^^ -1) = 0 ∧ b &&& ((1 <<< (nI c &&& 31) - 1) ^^^ -1) = 0 ∧ tbL (nI c) 5 0 x = true ∧ MdS S R x a b r 0 0 I v I1)) (hq : ∀ J L', Q (.int v) S1 J L' R1) : EvM (d + 6) 204 [.ref 54, .int x, .int a, .int b] S1 I1 L R1 Q := by
  have z0 : inb 0 8060 = True := inb_nI (j := 0) (by decide) (by decide)
  have ec : I 56 0 = nI c := by rw [← e0]; exact rl.2.1.1.symm
  obtain ⟨_, m2⟩ := msk c (by omega) c3
  simp only [M204, E204_0, E204_1, E204_2, E204_5, E204_6, E204_9, E204_10, E204_11, E204_13, E204_14, E204_16, E204_17, E204_18, E204_19, E204_21, pk54 hS, pk56 hS, pl56 hS, pa56 hS, pi56 hS, pr54_3 hR, rfs, rfn, cs0, csi, csl, csr, csn, kti, ktl, ktr, ktn, ktv, ktf, true_and, and_true, and_self, ↓reduceIte, Nat.reduceAdd, Nat.reduceSub, Nat.reduceMul, Nat.reduceLT, Nat.reduceLeDiff, Nat.reduceEqDiff, true_or, or_true, false_or, or_false, not_true_eq_false, not_false_eq_true, reduceCtorEq, cmp_lt, cmp_gt, cmp_eq, Int32.reduceAdd, Int32.reduceSub, Int32.reduceMul, Int32.reduceLT, Int32.reduceToNatClampNeg, eq_self, ne_eq, Int64.reduceAdd, Int64.reduceSub, Int64.reduceMul, Int64.reduceLT, z0, pt, pt_m, e56, ec, m2]
  by_cases gx : x < 0
  · simp only [E204_22, E204_25, E204_26, E204_27, E204_28, E204_30, E204_33, E204_36, E204_37, E204_38, E204_39, E204_41, E204_44, E204_47, E204_48, rfs, rfn, cs0, csi, csl, csr, csn, kti, ktl, ktr, ktn, ktv, ktf, true_and, and_true, and_self, ↓reduceIte, Nat.reduceAdd, Nat.reduceSub, Nat.reduceMul, Nat.reduceLT, Nat.reduceLeDiff, Nat.reduceEqDiff, true_or, or_true, false_or, or_false, not_true_eq_false, not_false_eq_true, reduceCtorEq, cmp_lt, cmp_gt, cmp_eq, Int32.reduceAdd, Int32.reduceSub, Int32.reduceMul, Int32.reduceLT, Int32.reduceToNatClampNeg, eq_self, ne_eq, Int64.reduceAdd, Int64.reduceSub, Int64.reduceMul, Int64.reduceLT, gx]
    rcases n1 with ⟨_, rfl⟩ | ⟨_, _, z, _⟩
    · exact hq _ _
    · rw [tb_neg c3 c5 gx] at z
      cases z
  cases ga : inB a.toInt64 0 (nI (2 ^ c - 1)).toInt64
  · simp only [E204_22, E204_25, E204_26, E204_27, E204_28, E204_30, E204_33, E204_36, E204_37, E204_38, E204_39, E204_41, E204_44, E204_47, E204_48, inn, pk54 hS, rfs, rfn, cs0, csi, csl, csr, csn, kti, ktl, ktr, ktn, ktv, ktf, true_and, and_true, and_self, ↓reduceIte, Nat.reduceAdd, Nat.reduceSub, Nat.reduceMul, Nat.reduceLT, Nat.reduceLeDiff, Nat.reduceEqDiff, true_or, or_true, false_or, or_false, not_true_eq_false, not_false_eq_true, reduceCtorEq, cmp_lt, cmp_gt, cmp_eq, Int32.reduceAdd, Int32.reduceSub, Int32.reduceMul, Int32.reduceLT, Int32.reduceToNatClampNeg, eq_self, ne_eq, Int64.reduceAdd, Int64.reduceSub, Int64.reduceMul, Int64.reduceLT, gx, ga, bI_f]
    rcases n1 with ⟨_, rfl⟩ | ⟨z, _⟩
    · exact hq _ _
    · rw [(inM c5).mpr ((msk4 c3 c5).mp z)] at ga
      cases ga
  cases gb : inB b.toInt64 0 (nI (2 ^ c - 1)).toInt64
  · simp only [E204_22, E204_25, E204_26, E204_27, E204_28, E204_30, E204_33, E204_36, E204_37, E204_38, E204_39, E204_41, E204_44, E204_47, E204_48, inn, pk54 hS, rfs, rfn, cs0, csi, csl, csr, csn, kti, ktl, ktr, ktn, ktv, ktf, true_and, and_true, and_self, ↓reduceIte, Nat.reduceAdd, Nat.reduceSub, Nat.reduceMul, Nat.reduceLT, Nat.reduceLeDiff, Nat.reduceEqDiff, true_or, or_true, false_or, or_false, not_true_eq_false, not_false_eq_true, reduceCtorEq, cmp_lt, cmp_gt, cmp_eq, Int32.reduceAdd, Int32.reduceSub, Int32.reduceMul, Int32.reduceLT, Int32.reduceToNatClampNeg, eq_self, ne_eq, Int64.reduceAdd, Int64.reduceSub, Int64.reduceMul, Int64.reduceLT, gx, ga, gb, bI_f, bI_t, n1_0]
    rcases n1 with ⟨_, rfl⟩ | ⟨_, z, _⟩
    · exact hq _ _
    · rw [(inM c5).mpr ((msk4 c3 c5).mp z)] at gb
      cases gb
  have ea := (msk4 c3 c5).mpr ((inM c5).mp ga)
  have eb := (msk4 c3 c5).mpr ((inM c5).mp gb)
  obtain ⟨T, hT, rfl⟩ : ∃ T, T < 2 ^ 31 ∧ x = nI T := by
    have y1 : ¬ x.toInt < 0 := fun z => gx (Int32.lt_iff_toInt_lt.mpr z)
    have y2 := Int32.toInt_lt x
    exact ⟨x.toInt.toNat, by omega, ti_nI (z := x.toInt) rfl (by omega) (by omega)⟩
  simp only [E204_22, E204_25, E204_26, E204_27, E204_28, E204_30, E204_33, E204_36, E204_37, E204_38, E204_39, E204_41, E204_44, E204_47, E204_48, E204_49, E204_50, E204_52, E204_54, E204_55, E204_56, inn, pk54 hS, rfs, rfn, cs0, csi, csl, csr, csn, kti, ktl, ktr, ktn, ktv, ktf, true_and, and_true, and_self, ↓reduceIte, Nat.reduceAdd, Nat.reduceSub, Nat.reduceMul, Nat.reduceLT, Nat.reduceLeDiff, Nat.reduceEqDiff, true_or, or_true, false_or, or_false, not_true_eq_false, not_false_eq_true, reduceCtorEq, cmp_lt, cmp_gt, cmp_eq, Int32.reduceAdd, Int32.reduceSub, Int32.reduceMul, Int32.reduceLT, Int32.reduceToNatClampNeg, eq_self, ne_eq, Int64.reduceAdd, Int64.reduceSub, Int64.reduceMul, Int64.reduceLT, gx, ga, gb, bI_t, n1_0]
  refine mdE (d := d + 5) hS hR c5 c T _ _ (Nat.le_refl c) hT (fun z J hJ => ?_) (fun z J v0 y0 hJ _ hD h9 => ?_)
  · rw [Nat.sub_self] at z
    rcases n1 with ⟨_, rfl⟩ | ⟨_, _, y, _⟩
    · exact hq _ _
    · have z' : tbL (nI c) 5 0 (nI T) = false := z
      rw [z'] at y
      cases y
  · rw [Nat.sub_self] at z
    have z' : tbL (nI c) 5 0 (nI T) = true := z
    rcases n1 with ⟨y, _⟩ | ⟨_, _, _, hMd⟩
    · exact absurd ⟨ea, eb, z'⟩ y
    · simp only [E204_107, E204_108, E204_110, E204_111, E204_112, E204_115, E204_116, pk54 hS, rfs, rfn, cs0, csi, csl, csr, csn, kti, ktl, ktr, ktn, ktv, ktf, true_and, and_true, and_self, ↓reduceIte, Nat.reduceAdd, Nat.reduceSub, Nat.reduceMul, Nat.reduceLT, Nat.reduceLeDiff, Nat.reduceEqDiff, true_or, or_true, false_or, or_false, not_true_eq_false, not_false_eq_true, reduceCtorEq, cmp_lt, cmp_gt, cmp_eq, Int32.reduceAdd, Int32.reduceSub, Int32.reduceMul, Int32.reduceLT, Int32.reduceToNatClampNeg, eq_self, ne_eq, Int64.reduceAdd, Int64.reduceSub, Int64.reduceMul, Int64.reduceLT, pt]
      refine mrE (d := d) (T := T) (g := fun k => (J 71 k).toNatClampNeg) X rl h hS hR hM e0 c5 r8 er hT (fun k hk => ?_) hD hd.2.1 r 0 0 I (put J 54 42 (-1)) L v I1 (by omega) hMd Gu.rf hd.2.1 ?_ pt_s (fun k hk => ?_) hq
      · obtain ⟨y, y9, e⟩ := h9 k hk
        show (J 71 k).toNatClampNeg ≤ 9
        rw [e, nI_clamp (by omega)]
        exact y9
      · rw [pt_n (by decide), hJ 56 (by decide), pt_n (by decide)]
        exact e56
      · obtain ⟨y, y9, e⟩ := h9 k hk
        rw [pt_m (by decide), show 5 * 0 + k = k by omega, e, nI_clamp (by omega)]
/-- made: both answer alike -/
theorem made_law (X : XC S I R t) (rl : Rel I R) (h : ExB I R) (hd : HdR I) (M : InvM I1 t) (hS : Pm S1) (hR : Pr R1) (o1 : OutX I I1) (n1 : ∀ c r, c ≤ 5 → I 5 0 = nI c → r ≤ 8 → I 5 6 = nI r → ((¬ (a &&& ((1 <<< (I 5 0 &&& 31) - 1) ^^^ -1) = 0 ∧ b &&& ((1 <<< (I 5 0 &&& 31) - 1) ^^^ -1) = 0 ∧ tbL (nI c) 5 0 x = true) ∧ v = -1) ∨ (a &&& ((1 <<< (I 5 0 &&& 31) - 1) ^^^ -1) = 0 ∧ b &&& ((1 <<< (I 5 0 &&& 31) - 1) ^^^ -1) = 0 ∧ tbL (nI c) 5 0 x = true ∧ MdS S R x a b r 0 0 I v I1))) (hq : ∀ J L', InvM J t → OutM I1 J → RlN I1 J → Q (.int v) S1 J L' R1) : EvM (d + 6) 204 [.ref 54, .int x, .int a, .int b] S1 I1 L R1 Q := by
  obtain ⟨_, r, r8, er⟩ := X.2.1.rcs
  have e56 : I1 56 = I 56 := o1 56 (by decide)
  have hM : Rw (I 56) := by rw [← e56]; exact M.1
  obtain ⟨c, c3, c5, ec⟩ := hM.1
  have e0 : I 5 0 = nI c := by rw [← ec]; exact rl.2.1.1
  have n2 := n1 c r c5 e0 r8 er
  rw [e0] at n2
  have k1 := m_made (d := d) (L := L) (x := x) (a := a) (b := b) (Q := fun v S' J L' R' => ∃ x, v = .int x ∧ S' = S1 ∧ R' = R1 ∧ InvM J t ∧ OutM I1 J ∧ RlN I1 J) hS hR M (fun v J L' a b c => ⟨v, rfl, rfl, rfl, a, b, c⟩)
  have k2 := madeE (d := d) (L := L) (Q := fun z _ _ _ _ => z = .int v) X rl h hd hS hR hM e56 c3 c5 e0 r8 er n2 (fun _ _ => rfl)
  refine evm_mono (evm_and k1 k2) (fun z S' J L' R' k => ?_)
  obtain ⟨⟨y, rfl, rfl, rfl, a, b, c⟩, e⟩ := k
  injection e with e
  subst e
  exact hq J L' a b c
end MDL
