/-! sets of rows: MOVES, a HEAT, levels -/
def mv (w : Nat → Nat) (c p y k : Nat) : Prop := ∃ i, i + 1 < c ∧ p ≤ i + 2 ∧ i ≤ p + 1 ∧ ((2 ≤ dg w y i ∧ dg w y (i + 1) ≤ 8 ∧ k + w i = y + w (i + 1)) ∨ (2 ≤ dg w y (i + 1) ∧ dg w y i ≤ 8 ∧ k + w (i + 1) = y + w i))
/-- what at most b MOVES lead to -/
def Xs (m : Nat → Nat → Prop) (A : Nat → Prop) : Nat → Nat → Prop
  | 0, k => A k
  | b + 1, k => Xs m A b k ∨ ∃ y, Xs m A b y ∧ m y k
theorem Xs_up {m : Nat → Nat → Prop} {A : Nat → Prop} {b k : Nat} (h : Xs m A b k) (j : Nat) : Xs m A (b + j) k := by
  induction j with
  | zero => exact h
  | succ j ih => exact Or.inl ih
theorem Xs_stop {m : Nat → Nat → Prop} {A : Nat → Prop} {b : Nat} (h : ∀ y k, Xs m A b y → m y k → Xs m A b k) (j k : Nat) : Xs m A (b + j) k ↔ Xs m A b k := by
  induction j generalizing k with
  | zero => exact Iff.rfl
  | succ j ih =>
    constructor
    · rintro (q | ⟨y, q1, q2⟩)
      · exact (ih k).mp q
      · exact h y k ((ih y).mp q1) q2
    · intro q
      exact Or.inl ((ih k).mpr q)
theorem Xs_ex {m : Nat → Nat → Prop} {A : Nat → Prop} {P : Nat → Nat → Prop} {b k : Nat} : Xs m (fun k => ∃ v, A v ∧ P v k) b k ↔ ∃ v, A v ∧ Xs m (P v) b k := by
  induction b generalizing k with
  | zero => exact Iff.rfl
  | succ b ih =>
    constructor
    · rintro (q | ⟨y, q1, q2⟩)
      · obtain ⟨v, g1, g2⟩ := ih.mp q
        exact ⟨v, g1, Or.inl g2⟩
      · obtain ⟨v, g1, g2⟩ := ih.mp q1
        exact ⟨v, g1, Or.inr ⟨y, g2, q2⟩⟩
    · rintro ⟨v, g1, (g2 | ⟨y, g2, g3⟩)⟩
      · exact Or.inl (ih.mpr ⟨v, g1, g2⟩)
      · exact Or.inr ⟨y, ih.mpr ⟨v, g1, g2⟩, g3⟩
theorem Xs_lt {m : Nat → Nat → Prop} {A : Nat → Prop} {N : Nat} (hA : ∀ k, A k → k < N) (hm : ∀ y k, y < N → m y k → k < N) (b k : Nat) (h : Xs m A b k) : k < N := by
  induction b generalizing k with
  | zero => exact hA k h
  | succ b ih =>
    rcases h with q | ⟨y, q1, q2⟩
    · exact ih k q
    · exact hm y k (ih y q1) q2
theorem Xs_cong {m : Nat → Nat → Prop} {A B : Nat → Prop} (h : ∀ k, A k ↔ B k) (b k : Nat) : Xs m A b k ↔ Xs m B b k := by
  induction b generalizing k with
  | zero => exact h k
  | succ b ih =>
    constructor
    · rintro (q | ⟨y, q1, q2⟩)
      · exact Or.inl ((ih k).mp q)
      · exact Or.inr ⟨y, (ih y).mp q1, q2⟩
    · rintro (q | ⟨y, q1, q2⟩)
      · exact Or.inl ((ih k).mpr q)
      · exact Or.inr ⟨y, (ih y).mpr q1, q2⟩
/-- where a HEAT at p leads from v, ahead of its MOVES -/
def hot (w : Nat → Nat) (c : Nat) (nu : Int32) (p v k : Nat) : Prop := hld w c nu v p ∧ ((dg w v p = 1 ∧ k = v) ∨ (2 ≤ dg w v p ∧ k + w p = v))
/-- the rows behind h HEATS from r -/
def Lev (w : Nat → Nat) (c : Nat) (nu : Int32) (B r : Nat) : Nat → Nat → Prop
  | 0, k => k = r
  | h + 1, k => ∃ p, p < c ∧ ∃ v, Lev w c nu B r h v ∧ Xs (mv w c p) (hot w c nu p v) B k
theorem xorm_bit {x : Int64} {i : Nat} (hi : i < 64) : (x ^^^ (-1)).toBitVec.getLsbD i = !x.toBitVec.getLsbD i := by
  rw [Int64.toBitVec_xor, BitVec.getLsbD_xor, all_bit i hi]
  cases x.toBitVec.getLsbD i <;> rfl
section HT
variable {d f c n p a e : Nat} {w : Nat → Nat} {S : mS} {I : mI} {R : mR} {Q : mQ}
theorem ht_lp (hS : FoS S R f c n) (hI : FoI I f c n w) (hc : c ≤ 5) (hn : n < 2 ^ 24) (hp : p < c) (la : lon S a n) (le : lon S e n) (hae : ¬ a = e) (he : e < f ∨ f + 7 + 3 * c < e) : ∀ (m i : Nat) (L : mL), i + m = n → Ev (d + 2) 12 3 [.ref f, .ref a, .int (nI p), .ref e, .int (nI i)] [] S I L R Q = Ev (d + 2) 12 50 [.ref f, .ref a, .int (nI p), .ref e, .int (nI n)] [] S I (va_up L e (fun k => if i ≤ k ∧ k < n then L a k &&& L (f + 4 + 2 * c + 1 + p) k &&& (L (f + 2 + 1 + p) k ^^^ (-1)) else L e k)) R Q := by
  obtain ⟨⟨hF, hW, hWl⟩, ⟨r2, r3, r4, r5, r7, r8, r9⟩, ⟨mG, mT, mH⟩, l7, l8, l9⟩ := hS
  obtain ⟨hI0, hI1, hIw⟩ := hI
  have hGR := matR mG
  have hG2 := mG.1.2
  have hHR := matR mH
  have hH2 := mH.1.2
  have hg := mG.2 p hp
  have hh := mH.2 p hp
  obtain ⟨hg1, hg2, hg3⟩ := hg
  obtain ⟨hh1, hh2, hh3⟩ := hh
  obtain ⟨la1, la2⟩ := la
  obtain ⟨le1, le2⟩ := le
  have p3 : inb (nI p) c = True := inb_nI hp (by omega)
  have p4 : (nI p).toNatClampNeg = p := nI_clamp (by omega)
  intro m
  induction m with
  | zero =>
    intro i L hi
    obtain rfl : i = n := by omega
    have e0 : (nI i < nI i) = False := eq_false (nI_nlt (Nat.le_refl i) (by omega))
    rw [E12_3]
    simp only [E12_5, E12_6, E12_9, e0, hF, hI1, rfs, rfn, cs0, csi, csl, csr, csn, kti, ktl, ktr, ktn, ktv, ktf, true_and, and_true, and_self, ↓reduceIte, Nat.reduceAdd, Nat.reduceSub, Nat.reduceMul, Nat.reduceLT, Nat.reduceLeDiff, Nat.reduceEqDiff, true_or, or_true, false_or, or_false, not_true_eq_false, not_false_eq_true, reduceCtorEq, cmp_lt, cmp_gt, cmp_eq, Int32.reduceAdd, Int32.reduceSub, Int32.reduceMul, Int32.reduceLT, Int32.reduceToNatClampNeg, eq_self, ne_eq, Int64.reduceAdd, Int64.reduceSub, Int64.reduceMul, Int64.reduceLT]
    rw [up_ext]
    funext k
    rw [if_neg (by omega)]
  | succ m ih =>
    intro i L hi
    have e1 : (nI i < nI n) = True := eq_true (nI_lt (a := i) (b := n) (by omega) (by omega))
    have e3 : inb (nI i) n = True := inb_nI (by omega) (by omega)
    have e4 : (nI i).toNatClampNeg = i := nI_clamp (by omega)
    rw [E12_3]
    simp only [E12_5, E12_6, E12_9, E12_12, E12_13, E12_15, E12_16, E12_18, E12_19, E12_20, E12_23, E12_24, E12_25, E12_27, E12_28, E12_29, E12_30, E12_33, E12_34, E12_35, E12_37, E12_38, E12_41, E12_42, E12_43, E12_44, E12_47, e1, e3, e4, p3, p4, hF, hI1, r3, r5, hGR, hG2, hHR, hH2, hg1, hg2, hg3, hh1, hh2, hh3, la1, la2, le1, le2, rfs, rfn, cs0, csi, csl, csr, csn, kti, ktl, ktr, ktn, ktv, ktf, true_and, and_true, and_self, ↓reduceIte, Nat.reduceAdd, Nat.reduceSub, Nat.reduceMul, Nat.reduceLT, Nat.reduceLeDiff, Nat.reduceEqDiff, true_or, or_true, false_or, or_false, not_true_eq_false, not_false_eq_true, reduceCtorEq, cmp_lt, cmp_gt, cmp_eq, Int32.reduceAdd, Int32.reduceSub, Int32.reduceMul, Int32.reduceLT, Int32.reduceToNatClampNeg, eq_self, ne_eq, Int64.reduceAdd, Int64.reduceSub, Int64.reduceMul, Int64.reduceLT, nI_1]
    rw [ih (i + 1) _ (by omega), up_up]
    congr 2
    funext k
    rw [uu_n _ _ hae, uu_n _ _ (show ¬ f + 4 + 2 * c + 1 + p = e by omega), uu_n _ _ (show ¬ f + 2 + 1 + p = e by omega), uu_s, up_is]
    by_cases h1 : k = i
    · subst h1
      rw [if_neg (by omega), if_pos rfl, if_pos (by omega)]
    · rw [if_neg h1]
      by_cases h2 : i + 1 ≤ k ∧ k < n
      · rw [if_pos h2, if_pos (by omega)]
      · rw [if_neg h2, if_neg (by omega)]
theorem heatA {L : mL} (hS : FoS S R f c n) (hI : FoI I f c n w) (hw : wOk w c) (hc : c ≤ 5) (hn : n < 2 ^ 24) (hp : p < c) (la : lon S a n) (le : lon S e n) (hae : ¬ a = e) (he : e < f ∨ f + 7 + 3 * c < e) (h : ∀ g : Nat → Int64, (∀ k, k < 64 * n → (gb g k = true ↔ ∃ v, v < 64 * n ∧ gb (L a) v = true ∧ gb (L (f + 4 + 2 * c + 1 + p)) v = true ∧ ((¬ gb (L (f + 2 + 1 + p)) v = true ∧ k = v) ∨ (gb (L (f + 2 + 1 + p)) v = true ∧ k + w p = v)))) → Q .null S I (va_up L e g) R) : EvM (d + 2) 12 [.ref f, .ref a, .int (nI p), .ref e] S I L R Q := by
  have lp := ht_lp (d := d) (Q := Q) hS hI hc hn hp la le hae he n 0 L (by omega)
  obtain ⟨⟨hF, hW, hWl⟩, ⟨r2, r3, r4, r5, r7, r8, r9⟩, ⟨mG, mT, mH⟩, l7, l8, l9⟩ := hS
  obtain ⟨hI0, hI1, hIw⟩ := hI
  have hGR := matR mG
  have hG2 := mG.1.2
  have hHR := matR mH
  have hH2 := mH.1.2
  have hg := mG.2 p hp
  have hh := mH.2 p hp
  obtain ⟨hg1, hg2⟩ := hg
  obtain ⟨hh1, hh2⟩ := hh
  have p3 : inb (nI p) c = True := inb_nI hp (by omega)
  have p4 : (nI p).toNatClampNeg = p := nI_clamp (by omega)
  have hWI : okI S (f + 1) := ⟨hW.1, Or.inl hW.2⟩
  have hwp := hIw p hp
  have hw1 := hw p hp
  simp only [M12, E12_0, E12_1, rfs, rfn, cs0, csi, csl, csr, csn, kti, ktl, ktr, ktn, ktv, ktf, true_and, and_true, and_self, ↓reduceIte, Nat.reduceAdd, Nat.reduceSub, Nat.reduceMul, Nat.reduceLT, Nat.reduceLeDiff, Nat.reduceEqDiff, true_or, or_true, false_or, or_false, not_true_eq_false, not_false_eq_true, reduceCtorEq, cmp_lt, cmp_gt, cmp_eq, Int32.reduceAdd, Int32.reduceSub, Int32.reduceMul, Int32.reduceLT, Int32.reduceToNatClampNeg, eq_self, ne_eq, Int64.reduceAdd, Int64.reduceSub, Int64.reduceMul, Int64.reduceLT]
  rw [show nI 0 = 0 from rfl] at lp
  rw [lp]
  simp only [E12_50, E12_51, E12_52, E12_55, E12_56, E12_57, E12_58, E12_61, E12_62, E12_63, E12_64, E12_67, E12_68, E12_69, E12_70, E12_71, p3, p4, hF, r2, r3, r5, hGR, hG2, hHR, hH2, hg1, hh1, hWI, hWl, hwp, rfs, rfn, cs0, csi, csl, csr, csn, kti, ktl, ktr, ktn, ktv, ktf, true_and, and_true, and_self, ↓reduceIte, Nat.reduceAdd, Nat.reduceSub, Nat.reduceMul, Nat.reduceLT, Nat.reduceLeDiff, Nat.reduceEqDiff, true_or, or_true, false_or, or_false, not_true_eq_false, not_false_eq_true, reduceCtorEq, cmp_lt, cmp_gt, cmp_eq, Int32.reduceAdd, Int32.reduceSub, Int32.reduceMul, Int32.reduceLT, Int32.reduceToNatClampNeg, eq_self, ne_eq, Int64.reduceAdd, Int64.reduceSub, Int64.reduceMul, Int64.reduceLT]
  refine shA (d := d) (n := n) (z := -(w p : Int)) la.1 la.2 hh2.1 hh2.2 hg2.1 hg2.2 le.1 le.2 hae (by omega) (by omega) hn (sb_negT (by omega)) (by omega) (by omega) (fun g hg9 => ?_)
  simp only [E12_74, up_up]
  refine h g (fun k hk => (hg9 k hk).trans ?_)
  rw [uu_s, uu_n _ _ hae, uu_n _ _ (by omega), uu_n _ _ (by omega)]
  have e1 : gb (fun k => if 0 ≤ k ∧ k < n then L a k &&& L (f + 4 + 2 * c + 1 + p) k &&& (L (f + 2 + 1 + p) k ^^^ (-1)) else L e k) k = true ↔ gb (L a) k = true ∧ gb (L (f + 4 + 2 * c + 1 + p)) k = true ∧ ¬ gb (L (f + 2 + 1 + p)) k = true := by
    have e : (fun k => if 0 ≤ k ∧ k < n then L a k &&& L (f + 4 + 2 * c + 1 + p) k &&& (L (f + 2 + 1 + p) k ^^^ (-1)) else L e k) (k / 64) = L a (k / 64) &&& L (f + 4 + 2 * c + 1 + p) (k / 64) &&& (L (f + 2 + 1 + p) (k / 64) ^^^ (-1)) := if_pos (by omega)
    unfold gb
    rw [e, and_bit, and_bit, xorm_bit (by omega), Bool.and_eq_true, Bool.and_eq_true, and_assoc, Bool.not_eq_true']
    simp only [Bool.not_eq_true]
  rw [e1]
  constructor
  · rintro (⟨q1, q2, q3⟩ | ⟨j, q1, q2, q3, q4, q5⟩)
    · exact ⟨k, hk, q1, q2, Or.inl ⟨q3, rfl⟩⟩
    · exact ⟨j, q1, q3, q4, Or.inr ⟨q5, by omega⟩⟩
  · rintro ⟨v, q1, q2, q3, (⟨q4, rfl⟩ | ⟨q4, q5⟩)⟩
    · exact Or.inl ⟨q2, q3, q4⟩
    · exact Or.inr ⟨v, q1, by omega, q2, q3, q4⟩
end HT
