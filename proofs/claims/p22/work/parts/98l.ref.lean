/-! sets of rows: MOVES, a HEAT, levels -/
def mv (w : Nat → Nat) (c p y k : Nat) : Prop := ∃ i, i + 1 < c ∧ p ≤ i + 2 ∧ i ≤ p + 1 ∧ ((2 ≤ dg w y i ∧ dg w y (i + 1) ≤ 8 ∧ k + w i = y + w (i + 1)) ∨ (2 ≤ dg w y (i + 1) ∧ dg w y i ≤ 8 ∧ k + w (i + 1) = y + w i))
/-- what at most b MOVES lead to -/
def Xs (m : Nat → Nat → Prop) (A : Nat → Prop) : Nat → Nat → Prop
  | 0, k => A k
  | b + 1, k => Xs m A b k ∨ ∃ y, Xs m A b y ∧ m y k
theorem Xs_up {m : Nat → Nat → Prop} {A : Nat → Prop} {b k : Nat} (h : Xs m A b k) (j : Nat) : Xs m A (b + j) k := by
  induction j with
  | zero => exact h
  | succ j ih => exact Or.inl ih
theorem Xs_stop {m : Nat → Nat → Prop} {A : Nat → Prop} {b : Nat} (h : ∀ y k, Xs m A b y → m y k → Xs m A b k) (j k : Nat) : Xs m A (b + j) k ↔ Xs m A b k := by
  induction j generalizing k with
  | zero => exact Iff.rfl
  | succ j ih =>
    constructor
    · rintro (q | ⟨y, q1, q2⟩)
      · exact (ih k).mp q
      · exact h y k ((ih y).mp q1) q2
    · intro q
      exact Or.inl ((ih k).mpr q)
theorem Xs_ex {m : Nat → Nat → Prop} {A : Nat → Prop} {P : Nat → Nat → Prop} {b k : Nat} : Xs m (fun k => ∃ v, A v ∧ P v k) b k ↔ ∃ v, A v ∧ Xs m (P v) b k := by
  induction b generalizing k with
  | zero => exact Iff.rfl
  | succ b ih =>
    constructor
    · rintro (q | ⟨y, q1, q2⟩)
      · obtain ⟨v, g1, g2⟩ := ih.mp q
        exact ⟨v, g1, Or.inl g2⟩
      · obtain ⟨v, g1, g2⟩ := ih.mp q1
        exact ⟨v, g1, Or.inr ⟨y, g2, q2⟩⟩
    · rintro ⟨v, g1, (g2 | ⟨y, g2, g3⟩)⟩
      · exact Or.inl (ih.mpr ⟨v, g1, g2⟩)
      · exact Or.inr ⟨y, ih.mpr ⟨v, g1, g2⟩, g3⟩
theorem Xs_lt {m : Nat → Nat → Prop} {A : Nat → Prop} {N : Nat} (hA : ∀ k, A k → k < N) (hm : ∀ y k, y < N → m y k → k < N) (b k : Nat) (h : Xs m A b k) : k < N := by
  induction b generalizing k with
  | zero => exact hA k h
  | succ b ih =>
    rcases h with q | ⟨y, q1, q2⟩
    · exact ih k q
    · exact hm y k (ih y q1) q2
theorem Xs_cong {m : Nat → Nat → Prop} {A B : Nat → Prop} (h : ∀ k, A k ↔ B k) (b k : Nat) : Xs m A b k ↔ Xs m B b k := by
  induction b generalizing k with
  | zero => exact h k
  | succ b ih =>
    constructor
    · rintro (q | ⟨y, q1, q2⟩)
      · exact Or.inl ((ih k).mp q)
      · exact Or.inr ⟨y, (ih y).mp q1, q2⟩
    · rintro (q | ⟨y, q1, q2⟩)
      · exact Or.inl ((ih k).mpr q)
      · exact Or.inr ⟨y, (ih y).mpr q1, q2⟩
/-- where a HEAT at p leads from v, ahead of its MOVES -/
def hot (w : Nat → Nat) (c : Nat) (nu : Int32) (p v k : Nat) : Prop := hld w c nu v p ∧ ((dg w v p = 1 ∧ k = v) ∨ (2 ≤ dg w v p ∧ k + w p = v))
/-- the rows behind h HEATS from r -/
def Lev (w : Nat → Nat) (c : Nat) (nu : Int32) (B r : Nat) : Nat → Nat → Prop
  | 0, k => k = r
  | h + 1, k => ∃ p, p < c ∧ ∃ v, Lev w c nu B r h v ∧ Xs (mv w c p) (hot w c nu p v) B k
def cnt (f : Nat → Bool) : Nat → Nat
  | 0 => 0
  | n + 1 => cnt f n + (if f n = true then 1 else 0)
theorem cnt_add (f : Nat → Bool) (m n : Nat) : cnt f (m + n) = cnt f m + cnt (fun i => f (m + i)) n := by
  induction n with
  | zero => rfl
  | succ n ih =>
    show cnt f (m + n) + _ = cnt f m + (cnt (fun i => f (m + i)) n + _)
    rw [ih, Nat.add_assoc]
    rfl
theorem cnt_cong {f g : Nat → Bool} {n : Nat} (h : ∀ k, k < n → f k = g k) : cnt f n = cnt g n := by
  induction n with
  | zero => rfl
  | succ n ih =>
    show cnt f n + _ = cnt g n + _
    rw [ih (fun k hk => h k (by omega)), h n (by omega)]
theorem cnt_le (f : Nat → Bool) (n : Nat) : cnt f n ≤ n := by
  induction n with
  | zero => exact Nat.le_refl 0
  | succ n ih =>
    show cnt f n + _ ≤ n + 1
    split <;> omega
theorem cnt_zero {f : Nat → Bool} {n : Nat} (h : ∀ k, k < n → f k = false) : cnt f n = 0 := by
  induction n with
  | zero => rfl
  | succ n ih =>
    show cnt f n + _ = 0
    rw [ih (fun k hk => h k (by omega)), h n (by omega)]
    rfl
theorem Lev_lt {c B N r : Nat} {w : Nat → Nat} {nu : Int32} (hm : ∀ p, p < c → ∀ y k, y < N → mv w c p y k → k < N) (hr : r < N) (h k : Nat) (q : Lev w c nu B r h k) : k < N := by
  induction h generalizing k with
  | zero =>
    have : k = r := q
    omega
  | succ h ih =>
    obtain ⟨p, q1, v, q2, q3⟩ := q
    have hv := ih v q2
    refine Xs_lt (fun k z => ?_) (hm p q1) B k q3
    obtain ⟨_, (⟨_, z⟩ | ⟨_, z⟩)⟩ := z <;> omega
theorem nI_e32 {a b : Nat} (ha : a < 2 ^ 32) (hb : b < 2 ^ 32) : nI a = nI b ↔ a = b := by
  constructor
  · intro h
    have h2 := congrArg (fun x => x.toBitVec.toNat) h
    have e : ∀ n, n < 2 ^ 32 → (nI n).toBitVec.toNat = n := fun n hn => by
      show (BitVec.ofNat 32 n).toNat = n
      rw [BitVec.toNat_ofNat]
      exact Nat.mod_eq_of_lt hn
    simp only [e a ha, e b hb] at h2
    exact h2
  · rintro rfl; rfl
theorem mvN3 : ∀ p, p < 3 → ∀ y k, y < 59049 → mv (wt 3) 3 p y k → k < 59049 := by
  intro p hp y k hy ⟨i, h1, h2, h3, h4⟩
  have w0 : wt 3 0 = 81 := by decide
  have w1 : wt 3 1 = 9 := by decide
  have w2 : wt 3 2 = 1 := by decide
  have hi : i = 0 ∨ i = 1 := by omega
  unfold dg at h4
  rcases hi with rfl | rfl
  · simp only [Nat.reduceAdd, w0, w1] at h4
    omega
  · simp only [Nat.reduceAdd, w1, w2] at h4
    omega
theorem mvN4 : ∀ p, p < 4 → ∀ y k, y < 59049 → mv (wt 4) 4 p y k → k < 59049 := by
  intro p hp y k hy ⟨i, h1, h2, h3, h4⟩
  have w0 : wt 4 0 = 729 := by decide
  have w1 : wt 4 1 = 81 := by decide
  have w2 : wt 4 2 = 9 := by decide
  have w3 : wt 4 3 = 1 := by decide
  have hi : i = 0 ∨ i = 1 ∨ i = 2 := by omega
  unfold dg at h4
  rcases hi with rfl | rfl | rfl
  · simp only [Nat.reduceAdd, w0, w1] at h4
    omega
  · simp only [Nat.reduceAdd, w1, w2] at h4
    omega
  · simp only [Nat.reduceAdd, w2, w3] at h4
    omega
theorem mvN5 : ∀ p, p < 5 → ∀ y k, y < 59049 → mv (wt 5) 5 p y k → k < 59049 := by
  intro p hp y k hy ⟨i, h1, h2, h3, h4⟩
  have w0 : wt 5 0 = 6561 := by decide
  have w1 : wt 5 1 = 729 := by decide
  have w2 : wt 5 2 = 81 := by decide
  have w3 : wt 5 3 = 9 := by decide
  have w4 : wt 5 4 = 1 := by decide
  have hi : i = 0 ∨ i = 1 ∨ i = 2 ∨ i = 3 := by omega
  unfold dg at h4
  rcases hi with rfl | rfl | rfl | rfl
  · simp only [Nat.reduceAdd, w0, w1] at h4
    omega
  · simp only [Nat.reduceAdd, w1, w2] at h4
    omega
  · simp only [Nat.reduceAdd, w2, w3] at h4
    omega
  · simp only [Nat.reduceAdd, w3, w4] at h4
    omega
theorem mvN {c : Nat} (hc : c = 3 ∨ c = 4 ∨ c = 5) : ∀ p, p < c → ∀ y k, y < 59049 → mv (wt c) c p y k → k < 59049 := by
  rcases hc with rfl | rfl | rfl
  · exact mvN3
  · exact mvN4
  · exact mvN5
/-! the reference: irons, nearness, what a HEAT with its MOVES reaches -/
def RfI (I : mI) (c : Nat) (w : Nat → Nat) (nu : Int32) : Prop := I 56 0 = nI c ∧ I 56 3 = nu ∧ ∀ i, i < c → I 72 i = nI (w i)
def Fr (I I' : mI) : Prop := (∀ a, ¬ a = 54 → ¬ a = 77 → ¬ a = 78 → I' a = I a) ∧ (∀ k, ¬ k = 56 → ¬ k = 58 → I' 54 k = I 54 k)
theorem Fr.rf {I : mI} : Fr I I := ⟨fun _ _ _ _ => rfl, fun _ _ _ => rfl⟩
theorem Fr.tr {I I' I'' : mI} (h : Fr I I') (h2 : Fr I' I'') : Fr I I'' := ⟨fun a h1 h3 h4 => (h2.1 a h1 h3 h4).trans (h.1 a h1 h3 h4), fun k h1 h3 => (h2.2 k h1 h3).trans (h.2 k h1 h3)⟩
theorem RfI.fr {I I' : mI} {c : Nat} {w : Nat → Nat} {nu : Int32} (h : RfI I c w nu) (f : Fr I I') : RfI I' c w nu := by
  unfold RfI
  rw [f.1 56 (by decide) (by decide) (by decide), f.1 72 (by decide) (by decide) (by decide)]
  exact h
theorem nr1 : ∀ a, a < 5 → ∀ b, b < 5 → ((1 : Int32) < nI a - nI b ↔ b + 1 < a) := by decide +kernel
theorem and1 (x : Int32) : (x &&& 1 = 1) = ¬ (x &&& 1 = 0) := propext (by
  rw [pk_and x 1 (by decide)]
  have : x.toBitVec.toNat % 2 ^ 1 = 0 ∨ x.toBitVec.toNat % 2 ^ 1 = 1 := by omega
  rcases this with q | q <;> rw [q] <;> decide)
theorem cnt_flip {f g : Nat → Bool} {v : Nat} (hf : f v = false) (hg : g v = true) (h : ∀ k, ¬ k = v → g k = f k) : ∀ N, v < N → cnt g N = cnt f N + 1 := by
  intro N
  induction N with
  | zero => intro hv; omega
  | succ N ih =>
    intro hv
    show cnt g N + _ = cnt f N + _ + 1
    by_cases q : v = N
    · subst q
      rw [hf, hg, cnt_cong (f := g) (g := f) (fun k hk => h k (by omega))]
      rfl
    · rw [ih (by omega), h N (fun z => q z.symm)]
      omega
theorem cnt_lt {f : Nat → Bool} {v N : Nat} (hf : f v = false) (hv : v < N) : cnt f N < N := by
  have := cnt_flip (f := f) (g := fun k => if k = v then true else f k) hf (if_pos rfl) (fun k hk => if_neg hk) N hv
  have h2 := cnt_le (fun k => if k = v then true else f k) N
  omega
section RF
variable {d c N : Nat} {w : Nat → Nat} {nu : Int32} {S : mS} {I : mI} {L : mL} {R : mR} {Q : mQ}
theorem iro {v i : Nat} (hS : Pm S) (hR : Pr R) (h : RfI I c w nu) (hw : wOk w c) (hc : c ≤ 5) (hv : v < 2 ^ 31) (hi : i < c) : EvM (d + 1) 209 [.ref 54, .int (nI v), .int (nI i)] S I L R Q = Q (.int (nI (dg w v i))) S I L R := by
  have hwi := h.2.2 i hi
  have hb := hw i hi
  have e3 : inb (nI i) 5 = True := inb_nI (by omega) (by decide)
  have e4 : (nI i).toNatClampNeg = i := nI_clamp (by omega)
  have n0 : (nI (w i) = 0) = False := eq_false (nI_ne0 hb.1 (by omega))
  have n9 : ((9 : Int32) = 0) = False := eq_false (by decide)
  have q1 : nI v / nI (w i) = nI (v / w i) := pk_div hv hb.1 (by omega)
  have lt : v / w i < 2 ^ 31 := Nat.lt_of_le_of_lt (Nat.div_le_self _ _) hv
  have q2 : nI (v / w i) - nI (v / w i) / 9 * 9 = nI (v / w i % 9) := pk_rem (d := 9) lt (by decide) (by decide)
  simp only [M209, E209_0, E209_1, E209_2, E209_5, E209_6, E209_7, E209_8, E209_10, E209_11, E209_12, E209_13, rfs, rfn, cs0, csi, csl, csr, csn, kti, ktl, ktr, ktn, ktv, ktf, true_and, and_true, and_self, ↓reduceIte, Nat.reduceAdd, Nat.reduceSub, Nat.reduceMul, Nat.reduceLT, Nat.reduceLeDiff, Nat.reduceEqDiff, true_or, or_true, false_or, or_false, not_true_eq_false, not_false_eq_true, reduceCtorEq, cmp_lt, cmp_gt, cmp_eq, Int32.reduceAdd, Int32.reduceSub, Int32.reduceMul, Int32.reduceLT, Int32.reduceToNatClampNeg, eq_self, ne_eq, Int64.reduceAdd, Int64.reduceSub, Int64.reduceMul, Int64.reduceLT, pk54 hS, pk72 hS, pl72 hS, pa72 hS, pi72 hS, pr54_50 hR, e3, e4, hwi, n0, n9, q1, q2, nI_1]
  rfl
theorem nea {a b : Nat} (ha : a < 5) (hb : b < 5) : EvM (d + 1) 186 [.int (nI a), .int (nI b)] S I L R Q = Q (.int (if a ≤ b + 1 ∧ b ≤ a + 1 then 1 else 0)) S I L R := by
  have h1 := nr1 a ha b hb
  have h2 := nr1 b hb a ha
  have z1 : ((1 : Int32) = 0 ∨ True) = True := by simp
  by_cases g1 : b + 1 < a
  · have q1 := eq_true (h1.mpr g1)
    rw [if_neg (by omega)]
    simp only [M186, E186_0, E186_1, E186_2, E186_3, E186_4, E186_7, E186_8, E186_9, E186_10, E186_11, E186_14, E186_15, E186_18, E186_19, rfs, rfn, cs0, csi, csl, csr, csn, kti, ktl, ktr, ktn, ktv, ktf, true_and, and_true, and_self, ↓reduceIte, Nat.reduceAdd, Nat.reduceSub, Nat.reduceMul, Nat.reduceLT, Nat.reduceLeDiff, Nat.reduceEqDiff, true_or, or_true, false_or, or_false, not_true_eq_false, not_false_eq_true, reduceCtorEq, cmp_lt, cmp_gt, cmp_eq, Int32.reduceAdd, Int32.reduceSub, Int32.reduceMul, Int32.reduceLT, Int32.reduceToNatClampNeg, eq_self, ne_eq, Int64.reduceAdd, Int64.reduceSub, Int64.reduceMul, Int64.reduceLT, q1]
  · have q1 := eq_false (fun z => g1 (h1.mp z))
    by_cases g2 : a + 1 < b
    · have q2 := eq_true (h2.mpr g2)
      rw [if_neg (by omega)]
      simp only [M186, E186_0, E186_1, E186_2, E186_3, E186_4, E186_7, E186_8, E186_9, E186_10, E186_11, E186_14, E186_15, E186_18, E186_19, rfs, rfn, cs0, csi, csl, csr, csn, kti, ktl, ktr, ktn, ktv, ktf, true_and, and_true, and_self, ↓reduceIte, Nat.reduceAdd, Nat.reduceSub, Nat.reduceMul, Nat.reduceLT, Nat.reduceLeDiff, Nat.reduceEqDiff, true_or, or_true, false_or, or_false, not_true_eq_false, not_false_eq_true, reduceCtorEq, cmp_lt, cmp_gt, cmp_eq, Int32.reduceAdd, Int32.reduceSub, Int32.reduceMul, Int32.reduceLT, Int32.reduceToNatClampNeg, eq_self, ne_eq, Int64.reduceAdd, Int64.reduceSub, Int64.reduceMul, Int64.reduceLT, q1, q2]
    · have q2 := eq_false (fun z => g2 (h2.mp z))
      rw [if_pos (by omega)]
      simp only [M186, E186_0, E186_1, E186_2, E186_3, E186_4, E186_7, E186_8, E186_9, E186_10, E186_11, E186_14, E186_15, E186_18, E186_19, rfs, rfn, cs0, csi, csl, csr, csn, kti, ktl, ktr, ktn, ktv, ktf, true_and, and_true, and_self, ↓reduceIte, Nat.reduceAdd, Nat.reduceSub, Nat.reduceMul, Nat.reduceLT, Nat.reduceLeDiff, Nat.reduceEqDiff, true_or, or_true, false_or, or_false, not_true_eq_false, not_false_eq_true, reduceCtorEq, cmp_lt, cmp_gt, cmp_eq, Int32.reduceAdd, Int32.reduceSub, Int32.reduceMul, Int32.reduceLT, Int32.reduceToNatClampNeg, eq_self, ne_eq, Int64.reduceAdd, Int64.reduceSub, Int64.reduceMul, Int64.reduceLT, q1, q2]
theorem cel1 : ∀ c, c < 6 → ((nI c).toInt64 - 1).toInt = (c : Int) - 1 := by decide
theorem icl {b : Int32} {z : Int} (hS : Pm S) (hR : Pr R) (h : I 56 0 = nI c) (hc : c ≤ 5) (hz : b.toInt = z) : EvM (d + 2) 144 [.ref 54, .long b.toInt64] S I L R Q = Q (.int (if 0 ≤ z ∧ z < c then 1 else 0)) S I L R := by
  have c1 := cel1 c (by omega)
  have l1 : (b.toInt64 < 0) = (z < 0) := propext (by rw [Int64.lt_iff_toInt_lt, Int32.toInt_toInt64, hz]; exact Iff.rfl)
  have l2 : ((nI c).toInt64 - 1 < b.toInt64) = ((c : Int) - 1 < z) := propext (by rw [Int64.lt_iff_toInt_lt, Int32.toInt_toInt64, hz, c1])
  have e3 : inb 0 8060 = True := inb_nI (j := 0) (by decide) (by decide)
  by_cases g1 : z < 0
  · rw [if_neg (by omega)]
    simp only [M144, E144_0, E144_1, E144_2, E144_3, E144_6, E144_7, E144_8, E144_9, E144_10, E144_11, E144_14, M140, E140_0, E140_1, E140_2, E140_3, E140_6, E140_7, E140_9, E140_10, E140_13, E140_14, E140_17, E140_18, rfs, rfn, cs0, csi, csl, csr, csn, kti, ktl, ktr, ktn, ktv, ktf, true_and, and_true, and_self, ↓reduceIte, Nat.reduceAdd, Nat.reduceSub, Nat.reduceMul, Nat.reduceLT, Nat.reduceLeDiff, Nat.reduceEqDiff, true_or, or_true, false_or, or_false, not_true_eq_false, not_false_eq_true, reduceCtorEq, cmp_lt, cmp_gt, cmp_eq, Int32.reduceAdd, Int32.reduceSub, Int32.reduceMul, Int32.reduceLT, Int32.reduceToNatClampNeg, eq_self, ne_eq, Int64.reduceAdd, Int64.reduceSub, Int64.reduceMul, Int64.reduceLT, ni2, ni3, ni4, ni5, ni6, ni7, ni8, ni12, ni14, ni16, ni17, ni60, ni64, ni160, ni400, ni401, ni416, ni8060, ni16120, ni59049, nn1, nn2, nn3, nn4, nn5, nn6, nem1_1022, ne1022_m1, nem1_20, ne20_m1, ne1022_0, nem1_m1000, nem1000_m1, cn2, cn4, cn6, cn8, cn14, cnm, nem2_m1, nem2_0, nem2_1, nem2_2, nem2_3, nem2_4, nem2_5, nem2_6, nem2_7, nem2_8, nem2_9, nem1_m2, nem1_0, nem1_1, nem1_2, nem1_3, nem1_4, nem1_5, nem1_6, nem1_7, nem1_8, nem1_9, ne0_m2, ne0_m1, ne0_1, ne0_2, ne0_3, ne0_4, ne0_5, ne0_6, ne0_7, ne0_8, ne0_9, ne1_m2, ne1_m1, ne1_0, ne1_2, ne1_3, ne1_4, ne1_5, ne1_6, ne1_7, ne1_8, ne1_9, ne2_m2, ne2_m1, ne2_0, ne2_1, ne2_3, ne2_4, ne2_5, ne2_6, ne2_7, ne2_8, ne2_9, ne3_m2, ne3_m1, ne3_0, ne3_1, ne3_2, ne3_4, ne3_5, ne3_6, ne3_7, ne3_8, ne3_9, ne4_m2, ne4_m1, ne4_0, ne4_1, ne4_2, ne4_3, ne4_5, ne4_6, ne4_7, ne4_8, ne4_9, ne5_m2, ne5_m1, ne5_0, ne5_1, ne5_2, ne5_3, ne5_4, ne5_6, ne5_7, ne5_8, ne5_9, ne6_m2, ne6_m1, ne6_0, ne6_1, ne6_2, ne6_3, ne6_4, ne6_5, ne6_7, ne6_8, ne6_9, ne7_m2, ne7_m1, ne7_0, ne7_1, ne7_2, ne7_3, ne7_4, ne7_5, ne7_6, ne7_8, ne7_9, ne8_m2, ne8_m1, ne8_0, ne8_1, ne8_2, ne8_3, ne8_4, ne8_5, ne8_6, ne8_7, ne8_9, ne9_m2, ne9_m1, ne9_0, ne9_1, ne9_2, ne9_3, ne9_4, ne9_5, ne9_6, ne9_7, ne9_8, pk54 hS, pk56 hS, pl56 hS, pa56 hS, pi56 hS, pr54_3 hR, h, l1, g1, e3]
  · by_cases g2 : (c : Int) - 1 < z
    · rw [if_neg (by omega)]
      simp only [M144, E144_0, E144_1, E144_2, E144_3, E144_6, E144_7, E144_8, E144_9, E144_10, E144_11, E144_14, M140, E140_0, E140_1, E140_2, E140_3, E140_6, E140_7, E140_9, E140_10, E140_13, E140_14, E140_17, E140_18, rfs, rfn, cs0, csi, csl, csr, csn, kti, ktl, ktr, ktn, ktv, ktf, true_and, and_true, and_self, ↓reduceIte, Nat.reduceAdd, Nat.reduceSub, Nat.reduceMul, Nat.reduceLT, Nat.reduceLeDiff, Nat.reduceEqDiff, true_or, or_true, false_or, or_false, not_true_eq_false, not_false_eq_true, reduceCtorEq, cmp_lt, cmp_gt, cmp_eq, Int32.reduceAdd, Int32.reduceSub, Int32.reduceMul, Int32.reduceLT, Int32.reduceToNatClampNeg, eq_self, ne_eq, Int64.reduceAdd, Int64.reduceSub, Int64.reduceMul, Int64.reduceLT, ni2, ni3, ni4, ni5, ni6, ni7, ni8, ni12, ni14, ni16, ni17, ni60, ni64, ni160, ni400, ni401, ni416, ni8060, ni16120, ni59049, nn1, nn2, nn3, nn4, nn5, nn6, nem1_1022, ne1022_m1, nem1_20, ne20_m1, ne1022_0, nem1_m1000, nem1000_m1, cn2, cn4, cn6, cn8, cn14, cnm, nem2_m1, nem2_0, nem2_1, nem2_2, nem2_3, nem2_4, nem2_5, nem2_6, nem2_7, nem2_8, nem2_9, nem1_m2, nem1_0, nem1_1, nem1_2, nem1_3, nem1_4, nem1_5, nem1_6, nem1_7, nem1_8, nem1_9, ne0_m2, ne0_m1, ne0_1, ne0_2, ne0_3, ne0_4, ne0_5, ne0_6, ne0_7, ne0_8, ne0_9, ne1_m2, ne1_m1, ne1_0, ne1_2, ne1_3, ne1_4, ne1_5, ne1_6, ne1_7, ne1_8, ne1_9, ne2_m2, ne2_m1, ne2_0, ne2_1, ne2_3, ne2_4, ne2_5, ne2_6, ne2_7, ne2_8, ne2_9, ne3_m2, ne3_m1, ne3_0, ne3_1, ne3_2, ne3_4, ne3_5, ne3_6, ne3_7, ne3_8, ne3_9, ne4_m2, ne4_m1, ne4_0, ne4_1, ne4_2, ne4_3, ne4_5, ne4_6, ne4_7, ne4_8, ne4_9, ne5_m2, ne5_m1, ne5_0, ne5_1, ne5_2, ne5_3, ne5_4, ne5_6, ne5_7, ne5_8, ne5_9, ne6_m2, ne6_m1, ne6_0, ne6_1, ne6_2, ne6_3, ne6_4, ne6_5, ne6_7, ne6_8, ne6_9, ne7_m2, ne7_m1, ne7_0, ne7_1, ne7_2, ne7_3, ne7_4, ne7_5, ne7_6, ne7_8, ne7_9, ne8_m2, ne8_m1, ne8_0, ne8_1, ne8_2, ne8_3, ne8_4, ne8_5, ne8_6, ne8_7, ne8_9, ne9_m2, ne9_m1, ne9_0, ne9_1, ne9_2, ne9_3, ne9_4, ne9_5, ne9_6, ne9_7, ne9_8, pk54 hS, pk56 hS, pl56 hS, pa56 hS, pi56 hS, pr54_3 hR, h, l1, l2, g1, g2, e3]
    · rw [if_pos (by omega)]
      simp only [M144, E144_0, E144_1, E144_2, E144_3, E144_6, E144_7, E144_8, E144_9, E144_10, E144_11, E144_14, M140, E140_0, E140_1, E140_2, E140_3, E140_6, E140_7, E140_9, E140_10, E140_13, E140_14, E140_17, E140_18, rfs, rfn, cs0, csi, csl, csr, csn, kti, ktl, ktr, ktn, ktv, ktf, true_and, and_true, and_self, ↓reduceIte, Nat.reduceAdd, Nat.reduceSub, Nat.reduceMul, Nat.reduceLT, Nat.reduceLeDiff, Nat.reduceEqDiff, true_or, or_true, false_or, or_false, not_true_eq_false, not_false_eq_true, reduceCtorEq, cmp_lt, cmp_gt, cmp_eq, Int32.reduceAdd, Int32.reduceSub, Int32.reduceMul, Int32.reduceLT, Int32.reduceToNatClampNeg, eq_self, ne_eq, Int64.reduceAdd, Int64.reduceSub, Int64.reduceMul, Int64.reduceLT, ni2, ni3, ni4, ni5, ni6, ni7, ni8, ni12, ni14, ni16, ni17, ni60, ni64, ni160, ni400, ni401, ni416, ni8060, ni16120, ni59049, nn1, nn2, nn3, nn4, nn5, nn6, nem1_1022, ne1022_m1, nem1_20, ne20_m1, ne1022_0, nem1_m1000, nem1000_m1, cn2, cn4, cn6, cn8, cn14, cnm, nem2_m1, nem2_0, nem2_1, nem2_2, nem2_3, nem2_4, nem2_5, nem2_6, nem2_7, nem2_8, nem2_9, nem1_m2, nem1_0, nem1_1, nem1_2, nem1_3, nem1_4, nem1_5, nem1_6, nem1_7, nem1_8, nem1_9, ne0_m2, ne0_m1, ne0_1, ne0_2, ne0_3, ne0_4, ne0_5, ne0_6, ne0_7, ne0_8, ne0_9, ne1_m2, ne1_m1, ne1_0, ne1_2, ne1_3, ne1_4, ne1_5, ne1_6, ne1_7, ne1_8, ne1_9, ne2_m2, ne2_m1, ne2_0, ne2_1, ne2_3, ne2_4, ne2_5, ne2_6, ne2_7, ne2_8, ne2_9, ne3_m2, ne3_m1, ne3_0, ne3_1, ne3_2, ne3_4, ne3_5, ne3_6, ne3_7, ne3_8, ne3_9, ne4_m2, ne4_m1, ne4_0, ne4_1, ne4_2, ne4_3, ne4_5, ne4_6, ne4_7, ne4_8, ne4_9, ne5_m2, ne5_m1, ne5_0, ne5_1, ne5_2, ne5_3, ne5_4, ne5_6, ne5_7, ne5_8, ne5_9, ne6_m2, ne6_m1, ne6_0, ne6_1, ne6_2, ne6_3, ne6_4, ne6_5, ne6_7, ne6_8, ne6_9, ne7_m2, ne7_m1, ne7_0, ne7_1, ne7_2, ne7_3, ne7_4, ne7_5, ne7_6, ne7_8, ne7_9, ne8_m2, ne8_m1, ne8_0, ne8_1, ne8_2, ne8_3, ne8_4, ne8_5, ne8_6, ne8_7, ne8_9, ne9_m2, ne9_m1, ne9_0, ne9_1, ne9_2, ne9_3, ne9_4, ne9_5, ne9_6, ne9_7, ne9_8, pk54 hS, pk56 hS, pl56 hS, pa56 hS, pi56 hS, pr54_3 hR, h, l1, l2, g1, g2, e3]
/-- the rows reached so far: m of them, s i the i-th -/
def Sp (I : mI) (N st m : Nat) (s : Nat → Nat) : Prop := I 54 56 = nI st ∧ I 54 58 = nI m ∧ (∀ i, i < m → s i < N ∧ I 78 i = nI (s i)) ∧ (∀ v, v < N → (I 77 v = nI st ↔ ∃ i, i < m ∧ s i = v)) ∧ cnt (fun v => decide (I 77 v = nI st)) N = m ∧ (∀ v, v < N → ∃ t, t ≤ st ∧ I 77 v = nI t)
theorem Sp.le {st m : Nat} {s : Nat → Nat} (h : Sp I N st m s) : m ≤ N := by
  rw [← h.2.2.2.2.1]
  exact cnt_le _ N
theorem rea {v st m : Nat} {s : Nat → Nat} (hS : Pm S) (hR : Pr R) (hN : N ≤ 59049) (hst : st < 2 ^ 32) (h : Sp I N st m s) (hv : v < N) (hq : ∀ I' m' s', Sp I' N st m' s' → m ≤ m' → (∀ i, i < m → s' i = s i) → (∀ u, (∃ i, i < m' ∧ s' i = u) ↔ (∃ i, i < m ∧ s i = u) ∨ u = v) → Fr I I' → Q .null S I' L R) : EvM (d + 1) 210 [.ref 54, .int (nI v)] S I L R Q := by
  have hm := h.le
  obtain ⟨h1, h2, h3, h4, h5, h6⟩ := id h
  have e3 : inb (nI v) 59049 = True := inb_nI (by omega) (by decide)
  have e4 : (nI v).toNatClampNeg = v := nI_clamp (by omega)
  by_cases g : I 77 v = nI st
  · simp only [M210, E210_0, E210_1, E210_4, E210_5, E210_6, E210_7, E210_10, E210_13, E210_14, E210_17, E210_18, E210_19, E210_22, E210_23, E210_24, E210_27, E210_28, E210_31, E210_32, E210_33, E210_34, E210_35, E210_38, E210_39, E210_40, E210_43, rfs, rfn, cs0, csi, csl, csr, csn, kti, ktl, ktr, ktn, ktv, ktf, true_and, and_true, and_self, ↓reduceIte, Nat.reduceAdd, Nat.reduceSub, Nat.reduceMul, Nat.reduceLT, Nat.reduceLeDiff, Nat.reduceEqDiff, true_or, or_true, false_or, or_false, not_true_eq_false, not_false_eq_true, reduceCtorEq, cmp_lt, cmp_gt, cmp_eq, Int32.reduceAdd, Int32.reduceSub, Int32.reduceMul, Int32.reduceLT, Int32.reduceToNatClampNeg, eq_self, ne_eq, Int64.reduceAdd, Int64.reduceSub, Int64.reduceMul, Int64.reduceLT, pk54 hS, pk77 hS, pl77 hS, pa77 hS, pi77 hS, pr54_55 hR, e3, e4, h1, g]
    refine hq I m s h (Nat.le_refl _) (fun _ _ => rfl) (fun u => ⟨Or.inl, fun q => ?_⟩) Fr.rf
    rcases q with q | rfl
    · exact q
    · exact (h4 u hv).mp g
  · have lt : m < N := by
      rw [← h5]
      exact cnt_lt (v := v) (decide_eq_false g) hv
    have m3 : inb (nI m) 59049 = True := inb_nI (by omega) (by decide)
    have m4 : (nI m).toNatClampNeg = m := nI_clamp (by omega)
    have k54 : ∀ {x : Nat → Int32}, va_up I 77 x 54 = I 54 := fun {x} => rfl
    simp only [M210, E210_0, E210_1, E210_4, E210_5, E210_6, E210_7, E210_10, E210_13, E210_14, E210_17, E210_18, E210_19, E210_22, E210_23, E210_24, E210_27, E210_28, E210_31, E210_32, E210_33, E210_34, E210_35, E210_38, E210_39, E210_40, E210_43, rfs, rfn, cs0, csi, csl, csr, csn, kti, ktl, ktr, ktn, ktv, ktf, true_and, and_true, and_self, ↓reduceIte, Nat.reduceAdd, Nat.reduceSub, Nat.reduceMul, Nat.reduceLT, Nat.reduceLeDiff, Nat.reduceEqDiff, true_or, or_true, false_or, or_false, not_true_eq_false, not_false_eq_true, reduceCtorEq, cmp_lt, cmp_gt, cmp_eq, Int32.reduceAdd, Int32.reduceSub, Int32.reduceMul, Int32.reduceLT, Int32.reduceToNatClampNeg, eq_self, ne_eq, Int64.reduceAdd, Int64.reduceSub, Int64.reduceMul, Int64.reduceLT, pk54 hS, pk77 hS, pl77 hS, pa77 hS, pi77 hS, pk78 hS, pl78 hS, pa78 hS, pi78 hS, pr54_55 hR, pr54_57 hR, e3, e4, m3, m4, h1, h2, g, up_is, nI_1]
    refine hq _ (m + 1) (va_up s m v) ⟨?_, ?_, fun i hi => ?_, fun u hu => ?_, ?_, fun u hu => ?_⟩ (by omega) (fun i hi => if_neg (by omega)) (fun u => ?_) ⟨fun a h1 h2 h3 => ?_, fun k h1 h2 => ?_⟩
    · simp only [up_is, rfs, rfn, cs0, csi, csl, csr, csn, kti, ktl, ktr, ktn, ktv, ktf, true_and, and_true, and_self, ↓reduceIte, Nat.reduceAdd, Nat.reduceSub, Nat.reduceMul, Nat.reduceLT, Nat.reduceLeDiff, Nat.reduceEqDiff, true_or, or_true, false_or, or_false, not_true_eq_false, not_false_eq_true, reduceCtorEq, cmp_lt, cmp_gt, cmp_eq, Int32.reduceAdd, Int32.reduceSub, Int32.reduceMul, Int32.reduceLT, Int32.reduceToNatClampNeg, eq_self, ne_eq, Int64.reduceAdd, Int64.reduceSub, Int64.reduceMul, Int64.reduceLT]
      exact h1
    · simp only [up_is, rfs, rfn, cs0, csi, csl, csr, csn, kti, ktl, ktr, ktn, ktv, ktf, true_and, and_true, and_self, ↓reduceIte, Nat.reduceAdd, Nat.reduceSub, Nat.reduceMul, Nat.reduceLT, Nat.reduceLeDiff, Nat.reduceEqDiff, true_or, or_true, false_or, or_false, not_true_eq_false, not_false_eq_true, reduceCtorEq, cmp_lt, cmp_gt, cmp_eq, Int32.reduceAdd, Int32.reduceSub, Int32.reduceMul, Int32.reduceLT, Int32.reduceToNatClampNeg, eq_self, ne_eq, Int64.reduceAdd, Int64.reduceSub, Int64.reduceMul, Int64.reduceLT]
    · by_cases q : i = m
      · subst q
        simp only [up_is, rfs, rfn, cs0, csi, csl, csr, csn, kti, ktl, ktr, ktn, ktv, ktf, true_and, and_true, and_self, ↓reduceIte, Nat.reduceAdd, Nat.reduceSub, Nat.reduceMul, Nat.reduceLT, Nat.reduceLeDiff, Nat.reduceEqDiff, true_or, or_true, false_or, or_false, not_true_eq_false, not_false_eq_true, reduceCtorEq, cmp_lt, cmp_gt, cmp_eq, Int32.reduceAdd, Int32.reduceSub, Int32.reduceMul, Int32.reduceLT, Int32.reduceToNatClampNeg, eq_self, ne_eq, Int64.reduceAdd, Int64.reduceSub, Int64.reduceMul, Int64.reduceLT]
        exact hv
      · simp only [up_is, q, rfs, rfn, cs0, csi, csl, csr, csn, kti, ktl, ktr, ktn, ktv, ktf, true_and, and_true, and_self, ↓reduceIte, Nat.reduceAdd, Nat.reduceSub, Nat.reduceMul, Nat.reduceLT, Nat.reduceLeDiff, Nat.reduceEqDiff, true_or, or_true, false_or, or_false, not_true_eq_false, not_false_eq_true, reduceCtorEq, cmp_lt, cmp_gt, cmp_eq, Int32.reduceAdd, Int32.reduceSub, Int32.reduceMul, Int32.reduceLT, Int32.reduceToNatClampNeg, eq_self, ne_eq, Int64.reduceAdd, Int64.reduceSub, Int64.reduceMul, Int64.reduceLT]
        exact h3 i (by omega)
    · have e : (∃ i, i < m + 1 ∧ va_up s m v i = u) ↔ (∃ i, i < m ∧ s i = u) ∨ v = u := by
        constructor
        · rintro ⟨i, q1, q2⟩
          by_cases q : i = m
          · subst q
            rw [uu_s] at q2
            exact Or.inr q2
          · rw [uu_n _ _ q] at q2
            exact Or.inl ⟨i, by omega, q2⟩
        · rintro (⟨i, q1, q2⟩ | q)
          · exact ⟨i, by omega, by rw [uu_n _ _ (by omega)]; exact q2⟩
          · exact ⟨m, by omega, by rw [uu_s]; exact q⟩
      rw [e, ← h4 u hu]
      simp only [up_is, rfs, rfn, cs0, csi, csl, csr, csn, kti, ktl, ktr, ktn, ktv, ktf, true_and, and_true, and_self, ↓reduceIte, Nat.reduceAdd, Nat.reduceSub, Nat.reduceMul, Nat.reduceLT, Nat.reduceLeDiff, Nat.reduceEqDiff, true_or, or_true, false_or, or_false, not_true_eq_false, not_false_eq_true, reduceCtorEq, cmp_lt, cmp_gt, cmp_eq, Int32.reduceAdd, Int32.reduceSub, Int32.reduceMul, Int32.reduceLT, Int32.reduceToNatClampNeg, eq_self, ne_eq, Int64.reduceAdd, Int64.reduceSub, Int64.reduceMul, Int64.reduceLT]
      by_cases q : u = v
      · rw [if_pos q]
        exact ⟨fun _ => Or.inr q.symm, fun _ => rfl⟩
      · rw [if_neg q]
        exact ⟨Or.inl, fun z => z.resolve_right (fun z => q z.symm)⟩
    · rw [← h5]
      refine cnt_flip (v := v) (decide_eq_false g) ?_ (fun k hk => ?_) N hv
      · simp only [up_is, rfs, rfn, cs0, csi, csl, csr, csn, kti, ktl, ktr, ktn, ktv, ktf, true_and, and_true, and_self, ↓reduceIte, Nat.reduceAdd, Nat.reduceSub, Nat.reduceMul, Nat.reduceLT, Nat.reduceLeDiff, Nat.reduceEqDiff, true_or, or_true, false_or, or_false, not_true_eq_false, not_false_eq_true, reduceCtorEq, cmp_lt, cmp_gt, cmp_eq, Int32.reduceAdd, Int32.reduceSub, Int32.reduceMul, Int32.reduceLT, Int32.reduceToNatClampNeg, eq_self, ne_eq, Int64.reduceAdd, Int64.reduceSub, Int64.reduceMul, Int64.reduceLT, decide_true]
      · simp only [up_is, hk, rfs, rfn, cs0, csi, csl, csr, csn, kti, ktl, ktr, ktn, ktv, ktf, true_and, and_true, and_self, ↓reduceIte, Nat.reduceAdd, Nat.reduceSub, Nat.reduceMul, Nat.reduceLT, Nat.reduceLeDiff, Nat.reduceEqDiff, true_or, or_true, false_or, or_false, not_true_eq_false, not_false_eq_true, reduceCtorEq, cmp_lt, cmp_gt, cmp_eq, Int32.reduceAdd, Int32.reduceSub, Int32.reduceMul, Int32.reduceLT, Int32.reduceToNatClampNeg, eq_self, ne_eq, Int64.reduceAdd, Int64.reduceSub, Int64.reduceMul, Int64.reduceLT]
    · simp only [up_is, rfs, rfn, cs0, csi, csl, csr, csn, kti, ktl, ktr, ktn, ktv, ktf, true_and, and_true, and_self, ↓reduceIte, Nat.reduceAdd, Nat.reduceSub, Nat.reduceMul, Nat.reduceLT, Nat.reduceLeDiff, Nat.reduceEqDiff, true_or, or_true, false_or, or_false, not_true_eq_false, not_false_eq_true, reduceCtorEq, cmp_lt, cmp_gt, cmp_eq, Int32.reduceAdd, Int32.reduceSub, Int32.reduceMul, Int32.reduceLT, Int32.reduceToNatClampNeg, eq_self, ne_eq, Int64.reduceAdd, Int64.reduceSub, Int64.reduceMul, Int64.reduceLT]
      by_cases q : u = v
      · rw [if_pos q]
        exact ⟨st, Nat.le_refl _, rfl⟩
      · rw [if_neg q]
        exact h6 u hu
    · constructor
      · rintro ⟨i, q1, q2⟩
        by_cases q : i = m
        · subst q
          rw [uu_s] at q2
          exact Or.inr q2.symm
        · rw [uu_n _ _ q] at q2
          exact Or.inl ⟨i, by omega, q2⟩
      · rintro (⟨i, q1, q2⟩ | q)
        · exact ⟨i, by omega, by rw [uu_n _ _ (by omega)]; exact q2⟩
        · exact ⟨m, by omega, by rw [uu_s]; exact q.symm⟩
    · simp only [up_is, h1, h2, h3, rfs, rfn, cs0, csi, csl, csr, csn, kti, ktl, ktr, ktn, ktv, ktf, true_and, and_true, and_self, ↓reduceIte, Nat.reduceAdd, Nat.reduceSub, Nat.reduceMul, Nat.reduceLT, Nat.reduceLeDiff, Nat.reduceEqDiff, true_or, or_true, false_or, or_false, not_true_eq_false, not_false_eq_true, reduceCtorEq, cmp_lt, cmp_gt, cmp_eq, Int32.reduceAdd, Int32.reduceSub, Int32.reduceMul, Int32.reduceLT, Int32.reduceToNatClampNeg, eq_self, ne_eq, Int64.reduceAdd, Int64.reduceSub, Int64.reduceMul, Int64.reduceLT]
    · simp only [up_is, h2, rfs, rfn, cs0, csi, csl, csr, csn, kti, ktl, ktr, ktn, ktv, ktf, true_and, and_true, and_self, ↓reduceIte, Nat.reduceAdd, Nat.reduceSub, Nat.reduceMul, Nat.reduceLT, Nat.reduceLeDiff, Nat.reduceEqDiff, true_or, or_true, false_or, or_false, not_true_eq_false, not_false_eq_true, reduceCtorEq, cmp_lt, cmp_gt, cmp_eq, Int32.reduceAdd, Int32.reduceSub, Int32.reduceMul, Int32.reduceLT, Int32.reduceToNatClampNeg, eq_self, ne_eq, Int64.reduceAdd, Int64.reduceSub, Int64.reduceMul, Int64.reduceLT]
end RF
