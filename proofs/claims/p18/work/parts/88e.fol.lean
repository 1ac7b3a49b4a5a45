/-! MOVES both ways; follow, trace: with content -/
theorem dgm {W y k : Nat} (hW : 0 < W) (h1 : 2 ≤ y / (9 * W) % 9 + 1) (h2 : y / W % 9 + 1 ≤ 8) (e : k + 9 * W = y + W) : k / (9 * W) % 9 + 1 ≤ 8 ∧ 2 ≤ k / W % 9 + 1 := by
  have a1 : y / (9 * W) = y / W / 9 := by rw [Nat.mul_comm, ← Nat.div_div_eq_div_mul]
  have a2 : k / (9 * W) = k / W / 9 := by rw [Nat.mul_comm, ← Nat.div_div_eq_div_mul]
  have a3 : y / W = k / W + 8 := by
    rw [show y = k + W * 8 by omega]
    exact Nat.add_mul_div_left k 8 hW
  rw [a1] at h1
  rw [a2]
  omega
theorem dgn {W y k : Nat} (hW : 0 < W) (h1 : 2 ≤ y / W % 9 + 1) (h2 : y / (9 * W) % 9 + 1 ≤ 8) (e : k + W = y + 9 * W) : 2 ≤ k / (9 * W) % 9 + 1 ∧ k / W % 9 + 1 ≤ 8 := by
  have a1 : y / (9 * W) = y / W / 9 := by rw [Nat.mul_comm, ← Nat.div_div_eq_div_mul]
  have a2 : k / (9 * W) = k / W / 9 := by rw [Nat.mul_comm, ← Nat.div_div_eq_div_mul]
  have a3 : k / W = y / W + 8 := by
    rw [show k = y + W * 8 by omega]
    exact Nat.add_mul_div_left y 8 hW
  rw [a1] at h2
  rw [a2]
  omega
def w9 (w : Nat → Nat) (c : Nat) : Prop := ∀ i, i + 1 < c → w i = 9 * w (i + 1)
theorem mv_sym {w : Nat → Nat} {c p y k : Nat} (hw : wOk w c) (h9 : w9 w c) (h : mv w c p y k) : mv w c p k y := by
  obtain ⟨i, i1, i2, i3, h4⟩ := h
  have e := h9 i i1
  have w0 := (hw (i + 1) i1).1
  refine ⟨i, i1, i2, i3, ?_⟩
  unfold dg at h4 ⊢
  rw [e] at h4 ⊢
  rcases h4 with ⟨a1, a2, a3⟩ | ⟨a1, a2, a3⟩
  · obtain ⟨b1, b2⟩ := dgm w0 a1 a2 a3
    exact Or.inr ⟨b2, b1, a3.symm⟩
  · obtain ⟨b1, b2⟩ := dgn w0 a1 a2 a3
    exact Or.inl ⟨b1, b2, a3.symm⟩
theorem Xs_pt {m : Nat → Nat → Prop} {A : Nat → Prop} {b k : Nat} : Xs m A b k ↔ ∃ v, A v ∧ Xs m (fun x => x = v) b k :=
  (Xs_cong (m := m) (A := A) (B := fun k => ∃ v, A v ∧ k = v) (fun k => ⟨fun z => ⟨k, z, rfl⟩, fun ⟨v, z1, z2⟩ => by rw [z2]; exact z1⟩) b k).trans (Xs_ex (m := m) (A := A) (P := fun v x => x = v))
theorem Xs_fr {m : Nat → Nat → Prop} {a a' : Nat} (h : m a a') : ∀ b k, Xs m (fun x => x = a') b k → Xs m (fun x => x = a) (b + 1) k := by
  intro b
  induction b with
  | zero =>
    intro k q
    have q' : k = a' := q
    exact Or.inr ⟨a, rfl, by rw [q']; exact h⟩
  | succ b ih =>
    rintro k (q | ⟨y, q1, q2⟩)
    · exact Or.inl (ih k q)
    · exact Or.inr ⟨y, ih y q1, q2⟩
theorem Xs_sym {m : Nat → Nat → Prop} {a : Nat} (hm : ∀ y k, m y k → m k y) : ∀ b k, Xs m (fun x => x = a) b k → Xs m (fun x => x = k) b a := by
  intro b
  induction b with
  | zero =>
    intro k q
    have q' : k = a := q
    exact q'.symm
  | succ b ih =>
    rintro k (q | ⟨y, q1, q2⟩)
    · exact Or.inl (ih k q)
    · exact Xs_fr (hm y k q2) b a (ih y q1)
theorem Lev_lt {c B N r : Nat} {w : Nat → Nat} {nu : Int32} (hm : ∀ p, p < c → ∀ y k, y < N → mv w c p y k → k < N) (hr : r < N) (h k : Nat) (q : Lev w c nu B r h k) : k < N := by
  induction h generalizing k with
  | zero =>
    have : k = r := q
    omega
  | succ h ih =>
    obtain ⟨p, q1, v, q2, q3⟩ := q
    have hv := ih v q2
    refine Xs_lt (fun k z => ?_) (hm p q1) B k q3
    obtain ⟨_, (⟨_, z⟩ | ⟨_, z⟩)⟩ := z <;> omega
/-- rows, weights: all that a width N = 9 ^ c gives -/
def WN (w : Nat → Nat) (c N : Nat) : Prop := wOk w c ∧ w9 w c ∧ (∀ p, p < c → ∀ y k, y < N → mv w c p y k → k < N) ∧ ∀ p, p < c → ∀ j, j < N → dg w j p ≤ 8 → j + w p < N
theorem dg_up {w : Nat → Nat} {c p j : Nat} (hw : wOk w c) (hp : p < c) : dg w j p ≤ 8 ↔ 2 ≤ dg w (j + w p) p := by
  unfold dg
  rw [Nat.add_div_right j (hw p hp).1]
  omega
/-- a HEAT at p leads from k to v -/
def ld (w : Nat → Nat) (c : Nat) (nu : Int32) (B p k v : Nat) : Prop := Xs (mv w c p) (hot w c nu p k) B v
theorem ld_iff {w : Nat → Nat} {c B p k v : Nat} {nu : Int32} (hw : wOk w c) (h9 : w9 w c) : ld w c nu B p k v ↔ ∃ j, hot w c nu p k j ∧ Xs (mv w c p) (fun x => x = v) B j := by
  refine Xs_pt.trans ⟨fun ⟨j, z1, z2⟩ => ⟨j, z1, Xs_sym (fun y k => mv_sym hw h9) B v z2⟩, fun ⟨j, z1, z2⟩ => ⟨j, z1, Xs_sym (fun y k => mv_sym hw h9) B j z2⟩⟩
theorem ld_lt {w : Nat → Nat} {c B p k v N : Nat} {nu : Int32} (hW : WN w c N) (hp : p < c) (h : ld w c nu B p k v) : (k < N → v < N) ∧ (v < N → k < N) := by
  refine ⟨fun hk => Xs_lt (fun x z => ?_) (hW.2.2.1 p hp) B v h, fun hv => ?_⟩
  · obtain ⟨_, (⟨_, z⟩ | ⟨_, z⟩)⟩ := z <;> omega
  · obtain ⟨j, ⟨_, g⟩, z2⟩ := (ld_iff hW.1 hW.2.1).mp h
    have hj : j < N := Xs_lt (fun x z => by rw [z]; exact hv) (hW.2.2.1 p hp) B j z2
    rcases g with ⟨_, z⟩ | ⟨g1, z⟩
    · omega
    · rw [← z] at g1 ⊢
      exact hW.2.2.2 p hp j hj ((dg_up hW.1 hp).mpr g1)
theorem gb_and {n k : Nat} {g h q : Nat → Int64} (hk : k < 64 * n) : gb (fun k => if k < n then g k &&& h k else q k) k = true ↔ gb g k = true ∧ gb h k = true := by
  have e : (fun k => if k < n then g k &&& h k else q k) (k / 64) = g (k / 64) &&& h (k / 64) := if_pos (by omega)
  unfold gb
  rw [e, and_bit, Bool.and_eq_true]
section FO
variable {d f c n p a e B : Nat} {w : Nat → Nat} {nu : Int32} {N : Nat} {S : mS} {I : mI} {R : mR} {Q : mQ}
theorem folA {L : mL} {P : Nat → Prop} (hS : FoS S R f c n) (hI : FoI I f c n w) (hw : wOk w c) (hc : c ≤ 5) (hp : p < c) (hn : n < 2 ^ 24) (la : lon S a n) (le : lon S e n) (hae : ¬ a = e) (ha : a < f ∨ f + 7 + 3 * c < a) (he : e < f ∨ f + 7 + 3 * c < e) (hN : N ≤ 64 * n) (hm : ∀ y k, y < N → mv w c p y k → k < N) (hB : B < 2 ^ 24) (hL : FoL L f c n w) (hH : FoH L f c n w nu) (hP : ∀ k, P k → k < N) (hs : ∀ k, k < 64 * n → (gb (L a) k = true ↔ P k)) (h : ∀ L' : mL, (∀ b, ¬ b = e → ¬ b = f + 5 + 3 * c → ¬ b = f + 6 + 3 * c → L' b = L b) → (∀ k, k < 64 * n → (gb (L' e) k = true ↔ ∃ v, P v ∧ Xs (mv w c p) (hot w c nu p v) B k)) → Q .null S I L' R) : EvM (d + 3) 4 [.ref f, .ref a, .int (nI p), .int (nI B), .ref e] S I L R Q := by
  have hF := hS.1.1
  simp only [M4, E4_0, E4_1, E4_1n, E4_2, E4_3, E4_3n, E4_5, E4_8, E4_9, E4_9n, E4_11, E4_12, E4_13, E4_16, hF, rfs, rfn, cs0, csi, csl, csr, csn, kti, ktl, ktr, ktn, ktv, ktf, true_and, and_true, and_self, ↓reduceIte, Nat.reduceAdd, Nat.reduceSub, Nat.reduceMul, Nat.reduceLT, Nat.reduceLeDiff, Nat.reduceEqDiff, true_or, or_true, false_or, or_false, not_true_eq_false, not_false_eq_true, reduceCtorEq, cmp_lt, cmp_gt, cmp_eq, Int32.reduceAdd, Int32.reduceSub, Int32.reduceMul, Int32.reduceLT, Int32.reduceToNatClampNeg, eq_self, ne_eq, Int64.reduceAdd, Int64.reduceSub, Int64.reduceMul, Int64.reduceLT]
  refine heatA (d := d) (w := w) hS hI hw hc hn hp la le hae he (fun g hg => ?_)
  simp only [E4_0, E4_1, E4_1n, E4_2, E4_3, E4_3n, E4_5, E4_8, E4_9, E4_9n, E4_11, E4_12, E4_13, E4_16, hF, rfs, rfn, cs0, csi, csl, csr, csn, kti, ktl, ktr, ktn, ktv, ktf, true_and, and_true, and_self, ↓reduceIte, Nat.reduceAdd, Nat.reduceSub, Nat.reduceMul, Nat.reduceLT, Nat.reduceLeDiff, Nat.reduceEqDiff, true_or, or_true, false_or, or_false, not_true_eq_false, not_false_eq_true, reduceCtorEq, cmp_lt, cmp_gt, cmp_eq, Int32.reduceAdd, Int32.reduceSub, Int32.reduceMul, Int32.reduceLT, Int32.reduceToNatClampNeg, eq_self, ne_eq, Int64.reduceAdd, Int64.reduceSub, Int64.reduceMul, Int64.reduceLT]
  refine sprA (d := d) (N := N) (w := w) (A := fun k => ∃ v, P v ∧ hot w c nu p v k) hS hI hw hc hp hn le (by omega) hN (fun k q => ?_) hm hB (hL.mono (fun b h1 h2 => uu_n _ _ (by omega))) (fun k hk => ?_) (fun L' g1 g2 => ?_)
  · obtain ⟨v, q1, q2, (⟨_, q3⟩ | ⟨_, q3⟩)⟩ := q
    · have := hP v q1
      omega
    · have := hP v q1
      omega
  · rw [uu_s, hg k hk]
    constructor
    · rintro ⟨v, q1, q2, q3, q4⟩
      refine ⟨v, (hs v q1).mp q2, (hH p hp v q1).mp q3, ?_⟩
      have d1 : 1 ≤ dg w v p := by unfold dg; omega
      rcases q4 with ⟨q5, q6⟩ | ⟨q5, q6⟩
      · refine Or.inl ⟨?_, q6⟩
        have : ¬ 2 ≤ dg w v p := fun z => q5 ((hL p hp v q1).1.mpr z)
        omega
      · exact Or.inr ⟨(hL p hp v q1).1.mp q5, q6⟩
    · rintro ⟨v, q1, q2, q3⟩
      have hv : v < 64 * n := by have := hP v q1; omega
      refine ⟨v, hv, (hs v hv).mpr q1, (hH p hp v hv).mpr q2, ?_⟩
      rcases q3 with ⟨q5, q6⟩ | ⟨q5, q6⟩
      · refine Or.inl ⟨fun z => ?_, q6⟩
        have := (hL p hp v hv).1.mp z
        omega
      · exact Or.inr ⟨(hL p hp v hv).1.mpr q5, q6⟩
  · try simp only [E4_0, E4_1, E4_1n, E4_2, E4_3, E4_3n, E4_5, E4_8, E4_9, E4_9n, E4_11, E4_12, E4_13, E4_16, rfs, rfn, cs0, csi, csl, csr, csn, kti, ktl, ktr, ktn, ktv, ktf, true_and, and_true, and_self, ↓reduceIte, Nat.reduceAdd, Nat.reduceSub, Nat.reduceMul, Nat.reduceLT, Nat.reduceLeDiff, Nat.reduceEqDiff, true_or, or_true, false_or, or_false, not_true_eq_false, not_false_eq_true, reduceCtorEq, cmp_lt, cmp_gt, cmp_eq, Int32.reduceAdd, Int32.reduceSub, Int32.reduceMul, Int32.reduceLT, Int32.reduceToNatClampNeg, eq_self, ne_eq, Int64.reduceAdd, Int64.reduceSub, Int64.reduceMul, Int64.reduceLT]
    refine h L' (fun b h1 h2 h3 => ?_) (fun k hk => ?_)
    · rw [g1 b h1 h2 h3, uu_n _ _ h1]
    · rw [g2 k hk]
      exact Xs_ex
theorem uh_lp (hS : FoS S R f c n) (hI : FoI I f c n w) (hc : c ≤ 5) (hn : n < 2 ^ 24) (hp : p < c) (la : lon S a n) (le : lon S e n) (hae : ¬ a = e) (he : e < f ∨ f + 7 + 3 * c < e) : ∀ (m i : Nat) (L : mL), i + m = n → Ev (d + 2) 13 3 [.ref f, .ref a, .int (nI p), .ref e, .int (nI i)] [] S I L R Q = Ev (d + 2) 13 40 [.ref f, .ref a, .int (nI p), .ref e, .int (nI n)] [] S I (va_up L e (fun k => if i ≤ k ∧ k < n then L a k &&& (L (f + 2 + 1 + p) k ^^^ (-1)) else L e k)) R Q := by
  obtain ⟨⟨hF, hW, hWl⟩, ⟨r2, r3, r4, r5, r7, r8, r9⟩, ⟨mG, mT, mH⟩, l7, l8, l9⟩ := hS
  obtain ⟨hI0, hI1, hIw⟩ := hI
  have hGR := matR mG
  have hG2 := mG.1.2
  have hg := mG.2 p hp
  obtain ⟨hg1, hg2, hg3⟩ := hg
  obtain ⟨la1, la2⟩ := la
  obtain ⟨le1, le2⟩ := le
  have p3 : inb (nI p) c = True := inb_nI hp (by omega)
  have p4 : (nI p).toNatClampNeg = p := nI_clamp (by omega)
  intro m
  induction m with
  | zero =>
    intro i L hi
    obtain rfl : i = n := by omega
    have e0 : (nI i < nI i) = False := eq_false (nI_nlt (Nat.le_refl i) (by omega))
    rw [E13_3]
    simp only [E13_0, E13_1, E13_5, E13_6, E13_9, E13_12, E13_12n, E13_13, E13_15, E13_15n, E13_16, E13_18, E13_19, E13_20, E13_23, E13_24, E13_25, E13_27, E13_28, E13_31, E13_32, E13_33, E13_34, E13_37, E13_41, E13_42, E13_45, E13_46, E13_47, E13_48, E13_51, E13_52, E13_53, E13_54, E13_57, E13_58, E13_59, E13_59n, E13_60, E13_63, E13_63n, E13_64, E13_65, E13_68, E13_69, E13_70, E13_73, E13_74, e0, hF, hI1, rfs, rfn, cs0, csi, csl, csr, csn, kti, ktl, ktr, ktn, ktv, ktf, true_and, and_true, and_self, ↓reduceIte, Nat.reduceAdd, Nat.reduceSub, Nat.reduceMul, Nat.reduceLT, Nat.reduceLeDiff, Nat.reduceEqDiff, true_or, or_true, false_or, or_false, not_true_eq_false, not_false_eq_true, reduceCtorEq, cmp_lt, cmp_gt, cmp_eq, Int32.reduceAdd, Int32.reduceSub, Int32.reduceMul, Int32.reduceLT, Int32.reduceToNatClampNeg, eq_self, ne_eq, Int64.reduceAdd, Int64.reduceSub, Int64.reduceMul, Int64.reduceLT]
    rw [up_ext]
    funext k
    rw [if_neg (by omega)]
  | succ m ih =>
    intro i L hi
    have e1 : (nI i < nI n) = True := eq_true (nI_lt (a := i) (b := n) (by omega) (by omega))
    have e3 : inb (nI i) n = True := inb_nI (by omega) (by omega)
    have e4 : (nI i).toNatClampNeg = i := nI_clamp (by omega)
    rw [E13_3]
    simp only [E13_0, E13_1, E13_5, E13_6, E13_9, E13_12, E13_12n, E13_13, E13_15, E13_15n, E13_16, E13_18, E13_19, E13_20, E13_23, E13_24, E13_25, E13_27, E13_28, E13_31, E13_32, E13_33, E13_34, E13_37, E13_41, E13_42, E13_45, E13_46, E13_47, E13_48, E13_51, E13_52, E13_53, E13_54, E13_57, E13_58, E13_59, E13_59n, E13_60, E13_63, E13_63n, E13_64, E13_65, E13_68, E13_69, E13_70, E13_73, E13_74, e1, e3, e4, p3, p4, hF, hI1, r3, hGR, hG2, hg1, hg2, hg3, la1, la2, le1, le2, rfs, rfn, cs0, csi, csl, csr, csn, kti, ktl, ktr, ktn, ktv, ktf, true_and, and_true, and_self, ↓reduceIte, Nat.reduceAdd, Nat.reduceSub, Nat.reduceMul, Nat.reduceLT, Nat.reduceLeDiff, Nat.reduceEqDiff, true_or, or_true, false_or, or_false, not_true_eq_false, not_false_eq_true, reduceCtorEq, cmp_lt, cmp_gt, cmp_eq, Int32.reduceAdd, Int32.reduceSub, Int32.reduceMul, Int32.reduceLT, Int32.reduceToNatClampNeg, eq_self, ne_eq, Int64.reduceAdd, Int64.reduceSub, Int64.reduceMul, Int64.reduceLT, nI_1]
    rw [ih (i + 1) _ (by omega), up_up]
    congr 2
    funext k
    rw [uu_n _ _ hae, uu_n _ _ (show ¬ f + 2 + 1 + p = e by omega), uu_s, up_is]
    by_cases h1 : k = i
    · subst h1
      rw [if_neg (by omega), if_pos rfl, if_pos (by omega)]
    · rw [if_neg h1]
      by_cases h2 : i + 1 ≤ k ∧ k < n
      · rw [if_pos h2, if_pos (by omega)]
      · rw [if_neg h2, if_neg (by omega)]
theorem uhA {L : mL} (hS : FoS S R f c n) (hI : FoI I f c n w) (hw : wOk w c) (hc : c ≤ 5) (hn : n < 2 ^ 24) (hp : p < c) (la : lon S a n) (le : lon S e n) (hae : ¬ a = e) (he : e < f ∨ f + 7 + 3 * c < e) (h : ∀ g : Nat → Int64, (∀ k, k < 64 * n → (gb g k = true ↔ gb (L (f + 4 + 2 * c + 1 + p)) k = true ∧ ((gb (L a) k = true ∧ ¬ gb (L (f + 2 + 1 + p)) k = true) ∨ ∃ j, j < 64 * n ∧ k = j + w p ∧ gb (L a) j = true ∧ gb (L (f + 3 + c + 1 + p)) j = true))) → Q .null S I (va_up L e g) R) : EvM (d + 2) 13 [.ref f, .ref a, .int (nI p), .ref e] S I L R Q := by
  have lp := uh_lp (d := d) (Q := Q) hS hI hc hn hp la le hae he n 0 L (by omega)
  obtain ⟨⟨hF, hW, hWl⟩, ⟨r2, r3, r4, r5, r7, r8, r9⟩, ⟨mG, mT, mH⟩, l7, l8, l9⟩ := hS
  obtain ⟨hI0, hI1, hIw⟩ := hI
  have hTR := matR mT
  have hT2 := mT.1.2
  have hHR := matR mH
  have hH2 := mH.1.2
  obtain ⟨ht1, ht2⟩ := mT.2 p hp
  obtain ⟨hh1, hh2⟩ := mH.2 p hp
  have p3 : inb (nI p) c = True := inb_nI hp (by omega)
  have p4 : (nI p).toNatClampNeg = p := nI_clamp (by omega)
  have hWI : okI S (f + 1) := ⟨hW.1, Or.inl hW.2⟩
  have hwp := hIw p hp
  have hw1 := hw p hp
  rw [show nI 0 = 0 from rfl] at lp
  simp only [M13, E13_0, E13_1, E13_5, E13_6, E13_9, E13_12, E13_12n, E13_13, E13_15, E13_15n, E13_16, E13_18, E13_19, E13_20, E13_23, E13_24, E13_25, E13_27, E13_28, E13_31, E13_32, E13_33, E13_34, E13_37, E13_40, E13_40n, E13_41, E13_42, E13_45, E13_46, E13_47, E13_48, E13_51, E13_52, E13_53, E13_54, E13_57, E13_58, E13_59, E13_59n, E13_60, E13_63, E13_63n, E13_64, E13_65, E13_68, E13_69, E13_70, E13_73, E13_74, rfs, rfn, cs0, csi, csl, csr, csn, kti, ktl, ktr, ktn, ktv, ktf, true_and, and_true, and_self, ↓reduceIte, Nat.reduceAdd, Nat.reduceSub, Nat.reduceMul, Nat.reduceLT, Nat.reduceLeDiff, Nat.reduceEqDiff, true_or, or_true, false_or, or_false, not_true_eq_false, not_false_eq_true, reduceCtorEq, cmp_lt, cmp_gt, cmp_eq, Int32.reduceAdd, Int32.reduceSub, Int32.reduceMul, Int32.reduceLT, Int32.reduceToNatClampNeg, eq_self, ne_eq, Int64.reduceAdd, Int64.reduceSub, Int64.reduceMul, Int64.reduceLT]
  rw [lp]
  simp only [E13_0, E13_1, E13_5, E13_6, E13_9, E13_12, E13_12n, E13_13, E13_15, E13_15n, E13_16, E13_18, E13_19, E13_20, E13_23, E13_24, E13_25, E13_27, E13_28, E13_31, E13_32, E13_33, E13_34, E13_37, E13_40, E13_40n, E13_41, E13_42, E13_45, E13_46, E13_47, E13_48, E13_51, E13_52, E13_53, E13_54, E13_57, E13_58, E13_59, E13_59n, E13_60, E13_63, E13_63n, E13_64, E13_65, E13_68, E13_69, E13_70, E13_73, E13_74, p3, p4, hF, r2, r4, r5, hTR, hT2, ht1, hWI, hWl, hwp, rfs, rfn, cs0, csi, csl, csr, csn, kti, ktl, ktr, ktn, ktv, ktf, true_and, and_true, and_self, ↓reduceIte, Nat.reduceAdd, Nat.reduceSub, Nat.reduceMul, Nat.reduceLT, Nat.reduceLeDiff, Nat.reduceEqDiff, true_or, or_true, false_or, or_false, not_true_eq_false, not_false_eq_true, reduceCtorEq, cmp_lt, cmp_gt, cmp_eq, Int32.reduceAdd, Int32.reduceSub, Int32.reduceMul, Int32.reduceLT, Int32.reduceToNatClampNeg, eq_self, ne_eq, Int64.reduceAdd, Int64.reduceSub, Int64.reduceMul, Int64.reduceLT]
  refine shA (d := d) (n := n) (z := (w p : Int)) la.1 la.2 ht2.1 ht2.2 ht2.1 ht2.2 le.1 le.2 hae (by omega) (by omega) hn (nI_toInt (by omega)) (by omega) (by omega) (fun g hg9 => ?_)
  simp only [E13_0, E13_1, E13_5, E13_6, E13_9, E13_12, E13_12n, E13_13, E13_15, E13_15n, E13_16, E13_18, E13_19, E13_20, E13_23, E13_24, E13_25, E13_27, E13_28, E13_31, E13_32, E13_33, E13_34, E13_37, E13_40, E13_40n, E13_41, E13_42, E13_45, E13_46, E13_47, E13_48, E13_51, E13_52, E13_53, E13_54, E13_57, E13_58, E13_59, E13_59n, E13_60, E13_63, E13_63n, E13_64, E13_65, E13_68, E13_69, E13_70, E13_73, E13_74, p3, p4, hF, r5, hHR, hH2, hh1, up_up, rfs, rfn, cs0, csi, csl, csr, csn, kti, ktl, ktr, ktn, ktv, ktf, true_and, and_true, and_self, ↓reduceIte, Nat.reduceAdd, Nat.reduceSub, Nat.reduceMul, Nat.reduceLT, Nat.reduceLeDiff, Nat.reduceEqDiff, true_or, or_true, false_or, or_false, not_true_eq_false, not_false_eq_true, reduceCtorEq, cmp_lt, cmp_gt, cmp_eq, Int32.reduceAdd, Int32.reduceSub, Int32.reduceMul, Int32.reduceLT, Int32.reduceToNatClampNeg, eq_self, ne_eq, Int64.reduceAdd, Int64.reduceSub, Int64.reduceMul, Int64.reduceLT]
  have fin : Q .null S I (va_up L e (fun k => if k < n then g k &&& L (f + 4 + 2 * c + 1 + p) k else g k)) R := by
    refine h _ (fun k hk => (gb_and hk).trans ?_)
    rw [hg9 k hk, uu_s, uu_n _ _ hae, uu_n _ _ (show ¬ f + 3 + c + 1 + p = e by omega)]
    have e1 : gb (fun k => if 0 ≤ k ∧ k < n then L a k &&& (L (f + 2 + 1 + p) k ^^^ (-1)) else L e k) k = true ↔ gb (L a) k = true ∧ ¬ gb (L (f + 2 + 1 + p)) k = true := by
      have e : (fun k => if 0 ≤ k ∧ k < n then L a k &&& (L (f + 2 + 1 + p) k ^^^ (-1)) else L e k) (k / 64) = L a (k / 64) &&& (L (f + 2 + 1 + p) (k / 64) ^^^ (-1)) := if_pos (by omega)
      unfold gb
      rw [e, and_bit, xorm_bit (by omega), Bool.and_eq_true, Bool.not_eq_true']
      simp only [Bool.not_eq_true]
    rw [e1]
    constructor
    · rintro ⟨q | ⟨j, q1, q2, q3, q4, _⟩, q6⟩
      · exact ⟨q6, Or.inl q⟩
      · exact ⟨q6, Or.inr ⟨j, q1, by omega, q3, q4⟩⟩
    · rintro ⟨q6, q | ⟨j, q1, q2, q3, q4⟩⟩
      · exact ⟨Or.inl q, q6⟩
      · exact ⟨Or.inr ⟨j, q1, by omega, q3, q4, q4⟩, q6⟩
  have eq : ∀ z : Nat → Int64, (va_up (va_up L e z) e (fun k => if k < n then va_up L e z e k &&& va_up L e z (f + 4 + 2 * c + 1 + p) k else va_up L e z e k)) = va_up L e (fun k => if k < n then z k &&& L (f + 4 + 2 * c + 1 + p) k else z k) := fun z => by
    rw [up_up, uu_s, uu_n _ _ (show ¬ f + 4 + 2 * c + 1 + p = e by omega)]
  refine keepA (d := d) le.1 le.2 hh2.1 hh2.2 (by omega) hn (fun _ => ?_) (fun _ => ?_)
  all_goals rw [eq]
  all_goals simp only [E13_0, E13_1, E13_5, E13_6, E13_9, E13_12, E13_12n, E13_13, E13_15, E13_15n, E13_16, E13_18, E13_19, E13_20, E13_23, E13_24, E13_25, E13_27, E13_28, E13_31, E13_32, E13_33, E13_34, E13_37, E13_40, E13_40n, E13_41, E13_42, E13_45, E13_46, E13_47, E13_48, E13_51, E13_52, E13_53, E13_54, E13_57, E13_58, E13_59, E13_59n, E13_60, E13_63, E13_63n, E13_64, E13_65, E13_68, E13_69, E13_70, E13_73, E13_74, rfs, rfn, cs0, csi, csl, csr, csn, kti, ktl, ktr, ktn, ktv, ktf, true_and, and_true, and_self, ↓reduceIte, Nat.reduceAdd, Nat.reduceSub, Nat.reduceMul, Nat.reduceLT, Nat.reduceLeDiff, Nat.reduceEqDiff, true_or, or_true, false_or, or_false, not_true_eq_false, not_false_eq_true, reduceCtorEq, cmp_lt, cmp_gt, cmp_eq, Int32.reduceAdd, Int32.reduceSub, Int32.reduceMul, Int32.reduceLT, Int32.reduceToNatClampNeg, eq_self, ne_eq, Int64.reduceAdd, Int64.reduceSub, Int64.reduceMul, Int64.reduceLT]
  all_goals exact fin
/-- rows ahead of a HEAT, that lead to one of a set -/
theorem trA {L : mL} {P : Nat → Prop} (hS : FoS S R f c n) (hI : FoI I f c n w) (hW : WN w c N) (hc : c ≤ 5) (hp : p < c) (hn : n < 2 ^ 24) (la : lon S a n) (le : lon S e n) (ha : a < f ∨ f + 7 + 3 * c < a) (he : e < f ∨ f + 7 + 3 * c < e) (hN : N ≤ 64 * n) (hB : B < 2 ^ 24) (hL : FoL L f c n w) (hH : FoH L f c n w nu) (hP : ∀ k, P k → k < N) (hs : ∀ k, k < 64 * n → (gb (L a) k = true ↔ P k)) (h : ∀ L' : mL, (∀ b, ¬ b = e → ¬ b = f + 5 + 3 * c → ¬ b = f + 6 + 3 * c → ¬ b = f + 7 + 3 * c → L' b = L b) → (∀ k, k < 64 * n → (gb (L' e) k = true ↔ ∃ v, P v ∧ ld w c nu B p k v)) → Q .null S I L' R) : EvM (d + 3) 5 [.ref f, .ref a, .int (nI p), .int (nI B), .ref e] S I L R Q := by
  have o0 := hS.1.1
  have r9 := hS.2.1.2.2.2.2.2.2
  have l9 := hS.2.2.2.2.2
  have i1 := hI.2.1
  have hw := hW.1
  have n1 : (nI n < 0) = False := eq_false (nI_pos (by omega))
  have n2 : (nI n).toNatClampNeg = n := nI_clamp (by omega)
  have n3 : (0 + n ≤ n) = True := eq_true (by omega)
  have z4 : Int32.toNatClampNeg 0 = 0 := rfl
  simp only [M5, E5_0, E5_0n, E5_1, E5_2, E5_3, E5_6, E5_7, E5_8, E5_11, E5_14, E5_15, E5_16, E5_19, E5_20, E5_21, E5_24, E5_25, E5_26, E5_29, E5_30, E5_30n, E5_32, E5_35, rfs, rfn, cs0, csi, csl, csr, csn, kti, ktl, ktr, ktn, ktv, ktf, true_and, and_true, and_self, ↓reduceIte, Nat.reduceAdd, Nat.reduceSub, Nat.reduceMul, Nat.reduceLT, Nat.reduceLeDiff, Nat.reduceEqDiff, true_or, or_true, false_or, or_false, not_true_eq_false, not_false_eq_true, reduceCtorEq, cmp_lt, cmp_gt, cmp_eq, Int32.reduceAdd, Int32.reduceSub, Int32.reduceMul, Int32.reduceLT, Int32.reduceToNatClampNeg, eq_self, ne_eq, Int64.reduceAdd, Int64.reduceSub, Int64.reduceMul, Int64.reduceLT, o0, r9, i1, l9.1, l9.2, la.1, la.2, n1, n2, n3, z4]
  have cp : ∀ k, k < 64 * n → gb (va_cpy (L a) (L (f + 7 + 3 * c)) 0 0 n) k = gb (L a) k := fun k hk => by
    unfold gb
    rw [pk_cpy_in (by omega) (by omega)]
    simp only [Nat.zero_add, Nat.sub_zero]
  refine sprA (d := d) (N := N) (w := w) (A := P) hS hI hw hc hp hn l9 (by omega) hN hP (hW.2.2.1 p hp) hB (hL.mono (fun b h1 h2 => uu_n _ _ (by omega))) (fun k hk => ?_) (fun L1 g1 g2 => ?_)
  · rw [uu_s, cp k hk]
    exact hs k hk
  simp only [E5_0, E5_0n, E5_1, E5_2, E5_3, E5_6, E5_7, E5_8, E5_11, E5_14, E5_15, E5_16, E5_19, E5_20, E5_21, E5_24, E5_25, E5_26, E5_29, E5_30, E5_30n, E5_32, E5_35, rfs, rfn, cs0, csi, csl, csr, csn, kti, ktl, ktr, ktn, ktv, ktf, true_and, and_true, and_self, ↓reduceIte, Nat.reduceAdd, Nat.reduceSub, Nat.reduceMul, Nat.reduceLT, Nat.reduceLeDiff, Nat.reduceEqDiff, true_or, or_true, false_or, or_false, not_true_eq_false, not_false_eq_true, reduceCtorEq, cmp_lt, cmp_gt, cmp_eq, Int32.reduceAdd, Int32.reduceSub, Int32.reduceMul, Int32.reduceLT, Int32.reduceToNatClampNeg, eq_self, ne_eq, Int64.reduceAdd, Int64.reduceSub, Int64.reduceMul, Int64.reduceLT, o0, r9]
  have fr : ∀ b, ¬ b = f + 5 + 3 * c → ¬ b = f + 6 + 3 * c → ¬ b = f + 7 + 3 * c → L1 b = L b := fun b h1 h2 h3 => by rw [g1 b h3 h1 h2, uu_n _ _ h3]
  refine uhA (d := d) (w := w) hS hI hw hc hn hp l9 le (by omega) he (fun g hg => ?_)
  try simp only [E5_0, E5_0n, E5_1, E5_2, E5_3, E5_6, E5_7, E5_8, E5_11, E5_14, E5_15, E5_16, E5_19, E5_20, E5_21, E5_24, E5_25, E5_26, E5_29, E5_30, E5_30n, E5_32, E5_35, rfs, rfn, cs0, csi, csl, csr, csn, kti, ktl, ktr, ktn, ktv, ktf, true_and, and_true, and_self, ↓reduceIte, Nat.reduceAdd, Nat.reduceSub, Nat.reduceMul, Nat.reduceLT, Nat.reduceLeDiff, Nat.reduceEqDiff, true_or, or_true, false_or, or_false, not_true_eq_false, not_false_eq_true, reduceCtorEq, cmp_lt, cmp_gt, cmp_eq, Int32.reduceAdd, Int32.reduceSub, Int32.reduceMul, Int32.reduceLT, Int32.reduceToNatClampNeg, eq_self, ne_eq, Int64.reduceAdd, Int64.reduceSub, Int64.reduceMul, Int64.reduceLT]
  refine h _ (fun b h1 h2 h3 h4 => by rw [uu_n _ _ h1]; exact fr b h2 h3 h4) (fun k hk => ?_)
  rw [uu_s, hg k hk, fr (f + 4 + 2 * c + 1 + p) (by omega) (by omega) (by omega), fr (f + 2 + 1 + p) (by omega) (by omega) (by omega), fr (f + 3 + c + 1 + p) (by omega) (by omega) (by omega), hH p hp k hk, (hL p hp k hk).1]
  have d1 : 1 ≤ dg w k p := by unfold dg; omega
  constructor
  · rintro ⟨q1, ⟨q2, q3⟩ | ⟨j, q2, q3, q4, q5⟩⟩
    · obtain ⟨v, v1, v2⟩ := Xs_pt.mp ((g2 k hk).mp q2)
      exact ⟨v, v1, (ld_iff hw hW.2.1).mpr ⟨k, ⟨q1, Or.inl ⟨by omega, rfl⟩⟩, v2⟩⟩
    · obtain ⟨v, v1, v2⟩ := Xs_pt.mp ((g2 j q2).mp q4)
      refine ⟨v, v1, (ld_iff hw hW.2.1).mpr ⟨j, ⟨q1, Or.inr ⟨?_, q3.symm⟩⟩, v2⟩⟩
      rw [q3]
      exact (dg_up hw hp).mp (((hL p hp j q2).2).mp q5)
  · rintro ⟨v, v1, v2⟩
    obtain ⟨j, ⟨q1, q2⟩, z2⟩ := (ld_iff hw hW.2.1).mp v2
    have x : Xs (mv w c p) P B j := Xs_pt.mpr ⟨v, v1, z2⟩
    rcases q2 with ⟨q3, rfl⟩ | ⟨q3, q4⟩
    · exact ⟨q1, Or.inl ⟨(g2 j hk).mpr x, by omega⟩⟩
    · have hj : j < 64 * n := by omega
      refine ⟨q1, Or.inr ⟨j, hj, q4.symm, (g2 j hj).mpr x, ((hL p hp j hj).2).mpr ((dg_up hw hp).mpr ?_)⟩⟩
      rw [q4]
      exact q3
end FO
