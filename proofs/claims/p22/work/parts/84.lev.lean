/-! the makers of forge, levels and planner -/
theorem okR_is {S : mS} {a : Nat} : okR S a = (a < S.1 ∧ 14 ≤ S.2.2.1 a ∧ S.2.2.1 a < 19) := rfl
def Ext (S S' : mS) : Prop := S.1 ≤ S'.1 ∧ ∀ a, a < S.1 → S'.2.2.1 a = S.2.2.1 a ∧ S'.2.2.2 a = S.2.2.2 a
theorem Ext.rf {S : mS} : Ext S S := ⟨Nat.le_refl _, fun _ _ => ⟨rfl, rfl⟩⟩
theorem Ext.tr {S S' S'' : mS} (h : Ext S S') (h2 : Ext S' S'') : Ext S S'' := ⟨Nat.le_trans h.1 h2.1, fun a ha => ⟨((h2.2 a (Nat.lt_of_lt_of_le ha h.1)).1).trans (h.2 a ha).1, ((h2.2 a (Nat.lt_of_lt_of_le ha h.1)).2).trans (h.2 a ha).2⟩⟩
theorem Ext.ok {S S' : mS} {a k : Nat} (h : Ext S S') (o : ok S a k) : ok S' a k := ⟨Nat.lt_of_lt_of_le o.1 h.1, ((h.2 a o.1).1).trans o.2⟩
theorem Ext.len {S S' : mS} {a n : Nat} (h : Ext S S') (o : a < S.1) (q : S.2.2.2 a = n) : S'.2.2.2 a = n := ((h.2 a o).2).trans q
theorem Ext.lon {S S' : mS} {a n : Nat} (h : Ext S S') (o : lon S a n) : lon S' a n := ⟨h.ok o.1, h.len o.1.1 o.2⟩
theorem Ext.mat {S S' : mS} {R R' : mR} {g c n : Nat} (h : Ext S S') (hR : R' g = R g) (o : mat S R g c n) : mat S' R' g c n := ⟨⟨h.ok o.1.1, h.len o.1.1.1 o.1.2⟩, fun i hi => ⟨by rw [hR]; exact (o.2 i hi).1, h.lon (o.2 i hi).2⟩⟩
theorem Ext.fo {S S' : mS} {R R' : mR} {f c n : Nat} (h : Ext S S') (hR : ∀ a, f ≤ a → a ≤ f + 7 + 3 * c → R' a = R a) (o : FoS S R f c n) : FoS S' R' f c n := by
  obtain ⟨⟨hF, hW, hWl⟩, ⟨r2, r3, r4, r5, r7, r8, r9⟩, ⟨mG, mT, mH⟩, l7, l8, l9⟩ := o
  have e := hR f (by omega) (by omega)
  refine ⟨⟨h.ok hF, h.ok hW, h.len hW.1 hWl⟩, ⟨?_, ?_, ?_, ?_, ?_, ?_, ?_⟩, ⟨h.mat (hR _ (by omega) (by omega)) mG, h.mat (hR _ (by omega) (by omega)) mT, h.mat (hR _ (by omega) (by omega)) mH⟩, h.lon l7, h.lon l8, h.lon l9⟩ <;> (rw [e]; assumption)
/-- levels: object l over forge f, their rows behind g -/
def LvS (S : mS) (R : mR) (l f g m n : Nat) : Prop := (ok S l 2 ∧ R l 0 = some f ∧ R l 2 = some g ∧ R l 3 = some (g + 1 + m)) ∧ mat S R g m n ∧ lon S (g + 1 + m) n
def LvI (I : mI) (l : Nat) (bo kn ro nu bl : Int32) : Prop := I l 1 = bo ∧ I l 4 = kn ∧ I l 5 = ro ∧ I l 6 = nu ∧ I l 7 = bl
theorem Ext.lv {S S' : mS} {R R' : mR} {l f g m n : Nat} (h : Ext S S') (hl : R' l = R l) (hg : R' g = R g) (o : LvS S R l f g m n) : LvS S' R' l f g m n := ⟨⟨h.ok o.1.1, by rw [hl]; exact o.1.2.1, by rw [hl]; exact o.1.2.2.1, by rw [hl]; exact o.1.2.2.2⟩, h.mat hg o.2.1, h.lon o.2.2⟩
theorem ltT {a b : Nat} (h : a < b) : (a < b) = True := eq_true h
section MK
variable {d : Nat} {S : mS} {I : mI} {L : mL} {R : mR} {Q : mQ}
theorem lv_init {l f g m n : Nat} {bo : Int32} (h1 : S.1 = g) (hlg : l < g) (hfg : f < g) (hfl : ¬ f = l) (hl : S.2.2.1 l = 2) (hf : S.2.2.1 f = 0) (hw : I f 1 = nI n) (hm : m ≤ 7) (hm1 : 1 < m) (hn : n < 2 ^ 24) (hb : bo = 0 ∨ bo = 1) (h : ∀ S' I' L' R', (S'.1 = g + 2 + m ∧ S'.2.1 = S.2.1 + (m + m * n) + n) → Ext S S' → LvS S' R' l f g m n → LvI I' l bo 0 (-1) 0 0 → (∀ a, a < g → a ≠ l → I' a = I a ∧ R' a = R a) → (∀ a, a < g → L' a = L a) → Q .null S' I' L' R') : EvM (d + 1) 29 [.ref l, .ref f, .int bo, .int (nI m)] S I L R Q := by
  have m1 : ((1 : Int32) < nI m) = True := eq_true (nI_lt (a := 1) (by omega) (by omega))
  have m2 : (nI m < 0) = False := eq_false (nI_pos (by omega))
  have n2 : (nI n < 0) = False := eq_false (nI_pos (by omega))
  have m3 : (nI m).toNatClampNeg = m := nI_clamp (by omega)
  have n3 : (nI n).toNatClampNeg = n := nI_clamp (by omega)
  have m4 : (m ≤ 67108864) = True := eq_true (by omega)
  have n4 : (n ≤ 67108864) = True := eq_true (by omega)
  have hlg' : (l < g) = True := eq_true hlg
  have hfg' : (f < g) = True := eq_true hfg
  have q1 : (l < g + (1 + m)) = True := eq_true (by omega)
  have q2 : (f < g + (1 + m)) = True := eq_true (by omega)
  have q3 : (l < g + (1 + m) + 1) = True := eq_true (by omega)
  have q4 : (l = g) = False := eq_false (by omega)
  have q5 : (f = g) = False := eq_false (by omega)
  have q6 : (g < l) = False := eq_false (by omega)
  have q7 : (g < f) = False := eq_false (by omega)
  have q8 : (l = g + (1 + m)) = False := eq_false (by omega)
  have q9 : (f = l) = False := eq_false hfl
  simp only [M29, E29_0, E29_1, E29_4, E29_5, E29_6, E29_9, E29_10, E29_11, E29_14, E29_15, E29_16, E29_19, E29_20, E29_21, E29_24, E29_25, E29_25n, E29_26, E29_29, E29_30, E29_31, E29_34, E29_35, E29_36, E29_37, E29_40, E29_40n, E29_41, E29_44, E29_48, E29_51, E29_52, E29_52n, E29_53, E29_56, E29_58, E29_61, rfs, rfn, cs0, csi, csl, csr, csn, kti, ktl, ktr, ktn, ktv, ktf, true_and, and_true, and_self, ↓reduceIte, Nat.reduceAdd, Nat.reduceSub, Nat.reduceMul, Nat.reduceLT, Nat.reduceLeDiff, Nat.reduceEqDiff, true_or, or_true, false_or, or_false, not_true_eq_false, not_false_eq_true, reduceCtorEq, cmp_lt, cmp_gt, cmp_eq, Int32.reduceAdd, Int32.reduceSub, Int32.reduceMul, Int32.reduceLT, Int32.reduceToNatClampNeg, eq_self, ne_eq, Int64.reduceAdd, Int64.reduceSub, Int64.reduceMul, Int64.reduceLT, ok_is, up_is, mlt_is, h1, m1, m2, m3, m4, n2, n3, n4, hlg', hfg', hl, hf, hw, hb, q1, q2, q3, q4, q5, q6, q7, q8, q9, false_and]
  refine h _ _ _ _ ⟨by show g + (1 + m) + 1 = g + 2 + m; omega, rfl⟩ ⟨by show S.1 ≤ g + (1 + m) + 1; omega, fun a ha => ?_⟩ ⟨⟨⟨?_, ?_⟩, ?_, ?_, ?_⟩, ⟨⟨⟨?_, ?_⟩, ?_⟩, fun i hi => ⟨?_, ⟨?_, ?_⟩, ?_⟩⟩, ⟨?_, ?_⟩, ?_⟩ ⟨?_, ?_, ?_, ?_, ?_⟩ (fun a ha hal => ?_) (fun a ha => ?_)
  case refine_1 =>
    rw [h1] at ha
    simp only [up_is, mlt_is]
    rw [if_neg (by omega), if_neg (by omega), if_neg (by omega), if_neg (by omega), if_neg (by omega), if_neg (by omega)]
    exact ⟨rfl, rfl⟩
  all_goals simp only [up_is, mlt_is, rfs, rfn, cs0, csi, csl, csr, csn, kti, ktl, ktr, ktn, ktv, ktf, true_and, and_true, and_self, ↓reduceIte, Nat.reduceAdd, Nat.reduceSub, Nat.reduceMul, Nat.reduceLT, Nat.reduceLeDiff, Nat.reduceEqDiff, true_or, or_true, false_or, or_false, not_true_eq_false, not_false_eq_true, reduceCtorEq, cmp_lt, cmp_gt, cmp_eq, Int32.reduceAdd, Int32.reduceSub, Int32.reduceMul, Int32.reduceLT, Int32.reduceToNatClampNeg, eq_self, ne_eq, Int64.reduceAdd, Int64.reduceSub, Int64.reduceMul, Int64.reduceLT, q1, q2, q3, q4, q5, q6, q7, q8, q9, hl, false_and]
  all_goals first
    | done
    | omega
    | (congr 1; omega)
    | (rw [if_neg (by omega), if_pos rfl]; done)
    | (rw [if_pos (by omega)]; done)
    | (rw [if_neg (by omega), if_neg (by omega), if_pos (by omega)]; done)
    | (rw [if_neg (by omega), if_neg (by omega), if_pos hi]; done)
    | (simp (disch := omega) only [if_pos, if_neg, eq_self, and_self]; done)
    | skip
end MK
section LH
variable {d l f g m n c : Nat} {w : Nat → Nat} {S : mS} {I : mI} {L : mL} {R : mR} {Q : mQ}
theorem aiH {r nu bl : Int32} (v : LvS S R l f g (m + 1) n) (hn : n < 2 ^ 24) (hm : m < 100) (hq : ∀ (I' : mI) (L' : mL), (∀ b, ¬ b = l → I' b = I b) → Q .null S I' L' R) : EvM (d + 3) 30 [.ref l, .int r, .int nu, .int bl] S I L R Q := by
  obtain ⟨⟨o0, r0, r2, r3⟩, mt, lw⟩ := v
  have RR := matR mt
  have z := mt.2 0 (by omega)
  have i0 : inb 0 (m + 1) = True := inb_nI (j := 0) (by omega) (by omega)
  have t32 : Ev (d + 3) 30 32 [.ref l, .int r, .int nu, .int bl] [] S I L R Q := by
    simp only [E30_0, E30_1, E30_4, E30_7, E30_8, E30_11, E30_12, E30_15, E30_16, E30_19, E30_20, E30_23, E30_24, E30_27, E30_28, E30_31, E30_32, E30_33, E30_34, E30_37, E30_38, E30_39, E30_42, E30_43, E30_44, E30_47, E30_48, E30_51, E30_52, E30_53, E30_54, E30_57, E30_58, E30_59, E30_62, rfs, rfn, cs0, csi, csl, csr, csn, kti, ktl, ktr, ktn, ktv, ktf, true_and, and_true, and_self, ↓reduceIte, Nat.reduceAdd, Nat.reduceSub, Nat.reduceMul, Nat.reduceLT, Nat.reduceLeDiff, Nat.reduceEqDiff, true_or, or_true, false_or, or_false, not_true_eq_false, not_false_eq_true, reduceCtorEq, cmp_lt, cmp_gt, cmp_eq, Int32.reduceAdd, Int32.reduceSub, Int32.reduceMul, Int32.reduceLT, Int32.reduceToNatClampNeg, eq_self, ne_eq, Int64.reduceAdd, Int64.reduceSub, Int64.reduceMul, Int64.reduceLT, pt, o0, r2, RR, mt.1.2, i0, z.1, show (0 : Int32).toNatClampNeg = 0 from rfl]
    refine soH z.2 hn (fun L' => ?_)
    simp only [E30_0, E30_1, E30_4, E30_7, E30_8, E30_11, E30_12, E30_15, E30_16, E30_19, E30_20, E30_23, E30_24, E30_27, E30_28, E30_31, E30_32, E30_33, E30_34, E30_37, E30_38, E30_39, E30_42, E30_43, E30_44, E30_47, E30_48, E30_51, E30_52, E30_53, E30_54, E30_57, E30_58, E30_59, E30_62, rfs, rfn, cs0, csi, csl, csr, csn, kti, ktl, ktr, ktn, ktv, ktf, true_and, and_true, and_self, ↓reduceIte, Nat.reduceAdd, Nat.reduceSub, Nat.reduceMul, Nat.reduceLT, Nat.reduceLeDiff, Nat.reduceEqDiff, true_or, or_true, false_or, or_false, not_true_eq_false, not_false_eq_true, reduceCtorEq, cmp_lt, cmp_gt, cmp_eq, Int32.reduceAdd, Int32.reduceSub, Int32.reduceMul, Int32.reduceLT, Int32.reduceToNatClampNeg, eq_self, ne_eq, Int64.reduceAdd, Int64.reduceSub, Int64.reduceMul, Int64.reduceLT, pt, o0]
    refine hq _ _ (fun b hb => ?_)
    rw [pt_n hb, pt_n hb, pt_n hb, pt_n hb]
  by_cases g1 : 0 < I l 4
  · by_cases g2 : I l 5 = r
    · have g2' : (I l 5 = r) = True := eq_true g2
      by_cases g3 : I l 6 = nu
      · have g3' : (I l 6 = nu) = True := eq_true g3
        by_cases g4 : I l 7 = bl
        · have g4' : (I l 7 = bl) = True := eq_true g4
          simp only [M30, E30_0, E30_1, E30_4, E30_7, E30_8, E30_11, E30_12, E30_15, E30_16, E30_19, E30_20, E30_23, E30_24, E30_27, E30_28, E30_31, E30_33, E30_34, E30_37, E30_38, E30_39, E30_42, E30_43, E30_44, E30_47, E30_48, E30_51, E30_52, E30_53, E30_54, E30_57, E30_58, E30_59, E30_62, rfs, rfn, cs0, csi, csl, csr, csn, kti, ktl, ktr, ktn, ktv, ktf, true_and, and_true, and_self, ↓reduceIte, Nat.reduceAdd, Nat.reduceSub, Nat.reduceMul, Nat.reduceLT, Nat.reduceLeDiff, Nat.reduceEqDiff, true_or, or_true, false_or, or_false, not_true_eq_false, not_false_eq_true, reduceCtorEq, cmp_lt, cmp_gt, cmp_eq, Int32.reduceAdd, Int32.reduceSub, Int32.reduceMul, Int32.reduceLT, Int32.reduceToNatClampNeg, eq_self, ne_eq, Int64.reduceAdd, Int64.reduceSub, Int64.reduceMul, Int64.reduceLT, o0, g1, g2', g3', g4']
          exact hq _ _ (fun _ _ => rfl)
        · simp only [M30, E30_0, E30_1, E30_4, E30_7, E30_8, E30_11, E30_12, E30_15, E30_16, E30_19, E30_20, E30_23, E30_24, E30_27, E30_28, E30_31, E30_33, E30_34, E30_37, E30_38, E30_39, E30_42, E30_43, E30_44, E30_47, E30_48, E30_51, E30_52, E30_53, E30_54, E30_57, E30_58, E30_59, E30_62, rfs, rfn, cs0, csi, csl, csr, csn, kti, ktl, ktr, ktn, ktv, ktf, true_and, and_true, and_self, ↓reduceIte, Nat.reduceAdd, Nat.reduceSub, Nat.reduceMul, Nat.reduceLT, Nat.reduceLeDiff, Nat.reduceEqDiff, true_or, or_true, false_or, or_false, not_true_eq_false, not_false_eq_true, reduceCtorEq, cmp_lt, cmp_gt, cmp_eq, Int32.reduceAdd, Int32.reduceSub, Int32.reduceMul, Int32.reduceLT, Int32.reduceToNatClampNeg, eq_self, ne_eq, Int64.reduceAdd, Int64.reduceSub, Int64.reduceMul, Int64.reduceLT, o0, g1, g2', g3', g4]
          exact t32
      · simp only [M30, E30_0, E30_1, E30_4, E30_7, E30_8, E30_11, E30_12, E30_15, E30_16, E30_19, E30_20, E30_23, E30_24, E30_27, E30_28, E30_31, E30_33, E30_34, E30_37, E30_38, E30_39, E30_42, E30_43, E30_44, E30_47, E30_48, E30_51, E30_52, E30_53, E30_54, E30_57, E30_58, E30_59, E30_62, rfs, rfn, cs0, csi, csl, csr, csn, kti, ktl, ktr, ktn, ktv, ktf, true_and, and_true, and_self, ↓reduceIte, Nat.reduceAdd, Nat.reduceSub, Nat.reduceMul, Nat.reduceLT, Nat.reduceLeDiff, Nat.reduceEqDiff, true_or, or_true, false_or, or_false, not_true_eq_false, not_false_eq_true, reduceCtorEq, cmp_lt, cmp_gt, cmp_eq, Int32.reduceAdd, Int32.reduceSub, Int32.reduceMul, Int32.reduceLT, Int32.reduceToNatClampNeg, eq_self, ne_eq, Int64.reduceAdd, Int64.reduceSub, Int64.reduceMul, Int64.reduceLT, o0, g1, g2', g3]
        exact t32
    · simp only [M30, E30_0, E30_1, E30_4, E30_7, E30_8, E30_11, E30_12, E30_15, E30_16, E30_19, E30_20, E30_23, E30_24, E30_27, E30_28, E30_31, E30_33, E30_34, E30_37, E30_38, E30_39, E30_42, E30_43, E30_44, E30_47, E30_48, E30_51, E30_52, E30_53, E30_54, E30_57, E30_58, E30_59, E30_62, rfs, rfn, cs0, csi, csl, csr, csn, kti, ktl, ktr, ktn, ktv, ktf, true_and, and_true, and_self, ↓reduceIte, Nat.reduceAdd, Nat.reduceSub, Nat.reduceMul, Nat.reduceLT, Nat.reduceLeDiff, Nat.reduceEqDiff, true_or, or_true, false_or, or_false, not_true_eq_false, not_false_eq_true, reduceCtorEq, cmp_lt, cmp_gt, cmp_eq, Int32.reduceAdd, Int32.reduceSub, Int32.reduceMul, Int32.reduceLT, Int32.reduceToNatClampNeg, eq_self, ne_eq, Int64.reduceAdd, Int64.reduceSub, Int64.reduceMul, Int64.reduceLT, o0, g1, g2]
      exact t32
  · simp only [M30, E30_0, E30_1, E30_4, E30_7, E30_8, E30_11, E30_12, E30_15, E30_16, E30_19, E30_20, E30_23, E30_24, E30_27, E30_28, E30_31, E30_33, E30_34, E30_37, E30_38, E30_39, E30_42, E30_43, E30_44, E30_47, E30_48, E30_51, E30_52, E30_53, E30_54, E30_57, E30_58, E30_59, E30_62, rfs, rfn, cs0, csi, csl, csr, csn, kti, ktl, ktr, ktn, ktv, ktf, true_and, and_true, and_self, ↓reduceIte, Nat.reduceAdd, Nat.reduceSub, Nat.reduceMul, Nat.reduceLT, Nat.reduceLeDiff, Nat.reduceEqDiff, true_or, or_true, false_or, or_false, not_true_eq_false, not_false_eq_true, reduceCtorEq, cmp_lt, cmp_gt, cmp_eq, Int32.reduceAdd, Int32.reduceSub, Int32.reduceMul, Int32.reduceLT, Int32.reduceToNatClampNeg, eq_self, ne_eq, Int64.reduceAdd, Int64.reduceSub, Int64.reduceMul, Int64.reduceLT, o0, g1]
    exact t32
theorem atc {k wd : Nat} {hh : Int32} (v : LvS S R l f g (m + 1) n) (hS : FoS S R f c n) (hI : FoI I f c n w) (hc : c ≤ 5) (hn : n < 2 ^ 24) (hm : m < 100) (hk : 1 ≤ k) (hkm : k ≤ m) (hq : ∀ (L' : mL), Ev (d + 4) 31 134 [.ref l, .int hh, .int (nI wd), .int (nI k), .int (nI c)] [] S I L' R Q) : ∀ (N j : Nat) (L : mL), j + N = c → Ev (d + 4) 31 43 [.ref l, .int hh, .int (nI wd), .int (nI k), .int (nI j)] [] S I L R Q := by
  obtain ⟨⟨o0, r0, r2, r3⟩, mt, lw⟩ := v
  have of := hS.1.1
  have i0 := hI.1
  have RR := matR mt
  have a1 := mt.2 k (by omega)
  have a0 := mt.2 (k - 1) (by omega)
  have j1 : inb (nI k) (m + 1) = True := inb_nI (by omega) (by omega)
  have j0 : inb (nI (k - 1)) (m + 1) = True := inb_nI (by omega) (by omega)
  have k1 : (nI k).toNatClampNeg = k := nI_clamp (by omega)
  have k0 : (nI (k - 1)).toNatClampNeg = k - 1 := nI_clamp (by omega)
  have s1 : nI k - 1 = nI (k - 1) := by
    obtain ⟨q, rfl⟩ : ∃ q, k = q + 1 := ⟨k - 1, by omega⟩
    exact nI_m1 q
  intro N
  induction N with
  | zero =>
    intro j L hj
    obtain rfl : j = c := by omega
    have e : (nI j < nI j) = False := eq_false (nI_nlt (Nat.le_refl _) (by omega))
    rw [E31_43]
    simp only [E31_45, E31_46, E31_49, E31_52, rfs, rfn, cs0, csi, csl, csr, csn, kti, ktl, ktr, ktn, ktv, ktf, true_and, and_true, and_self, ↓reduceIte, Nat.reduceAdd, Nat.reduceSub, Nat.reduceMul, Nat.reduceLT, Nat.reduceLeDiff, Nat.reduceEqDiff, true_or, or_true, false_or, or_false, not_true_eq_false, not_false_eq_true, reduceCtorEq, cmp_lt, cmp_gt, cmp_eq, Int32.reduceAdd, Int32.reduceSub, Int32.reduceMul, Int32.reduceLT, Int32.reduceToNatClampNeg, eq_self, ne_eq, Int64.reduceAdd, Int64.reduceSub, Int64.reduceMul, Int64.reduceLT, o0, r0, of, i0, e]
    exact hq _
  | succ N ih =>
    intro j L hj
    have e1 : (nI j < nI c) = True := eq_true (nI_lt (by omega) (by omega))
    have fin : ∀ L, Ev (d + 4) 31 115 [.ref l, .int hh, .int (nI wd), .int (nI k), .int (nI j)] [] S I L R Q := fun L => by
      simp only [E31_0, E31_1, E31_2, E31_5, E31_6, E31_7, E31_8, E31_9, E31_12, E31_15, E31_16, E31_17, E31_18, E31_21, E31_24, E31_26, E31_27, E31_30, E31_31, E31_34, E31_35, E31_36, E31_37, E31_40, E31_41, E31_45, E31_46, E31_49, E31_52, E31_55, E31_56, E31_59, E31_62, E31_63, E31_66, E31_67, E31_70, E31_71, E31_72, E31_73, E31_74, E31_76, E31_77, E31_80, E31_81, E31_84, E31_87, E31_90, E31_91, E31_94, E31_95, E31_98, E31_99, E31_100, E31_101, E31_102, E31_104, E31_105, E31_108, E31_109, E31_112, E31_115, E31_116, E31_119, E31_120, E31_123, E31_124, E31_125, E31_128, E31_131, E31_134, E31_135, E31_136, E31_137, E31_138, E31_141, E31_144, E31_147, E31_148, E31_151, E31_152, E31_153, E31_153n, rfs, rfn, cs0, csi, csl, csr, csn, kti, ktl, ktr, ktn, ktv, ktf, true_and, and_true, and_self, ↓reduceIte, Nat.reduceAdd, Nat.reduceSub, Nat.reduceMul, Nat.reduceLT, Nat.reduceLeDiff, Nat.reduceEqDiff, true_or, or_true, false_or, or_false, not_true_eq_false, not_false_eq_true, reduceCtorEq, cmp_lt, cmp_gt, cmp_eq, Int32.reduceAdd, Int32.reduceSub, Int32.reduceMul, Int32.reduceLT, Int32.reduceToNatClampNeg, eq_self, ne_eq, Int64.reduceAdd, Int64.reduceSub, Int64.reduceMul, Int64.reduceLT, o0, r2, r3, RR, mt.1.2, j1, k1, a1.1]
      refine adH lw a1.2 hn (fun L => ?_)
      simp only [E31_0, E31_1, E31_2, E31_5, E31_6, E31_7, E31_8, E31_9, E31_12, E31_15, E31_16, E31_17, E31_18, E31_21, E31_24, E31_26, E31_27, E31_30, E31_31, E31_34, E31_35, E31_36, E31_37, E31_40, E31_41, E31_45, E31_46, E31_49, E31_52, E31_55, E31_56, E31_59, E31_62, E31_63, E31_66, E31_67, E31_70, E31_71, E31_72, E31_73, E31_74, E31_76, E31_77, E31_80, E31_81, E31_84, E31_87, E31_90, E31_91, E31_94, E31_95, E31_98, E31_99, E31_100, E31_101, E31_102, E31_104, E31_105, E31_108, E31_109, E31_112, E31_115, E31_116, E31_119, E31_120, E31_123, E31_124, E31_125, E31_128, E31_131, E31_134, E31_135, E31_136, E31_137, E31_138, E31_141, E31_144, E31_147, E31_148, E31_151, E31_152, E31_153, E31_153n, rfs, rfn, cs0, csi, csl, csr, csn, kti, ktl, ktr, ktn, ktv, ktf, true_and, and_true, and_self, ↓reduceIte, Nat.reduceAdd, Nat.reduceSub, Nat.reduceMul, Nat.reduceLT, Nat.reduceLeDiff, Nat.reduceEqDiff, true_or, or_true, false_or, or_false, not_true_eq_false, not_false_eq_true, reduceCtorEq, cmp_lt, cmp_gt, cmp_eq, Int32.reduceAdd, Int32.reduceSub, Int32.reduceMul, Int32.reduceLT, Int32.reduceToNatClampNeg, eq_self, ne_eq, Int64.reduceAdd, Int64.reduceSub, Int64.reduceMul, Int64.reduceLT, nI_1]
      exact ih (j + 1) _ (by omega)
    rw [E31_43]
    by_cases g : I l 1 = 0
    · simp only [E31_0, E31_1, E31_2, E31_5, E31_6, E31_7, E31_8, E31_9, E31_12, E31_15, E31_16, E31_17, E31_18, E31_21, E31_24, E31_26, E31_27, E31_30, E31_31, E31_34, E31_35, E31_36, E31_37, E31_40, E31_41, E31_45, E31_46, E31_49, E31_52, E31_55, E31_56, E31_59, E31_62, E31_63, E31_66, E31_67, E31_70, E31_71, E31_72, E31_73, E31_74, E31_76, E31_77, E31_80, E31_81, E31_84, E31_87, E31_90, E31_91, E31_94, E31_95, E31_98, E31_99, E31_100, E31_101, E31_102, E31_104, E31_105, E31_108, E31_109, E31_112, E31_116, E31_119, E31_120, E31_123, E31_124, E31_125, E31_128, E31_131, E31_134, E31_135, E31_136, E31_137, E31_138, E31_141, E31_144, E31_147, E31_148, E31_151, E31_152, E31_153, E31_153n, rfs, rfn, cs0, csi, csl, csr, csn, kti, ktl, ktr, ktn, ktv, ktf, true_and, and_true, and_self, ↓reduceIte, Nat.reduceAdd, Nat.reduceSub, Nat.reduceMul, Nat.reduceLT, Nat.reduceLeDiff, Nat.reduceEqDiff, true_or, or_true, false_or, or_false, not_true_eq_false, not_false_eq_true, reduceCtorEq, cmp_lt, cmp_gt, cmp_eq, Int32.reduceAdd, Int32.reduceSub, Int32.reduceMul, Int32.reduceLT, Int32.reduceToNatClampNeg, eq_self, ne_eq, Int64.reduceAdd, Int64.reduceSub, Int64.reduceMul, Int64.reduceLT, o0, r0, r2, r3, of, i0, e1, g, RR, mt.1.2, s1, j0, k0, a0.1]
      refine trH hS hI hc hn (by omega) a0.2 lw (fun L => ?_)
      exact fin _
    · simp only [E31_0, E31_1, E31_2, E31_5, E31_6, E31_7, E31_8, E31_9, E31_12, E31_15, E31_16, E31_17, E31_18, E31_21, E31_24, E31_26, E31_27, E31_30, E31_31, E31_34, E31_35, E31_36, E31_37, E31_40, E31_41, E31_45, E31_46, E31_49, E31_52, E31_55, E31_56, E31_59, E31_62, E31_63, E31_66, E31_67, E31_70, E31_71, E31_72, E31_73, E31_74, E31_76, E31_77, E31_80, E31_81, E31_84, E31_87, E31_90, E31_91, E31_94, E31_95, E31_98, E31_99, E31_100, E31_101, E31_102, E31_104, E31_105, E31_108, E31_109, E31_112, E31_116, E31_119, E31_120, E31_123, E31_124, E31_125, E31_128, E31_131, E31_134, E31_135, E31_136, E31_137, E31_138, E31_141, E31_144, E31_147, E31_148, E31_151, E31_152, E31_153, E31_153n, rfs, rfn, cs0, csi, csl, csr, csn, kti, ktl, ktr, ktn, ktv, ktf, true_and, and_true, and_self, ↓reduceIte, Nat.reduceAdd, Nat.reduceSub, Nat.reduceMul, Nat.reduceLT, Nat.reduceLeDiff, Nat.reduceEqDiff, true_or, or_true, false_or, or_false, not_true_eq_false, not_false_eq_true, reduceCtorEq, cmp_lt, cmp_gt, cmp_eq, Int32.reduceAdd, Int32.reduceSub, Int32.reduceMul, Int32.reduceLT, Int32.reduceToNatClampNeg, eq_self, ne_eq, Int64.reduceAdd, Int64.reduceSub, Int64.reduceMul, Int64.reduceLT, o0, r0, r2, r3, of, i0, e1, g, RR, mt.1.2, s1, j0, k0, a0.1]
      refine foH hS hI hc hn (by omega) a0.2 lw (fun L => ?_)
      exact fin _
theorem atK {wd : Nat} {hh : Int32} (v : LvS S R l f g (m + 1) n) (hS : FoS S R f c n) (hc : c ≤ 5) (hn : n < 2 ^ 24) (hm : m < 100) (hlf : ¬ l = f) (hlf1 : ¬ l = f + 1) (hw : wd ≤ m) (hq : ∀ (I' : mI) (L' : mL), (∀ b, ¬ b = l → I' b = I b) → Q (.ref (g + 1 + wd)) S I' L' R) : ∀ (N k : Nat) (J : mI) (L : mL) (x : Value), (k + N = wd + 1 ∨ (N = 0 ∧ wd < k)) → k < 2 ^ 31 → 1 ≤ k → FoI J f c n w → (∀ b, ¬ b = l → J b = I b) → Ev (d + 4) 31 25 [.ref l, .int hh, .int (nI wd), .int (nI k), x] [] S J L R Q := by
  have v' := v
  obtain ⟨⟨o0, r0, r2, r3⟩, mt, lw⟩ := v'
  have RR := matR mt
  have aw := mt.2 wd (by omega)
  have jw : inb (nI wd) (m + 1) = True := inb_nI (by omega) (by omega)
  have kw : (nI wd).toNatClampNeg = wd := nI_clamp (by omega)
  intro N
  induction N with
  | zero =>
    intro k J L x h1 h2 h3 hI hJ
    have e : (nI wd < nI k) = True := eq_true (nI_lt (by omega) h2)
    rw [E31_25]
    simp only [E31_26, E31_27, E31_147, E31_148, E31_151, E31_152, E31_153, rfs, rfn, cs0, csi, csl, csr, csn, kti, ktl, ktr, ktn, ktv, ktf, true_and, and_true, and_self, ↓reduceIte, Nat.reduceAdd, Nat.reduceSub, Nat.reduceMul, Nat.reduceLT, Nat.reduceLeDiff, Nat.reduceEqDiff, true_or, or_true, false_or, or_false, not_true_eq_false, not_false_eq_true, reduceCtorEq, cmp_lt, cmp_gt, cmp_eq, Int32.reduceAdd, Int32.reduceSub, Int32.reduceMul, Int32.reduceLT, Int32.reduceToNatClampNeg, eq_self, ne_eq, Int64.reduceAdd, Int64.reduceSub, Int64.reduceMul, Int64.reduceLT, o0, r2, RR, mt.1.2, jw, kw, aw.1, e]
    exact hq _ _ hJ
  | succ N ih =>
    intro k J L x h1 h2 h3 hI hJ
    have e : (nI wd < nI k) = False := eq_false (nI_nlt (by omega) (by omega))
    have ak := mt.2 k (by omega)
    have jk : inb (nI k) (m + 1) = True := inb_nI (by omega) (by omega)
    have kk : (nI k).toNatClampNeg = k := nI_clamp (by omega)
    have fl := fun L Q => fillL (d := d + 2) (v := 0) (I := J) (L := L) (R := R) (Q := Q) ak.2.1 ak.2.2 (by omega)
    have q := fun L => atc (d := d) (k := k) (wd := wd) (hh := hh) (I := J) (Q := Q) v hS hI hc hn hm h3 (by omega) (fun L' => by
      simp only [E31_134, E31_135, E31_136, E31_137, E31_138, E31_141, E31_144, rfs, rfn, cs0, csi, csl, csr, csn, kti, ktl, ktr, ktn, ktv, ktf, true_and, and_true, and_self, ↓reduceIte, Nat.reduceAdd, Nat.reduceSub, Nat.reduceMul, Nat.reduceLT, Nat.reduceLeDiff, Nat.reduceEqDiff, true_or, or_true, false_or, or_false, not_true_eq_false, not_false_eq_true, reduceCtorEq, cmp_lt, cmp_gt, cmp_eq, Int32.reduceAdd, Int32.reduceSub, Int32.reduceMul, Int32.reduceLT, Int32.reduceToNatClampNeg, eq_self, ne_eq, Int64.reduceAdd, Int64.reduceSub, Int64.reduceMul, Int64.reduceLT, pt, o0, nI_1]
      refine ih (k + 1) _ _ _ (by omega) (by omega) (by omega) ⟨?_, ?_, fun i hi => ?_⟩ (fun b hb => ?_)
      · rw [pt_n (fun z => hlf z.symm)]; exact hI.1
      · rw [pt_n (fun z => hlf z.symm)]; exact hI.2.1
      · rw [pt_n (fun z => hlf1 z.symm)]; exact hI.2.2 i hi
      · rw [pt_n hb]; exact hJ b hb) c 0 L (by omega)
    rw [show nI 0 = 0 from rfl] at q
    rw [E31_25]
    simp only [E31_26, E31_27, E31_30, E31_31, E31_34, E31_35, E31_36, E31_37, E31_40, E31_41, rfs, rfn, cs0, csi, csl, csr, csn, kti, ktl, ktr, ktn, ktv, ktf, true_and, and_true, and_self, ↓reduceIte, Nat.reduceAdd, Nat.reduceSub, Nat.reduceMul, Nat.reduceLT, Nat.reduceLeDiff, Nat.reduceEqDiff, true_or, or_true, false_or, or_false, not_true_eq_false, not_false_eq_true, reduceCtorEq, cmp_lt, cmp_gt, cmp_eq, Int32.reduceAdd, Int32.reduceSub, Int32.reduceMul, Int32.reduceLT, Int32.reduceToNatClampNeg, eq_self, ne_eq, Int64.reduceAdd, Int64.reduceSub, Int64.reduceMul, Int64.reduceLT, o0, r2, RR, mt.1.2, jk, kk, ak.1, e, fl]
    exact q _
theorem atH {hh : Int32} (v : LvS S R l f g (m + 1) n) (hS : FoS S R f c n) (hI : FoI I f c n w) (hc : c ≤ 5) (hn : n < 2 ^ 24) (hm : m < 100) (hlf : ¬ l = f) (hlf1 : ¬ l = f + 1) (hq : ∀ (k : Nat) (I' : mI) (L' : mL), k ≤ m → (∀ b, ¬ b = l → I' b = I b) → Q (.ref (g + 1 + k)) S I' L' R) : EvM (d + 4) 31 [.ref l, .int hh] S I L R Q := by
  obtain ⟨wd, hw, ew⟩ := clp (k := m) (by omega) hh
  have v' := v
  obtain ⟨⟨o0, r0, r2, r3⟩, mt, lw⟩ := v'
  have A : okA S g := ⟨mt.1.1.1, by rw [mt.1.1.2]; decide⟩
  obtain ⟨k, hk1, hk2, ek⟩ : ∃ k, 1 ≤ k ∧ k < 2 ^ 31 ∧ (if (1 : Int32) < I l 4 then I l 4 else 1) = nI k := by
    by_cases z : (1 : Int32) < I l 4
    · rw [if_pos z]
      have z2 := Int32.lt_iff_toInt_lt.mp z
      rw [show (1 : Int32).toInt = 1 from rfl] at z2
      have z3 := Int32.toInt_lt (I l 4)
      exact ⟨(I l 4).toInt.toNat, by omega, by omega, ti_nI (z := (I l 4).toInt) rfl (by omega) (by omega)⟩
    · rw [if_neg z]
      exact ⟨1, by omega, by omega, rfl⟩
  simp only [M31, E31_0, E31_1, E31_2, E31_5, E31_6, E31_7, E31_8, E31_9, E31_12, E31_15, E31_16, E31_17, E31_18, E31_21, E31_24, E31_26, E31_27, E31_30, E31_31, E31_34, E31_35, E31_36, E31_37, E31_40, E31_41, E31_45, E31_46, E31_49, E31_52, E31_55, E31_56, E31_59, E31_62, E31_63, E31_66, E31_67, E31_70, E31_71, E31_72, E31_73, E31_74, E31_76, E31_77, E31_80, E31_81, E31_84, E31_87, E31_90, E31_91, E31_94, E31_95, E31_98, E31_99, E31_100, E31_101, E31_102, E31_104, E31_105, E31_108, E31_109, E31_112, E31_115, E31_116, E31_119, E31_120, E31_123, E31_124, E31_125, E31_128, E31_131, E31_134, E31_135, E31_136, E31_137, E31_138, E31_141, E31_144, E31_147, E31_148, E31_151, E31_152, E31_153, E31_153n, rfs, rfn, cs0, csi, csl, csr, csn, kti, ktl, ktr, ktn, ktv, ktf, true_and, and_true, and_self, ↓reduceIte, Nat.reduceAdd, Nat.reduceSub, Nat.reduceMul, Nat.reduceLT, Nat.reduceLeDiff, Nat.reduceEqDiff, true_or, or_true, false_or, or_false, not_true_eq_false, not_false_eq_true, reduceCtorEq, cmp_lt, cmp_gt, cmp_eq, Int32.reduceAdd, Int32.reduceSub, Int32.reduceMul, Int32.reduceLT, Int32.reduceToNatClampNeg, eq_self, ne_eq, Int64.reduceAdd, Int64.reduceSub, Int64.reduceMul, Int64.reduceLT, o0, r2, A, mt.1.2, nI_m1, ew, ek]
  by_cases g : wd < k
  · exact atK v hS hc hn hm hlf hlf1 hw (fun I' L' h => hq wd I' L' hw h) 0 k I L _ (Or.inr ⟨rfl, g⟩) hk2 hk1 hI (fun _ _ => rfl)
  · exact atK v hS hc hn hm hlf hlf1 hw (fun I' L' h => hq wd I' L' hw h) (wd + 1 - k) k I L _ (Or.inl (by omega)) hk2 hk1 hI (fun _ _ => rfl)
end LH
