/-! the makers of forge, levels and planner -/
def Ext (S S' : mS) : Prop := S.1 ≤ S'.1 ∧ ∀ a, a < S.1 → S'.2.2.1 a = S.2.2.1 a ∧ S'.2.2.2 a = S.2.2.2 a
theorem Ext.rf {S : mS} : Ext S S := ⟨Nat.le_refl _, fun _ _ => ⟨rfl, rfl⟩⟩
theorem Ext.tr {S S' S'' : mS} (h : Ext S S') (h2 : Ext S' S'') : Ext S S'' := ⟨Nat.le_trans h.1 h2.1, fun a ha => ⟨((h2.2 a (Nat.lt_of_lt_of_le ha h.1)).1).trans (h.2 a ha).1, ((h2.2 a (Nat.lt_of_lt_of_le ha h.1)).2).trans (h.2 a ha).2⟩⟩
theorem Ext.ok {S S' : mS} {a k : Nat} (h : Ext S S') (o : ok S a k) : ok S' a k := ⟨Nat.lt_of_lt_of_le o.1 h.1, ((h.2 a o.1).1).trans o.2⟩
theorem Ext.len {S S' : mS} {a n : Nat} (h : Ext S S') (o : a < S.1) (q : S.2.2.2 a = n) : S'.2.2.2 a = n := ((h.2 a o).2).trans q
theorem Ext.lon {S S' : mS} {a n : Nat} (h : Ext S S') (o : lon S a n) : lon S' a n := ⟨h.ok o.1, h.len o.1.1 o.2⟩
theorem Ext.mat {S S' : mS} {R R' : mR} {g c n : Nat} (h : Ext S S') (hR : R' g = R g) (o : mat S R g c n) : mat S' R' g c n := ⟨⟨h.ok o.1.1, h.len o.1.1.1 o.1.2⟩, fun i hi => ⟨by rw [hR]; exact (o.2 i hi).1, h.lon (o.2 i hi).2⟩⟩
theorem Ext.fo {S S' : mS} {R R' : mR} {f c n : Nat} (h : Ext S S') (hR : ∀ a, f ≤ a → a ≤ f + 7 + 3 * c → R' a = R a) (o : FoS S R f c n) : FoS S' R' f c n := by
  obtain ⟨⟨hF, hW, hWl⟩, ⟨r2, r3, r4, r5, r7, r8, r9⟩, ⟨mG, mT, mH⟩, l7, l8, l9⟩ := o
  have e := hR f (by omega) (by omega)
  refine ⟨⟨h.ok hF, h.ok hW, h.len hW.1 hWl⟩, ⟨?_, ?_, ?_, ?_, ?_, ?_, ?_⟩, ⟨h.mat (hR _ (by omega) (by omega)) mG, h.mat (hR _ (by omega) (by omega)) mT, h.mat (hR _ (by omega) (by omega)) mH⟩, h.lon l7, h.lon l8, h.lon l9⟩ <;> (rw [e]; assumption)
/-- levels: object l over forge f, their rows behind g -/
def LvS (S : mS) (R : mR) (l f g m n : Nat) : Prop := (ok S l 2 ∧ R l 0 = some f ∧ R l 2 = some g ∧ R l 3 = some (g + 1 + m)) ∧ mat S R g m n ∧ lon S (g + 1 + m) n
def LvI (I : mI) (l : Nat) (bo kn ro nu bl : Int32) : Prop := I l 1 = bo ∧ I l 4 = kn ∧ I l 5 = ro ∧ I l 6 = nu ∧ I l 7 = bl
theorem Ext.lv {S S' : mS} {R R' : mR} {l f g m n : Nat} (h : Ext S S') (hl : R' l = R l) (hg : R' g = R g) (o : LvS S R l f g m n) : LvS S' R' l f g m n := ⟨⟨h.ok o.1.1, by rw [hl]; exact o.1.2.1, by rw [hl]; exact o.1.2.2.1, by rw [hl]; exact o.1.2.2.2⟩, h.mat hg o.2.1, h.lon o.2.2⟩
theorem ltT {a b : Nat} (h : a < b) : (a < b) = True := eq_true h
section MK
variable {d : Nat} {S : mS} {I : mI} {L : mL} {R : mR} {Q : mQ}
theorem lv_init {l f g m n : Nat} {bo : Int32} (h1 : S.1 = g) (hlg : l < g) (hfg : f < g) (hfl : ¬ f = l) (hl : S.2.2.1 l = 2) (hf : S.2.2.1 f = 0) (hw : I f 1 = nI n) (hm : m ≤ 7) (hm1 : 1 < m) (hn : n < 2 ^ 24) (hb : bo = 0 ∨ bo = 1) (h : ∀ S' I' L' R', (S'.1 = g + 2 + m ∧ S'.2.1 = S.2.1 + (m + m * n) + n) → Ext S S' → LvS S' R' l f g m n → LvI I' l bo 0 (-1) 0 0 → (∀ a, a < g → a ≠ l → I' a = I a ∧ R' a = R a) → (∀ a, a < g → L' a = L a) → Q .null S' I' L' R') : EvM (d + 1) 29 [.ref l, .ref f, .int bo, .int (nI m)] S I L R Q := by
  have m1 : ((1 : Int32) < nI m) = True := eq_true (nI_lt (a := 1) (by omega) (by omega))
  have m2 : (nI m < 0) = False := eq_false (nI_pos (by omega))
  have n2 : (nI n < 0) = False := eq_false (nI_pos (by omega))
  have m3 : (nI m).toNatClampNeg = m := nI_clamp (by omega)
  have n3 : (nI n).toNatClampNeg = n := nI_clamp (by omega)
  have m4 : (m ≤ 67108864) = True := eq_true (by omega)
  have n4 : (n ≤ 67108864) = True := eq_true (by omega)
  have hlg' : (l < g) = True := eq_true hlg
  have hfg' : (f < g) = True := eq_true hfg
  have q1 : (l < g + (1 + m)) = True := eq_true (by omega)
  have q2 : (f < g + (1 + m)) = True := eq_true (by omega)
  have q3 : (l < g + (1 + m) + 1) = True := eq_true (by omega)
  have q4 : (l = g) = False := eq_false (by omega)
  have q5 : (f = g) = False := eq_false (by omega)
  have q6 : (g < l) = False := eq_false (by omega)
  have q7 : (g < f) = False := eq_false (by omega)
  have q8 : (l = g + (1 + m)) = False := eq_false (by omega)
  have q9 : (f = l) = False := eq_false hfl
  simp only [M29, E29_0, E29_1, E29_4, E29_5, E29_6, E29_9, E29_10, E29_11, E29_14, E29_15, E29_16, E29_19, E29_20, E29_21, E29_24, E29_25, E29_25n, E29_26, E29_29, E29_30, E29_31, E29_34, E29_35, E29_36, E29_37, E29_40, E29_40n, E29_41, E29_44, E29_48, E29_51, E29_52, E29_52n, E29_53, E29_56, E29_58, E29_61, rfs, rfn, cs0, csi, csl, csr, csn, kti, ktl, ktr, ktn, ktv, ktf, true_and, and_true, and_self, ↓reduceIte, Nat.reduceAdd, Nat.reduceSub, Nat.reduceMul, Nat.reduceLT, Nat.reduceLeDiff, Nat.reduceEqDiff, true_or, or_true, false_or, or_false, not_true_eq_false, not_false_eq_true, reduceCtorEq, cmp_lt, cmp_gt, cmp_eq, Int32.reduceAdd, Int32.reduceSub, Int32.reduceMul, Int32.reduceLT, Int32.reduceToNatClampNeg, eq_self, ne_eq, Int64.reduceAdd, Int64.reduceSub, Int64.reduceMul, Int64.reduceLT, ok_is, up_is, mlt_is, h1, m1, m2, m3, m4, n2, n3, n4, hlg', hfg', hl, hf, hw, hb, q1, q2, q3, q4, q5, q6, q7, q8, q9, false_and]
  refine h _ _ _ _ ⟨by show g + (1 + m) + 1 = g + 2 + m; omega, rfl⟩ ⟨by show S.1 ≤ g + (1 + m) + 1; omega, fun a ha => ?_⟩ ⟨⟨⟨?_, ?_⟩, ?_, ?_, ?_⟩, ⟨⟨⟨?_, ?_⟩, ?_⟩, fun i hi => ⟨?_, ⟨?_, ?_⟩, ?_⟩⟩, ⟨?_, ?_⟩, ?_⟩ ⟨?_, ?_, ?_, ?_, ?_⟩ (fun a ha hal => ?_) (fun a ha => ?_)
  case refine_1 =>
    rw [h1] at ha
    simp only [up_is, mlt_is]
    rw [if_neg (by omega), if_neg (by omega), if_neg (by omega), if_neg (by omega), if_neg (by omega), if_neg (by omega)]
    exact ⟨rfl, rfl⟩
  all_goals simp only [up_is, mlt_is, rfs, rfn, cs0, csi, csl, csr, csn, kti, ktl, ktr, ktn, ktv, ktf, true_and, and_true, and_self, ↓reduceIte, Nat.reduceAdd, Nat.reduceSub, Nat.reduceMul, Nat.reduceLT, Nat.reduceLeDiff, Nat.reduceEqDiff, true_or, or_true, false_or, or_false, not_true_eq_false, not_false_eq_true, reduceCtorEq, cmp_lt, cmp_gt, cmp_eq, Int32.reduceAdd, Int32.reduceSub, Int32.reduceMul, Int32.reduceLT, Int32.reduceToNatClampNeg, eq_self, ne_eq, Int64.reduceAdd, Int64.reduceSub, Int64.reduceMul, Int64.reduceLT, q1, q2, q3, q4, q5, q6, q7, q8, q9, hl, false_and]
  all_goals first
    | done
    | omega
    | (congr 1; omega)
    | (rw [if_neg (by omega), if_pos rfl]; done)
    | (rw [if_pos (by omega)]; done)
    | (rw [if_neg (by omega), if_neg (by omega), if_pos (by omega)]; done)
    | (rw [if_neg (by omega), if_neg (by omega), if_pos hi]; done)
    | (simp (disch := omega) only [if_pos, if_neg, eq_self, and_self]; done)
    | skip
/-- the weights of a width's CELLS -/
def wt (c i : Nat) : Nat := 9 ^ (c - 1 - i)
theorem wt4 : wOk (wt 4) 4 := by unfold wOk wt; decide
theorem all4 {P : Nat → Prop} : (∀ i, i < 4 → P i) = (P 0 ∧ P 1 ∧ P 2 ∧ P 3) := propext ⟨fun h => ⟨h 0 (by decide), h 1 (by decide), h 2 (by decide), h 3 (by decide)⟩, fun h i hi => by
  match i, hi with
  | 0, _ => exact h.1
  | 1, _ => exact h.2.1
  | 2, _ => exact h.2.2.1
  | 3, _ => exact h.2.2.2⟩
theorem wt40 : nI (wt 4 0) = 729 := by decide
theorem wt41 : nI (wt 4 1) = 81 := by decide
theorem wt42 : nI (wt 4 2) = 9 := by decide
theorem wt43 : nI (wt 4 3) = 1 := by decide
theorem ni103 : nI 103 = 103 := by decide
theorem ne64_0 : ((64 : Int32) = 0) = False := by decide
theorem fq103 : ((6561 : Int32) + 63) / 64 = 103 := by decide
theorem fq103' : (6624 : Int32) / 64 = 103 := by decide
theorem forge4c {S0 : mS} {I0 : mI} {L0 : mL} {R0 : mR} {x2 : Value} (hFS : FoS S R 88 4 103) (hFI : FoI I 88 4 103 (wt 4)) (e1 : S.1 = 108 ∧ S.2.1 = S0.2.1 + 1561) (e2 : Ext S0 S) (e6 : I 88 6 = 0) (e7 : ∀ a, a < 88 → I a = I0 a ∧ L a = L0 a ∧ R a = R0 a) (c2 : x2.category = 1) (h : ∀ S' I' L' R', (S'.1 = 108 ∧ S'.2.1 = S0.2.1 + 1561) → Ext S0 S' → FoS S' R' 88 4 103 → FoI I' 88 4 103 (wt 4) → FoL L' 88 4 103 (wt 4) → I' 88 6 = 0 → (∀ a, a < 88 → I' a = I0 a ∧ L' a = L0 a ∧ R' a = R0 a) → Q .null S' I' L' R') : Ev (d + 3) 0 154 [.ref 88, .int 4, x2, .int (nI 0)] [] S I L R Q := by
  refine fg_lp (f := 88) (c := 4) (n := 103) (w := wt 4) (d := d) hFS hFI wt4 (by decide) (by decide) c2 4 0 _ rfl (fun L' g1 g2 g3 => h _ _ _ _ e1 e2 hFS hFI (fun i hi k hk => g3 i (by omega) hi k hk) e6 (fun a ha => ⟨(e7 a ha).1, ?_, (e7 a ha).2.2⟩))
  rw [g1 a (by omega)]
  exact (e7 a ha).2.1
theorem forge4 (h1 : S.1 = 89) (hk : S.2.2.1 88 = 0) (h : ∀ S' I' L' R', (S'.1 = 108 ∧ S'.2.1 = S.2.1 + 1561) → Ext S S' → FoS S' R' 88 4 103 → FoI I' 88 4 103 (wt 4) → FoL L' 88 4 103 (wt 4) → I' 88 6 = 0 → (∀ a, a < 88 → I' a = I a ∧ L' a = L a ∧ R' a = R a) → Q .null S' I' L' R') : EvM (d + 3) 0 [.ref 88, .int 4] S I L R Q := by
  simp (maxSteps := 2000000) only [M0, E0_0, E0_1, E0_4, E0_5, E0_6, E0_9, E0_10, E0_11, E0_12, E0_13, E0_16, E0_19, E0_22, E0_23, E0_24, E0_27, E0_29, E0_32, E0_33, E0_34, E0_35, E0_38, E0_39, E0_40, E0_41, E0_42, E0_45, E0_46, E0_49, E0_50, E0_51, E0_52, E0_53, E0_55, E0_56, E0_57, E0_60, E0_63, E0_64, E0_65, E0_67, E0_68, E0_70, E0_71, E0_74, E0_75, E0_76, E0_79, E0_80, E0_83, E0_87, E0_90, E0_91, E0_92, E0_95, E0_96, E0_99, E0_103, E0_106, E0_107, E0_108, E0_111, E0_112, E0_115, E0_119, E0_122, E0_123, E0_124, E0_127, E0_129, E0_132, E0_133, E0_134, E0_137, E0_139, E0_142, E0_143, E0_144, E0_147, E0_149, E0_152, E0_153, E0_155, E0_156, E0_159, E0_162, E0_163, E0_164, E0_167, E0_168, E0_171, E0_172, E0_173, E0_176, E0_177, E0_178, E0_181, E0_182, E0_185, E0_186, E0_187, E0_190, E0_193, E0_196, rfs, rfn, cs0, csi, csl, csr, csn, kti, ktl, ktr, ktn, ktv, ktf, true_and, and_true, and_self, ↓reduceIte, Nat.reduceAdd, Nat.reduceSub, Nat.reduceMul, Nat.reduceLT, Nat.reduceLeDiff, Nat.reduceEqDiff, true_or, or_true, false_or, or_false, not_true_eq_false, not_false_eq_true, reduceCtorEq, cmp_lt, cmp_gt, cmp_eq, Int32.reduceAdd, Int32.reduceSub, Int32.reduceMul, Int32.reduceLT, Int32.reduceToNatClampNeg, eq_self, ne_eq, Int64.reduceAdd, Int64.reduceSub, Int64.reduceMul, Int64.reduceLT, ni2, ni3, ni4, ni5, ni6, ni7, ni8, ni12, ni14, ni16, ni17, ni60, ni64, ni160, ni400, ni401, ni416, ni8060, ni16120, ni59049, nn1, nn2, nn3, nn4, nn5, nn6, nem1_1022, ne1022_m1, nem1_20, ne20_m1, ne1022_0, nem1_m1000, nem1000_m1, cn2, cn4, cn6, cn8, cn14, cnm, nem2_m1, nem2_0, nem2_1, nem2_2, nem2_3, nem2_4, nem2_5, nem2_6, nem2_7, nem2_8, nem2_9, nem1_m2, nem1_0, nem1_1, nem1_2, nem1_3, nem1_4, nem1_5, nem1_6, nem1_7, nem1_8, nem1_9, ne0_m2, ne0_m1, ne0_1, ne0_2, ne0_3, ne0_4, ne0_5, ne0_6, ne0_7, ne0_8, ne0_9, ne1_m2, ne1_m1, ne1_0, ne1_2, ne1_3, ne1_4, ne1_5, ne1_6, ne1_7, ne1_8, ne1_9, ne2_m2, ne2_m1, ne2_0, ne2_1, ne2_3, ne2_4, ne2_5, ne2_6, ne2_7, ne2_8, ne2_9, ne3_m2, ne3_m1, ne3_0, ne3_1, ne3_2, ne3_4, ne3_5, ne3_6, ne3_7, ne3_8, ne3_9, ne4_m2, ne4_m1, ne4_0, ne4_1, ne4_2, ne4_3, ne4_5, ne4_6, ne4_7, ne4_8, ne4_9, ne5_m2, ne5_m1, ne5_0, ne5_1, ne5_2, ne5_3, ne5_4, ne5_6, ne5_7, ne5_8, ne5_9, ne6_m2, ne6_m1, ne6_0, ne6_1, ne6_2, ne6_3, ne6_4, ne6_5, ne6_7, ne6_8, ne6_9, ne7_m2, ne7_m1, ne7_0, ne7_1, ne7_2, ne7_3, ne7_4, ne7_5, ne7_6, ne7_8, ne7_9, ne8_m2, ne8_m1, ne8_0, ne8_1, ne8_2, ne8_3, ne8_4, ne8_5, ne8_6, ne8_7, ne8_9, ne9_m2, ne9_m1, ne9_0, ne9_1, ne9_2, ne9_3, ne9_4, ne9_5, ne9_6, ne9_7, ne9_8, ok_is, okI_is, okA_is, okR_is, inb_is, up_is, mlt_is, h1, hk, fq103, fq103', ne64_0]
  refine forge4c (x2 := .int 6561) (S0 := S) (I0 := I) (L0 := L) (R0 := R) ?_ ?_ ⟨?_, ?_⟩ ⟨?_, fun a ha => ?_⟩ ?_ (fun a ha => ?_) rfl h
  case refine_1 => simp (maxSteps := 2000000) only [FoS, mat, lon, all4, rfs, rfn, cs0, csi, csl, csr, csn, kti, ktl, ktr, ktn, ktv, ktf, true_and, and_true, and_self, ↓reduceIte, Nat.reduceAdd, Nat.reduceSub, Nat.reduceMul, Nat.reduceLT, Nat.reduceLeDiff, Nat.reduceEqDiff, true_or, or_true, false_or, or_false, not_true_eq_false, not_false_eq_true, reduceCtorEq, cmp_lt, cmp_gt, cmp_eq, Int32.reduceAdd, Int32.reduceSub, Int32.reduceMul, Int32.reduceLT, Int32.reduceToNatClampNeg, eq_self, ne_eq, Int64.reduceAdd, Int64.reduceSub, Int64.reduceMul, Int64.reduceLT, ok_is, up_is, mlt_is, h1, hk]
  case refine_2 => simp (maxSteps := 2000000) only [FoI, all4, rfs, rfn, cs0, csi, csl, csr, csn, kti, ktl, ktr, ktn, ktv, ktf, true_and, and_true, and_self, ↓reduceIte, Nat.reduceAdd, Nat.reduceSub, Nat.reduceMul, Nat.reduceLT, Nat.reduceLeDiff, Nat.reduceEqDiff, true_or, or_true, false_or, or_false, not_true_eq_false, not_false_eq_true, reduceCtorEq, cmp_lt, cmp_gt, cmp_eq, Int32.reduceAdd, Int32.reduceSub, Int32.reduceMul, Int32.reduceLT, Int32.reduceToNatClampNeg, eq_self, ne_eq, Int64.reduceAdd, Int64.reduceSub, Int64.reduceMul, Int64.reduceLT, ni2, ni3, ni4, ni5, ni6, ni7, ni8, ni12, ni14, ni16, ni17, ni60, ni64, ni160, ni400, ni401, ni416, ni8060, ni16120, ni59049, nn1, nn2, nn3, nn4, nn5, nn6, nem1_1022, ne1022_m1, nem1_20, ne20_m1, ne1022_0, nem1_m1000, nem1000_m1, cn2, cn4, cn6, cn8, cn14, cnm, nem2_m1, nem2_0, nem2_1, nem2_2, nem2_3, nem2_4, nem2_5, nem2_6, nem2_7, nem2_8, nem2_9, nem1_m2, nem1_0, nem1_1, nem1_2, nem1_3, nem1_4, nem1_5, nem1_6, nem1_7, nem1_8, nem1_9, ne0_m2, ne0_m1, ne0_1, ne0_2, ne0_3, ne0_4, ne0_5, ne0_6, ne0_7, ne0_8, ne0_9, ne1_m2, ne1_m1, ne1_0, ne1_2, ne1_3, ne1_4, ne1_5, ne1_6, ne1_7, ne1_8, ne1_9, ne2_m2, ne2_m1, ne2_0, ne2_1, ne2_3, ne2_4, ne2_5, ne2_6, ne2_7, ne2_8, ne2_9, ne3_m2, ne3_m1, ne3_0, ne3_1, ne3_2, ne3_4, ne3_5, ne3_6, ne3_7, ne3_8, ne3_9, ne4_m2, ne4_m1, ne4_0, ne4_1, ne4_2, ne4_3, ne4_5, ne4_6, ne4_7, ne4_8, ne4_9, ne5_m2, ne5_m1, ne5_0, ne5_1, ne5_2, ne5_3, ne5_4, ne5_6, ne5_7, ne5_8, ne5_9, ne6_m2, ne6_m1, ne6_0, ne6_1, ne6_2, ne6_3, ne6_4, ne6_5, ne6_7, ne6_8, ne6_9, ne7_m2, ne7_m1, ne7_0, ne7_1, ne7_2, ne7_3, ne7_4, ne7_5, ne7_6, ne7_8, ne7_9, ne8_m2, ne8_m1, ne8_0, ne8_1, ne8_2, ne8_3, ne8_4, ne8_5, ne8_6, ne8_7, ne8_9, ne9_m2, ne9_m1, ne9_0, ne9_1, ne9_2, ne9_3, ne9_4, ne9_5, ne9_6, ne9_7, ne9_8, up_is, mlt_is, wt40, wt41, wt42, wt43, ni103]
  case refine_3 => rfl
  case refine_4 => simp only [Nat.add_assoc, Nat.reduceAdd, Nat.reduceMul]
  case refine_5 => simp only [h1, Nat.reduceLeDiff]
  case refine_6 =>
    rw [h1] at ha
    simp (disch := omega) only [up_is, mlt_is, if_neg, and_self]
  case refine_7 => simp only [up_is, mlt_is, rfs, rfn, cs0, csi, csl, csr, csn, kti, ktl, ktr, ktn, ktv, ktf, true_and, and_true, and_self, ↓reduceIte, Nat.reduceAdd, Nat.reduceSub, Nat.reduceMul, Nat.reduceLT, Nat.reduceLeDiff, Nat.reduceEqDiff, true_or, or_true, false_or, or_false, not_true_eq_false, not_false_eq_true, reduceCtorEq, cmp_lt, cmp_gt, cmp_eq, Int32.reduceAdd, Int32.reduceSub, Int32.reduceMul, Int32.reduceLT, Int32.reduceToNatClampNeg, eq_self, ne_eq, Int64.reduceAdd, Int64.reduceSub, Int64.reduceMul, Int64.reduceLT]
  case refine_8 =>
    have n1 : ∀ b, 88 ≤ b → ¬ a = b := fun b hb => by omega
    have n2 : ∀ b c : Nat, 88 ≤ b → ¬ (b < a ∧ a < c) := fun b c hb => by omega
    refine ⟨?_, ?_, ?_⟩ <;> simp (maxSteps := 4000000) only [up_is, mlt_is, n1 88 (by decide), n1 89 (by decide), n1 90 (by decide), n1 95 (by decide), n1 100 (by decide), n1 105 (by decide), n1 106 (by decide), n1 107 (by decide), n2 90 _ (by decide), n2 95 _ (by decide), n2 100 _ (by decide), rfs, rfn, cs0, csi, csl, csr, csn, kti, ktl, ktr, ktn, ktv, ktf, true_and, and_true, and_self, ↓reduceIte, Nat.reduceAdd, Nat.reduceSub, Nat.reduceMul, Nat.reduceLT, Nat.reduceLeDiff, Nat.reduceEqDiff, true_or, or_true, false_or, or_false, not_true_eq_false, not_false_eq_true, reduceCtorEq, cmp_lt, cmp_gt, cmp_eq, Int32.reduceAdd, Int32.reduceSub, Int32.reduceMul, Int32.reduceLT, Int32.reduceToNatClampNeg, eq_self, ne_eq, Int64.reduceAdd, Int64.reduceSub, Int64.reduceMul, Int64.reduceLT]
end MK
