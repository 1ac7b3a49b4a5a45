/-! the reference's recipe -/
theorem InvM.rec_ {I J : mI} {t w : Nat} (h : InvM I t) (hw : w < 8) (e1 : I 56 1 = nI w) (r1 : J 56 1 = nI (w + 1)) (ro : ∀ m, ¬ m = 1 → m < 60 + 1000 * w → J 56 m = I 56 m) (hT : Txt (fun k => J 56 (60 + 1000 * w + k))) (e7 : J 57 = I 57) (e8 : J 58 = I 58) (e2 : J 72 = I 72) (es : J 77 = I 77) (f1 : J 54 7 = nI 0) (f2 : J 54 45 = I 54 45) (f3 : J 54 56 = I 54 56) (f4 : J 54 60 = I 54 60) : InvM J t := by
  have r0 := ro 0 (by omega) (by omega)
  unfold InvM PlM Stm
  rw [e7, e8, e2, es, f1, f2, f3, f4, r0]
  refine ⟨⟨h.1.1.cg r0, h.1.2.1.cg (ro _ (by omega) (by omega)) (fun k _ _ => ro _ (by omega) (by omega)), h.1.2.2.1.cg (fun k _ _ => ro _ (by omega) (by omega)), h.1.2.2.2.1.cg (ro _ (by omega) (by omega)) (fun k _ _ => ro _ (by omega) (by omega)), ?_⟩, h.2.1, ⟨0, by decide, rfl⟩, h.2.2.2.1, h.2.2.2.2.1, h.2.2.2.2.2⟩
  obtain ⟨n, n1, n2, n3⟩ := h.1.2.2.2.2
  have hn : n = w := (nI_eq (by omega) (by omega)).mp (n2.symm.trans e1)
  subst hn
  refine ⟨n + 1, by omega, r1, fun r hr => ?_⟩
  by_cases q : r = n
  · subst q; exact hT
  · exact (n3 r (by omega)).cg (fun k hk => ro _ (by omega) (by omega))
section RX
variable {d t : Nat} {S : mS} {I : mI} {L : mL} {R : mR} {Q : mQ}
theorem bgn {n : Nat} (hS : Pm S) (hR : Pr R) (hn : n ≤ 400) (e7 : I 54 7 = nI n) (hq : ∀ J L' f, Tk J L' f → J 54 13 = 0 → Fm I J → Q .null S J L' R) : EvM (d + 3) 158 [.ref 54] S I L R Q := by
  simp only [M158, E158_0, E158_1, E158_2, E158_5, E158_6, E158_7, E158_10, E158_11, E158_12, E158_15, E158_16, pk54 hS, rfs, rfn, cs0, csi, csl, csr, csn, kti, ktl, ktr, ktn, ktv, ktf, true_and, and_true, and_self, ↓reduceIte, Nat.reduceAdd, Nat.reduceSub, Nat.reduceMul, Nat.reduceLT, Nat.reduceLeDiff, Nat.reduceEqDiff, true_or, or_true, false_or, or_false, not_true_eq_false, not_false_eq_true, reduceCtorEq, cmp_lt, cmp_gt, cmp_eq, Int32.reduceAdd, Int32.reduceSub, Int32.reduceMul, Int32.reduceLT, Int32.reduceToNatClampNeg, eq_self, ne_eq, Int64.reduceAdd, Int64.reduceSub, Int64.reduceMul, Int64.reduceLT, pt]
  refine nxt (n := n) (t := 0) hS hR hn (by omega) (by rw [pt_f (by decide), pt_f (by decide), pt_f (by decide)]; exact e7) (by rw [pt_f (by decide), pt_f (by decide), pt_s]; rfl) (fun J L' f _ k1 k2 => ?_)
  simp only [E158_16, E158_19, rfs, rfn, cs0, csi, csl, csr, csn, kti, ktl, ktr, ktn, ktv, ktf, true_and, and_true, and_self, ↓reduceIte, Nat.reduceAdd, Nat.reduceSub, Nat.reduceMul, Nat.reduceLT, Nat.reduceLeDiff, Nat.reduceEqDiff, true_or, or_true, false_or, or_false, not_true_eq_false, not_false_eq_true, reduceCtorEq, cmp_lt, cmp_gt, cmp_eq, Int32.reduceAdd, Int32.reduceSub, Int32.reduceMul, Int32.reduceLT, Int32.reduceToNatClampNeg, eq_self, ne_eq, Int64.reduceAdd, Int64.reduceSub, Int64.reduceMul, Int64.reduceLT]
  refine hq J L' f k1 ?_ (Fm.tr (Fm.p (Fm.p (Fm.p Fm.rf (by decide)) (by decide)) (by decide)) k2.m)
  rw [k2.2 13 (by decide), pt_f (by decide), pt_s]
def Rl (I : mI) (L : mL) (f nc ns : Nat) (bad : Bool) : Prop := Tk I L f ∧ I 54 13 = bI bad ∧ I 54 15 = nI nc ∧ nc ≤ f ∧ I 54 22 = nI ns ∧ (bad = false → ns ≤ 16 ∧ ∀ s, s < ns → StV (I 63) (I 60) s nc)
theorem rl_lp {I0 : mI} {y1 y2 : Value} (hS : Pm S) (hR : Pr R) (hq : ∀ J L' f nc ns bad, Rl J L' f nc ns bad → Fy I0 J → Ev (d + 9) 181 78 [.ref 54, y1, y2] [] S J L' R Q) : ∀ (N f nc ns : Nat) (bad : Bool) (I : mI) (L : mL), 400 - f < N → Rl I L f nc ns bad → Fy I0 I → Ev (d + 9) 181 51 [.ref 54, y1, y2] [] S I L R Q := by
  intro N
  induction N with
  | zero => intro f nc ns bad I L h; omega
  | succ N ih =>
    intro f nc ns bad I L hN hr hF
    obtain ⟨hT, e13, e15, hf, e22, hs⟩ := id hr
    cases bad
    · cases g : sgB I L 59
      · simp only [E181_51, E181_52, E181_55, E181_58, E181_59, E181_61, E181_64, isg hS, pk54 hS, rfs, rfn, cs0, csi, csl, csr, csn, kti, ktl, ktr, ktn, ktv, ktf, true_and, and_true, and_self, ↓reduceIte, Nat.reduceAdd, Nat.reduceSub, Nat.reduceMul, Nat.reduceLT, Nat.reduceLeDiff, Nat.reduceEqDiff, true_or, or_true, false_or, or_false, not_true_eq_false, not_false_eq_true, reduceCtorEq, cmp_lt, cmp_gt, cmp_eq, Int32.reduceAdd, Int32.reduceSub, Int32.reduceMul, Int32.reduceLT, Int32.reduceToNatClampNeg, eq_self, ne_eq, Int64.reduceAdd, Int64.reduceSub, Int64.reduceMul, Int64.reduceLT, e13, bI_f, g]
        exact hq I L f nc ns false hr hF
      · simp only [E181_51, E181_52, E181_55, E181_58, E181_59, E181_61, E181_64, E181_67, E181_68, isg hS, pk54 hS, rfs, rfn, cs0, csi, csl, csr, csn, kti, ktl, ktr, ktn, ktv, ktf, true_and, and_true, and_self, ↓reduceIte, Nat.reduceAdd, Nat.reduceSub, Nat.reduceMul, Nat.reduceLT, Nat.reduceLeDiff, Nat.reduceEqDiff, true_or, or_true, false_or, or_false, not_true_eq_false, not_false_eq_true, reduceCtorEq, cmp_lt, cmp_gt, cmp_eq, Int32.reduceAdd, Int32.reduceSub, Int32.reduceMul, Int32.reduceLT, Int32.reduceToNatClampNeg, eq_self, ne_eq, Int64.reduceAdd, Int64.reduceSub, Int64.reduceMul, Int64.reduceLT, e13, bI_f, bI_t, n1_0, g]
        refine nxT hS hR hT (sgB0 g) (fun J L' f' k1 k2 k3 => ?_)
        simp only [E181_68, E181_71, E181_72, pk54 hS, rfs, rfn, cs0, csi, csl, csr, csn, kti, ktl, ktr, ktn, ktv, ktf, true_and, and_true, and_self, ↓reduceIte, Nat.reduceAdd, Nat.reduceSub, Nat.reduceMul, Nat.reduceLT, Nat.reduceLeDiff, Nat.reduceEqDiff, true_or, or_true, false_or, or_false, not_true_eq_false, not_false_eq_true, reduceCtorEq, cmp_lt, cmp_gt, cmp_eq, Int32.reduceAdd, Int32.reduceSub, Int32.reduceMul, Int32.reduceLT, Int32.reduceToNatClampNeg, eq_self, ne_eq, Int64.reduceAdd, Int64.reduceSub, Int64.reduceMul, Int64.reduceLT]
        have f5 := k2.le
        refine rst_m (d := d) hS hR (hs rfl).1 k2 ((k3.2 13 (by decide)).trans e13) ((k3.2 15 (by decide)).trans e15) (by omega) ((k3.2 22 (by decide)).trans e22) (fun s hs' => by rw [k3.1 63 (by decide), k3.1 60 (by decide)]; exact (hs rfl).2 s hs') (fun J2 L2 f2 nc2 ns2 bad2 w1 w2 w3 w4 w5 w6 w7 w8 => ?_)
        have f6 := w1.le
        try simp only [E181_72, E181_75, rfs, rfn, cs0, csi, csl, csr, csn, kti, ktl, ktr, ktn, ktv, ktf, true_and, and_true, and_self, ↓reduceIte, Nat.reduceAdd, Nat.reduceSub, Nat.reduceMul, Nat.reduceLT, Nat.reduceLeDiff, Nat.reduceEqDiff, true_or, or_true, false_or, or_false, not_true_eq_false, not_false_eq_true, reduceCtorEq, cmp_lt, cmp_gt, cmp_eq, Int32.reduceAdd, Int32.reduceSub, Int32.reduceMul, Int32.reduceLT, Int32.reduceToNatClampNeg, eq_self, ne_eq, Int64.reduceAdd, Int64.reduceSub, Int64.reduceMul, Int64.reduceLT]
        exact ih f2 nc2 ns2 bad2 J2 L2 (by omega) ⟨w1, w3, w4, w5, w6, fun z => (w7 z).2⟩ ((hF.tr k3.m.y).tr w8)
    · simp only [E181_51, E181_52, E181_55, pk54 hS, rfs, rfn, cs0, csi, csl, csr, csn, kti, ktl, ktr, ktn, ktv, ktf, true_and, and_true, and_self, ↓reduceIte, Nat.reduceAdd, Nat.reduceSub, Nat.reduceMul, Nat.reduceLT, Nat.reduceLeDiff, Nat.reduceEqDiff, true_or, or_true, false_or, or_false, not_true_eq_false, not_false_eq_true, reduceCtorEq, cmp_lt, cmp_gt, cmp_eq, Int32.reduceAdd, Int32.reduceSub, Int32.reduceMul, Int32.reduceLT, Int32.reduceToNatClampNeg, eq_self, ne_eq, Int64.reduceAdd, Int64.reduceSub, Int64.reduceMul, Int64.reduceLT, e13, bI_t, n1_0]
      exact hq I L f nc ns true hr hF
theorem rc1_lp {w ns : Nat} (hS : Pm S) (hR : Pr R) (hw : w < 8) (hn : ns ≤ 16) : ∀ (q k : Nat) (I : mI), k + q = 10 * ns → I 54 22 = nI ns → (∀ J : mI, (∀ a, ¬ a = 56 → J a = I a) → (∀ m, (m < 60 + 1000 * w + (10 + k) ∨ 60 + 1000 * w + (10 + 10 * ns) ≤ m) → J 56 m = I 56 m) → (∀ j, k ≤ j → j < 10 * ns → J 56 (60 + 1000 * w + (10 + j)) = I 63 j) → Ev (d + 1) 181 175 [.ref 54, .int (nI (60 + 1000 * w)), .int (nI (10 * ns))] [] S J L R Q) → Ev (d + 1) 181 141 [.ref 54, .int (nI (60 + 1000 * w)), .int (nI k)] [] S I L R Q := by
  have m0 : (10 : Int32) * nI ns = nI (10 * ns) := by rw [show (10 : Int32) = nI 10 from rfl, pk_mul]
  intro q
  induction q with
  | zero =>
    intro k I hk e22 h
    obtain rfl : k = 10 * ns := by omega
    have e1 : (nI (10 * ns) < nI (10 * ns)) = False := eq_false (nI_nlt (by omega) (by omega))
    simp only [E181_141, E181_142, E181_144, E181_145, E181_148, E181_149, pk54 hS, rfs, rfn, cs0, csi, csl, csr, csn, kti, ktl, ktr, ktn, ktv, ktf, true_and, and_true, and_self, ↓reduceIte, Nat.reduceAdd, Nat.reduceSub, Nat.reduceMul, Nat.reduceLT, Nat.reduceLeDiff, Nat.reduceEqDiff, true_or, or_true, false_or, or_false, not_true_eq_false, not_false_eq_true, reduceCtorEq, cmp_lt, cmp_gt, cmp_eq, Int32.reduceAdd, Int32.reduceSub, Int32.reduceMul, Int32.reduceLT, Int32.reduceToNatClampNeg, eq_self, ne_eq, Int64.reduceAdd, Int64.reduceSub, Int64.reduceMul, Int64.reduceLT, e22, m0, e1]
    exact h I (fun _ _ => rfl) (fun _ _ => rfl) (fun j h1 h2 => absurd h2 (by omega))
  | succ q ih =>
    intro k I hk e22 h
    have e1 : (nI k < nI (10 * ns)) = True := eq_true (nI_lt (by omega) (by omega))
    have p1 : nI (60 + 1000 * w) + 10 + nI k = nI (60 + 1000 * w + (10 + k)) := by rw [show (10 : Int32) = nI 10 from rfl, nI_add, nI_add, Nat.add_assoc]
    have a1 : inb (nI (60 + 1000 * w + (10 + k))) 8060 = True := inb_nI (by omega) (by decide)
    have b1 : (nI (60 + 1000 * w + (10 + k))).toNatClampNeg = 60 + 1000 * w + (10 + k) := nI_clamp (by omega)
    have a2 : inb (nI k) 160 = True := inb_nI (by omega) (by decide)
    have b2 : (nI k).toNatClampNeg = k := nI_clamp (by omega)
    rw [E181_141]
    simp only [E181_142, E181_144, E181_145, E181_148, E181_149, E181_152, E181_153, E181_156, E181_157, E181_159, E181_160, E181_161, E181_162, E181_163, E181_166, E181_167, E181_168, E181_169, E181_172, pk54 hS, pk56 hS, pl56 hS, pa56 hS, pi56 hS, pk63 hS, pl63 hS, pa63 hS, pi63 hS, pr54_3 hR, pr54_21 hR, rfs, rfn, cs0, csi, csl, csr, csn, kti, ktl, ktr, ktn, ktv, ktf, true_and, and_true, and_self, ↓reduceIte, Nat.reduceAdd, Nat.reduceSub, Nat.reduceMul, Nat.reduceLT, Nat.reduceLeDiff, Nat.reduceEqDiff, true_or, or_true, false_or, or_false, not_true_eq_false, not_false_eq_true, reduceCtorEq, cmp_lt, cmp_gt, cmp_eq, Int32.reduceAdd, Int32.reduceSub, Int32.reduceMul, Int32.reduceLT, Int32.reduceToNatClampNeg, eq_self, ne_eq, Int64.reduceAdd, Int64.reduceSub, Int64.reduceMul, Int64.reduceLT, e22, m0, e1, p1, a1, b1, a2, b2, nI_1, pt]
    refine ih (k + 1) _ (by omega) (by rw [pt_m (by decide)]; exact e22) (fun J h1 h2 h3 => h J (fun a ha => by rw [h1 a ha, pt_n ha]) (fun m hm => ?_) (fun j j1 j2 => ?_))
    · rw [h2 m (by omega), pt_f (by omega)]
    · by_cases g : j = k
      · subst g
        rw [h2 _ (by omega), pt_s]
      · rw [h3 j (by omega) j2, pt_m (by decide)]
theorem rc2_lp {w nc : Nat} (hS : Pm S) (hR : Pr R) (hw : w < 8) (hn : nc ≤ 400) : ∀ (q k : Nat) (I : mI), k + q = nc → I 54 15 = nI nc → (∀ J : mI, (∀ a, ¬ a = 56 → J a = I a) → (∀ m, (m < 60 + 1000 * w + (180 + 2 * k) ∨ 60 + 1000 * w + (180 + 2 * nc) ≤ m) → J 56 m = I 56 m) → (∀ j, k ≤ j → j < nc → J 56 (60 + 1000 * w + (180 + 2 * j)) = I 60 j) → Ev (d + 1) 181 233 [.ref 54, .int (nI (60 + 1000 * w)), .int (nI nc)] [] S J L R Q) → Ev (d + 1) 181 177 [.ref 54, .int (nI (60 + 1000 * w)), .int (nI k)] [] S I L R Q := by
  intro q
  induction q with
  | zero =>
    intro k I hk e15 h
    obtain rfl : k = nc := by omega
    have e1 : (nI k < nI k) = False := eq_false (nI_nlt (by omega) (by omega))
    simp only [E181_177, E181_178, E181_179, E181_182, pk54 hS, rfs, rfn, cs0, csi, csl, csr, csn, kti, ktl, ktr, ktn, ktv, ktf, true_and, and_true, and_self, ↓reduceIte, Nat.reduceAdd, Nat.reduceSub, Nat.reduceMul, Nat.reduceLT, Nat.reduceLeDiff, Nat.reduceEqDiff, true_or, or_true, false_or, or_false, not_true_eq_false, not_false_eq_true, reduceCtorEq, cmp_lt, cmp_gt, cmp_eq, Int32.reduceAdd, Int32.reduceSub, Int32.reduceMul, Int32.reduceLT, Int32.reduceToNatClampNeg, eq_self, ne_eq, Int64.reduceAdd, Int64.reduceSub, Int64.reduceMul, Int64.reduceLT, e15, e1]
    exact h I (fun _ _ => rfl) (fun _ _ => rfl) (fun j h1 h2 => absurd h2 (by omega))
  | succ q ih =>
    intro k I hk e15 h
    have e1 : (nI k < nI nc) = True := eq_true (nI_lt (by omega) (by omega))
    have p1 : nI (60 + 1000 * w) + 180 + 2 * nI k = nI (60 + 1000 * w + (180 + 2 * k)) := by rw [show (180 : Int32) = nI 180 from rfl, show (2 : Int32) = nI 2 from rfl, pk_mul, nI_add, nI_add, Nat.add_assoc]
    have a1 : inb (nI (60 + 1000 * w + (180 + 2 * k))) 8060 = True := inb_nI (by omega) (by decide)
    have b1 : (nI (60 + 1000 * w + (180 + 2 * k))).toNatClampNeg = 60 + 1000 * w + (180 + 2 * k) := nI_clamp (by omega)
    have a3 : inb (nI (60 + 1000 * w + (180 + 2 * k) + 1)) 8060 = True := inb_nI (by omega) (by decide)
    have b3 : (nI (60 + 1000 * w + (180 + 2 * k) + 1)).toNatClampNeg = 60 + 1000 * w + (180 + 2 * k) + 1 := nI_clamp (by omega)
    have a2 : inb (nI k) 400 = True := inb_nI (by omega) (by decide)
    have b2 : (nI k).toNatClampNeg = k := nI_clamp (by omega)
    rw [E181_177]
    simp only [E181_178, E181_179, E181_182, E181_185, E181_186, E181_189, E181_190, E181_193, E181_194, E181_195, E181_196, E181_197, E181_198, E181_199, E181_202, E181_203, E181_204, E181_205, E181_206, E181_209, E181_210, E181_213, E181_214, E181_215, E181_216, E181_217, E181_218, E181_219, E181_220, E181_221, E181_224, E181_225, E181_226, E181_227, E181_230, pk54 hS, pk56 hS, pl56 hS, pa56 hS, pi56 hS, pk60 hS, pl60 hS, pa60 hS, pi60 hS, pk61 hS, pl61 hS, pa61 hS, pi61 hS, pr54_3 hR, pr54_16 hR, pr54_17 hR, rfs, rfn, cs0, csi, csl, csr, csn, kti, ktl, ktr, ktn, ktv, ktf, true_and, and_true, and_self, ↓reduceIte, Nat.reduceAdd, Nat.reduceSub, Nat.reduceMul, Nat.reduceLT, Nat.reduceLeDiff, Nat.reduceEqDiff, true_or, or_true, false_or, or_false, not_true_eq_false, not_false_eq_true, reduceCtorEq, cmp_lt, cmp_gt, cmp_eq, Int32.reduceAdd, Int32.reduceSub, Int32.reduceMul, Int32.reduceLT, Int32.reduceToNatClampNeg, eq_self, ne_eq, Int64.reduceAdd, Int64.reduceSub, Int64.reduceMul, Int64.reduceLT, e15, e1, p1, a1, b1, a2, b2, a3, b3, nI_1, pt, pt_m]
    refine ih (k + 1) _ (by omega) (by rw [pt_m (by decide), pt_m (by decide)]; exact e15) (fun J h1 h2 h3 => h J (fun a ha => by rw [h1 a ha, pt_n ha, pt_n ha]) (fun m hm => ?_) (fun j j1 j2 => ?_))
    · rw [h2 m (by omega), pt_f (by omega), pt_f (by omega)]
    · by_cases g : j = k
      · subst g
        rw [h2 _ (by omega), pt_f (by omega), pt_s]
      · rw [h3 j (by omega) j2, pt_m (by decide), pt_m (by decide)]
theorem m_recipe (hS : Pm S) (hR : Pr R) (h : InvM I t) (hq : ∀ v J L', InvM J t → OutM I J → (J 54 7 = 0 ∧ RlO I J (I 56)) → Q (.int v) S J L' R) : EvM (d + 9) 181 [.ref 54] S I L R Q := by
  obtain ⟨w, w1, e1, hX⟩ := h.1.2.2.2.2
  obtain ⟨n, n1, e7⟩ := h.2.2.1
  have y1 : inb 1 8060 = True := inb_nI (j := 1) (by decide) (by decide)
  by_cases g : w = 8
  · subst g
    have e1' : I 56 1 = 8 := e1
    simp only [M181, E181_0, E181_1, E181_2, E181_5, E181_6, E181_9, E181_10, E181_11, E181_13, E181_16, E181_17, E181_18, E181_21, E181_22, E181_24, E181_27, pk54 hS, pk56 hS, pl56 hS, pa56 hS, pi56 hS, pr54_3 hR, tel5 hS hR, rfs, rfn, cs0, csi, csl, csr, csn, kti, ktl, ktr, ktn, ktv, ktf, true_and, and_true, and_self, ↓reduceIte, Nat.reduceAdd, Nat.reduceSub, Nat.reduceMul, Nat.reduceLT, Nat.reduceLeDiff, Nat.reduceEqDiff, true_or, or_true, false_or, or_false, not_true_eq_false, not_false_eq_true, reduceCtorEq, cmp_lt, cmp_gt, cmp_eq, Int32.reduceAdd, Int32.reduceSub, Int32.reduceMul, Int32.reduceLT, Int32.reduceToNatClampNeg, eq_self, ne_eq, Int64.reduceAdd, Int64.reduceSub, Int64.reduceMul, Int64.reduceLT, pt, pt_m, y1, e1']
    exact hq _ _ _ (InvM.tel (h.tap (m := 0) (by simp (disch := omega) only [pt_n, pt_m, pt_f, pt_s]) (by simp (disch := omega) only [pt_n, pt_m, pt_f, pt_s]) (by simp (disch := omega) only [pt_n, pt_m, pt_f, pt_s]) (by simp (disch := omega) only [pt_n, pt_m, pt_f, pt_s]) (by simp (disch := omega) only [pt_n, pt_m, pt_f, pt_s]) pt_s (by decide) (by simp (disch := omega) only [pt_n, pt_m, pt_f, pt_s]) (by simp (disch := omega) only [pt_n, pt_m, pt_f, pt_s]) (by simp (disch := omega) only [pt_n, pt_m, pt_f, pt_s]))) (by repeat (first | exact OutM.rf | apply telF_o | refine OutM.pt ?_ (by decide) (by decide))) ⟨by rw [telF_f (by decide), pt_s], fun k _ _ => by rw [telF_n (by decide) (by decide), pt_n (by decide), pt_n (by decide)], by rw [telF_n (by decide) (by decide), pt_n (by decide), pt_n (by decide)], by rw [telF_n (by decide) (by decide), pt_n (by decide), pt_n (by decide)], by rw [telF_n (by decide) (by decide), pt_n (by decide), pt_n (by decide)]⟩
  have g' : (nI w = 8) = False := eq_false (fun z => g ((nI_eq (a := w) (b := 8) (by omega) (by decide)).mp z))
  simp only [M181, E181_0, E181_1, E181_2, E181_5, E181_6, E181_9, E181_10, E181_11, E181_13, E181_28, E181_29, pk54 hS, pk56 hS, pl56 hS, pa56 hS, pi56 hS, pr54_3 hR, rfs, rfn, cs0, csi, csl, csr, csn, kti, ktl, ktr, ktn, ktv, ktf, true_and, and_true, and_self, ↓reduceIte, Nat.reduceAdd, Nat.reduceSub, Nat.reduceMul, Nat.reduceLT, Nat.reduceLeDiff, Nat.reduceEqDiff, true_or, or_true, false_or, or_false, not_true_eq_false, not_false_eq_true, reduceCtorEq, cmp_lt, cmp_gt, cmp_eq, Int32.reduceAdd, Int32.reduceSub, Int32.reduceMul, Int32.reduceLT, Int32.reduceToNatClampNeg, eq_self, ne_eq, Int64.reduceAdd, Int64.reduceSub, Int64.reduceMul, Int64.reduceLT, pt, pt_m, y1, e1, g']
  refine bgn hS hR n1 (by rw [pt_f (by decide)]; exact e7) (fun J L' f k1 k2 k3 => ?_)
  simp only [E181_29, E181_32, E181_33, E181_34, E181_37, E181_38, E181_39, E181_42, E181_43, E181_44, E181_47, E181_48, pk54 hS, rfs, rfn, cs0, csi, csl, csr, csn, kti, ktl, ktr, ktn, ktv, ktf, true_and, and_true, and_self, ↓reduceIte, Nat.reduceAdd, Nat.reduceSub, Nat.reduceMul, Nat.reduceLT, Nat.reduceLeDiff, Nat.reduceEqDiff, true_or, or_true, false_or, or_false, not_true_eq_false, not_false_eq_true, reduceCtorEq, cmp_lt, cmp_gt, cmp_eq, Int32.reduceAdd, Int32.reduceSub, Int32.reduceMul, Int32.reduceLT, Int32.reduceToNatClampNeg, eq_self, ne_eq, Int64.reduceAdd, Int64.reduceSub, Int64.reduceMul, Int64.reduceLT, pt]
  have hT0 : Tk (put (put (put J 54 22 0) 54 15 0) 54 14 0) L' f := k1.cg (fun k z1 z2 => by rw [pt_f (by omega), pt_f (by omega), pt_f (by omega)])
  have F0 : Fy (put I 54 0 0) (put (put (put J 54 22 0) 54 15 0) 54 14 0) := Fy.p (Fy.p (Fy.p k3.y (by decide)) (by decide)) (by decide)
  have q13 : put (put (put J 54 22 0) 54 15 0) 54 14 0 54 13 = bI false := by rw [pt_f (by decide), pt_f (by decide), pt_f (by decide)]; exact k2
  have q15 : put (put (put J 54 22 0) 54 15 0) 54 14 0 54 15 = nI 0 := by rw [pt_f (by decide), pt_s]; rfl
  have q22 : put (put (put J 54 22 0) 54 15 0) 54 14 0 54 22 = nI 0 := by rw [pt_f (by decide), pt_f (by decide), pt_s]; rfl
  generalize put (put (put J 54 22 0) 54 15 0) 54 14 0 = K at hT0 F0 q13 q15 q22
  refine rst_m (d := d) hS hR (by decide) hT0 q13 q15 (by omega) q22 (fun s hs => absurd hs (by omega)) (fun J2 L2 f2 nc2 ns2 bad2 w1 w2 w3 w4 w5 w6 w7 w8 => ?_)
  try simp only [E181_48, rfs, rfn, cs0, csi, csl, csr, csn, kti, ktl, ktr, ktn, ktv, ktf, true_and, and_true, and_self, ↓reduceIte, Nat.reduceAdd, Nat.reduceSub, Nat.reduceMul, Nat.reduceLT, Nat.reduceLeDiff, Nat.reduceEqDiff, true_or, or_true, false_or, or_false, not_true_eq_false, not_false_eq_true, reduceCtorEq, cmp_lt, cmp_gt, cmp_eq, Int32.reduceAdd, Int32.reduceSub, Int32.reduceMul, Int32.reduceLT, Int32.reduceToNatClampNeg, eq_self, ne_eq, Int64.reduceAdd, Int64.reduceSub, Int64.reduceMul, Int64.reduceLT]
  refine rl_lp (d := d) (I0 := put I 54 0 0) hS hR (fun J3 L3 f3 nc3 ns3 bad3 r3 F3 => ?_) 401 f2 nc2 ns2 bad2 J2 L2 (by omega) ⟨w1, w3, w4, w5, w6, fun z => (w7 z).2⟩ (F0.tr w8)
  have fin : ∀ (K : mI) (bad : Bool) (y1 y2 : Value), K 54 13 = bI bad → K 54 15 = nI nc3 → K 54 22 = nI ns3 → (bad = false → bad3 = false) → K 60 = J3 60 → K 63 = J3 63 → Fy (put I 54 0 0) K → Ev (d + 9) 181 96 [.ref 54, nv, nv] [] S K L3 R Q := by
    intro K bad z1 z2 e13 e15 e22 hb k60 k63 FK
    have K6 : K 56 = I 56 := by rw [FK.1 56 (by decide) (by decide), pt_n (by decide)]
    have fr : ∀ b, ¬ b = 54 → (b < 60 ∨ 63 < b) → K b = I b := fun b h1 h2 => by rw [FK.1 b h1 h2, pt_n h1]
    have fk : ∀ k, ¬ k = 0 → 22 < k → K 54 k = I 54 k := fun k h1 h2 => by rw [FK.2 k (by omega), pt_f h1]
    cases bad
    · obtain ⟨hT3, _, _, hf3, _, hs3⟩ := r3
      obtain ⟨hn3, hs3⟩ := hs3 (hb rfl)
      have f6 := hT3.le
      have m0 : (60 : Int32) + 1000 * nI w = nI (60 + 1000 * w) := by rw [show (1000 : Int32) = nI 1000 from rfl, show (60 : Int32) = nI 60 from rfl, pk_mul, nI_add]
      have a0 : inb (nI (60 + 1000 * w)) 8060 = True := inb_nI (by omega) (by decide)
      have b0 : (nI (60 + 1000 * w)).toNatClampNeg = 60 + 1000 * w := nI_clamp (by omega)
      simp only [E181_96, E181_97, E181_98, E181_101, E181_102, E181_105, E181_115, E181_117, E181_120, E181_121, E181_124, E181_125, E181_126, E181_127, E181_128, E181_129, E181_130, E181_133, E181_134, E181_135, E181_138, E181_139, E181_140, pk54 hS, pk56 hS, pl56 hS, pa56 hS, pi56 hS, pr54_3 hR, rfs, rfn, cs0, csi, csl, csr, csn, kti, ktl, ktr, ktn, ktv, ktf, true_and, and_true, and_self, ↓reduceIte, Nat.reduceAdd, Nat.reduceSub, Nat.reduceMul, Nat.reduceLT, Nat.reduceLeDiff, Nat.reduceEqDiff, true_or, or_true, false_or, or_false, not_true_eq_false, not_false_eq_true, reduceCtorEq, cmp_lt, cmp_gt, cmp_eq, Int32.reduceAdd, Int32.reduceSub, Int32.reduceMul, Int32.reduceLT, Int32.reduceToNatClampNeg, eq_self, ne_eq, Int64.reduceAdd, Int64.reduceSub, Int64.reduceMul, Int64.reduceLT, pt, pt_m, pt_f, y1, e13, bI_f, K6, e1, e22, m0, a0, b0]
      refine rc1_lp (d := d + 8) hS hR (w := w) (ns := ns3) (by omega) hn3 (10 * ns3) 0 _ (by omega) (by rw [pt_m (by decide), pt_f (by decide)]; exact e22) (fun A p1 p2 p3 => ?_)
      simp only [E181_175, E181_176, rfs, rfn, cs0, csi, csl, csr, csn, kti, ktl, ktr, ktn, ktv, ktf, true_and, and_true, and_self, ↓reduceIte, Nat.reduceAdd, Nat.reduceSub, Nat.reduceMul, Nat.reduceLT, Nat.reduceLeDiff, Nat.reduceEqDiff, true_or, or_true, false_or, or_false, not_true_eq_false, not_false_eq_true, reduceCtorEq, cmp_lt, cmp_gt, cmp_eq, Int32.reduceAdd, Int32.reduceSub, Int32.reduceMul, Int32.reduceLT, Int32.reduceToNatClampNeg, eq_self, ne_eq, Int64.reduceAdd, Int64.reduceSub, Int64.reduceMul, Int64.reduceLT]
      refine rc2_lp (d := d + 8) hS hR (w := w) (nc := nc3) (by omega) (by omega) nc3 0 _ (by omega) (by rw [p1 54 (by decide), pt_m (by decide), pt_f (by decide)]; exact e15) (fun B r1 r2 r4 => ?_)
      have B1 : B 56 1 = nI w := by rw [r2 1 (by omega), p2 1 (by omega), pt_f (by omega), pt_m (by decide), K6]; exact e1
      simp only [E181_233, E181_234, E181_237, E181_238, E181_239, E181_240, E181_241, E181_242, E181_243, E181_244, E181_245, E181_248, E181_249, E181_250, E181_251, E181_252, E181_255, pk54 hS, pk56 hS, pl56 hS, pa56 hS, pi56 hS, pr54_3 hR, telI hS hR (n := w) (by omega), rfs, rfn, cs0, csi, csl, csr, csn, kti, ktl, ktr, ktn, ktv, ktf, true_and, and_true, and_self, ↓reduceIte, Nat.reduceAdd, Nat.reduceSub, Nat.reduceMul, Nat.reduceLT, Nat.reduceLeDiff, Nat.reduceEqDiff, true_or, or_true, false_or, or_false, not_true_eq_false, not_false_eq_true, reduceCtorEq, cmp_lt, cmp_gt, cmp_eq, Int32.reduceAdd, Int32.reduceSub, Int32.reduceMul, Int32.reduceLT, Int32.reduceToNatClampNeg, eq_self, ne_eq, Int64.reduceAdd, Int64.reduceSub, Int64.reduceMul, Int64.reduceLT, pt, pt_s, y1, B1, nI_1, nI_m1]
      have Bo : ∀ a, ¬ a = 56 → ¬ a = 54 → B a = K a := fun a h1 h2 => by rw [r1 a h1, p1 a h1, pt_n h1, pt_n h2]
      have B4 : ∀ k, ¬ k = 7 → B 54 k = K 54 k := fun k hk => by rw [r1 54 (by decide), p1 54 (by decide), pt_m (by decide), pt_f hk]
      refine hq _ _ _ (InvM.tel (h.rec_ (w := w) (by omega) e1 pt_s (fun m h1 h2 => ?_) ?_ ?_ ?_ ?_ ?_ ?_ ?_ ?_ ?_)) (telF_o (OutM.pt (fun a ha => ?_) (by decide) (by decide))) ⟨?_, fun k k1 k2 => ?_, ?_, ?_, ?_⟩
      · rw [pt_f h1, r2 m (by omega), p2 m (by omega), pt_f (by omega), pt_m (by decide), K6]
      · refine ⟨ns3, hn3, ?_, fun s hs => ?_⟩
        · show put B 56 1 (nI (w + 1)) 56 (60 + 1000 * w + 0) = nI ns3
          rw [pt_f (by omega), r2 _ (by omega), p2 _ (by omega), Nat.add_zero, pt_s]
        · obtain ⟨a, b, c, e, g, k1, k2, k3, k4, k5, f1, f2, f3, f4, f5, ⟨n1, o1⟩, ⟨n2, o2⟩, ⟨n3, o3⟩⟩ := hs3 s hs
          have rd : ∀ j, j < 10 → put B 56 1 (nI (w + 1)) 56 (60 + 1000 * w + (10 + (10 * s + j))) = J3 63 (10 * s + j) := fun j hj => by
            rw [pt_f (by omega), r2 _ (by omega), p3 _ (by omega) (by omega), pt_m (by decide), pt_m (by decide), k63]
          have rc : ∀ k, k < nc3 → put B 56 1 (nI (w + 1)) 56 (60 + 1000 * w + (180 + 2 * k)) = J3 60 k := fun k hk => by
            rw [pt_f (by omega), r4 k (by omega) hk, p1 60 (by decide), pt_n (by decide), pt_n (by decide), k60]
          refine ⟨a, b, c, e, g, k1, k2, k3, by omega, k5, ?_, ?_, ?_, ?_, ?_, ⟨n1, o1.cg _ (fun k hk => rc _ (by omega))⟩, ⟨n2, o2.cg _ (fun k hk => rc _ (by omega))⟩, ⟨n3, o3.cg _ (fun k hk => rc _ (by omega))⟩⟩
          · have := rd 1 (by omega); rw [show 10 + (10 * s + 1) = 11 + 10 * s by omega] at this; exact this.trans f1
          · have := rd 2 (by omega); rw [show 10 + (10 * s + 2) = 12 + 10 * s by omega] at this; exact this.trans f2
          · have := rd 3 (by omega); rw [show 10 + (10 * s + 3) = 13 + 10 * s by omega] at this; exact this.trans f3
          · have := rd 4 (by omega); rw [show 10 + (10 * s + 4) = 14 + 10 * s by omega] at this; exact this.trans f4
          · have := rd 7 (by omega); rw [show 10 + (10 * s + 7) = 17 + 10 * s by omega] at this; exact this.trans f5
      · rw [pt_n (by decide), Bo _ (by decide) (by decide)]; exact fr _ (by decide) (by decide)
      · rw [pt_n (by decide), Bo _ (by decide) (by decide)]; exact fr _ (by decide) (by decide)
      · rw [pt_n (by decide), Bo _ (by decide) (by decide)]; exact fr _ (by decide) (by decide)
      · rw [pt_n (by decide), Bo _ (by decide) (by decide)]; exact fr _ (by decide) (by decide)
      · rw [pt_m (by decide), r1 54 (by decide), p1 54 (by decide), pt_m (by decide), pt_s]; rfl
      · rw [pt_m (by decide), B4 _ (by decide)]; exact fk _ (by decide) (by decide)
      · rw [pt_m (by decide), B4 _ (by decide)]; exact fk _ (by decide) (by decide)
      · rw [pt_m (by decide), B4 _ (by decide)]; exact fk _ (by decide) (by decide)
      · rw [Bo _ (by omega) (by omega)]; exact fr _ (by omega) (by omega)
      · rw [telF_f (by decide), pt_m (by decide), r1 54 (by decide), p1 54 (by decide), pt_m (by decide), pt_s]
      · rw [telF_n (by decide) (by decide), pt_f k2, r2 k (by omega), p2 k (by omega), pt_f (by omega), pt_m (by decide), K6]
      · rw [telF_n (by decide) (by decide), pt_n (by decide), Bo _ (by decide) (by decide)]; exact fr _ (by decide) (by decide)
      · rw [telF_n (by decide) (by decide), pt_n (by decide), Bo _ (by decide) (by decide)]; exact fr _ (by decide) (by decide)
      · rw [telF_n (by decide) (by decide), pt_n (by decide), Bo _ (by decide) (by decide)]; exact fr _ (by decide) (by decide)
    · simp only [E181_96, E181_97, E181_98, E181_101, E181_102, E181_105, E181_108, E181_109, E181_111, E181_114, pk54 hS, tel6 hS hR, rfs, rfn, cs0, csi, csl, csr, csn, kti, ktl, ktr, ktn, ktv, ktf, true_and, and_true, and_self, ↓reduceIte, Nat.reduceAdd, Nat.reduceSub, Nat.reduceMul, Nat.reduceLT, Nat.reduceLeDiff, Nat.reduceEqDiff, true_or, or_true, false_or, or_false, not_true_eq_false, not_false_eq_true, reduceCtorEq, cmp_lt, cmp_gt, cmp_eq, Int32.reduceAdd, Int32.reduceSub, Int32.reduceMul, Int32.reduceLT, Int32.reduceToNatClampNeg, eq_self, ne_eq, Int64.reduceAdd, Int64.reduceSub, Int64.reduceMul, Int64.reduceLT, pt, pt_f, e13, bI_t, n1_0]
      refine hq _ _ _ (InvM.tel (h.tap (m := 0) ?_ ?_ ?_ ?_ ?_ pt_s (by decide) ?_ ?_ ?_)) (telF_o (OutM.pt (fun a ha => fr a (by omega) (by omega)) (by decide) (by decide))) ⟨by rw [telF_f (by decide), pt_s], fun k _ _ => by rw [telF_n (by decide) (by decide), pt_n (by decide), K6], by rw [telF_n (by decide) (by decide), pt_n (by decide)]; exact fr _ (by decide) (by decide), by rw [telF_n (by decide) (by decide), pt_n (by decide)]; exact fr _ (by decide) (by decide), by rw [telF_n (by decide) (by decide), pt_n (by decide)]; exact fr _ (by decide) (by decide)⟩
      · rw [pt_n (by decide)]; exact fr _ (by decide) (by decide)
      · rw [pt_n (by decide)]; exact fr _ (by decide) (by decide)
      · rw [pt_n (by decide)]; exact fr _ (by decide) (by decide)
      · rw [pt_n (by decide)]; exact fr _ (by decide) (by decide)
      · rw [pt_n (by decide)]; exact fr _ (by decide) (by decide)
      · rw [pt_f (by decide)]; exact fk _ (by decide) (by decide)
      · rw [pt_f (by decide)]; exact fk _ (by decide) (by decide)
      · rw [pt_f (by decide)]; exact fk _ (by decide) (by decide)
  obtain ⟨hT3, e13, e15, hf3, e22, hs3⟩ := id r3
  cases bad3
  · by_cases g0 : J3 54 10 = 0
    · have g0' : (J3 54 10 = 0) = True := eq_true g0
      simp only [E181_78, E181_79, E181_82, E181_85, E181_86, E181_89, pk54 hS, rfs, rfn, cs0, csi, csl, csr, csn, kti, ktl, ktr, ktn, ktv, ktf, true_and, and_true, and_self, ↓reduceIte, Nat.reduceAdd, Nat.reduceSub, Nat.reduceMul, Nat.reduceLT, Nat.reduceLeDiff, Nat.reduceEqDiff, true_or, or_true, false_or, or_false, not_true_eq_false, not_false_eq_true, reduceCtorEq, cmp_lt, cmp_gt, cmp_eq, Int32.reduceAdd, Int32.reduceSub, Int32.reduceMul, Int32.reduceLT, Int32.reduceToNatClampNeg, eq_self, ne_eq, Int64.reduceAdd, Int64.reduceSub, Int64.reduceMul, Int64.reduceLT, e13, bI_f, g0']
      exact fin J3 false .null .null e13 e15 e22 (fun _ => rfl) rfl rfl F3
    · simp only [E181_78, E181_79, E181_82, E181_85, E181_86, E181_89, E181_92, E181_93, pk54 hS, rfs, rfn, cs0, csi, csl, csr, csn, kti, ktl, ktr, ktn, ktv, ktf, true_and, and_true, and_self, ↓reduceIte, Nat.reduceAdd, Nat.reduceSub, Nat.reduceMul, Nat.reduceLT, Nat.reduceLeDiff, Nat.reduceEqDiff, true_or, or_true, false_or, or_false, not_true_eq_false, not_false_eq_true, reduceCtorEq, cmp_lt, cmp_gt, cmp_eq, Int32.reduceAdd, Int32.reduceSub, Int32.reduceMul, Int32.reduceLT, Int32.reduceToNatClampNeg, eq_self, ne_eq, Int64.reduceAdd, Int64.reduceSub, Int64.reduceMul, Int64.reduceLT, e13, bI_f, g0]
      refine wrg hS e13 (fun Z fZ _ zb => ?_)
      try simp only [E181_93, rfs, rfn, cs0, csi, csl, csr, csn, kti, ktl, ktr, ktn, ktv, ktf, true_and, and_true, and_self, ↓reduceIte, Nat.reduceAdd, Nat.reduceSub, Nat.reduceMul, Nat.reduceLT, Nat.reduceLeDiff, Nat.reduceEqDiff, true_or, or_true, false_or, or_false, not_true_eq_false, not_false_eq_true, reduceCtorEq, cmp_lt, cmp_gt, cmp_eq, Int32.reduceAdd, Int32.reduceSub, Int32.reduceMul, Int32.reduceLT, Int32.reduceToNatClampNeg, eq_self, ne_eq, Int64.reduceAdd, Int64.reduceSub, Int64.reduceMul, Int64.reduceLT]
      exact fin Z true .null .null zb ((fZ.2 15 (by decide)).trans e15) ((fZ.2 22 (by decide)).trans e22) (fun z => by cases z) (fZ.1 60 (by decide)) (fZ.1 63 (by decide)) (F3.tr fZ.y)
  · simp only [E181_78, E181_79, E181_82, pk54 hS, rfs, rfn, cs0, csi, csl, csr, csn, kti, ktl, ktr, ktn, ktv, ktf, true_and, and_true, and_self, ↓reduceIte, Nat.reduceAdd, Nat.reduceSub, Nat.reduceMul, Nat.reduceLT, Nat.reduceLeDiff, Nat.reduceEqDiff, true_or, or_true, false_or, or_false, not_true_eq_false, not_false_eq_true, reduceCtorEq, cmp_lt, cmp_gt, cmp_eq, Int32.reduceAdd, Int32.reduceSub, Int32.reduceMul, Int32.reduceLT, Int32.reduceToNatClampNeg, eq_self, ne_eq, Int64.reduceAdd, Int64.reduceSub, Int64.reduceMul, Int64.reduceLT, e13, bI_t, n1_0]
    exact fin J3 true .null .null e13 e15 e22 (fun z => by cases z) rfl rfl F3
end RX
