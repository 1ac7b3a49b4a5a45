/-! group B: the reference's next, exactly -/
def RTi (X : mI) (Y T P : Nat → Int32) (n m : Nat) (p : Nat → Nat) (J : mI) (L : mL) (i : Nat) : Prop := J 59 = Y ∧ J 54 7 = nI n ∧ J 54 8 = P i ∧ (∃ e, J 54 9 = nI e ∧ e ≤ n ∧ (i < m → e = tkE X 13 n (p i))) ∧ Tv (T i) (J 54 10) (L 54 11)
theorem RTi.cg {X : mI} {Y T P : Nat → Int32} {n m i : Nat} {p : Nat → Nat} {J K : mI} {L : mL} (h : RTi X Y T P n m p J L i) (e59 : K 59 = J 59) (e : ∀ k, 7 ≤ k → k ≤ 10 → K 54 k = J 54 k) : RTi X Y T P n m p K L i := by
  obtain ⟨h1, h2, h3, ⟨f, h4, h5⟩, h6⟩ := h
  exact ⟨e59.trans h1, (e 7 (by omega) (by omega)).trans h2, (e 8 (by omega) (by omega)).trans h3, ⟨f, (e 9 (by omega) (by omega)).trans h4, h5⟩, by rw [e 10 (by omega) (by omega)]; exact h6⟩
section TO
variable {d n m i f : Nat} {X : mI} {Y T P : Nat → Int32} {p : Nat → Nat} {S : mS} {I I0 : mI} {L : mL} {R : mR} {Q : mQ}
theorem n1E (hS : Pm S) (hR : Pr R) (hn : n ≤ 400) : ∀ (q f : Nat) (I : mI), f + q = n → I 54 7 = nI n → I 54 8 = nI f → I 59 = Y → (∀ J f', f' = bk Y n f → f' ≤ n → J 54 8 = nI f' → Fn I J → Ev (d + 2) 159 46 [.ref 54] [] S J L R Q) → Ev (d + 2) 159 8 [.ref 54] [] S I L R Q := by
  intro q
  induction q with
  | zero =>
    intro f I hf e7 e8 eY h
    obtain rfl : f = n := by omega
    have e1 : (nI f < nI f) = False := eq_false (nI_nlt (by omega) (by omega))
    simp only [E159_8, E159_9, E159_12, E159_13, E159_16, pk54 hS, rfs, rfn, cs0, csi, csl, csr, csn, kti, ktl, ktr, ktn, ktv, ktf, true_and, and_true, and_self, ↓reduceIte, Nat.reduceAdd, Nat.reduceSub, Nat.reduceMul, Nat.reduceLT, Nat.reduceLeDiff, Nat.reduceEqDiff, true_or, or_true, false_or, or_false, not_true_eq_false, not_false_eq_true, reduceCtorEq, cmp_lt, cmp_gt, cmp_eq, Int32.reduceAdd, Int32.reduceSub, Int32.reduceMul, Int32.reduceLT, Int32.reduceToNatClampNeg, eq_self, ne_eq, Int64.reduceAdd, Int64.reduceSub, Int64.reduceMul, Int64.reduceLT, e7, e8, e1]
    exact h I f (bk_n (fun z => absurd z.1 (Nat.lt_irrefl f))).symm (by omega) e8 Fn.rf
  | succ q ih =>
    intro f I hf e7 e8 eY h
    have e1 : (nI f < nI n) = True := eq_true (nI_lt (by omega) (by omega))
    have a0 : inb (nI f) 400 = True := inb_nI (by omega) (by decide)
    have b0 : (nI f).toNatClampNeg = f := nI_clamp (by omega)
    by_cases g : I 59 f = 32
    · have g' : (I 59 f = 32) = True := eq_true g
      rw [E159_8]
      simp only [E159_9, E159_12, E159_13, E159_16, E159_19, E159_20, E159_23, E159_24, E159_27, E159_28, E159_30, E159_33, E159_34, E159_35, E159_38, E159_39, E159_40, E159_43, pk54 hS, pk59 hS, pl59 hS, pa59 hS, pi59 hS, pr54_6 hR, rfs, rfn, cs0, csi, csl, csr, csn, kti, ktl, ktr, ktn, ktv, ktf, true_and, and_true, and_self, ↓reduceIte, Nat.reduceAdd, Nat.reduceSub, Nat.reduceMul, Nat.reduceLT, Nat.reduceLeDiff, Nat.reduceEqDiff, true_or, or_true, false_or, or_false, not_true_eq_false, not_false_eq_true, reduceCtorEq, cmp_lt, cmp_gt, cmp_eq, Int32.reduceAdd, Int32.reduceSub, Int32.reduceMul, Int32.reduceLT, Int32.reduceToNatClampNeg, eq_self, ne_eq, Int64.reduceAdd, Int64.reduceSub, Int64.reduceMul, Int64.reduceLT, e7, e8, e1, a0, b0, g', nI_1, pt]
      refine ih (f + 1) _ (by omega) (by rw [pt_f (by decide)]; exact e7) pt_s (by rw [pt_n (by decide)]; exact eY) (fun J f' h1 h2 h3 h4 => h J f' ?_ h2 h3 (Fn.tr (Fn.p Fn.rf (by decide)) h4))
      exact h1.trans (bk_s (by omega) (by rw [← eY]; exact g)).symm
    · simp only [E159_8, E159_9, E159_12, E159_13, E159_16, E159_19, E159_20, E159_23, E159_24, E159_27, E159_28, E159_30, pk54 hS, pk59 hS, pl59 hS, pa59 hS, pi59 hS, pr54_6 hR, rfs, rfn, cs0, csi, csl, csr, csn, kti, ktl, ktr, ktn, ktv, ktf, true_and, and_true, and_self, ↓reduceIte, Nat.reduceAdd, Nat.reduceSub, Nat.reduceMul, Nat.reduceLT, Nat.reduceLeDiff, Nat.reduceEqDiff, true_or, or_true, false_or, or_false, not_true_eq_false, not_false_eq_true, reduceCtorEq, cmp_lt, cmp_gt, cmp_eq, Int32.reduceAdd, Int32.reduceSub, Int32.reduceMul, Int32.reduceLT, Int32.reduceToNatClampNeg, eq_self, ne_eq, Int64.reduceAdd, Int64.reduceSub, Int64.reduceMul, Int64.reduceLT, e7, e8, e1, a0, b0, g]
      exact h I f (bk_n (fun z => g (by rw [eY]; exact z.2))).symm (by omega) e8 Fn.rf
theorem n2E (hS : Pm S) (hR : Pr R) (hn : n ≤ 400) (hq : ∀ J L' t', f < t' → t' ≤ n → J 54 8 = nI f → J 54 9 = nI t' → J 54 10 = 1 → (∀ k, f ≤ k → k < t' → smB (Y k) = true) → (t' = n ∨ (t' < n ∧ smB (Y t') = false)) → L' 54 11 = wv Y f (t' - f) → Fn I0 J → Q .null S J L' R) : ∀ (q t : Nat) (I : mI) (L : mL), t + q = n → I 54 7 = nI n → I 54 8 = nI f → I 54 9 = nI t → I 54 10 = 1 → I 59 = Y → f ≤ t → (∀ k, f ≤ k → k < t → smB (Y k) = true) → (f < t ∨ (t < n ∧ smB (Y t) = true)) → L 54 11 = wv Y f (t - f) → Fn I0 I → Ev (d + 2) 159 149 [.ref 54] [] S I L R Q := by
  intro q
  induction q with
  | zero =>
    intro t I L ht e7 e8 e9 e10 eY h1 h3 h2 el hF
    obtain rfl : t = n := by omega
    have e1 : (nI t < nI t) = False := eq_false (nI_nlt (by omega) (by omega))
    simp only [E159_149, E159_150, E159_153, E159_154, E159_157, E159_158, E159_161, E159_162, E159_165, E159_243, E159_244, E159_247, E159_248, E159_335, pk54 hS, rfs, rfn, cs0, csi, csl, csr, csn, kti, ktl, ktr, ktn, ktv, ktf, true_and, and_true, and_self, ↓reduceIte, Nat.reduceAdd, Nat.reduceSub, Nat.reduceMul, Nat.reduceLT, Nat.reduceLeDiff, Nat.reduceEqDiff, true_or, or_true, false_or, or_false, not_true_eq_false, not_false_eq_true, reduceCtorEq, cmp_lt, cmp_gt, cmp_eq, Int32.reduceAdd, Int32.reduceSub, Int32.reduceMul, Int32.reduceLT, Int32.reduceToNatClampNeg, eq_self, ne_eq, Int64.reduceAdd, Int64.reduceSub, Int64.reduceMul, Int64.reduceLT, e7, e9, e10, e1, ne1_2]
    exact hq I L t (by omega) (Nat.le_refl t) e8 e9 e10 h3 (Or.inl rfl) el hF
  | succ q ih =>
    intro t I L ht e7 e8 e9 e10 eY h1 h3 h2 el hF
    have e1 : (nI t < nI n) = True := eq_true (nI_lt (by omega) (by omega))
    have a0 : inb (nI t) 400 = True := inb_nI (by omega) (by decide)
    have b0 : (nI t).toNatClampNeg = t := nI_clamp (by omega)
    have e3 : nI t - nI f = nI (t - f) := pk_sub h1
    cases s : smB (I 59 t)
    · have s' : smB (Y t) = false := by rw [← eY]; exact s
      have h4 : f < t := by
        rcases h2 with h2 | ⟨_, h2⟩
        · exact h2
        · rw [s'] at h2; cases h2
      simp only [E159_149, E159_150, E159_153, E159_154, E159_157, E159_158, E159_161, E159_162, E159_165, E159_168, E159_169, E159_172, E159_173, E159_176, E159_177, E159_180, E159_243, E159_244, E159_247, E159_248, E159_335, sml, pk54 hS, pk59 hS, pl59 hS, pa59 hS, pi59 hS, pr54_6 hR, rfs, rfn, cs0, csi, csl, csr, csn, kti, ktl, ktr, ktn, ktv, ktf, true_and, and_true, and_self, ↓reduceIte, Nat.reduceAdd, Nat.reduceSub, Nat.reduceMul, Nat.reduceLT, Nat.reduceLeDiff, Nat.reduceEqDiff, true_or, or_true, false_or, or_false, not_true_eq_false, not_false_eq_true, reduceCtorEq, cmp_lt, cmp_gt, cmp_eq, Int32.reduceAdd, Int32.reduceSub, Int32.reduceMul, Int32.reduceLT, Int32.reduceToNatClampNeg, eq_self, ne_eq, Int64.reduceAdd, Int64.reduceSub, Int64.reduceMul, Int64.reduceLT, e7, e9, e10, e1, ne1_2, a0, b0, s, bI_f]
      exact hq I L t h4 (by omega) e8 e9 e10 h3 (Or.inr ⟨by omega, s'⟩) el hF
    · have s' : smB (Y t) = true := by rw [← eY]; exact s
      have go : ∀ L' : mL, L' 54 11 = wv Y f (t + 1 - f) → Ev (d + 2) 159 149 [.ref 54] [] S (put I 54 9 (nI (t + 1))) L' R Q := fun L' el' => ih (t + 1) _ L' (by omega) (by rw [pt_f (by decide)]; exact e7) (by rw [pt_f (by decide)]; exact e8) pt_s (by rw [pt_f (by decide)]; exact e10) (by rw [pt_n (by decide)]; exact eY) (by omega) (fun k k1 k2 => by
        by_cases z : k = t
        · rw [z]; exact s'
        · exact h3 k k1 (by omega)) (Or.inl (by omega)) el' (Fn.p hF (by decide))
      by_cases g : t - f < 10
      · have e4 : (nI (t - f) < (10 : Int32)) = True := eq_true (nI_lt (a := t - f) (b := 10) g (by decide))
        rw [E159_149]
        simp only [E159_150, E159_153, E159_154, E159_157, E159_158, E159_161, E159_162, E159_165, E159_168, E159_169, E159_172, E159_173, E159_176, E159_177, E159_180, E159_183, E159_184, E159_185, E159_188, E159_189, E159_192, E159_193, E159_195, E159_198, E159_199, E159_202, E159_205, E159_206, E159_207, E159_210, E159_211, E159_214, E159_215, E159_216, E159_217, E159_220, E159_221, E159_224, E159_227, E159_230, E159_231, E159_232, E159_235, E159_236, E159_237, E159_240, sml, pk54 hS, pk59 hS, pl59 hS, pa59 hS, pi59 hS, pr54_6 hR, rfs, rfn, cs0, csi, csl, csr, csn, kti, ktl, ktr, ktn, ktv, ktf, true_and, and_true, and_self, ↓reduceIte, Nat.reduceAdd, Nat.reduceSub, Nat.reduceMul, Nat.reduceLT, Nat.reduceLeDiff, Nat.reduceEqDiff, true_or, or_true, false_or, or_false, not_true_eq_false, not_false_eq_true, reduceCtorEq, cmp_lt, cmp_gt, cmp_eq, Int32.reduceAdd, Int32.reduceSub, Int32.reduceMul, Int32.reduceLT, Int32.reduceToNatClampNeg, eq_self, ne_eq, Int64.reduceAdd, Int64.reduceSub, Int64.reduceMul, Int64.reduceLT, e7, e8, e9, e10, e1, e3, e4, a0, b0, s, bI_t, n1_0, nI_1, pt]
        refine go _ ?_
        have k := wv_s (Y := Y) (f := f) (j := t - f) g (by rw [show f + (t - f) = t by omega]; exact s')
        rw [show f + (t - f) = t by omega, show t - f + 1 = t + 1 - f by omega] at k
        rw [uu_s, uu_s, el, eY]
        exact k
      · have e4 : (nI (t - f) < (10 : Int32)) = False := eq_false (nI_nlt (a := t - f) (b := 10) (by omega) (by omega))
        rw [E159_149]
        simp only [E159_150, E159_153, E159_154, E159_157, E159_158, E159_161, E159_162, E159_165, E159_168, E159_169, E159_172, E159_173, E159_176, E159_177, E159_180, E159_183, E159_184, E159_185, E159_188, E159_189, E159_192, E159_193, E159_195, E159_198, E159_199, E159_202, E159_205, E159_206, E159_207, E159_210, E159_211, E159_214, E159_215, E159_216, E159_217, E159_220, E159_221, E159_224, E159_227, E159_230, E159_231, E159_232, E159_235, E159_236, E159_237, E159_240, sml, pk54 hS, pk59 hS, pl59 hS, pa59 hS, pi59 hS, pr54_6 hR, rfs, rfn, cs0, csi, csl, csr, csn, kti, ktl, ktr, ktn, ktv, ktf, true_and, and_true, and_self, ↓reduceIte, Nat.reduceAdd, Nat.reduceSub, Nat.reduceMul, Nat.reduceLT, Nat.reduceLeDiff, Nat.reduceEqDiff, true_or, or_true, false_or, or_false, not_true_eq_false, not_false_eq_true, reduceCtorEq, cmp_lt, cmp_gt, cmp_eq, Int32.reduceAdd, Int32.reduceSub, Int32.reduceMul, Int32.reduceLT, Int32.reduceToNatClampNeg, eq_self, ne_eq, Int64.reduceAdd, Int64.reduceSub, Int64.reduceMul, Int64.reduceLT, e7, e8, e9, e10, e1, e3, e4, a0, b0, s, bI_t, n1_0, nI_1, pt]
        refine go _ ?_
        rw [uu_s, uu_s, show t + 1 - f = t - f + 1 by omega]
        exact (wv_m g).symm
theorem n3E (hS : Pm S) (hR : Pr R) (hn : n ≤ 400) (hq : ∀ J L' t', f < t' → t' ≤ n → J 54 8 = nI f → J 54 9 = nI t' → J 54 10 = 2 → (∀ k, f ≤ k → k < t' → dgB (Y k) = true) → (t' = n ∨ (t' < n ∧ dgB (Y t') = false)) → L' 54 11 = Int64.ofNat (nvF Y f (t' - f)) → Fn I0 J → Q .null S J L' R) : ∀ (q t : Nat) (I : mI) (L : mL), t + q = n → I 54 7 = nI n → I 54 8 = nI f → I 54 9 = nI t → I 54 10 = 2 → I 59 = Y → f ≤ t → (∀ k, f ≤ k → k < t → dgB (Y k) = true) → (f < t ∨ (t < n ∧ dgB (Y t) = true)) → L 54 11 = Int64.ofNat (nvF Y f (t - f)) → Fn I0 I → Ev (d + 2) 159 243 [.ref 54] [] S I L R Q := by
  intro q
  induction q with
  | zero =>
    intro t I L ht e7 e8 e9 e10 eY h1 h3 h2 el hF
    obtain rfl : t = n := by omega
    have e1 : (nI t < nI t) = False := eq_false (nI_nlt (by omega) (by omega))
    simp only [E159_243, E159_244, E159_247, E159_248, E159_251, E159_252, E159_255, E159_256, E159_259, E159_335, pk54 hS, rfs, rfn, cs0, csi, csl, csr, csn, kti, ktl, ktr, ktn, ktv, ktf, true_and, and_true, and_self, ↓reduceIte, Nat.reduceAdd, Nat.reduceSub, Nat.reduceMul, Nat.reduceLT, Nat.reduceLeDiff, Nat.reduceEqDiff, true_or, or_true, false_or, or_false, not_true_eq_false, not_false_eq_true, reduceCtorEq, cmp_lt, cmp_gt, cmp_eq, Int32.reduceAdd, Int32.reduceSub, Int32.reduceMul, Int32.reduceLT, Int32.reduceToNatClampNeg, eq_self, ne_eq, Int64.reduceAdd, Int64.reduceSub, Int64.reduceMul, Int64.reduceLT, e7, e9, e10, e1]
    exact hq I L t (by omega) (Nat.le_refl t) e8 e9 e10 h3 (Or.inl rfl) el hF
  | succ q ih =>
    intro t I L ht e7 e8 e9 e10 eY h1 h3 h2 el hF
    have e1 : (nI t < nI n) = True := eq_true (nI_lt (by omega) (by omega))
    have a0 : inb (nI t) 400 = True := inb_nI (by omega) (by decide)
    have b0 : (nI t).toNatClampNeg = t := nI_clamp (by omega)
    cases s : dgB (I 59 t)
    · have s' : dgB (Y t) = false := by rw [← eY]; exact s
      have h4 : f < t := by
        rcases h2 with h2 | ⟨_, h2⟩
        · exact h2
        · rw [s'] at h2; cases h2
      simp only [E159_243, E159_244, E159_247, E159_248, E159_251, E159_252, E159_255, E159_256, E159_259, E159_262, E159_263, E159_266, E159_267, E159_270, E159_271, E159_274, E159_335, dgt, pk54 hS, pk59 hS, pl59 hS, pa59 hS, pi59 hS, pr54_6 hR, rfs, rfn, cs0, csi, csl, csr, csn, kti, ktl, ktr, ktn, ktv, ktf, true_and, and_true, and_self, ↓reduceIte, Nat.reduceAdd, Nat.reduceSub, Nat.reduceMul, Nat.reduceLT, Nat.reduceLeDiff, Nat.reduceEqDiff, true_or, or_true, false_or, or_false, not_true_eq_false, not_false_eq_true, reduceCtorEq, cmp_lt, cmp_gt, cmp_eq, Int32.reduceAdd, Int32.reduceSub, Int32.reduceMul, Int32.reduceLT, Int32.reduceToNatClampNeg, eq_self, ne_eq, Int64.reduceAdd, Int64.reduceSub, Int64.reduceMul, Int64.reduceLT, e7, e9, e10, e1, a0, b0, s, bI_f]
      exact hq I L t h4 (by omega) e8 e9 e10 h3 (Or.inr ⟨by omega, s'⟩) el hF
    · have s' : dgB (Y t) = true := by rw [← eY]; exact s
      have dg := dgG s'
      have le := nvF_le (Y := Y) (f := f) (t - f) (fun k k1 k2 => h3 k k1 (by omega))
      have go : ∀ L' : mL, L' 54 11 = Int64.ofNat (nvF Y f (t + 1 - f)) → Ev (d + 2) 159 243 [.ref 54] [] S (put I 54 9 (nI (t + 1))) L' R Q := fun L' el' => ih (t + 1) _ L' (by omega) (by rw [pt_f (by decide)]; exact e7) (by rw [pt_f (by decide)]; exact e8) pt_s (by rw [pt_f (by decide)]; exact e10) (by rw [pt_n (by decide)]; exact eY) (by omega) (fun k k1 k2 => by
        by_cases z : k = t
        · rw [z]; exact s'
        · exact h3 k k1 (by omega)) (Or.inl (by omega)) el' (Fn.p hF (by decide))
      have sv : nvF Y f (t + 1 - f) = if 1000 < nvF Y f (t - f) then nvF Y f (t - f) else nvF Y f (t - f) * 10 + ((Y t).toNatClampNeg - 48) := by
        have k : nvF Y f (t - f + 1) = if 1000 < nvF Y f (t - f) then nvF Y f (t - f) else nvF Y f (t - f) * 10 + ((Y (f + (t - f))).toNatClampNeg - 48) := rfl
        rw [show f + (t - f) = t by omega, show t - f + 1 = t + 1 - f by omega] at k
        exact k
      generalize (Y t).toNatClampNeg - 48 = e at dg sv
      generalize nvF Y f (t - f) = g at el le sv
      by_cases gl : (1000 : Int64) < Int64.ofNat g
      · have gn : 1000 < g := by
          rw [show (1000 : Int64) = Int64.ofNat 1000 from rfl, lgN (by omega) (by decide)] at gl
          exact gl
        rw [if_pos gn] at sv
        rw [E159_243]
        simp only [E159_244, E159_247, E159_248, E159_251, E159_252, E159_255, E159_256, E159_259, E159_262, E159_263, E159_266, E159_267, E159_270, E159_271, E159_274, E159_277, E159_278, E159_279, E159_282, E159_285, E159_286, E159_289, E159_290, E159_293, E159_319, E159_322, E159_323, E159_324, E159_327, E159_328, E159_329, E159_332, dgt, pk54 hS, pk59 hS, pl59 hS, pa59 hS, pi59 hS, pr54_6 hR, rfs, rfn, cs0, csi, csl, csr, csn, kti, ktl, ktr, ktn, ktv, ktf, true_and, and_true, and_self, ↓reduceIte, Nat.reduceAdd, Nat.reduceSub, Nat.reduceMul, Nat.reduceLT, Nat.reduceLeDiff, Nat.reduceEqDiff, true_or, or_true, false_or, or_false, not_true_eq_false, not_false_eq_true, reduceCtorEq, cmp_lt, cmp_gt, cmp_eq, Int32.reduceAdd, Int32.reduceSub, Int32.reduceMul, Int32.reduceLT, Int32.reduceToNatClampNeg, eq_self, ne_eq, Int64.reduceAdd, Int64.reduceSub, Int64.reduceMul, Int64.reduceLT, e7, e9, e10, e1, a0, b0, s, bI_t, n1_0, nI_1, pt, el, gl]
        refine go _ ?_
        rw [uu_s, uu_s, sv]
      · have gn : ¬ 1000 < g := by
          rw [show (1000 : Int64) = Int64.ofNat 1000 from rfl, lgN (by omega) (by decide)] at gl
          exact gl
        rw [if_neg gn] at sv
        have hx : I 59 t = nI (48 + e) := by rw [eY]; exact dg.2
        have s2 : dgB (nI (48 + e)) = true := by rw [← hx]; exact s
        rw [E159_243]
        simp only [E159_244, E159_247, E159_248, E159_251, E159_252, E159_255, E159_256, E159_259, E159_262, E159_263, E159_266, E159_267, E159_270, E159_271, E159_274, E159_277, E159_278, E159_279, E159_282, E159_285, E159_286, E159_296, E159_297, E159_300, E159_303, E159_304, E159_305, E159_308, E159_309, E159_312, E159_313, E159_314, E159_315, E159_318, E159_319, E159_322, E159_323, E159_324, E159_327, E159_328, E159_329, E159_332, dgt, pk54 hS, pk59 hS, pl59 hS, pa59 hS, pi59 hS, pr54_6 hR, rfs, rfn, cs0, csi, csl, csr, csn, kti, ktl, ktr, ktn, ktv, ktf, true_and, and_true, and_self, ↓reduceIte, Nat.reduceAdd, Nat.reduceSub, Nat.reduceMul, Nat.reduceLT, Nat.reduceLeDiff, Nat.reduceEqDiff, true_or, or_true, false_or, or_false, not_true_eq_false, not_false_eq_true, reduceCtorEq, cmp_lt, cmp_gt, cmp_eq, Int32.reduceAdd, Int32.reduceSub, Int32.reduceMul, Int32.reduceLT, Int32.reduceToNatClampNeg, eq_self, ne_eq, Int64.reduceAdd, Int64.reduceSub, Int64.reduceMul, Int64.reduceLT, e7, e9, e10, e1, a0, b0, s, bI_t, n1_0, nI_1, pt, el, gl, hx, s2, dig dg.1]
        refine go _ ?_
        rw [uu_s, uu_s, sv]
/-- next, from a place t -/
theorem nxtE {t : Nat} (hS : Pm S) (hR : Pr R) (hn : n ≤ 400) (hb : Byt X Y n) (ht : t ≤ n) (e7 : I 54 7 = nI n) (e9 : I 54 9 = nI t) (eY : I 59 = Y) (hq : ∀ J L' e c, J 54 8 = nI (bk Y n t) → J 54 9 = nI e → e ≤ n → (bk Y n t < n → e = tkE X 13 n (bk Y n t) ∧ c = tkR X 13 n (bk Y n t)) → (bk Y n t = n → c = -1) → Tv c (J 54 10) (L' 54 11) → Fn I J → Q .null S J L' R) : EvM (d + 2) 159 [.ref 54] S I L R Q := by
  simp only [M159, E159_0, E159_1, E159_2, E159_5, pk54 hS, rfs, rfn, cs0, csi, csl, csr, csn, kti, ktl, ktr, ktn, ktv, ktf, true_and, and_true, and_self, ↓reduceIte, Nat.reduceAdd, Nat.reduceSub, Nat.reduceMul, Nat.reduceLT, Nat.reduceLeDiff, Nat.reduceEqDiff, true_or, or_true, false_or, or_false, not_true_eq_false, not_false_eq_true, reduceCtorEq, cmp_lt, cmp_gt, cmp_eq, Int32.reduceAdd, Int32.reduceSub, Int32.reduceMul, Int32.reduceLT, Int32.reduceToNatClampNeg, eq_self, ne_eq, Int64.reduceAdd, Int64.reduceSub, Int64.reduceMul, Int64.reduceLT, pt, e9]
  refine n1E (d := d) (Y := Y) hS hR hn (n - t) t _ (by omega) (by rw [pt_f (by decide)]; exact e7) pt_s (by rw [pt_n (by decide)]; exact eY) (fun J f f1 f2 j8 fJ => ?_)
  rw [← f1] at hq
  have j7 : J 54 7 = nI n := (fJ.2 7 (by decide)).trans (by rw [pt_f (by decide)]; exact e7)
  have jY : J 59 = Y := (fJ.1 59 (by decide)).trans ((pt_n (by decide)).trans eY)
  have F1 : Fn I J := (Fn.p Fn.rf (by decide)).tr fJ
  by_cases g : f = n
  · subst g
    simp only [E159_46, E159_47, E159_48, E159_51, E159_54, E159_55, E159_56, E159_59, E159_60, E159_61, E159_64, E159_65, E159_68, E159_71, E159_72, E159_114, E159_117, E159_118, E159_121, E159_122, E159_149, E159_150, E159_153, E159_154, E159_243, E159_244, E159_247, E159_248, E159_335, pk54 hS, pk59 hS, pl59 hS, pa59 hS, pi59 hS, pr54_6 hR, rfs, rfn, cs0, csi, csl, csr, csn, kti, ktl, ktr, ktn, ktv, ktf, true_and, and_true, and_self, ↓reduceIte, Nat.reduceAdd, Nat.reduceSub, Nat.reduceMul, Nat.reduceLT, Nat.reduceLeDiff, Nat.reduceEqDiff, true_or, or_true, false_or, or_false, not_true_eq_false, not_false_eq_true, reduceCtorEq, cmp_lt, cmp_gt, cmp_eq, Int32.reduceAdd, Int32.reduceSub, Int32.reduceMul, Int32.reduceLT, Int32.reduceToNatClampNeg, eq_self, ne_eq, Int64.reduceAdd, Int64.reduceSub, Int64.reduceMul, Int64.reduceLT, pt, pt_f, pt_s, j7, j8, ne0_1, ne0_2, ne0_3]
    exact hq _ _ f (-1) (by rw [pt_f (by decide), pt_f (by decide)]; exact j8) (by rw [pt_f (by decide), pt_s]) (Nat.le_refl f) (fun z => absurd z (Nat.lt_irrefl f)) (fun _ => rfl) (Or.inl ⟨pt_s, rfl⟩) (Fn.p (Fn.p F1 (by decide)) (by decide))
  · have g' : (nI f = nI n) = False := eq_false (fun z => g ((nI_eq (by omega) (by omega)).mp z))
    have a0 : inb (nI f) 400 = True := inb_nI (by omega) (by decide)
    have b0 : (nI f).toNatClampNeg = f := nI_clamp (by omega)
    have nn : f < n := by omega
    cases s1 : smB (J 59 f)
    · have s1' : smB (Y f) = false := by rw [← jY]; exact s1
      cases d1 : dgB (J 59 f)
      · have d1' : dgB (Y f) = false := by rw [← jY]; exact d1
        obtain ⟨t1, u, u1, u2, u3⟩ := tk_sg hb nn s1' d1'
        simp only [E159_46, E159_47, E159_48, E159_51, E159_54, E159_55, E159_56, E159_59, E159_60, E159_61, E159_64, E159_65, E159_68, E159_71, E159_72, E159_75, E159_76, E159_79, E159_80, E159_83, E159_84, E159_87, E159_90, E159_91, E159_94, E159_95, E159_98, E159_99, E159_102, E159_103, E159_106, E159_109, E159_110, E159_113, E159_114, E159_117, E159_118, E159_121, E159_122, E159_125, E159_126, E159_127, E159_130, E159_131, E159_134, E159_135, E159_136, E159_139, E159_140, E159_141, E159_144, E159_145, E159_146, E159_149, E159_150, E159_153, E159_154, E159_243, E159_244, E159_247, E159_248, E159_335, sml, dgt, pk54 hS, pk59 hS, pl59 hS, pa59 hS, pi59 hS, pr54_6 hR, rfs, rfn, cs0, csi, csl, csr, csn, kti, ktl, ktr, ktn, ktv, ktf, true_and, and_true, and_self, ↓reduceIte, Nat.reduceAdd, Nat.reduceSub, Nat.reduceMul, Nat.reduceLT, Nat.reduceLeDiff, Nat.reduceEqDiff, true_or, or_true, false_or, or_false, not_true_eq_false, not_false_eq_true, reduceCtorEq, cmp_lt, cmp_gt, cmp_eq, Int32.reduceAdd, Int32.reduceSub, Int32.reduceMul, Int32.reduceLT, Int32.reduceToNatClampNeg, eq_self, ne_eq, Int64.reduceAdd, Int64.reduceSub, Int64.reduceMul, Int64.reduceLT, pt, pt_m, pt_f, pt_s, j7, j8, g', a0, b0, s1, d1, bI_f, nI_1, ne3_1, ne3_2]
        exact hq _ _ (f + 1) (-100 - nI u) (by rw [pt_f (by decide), pt_f (by decide), pt_f (by decide)]; exact j8) pt_s (by omega) (fun _ => ⟨t1.symm, u3.symm⟩) (fun z => absurd z g) (Or.inr (Or.inr (Or.inr ⟨by rw [pt_f (by decide), pt_s], u, u1, by rw [uu_s, uu_s, jY, u2]; exact ni64_m (by omega), rfl⟩))) (Fn.p (Fn.p (Fn.p F1 (by decide)) (by decide)) (by decide))
      · have d1' : dgB (Y f) = true := by rw [← jY]; exact d1
        simp only [E159_46, E159_47, E159_48, E159_51, E159_54, E159_55, E159_56, E159_59, E159_60, E159_61, E159_64, E159_65, E159_68, E159_71, E159_72, E159_75, E159_76, E159_79, E159_80, E159_83, E159_84, E159_87, E159_90, E159_91, E159_94, E159_95, E159_98, E159_99, E159_102, E159_103, E159_106, E159_109, E159_110, E159_114, E159_117, E159_118, E159_121, E159_122, E159_149, E159_150, E159_153, E159_154, sml, dgt, pk54 hS, pk59 hS, pl59 hS, pa59 hS, pi59 hS, pr54_6 hR, rfs, rfn, cs0, csi, csl, csr, csn, kti, ktl, ktr, ktn, ktv, ktf, true_and, and_true, and_self, ↓reduceIte, Nat.reduceAdd, Nat.reduceSub, Nat.reduceMul, Nat.reduceLT, Nat.reduceLeDiff, Nat.reduceEqDiff, true_or, or_true, false_or, or_false, not_true_eq_false, not_false_eq_true, reduceCtorEq, cmp_lt, cmp_gt, cmp_eq, Int32.reduceAdd, Int32.reduceSub, Int32.reduceMul, Int32.reduceLT, Int32.reduceToNatClampNeg, eq_self, ne_eq, Int64.reduceAdd, Int64.reduceSub, Int64.reduceMul, Int64.reduceLT, pt, pt_m, pt_f, pt_s, j7, j8, g', a0, b0, s1, d1, bI_f, bI_t, n1_0, nI_1, ne2_1, ne2_3]
        refine n3E (d := d) (f := f) (Y := Y) hS hR hn (fun K L' t' h1 h2 h3 h4 h5 h6 h7 h8 h9 => ?_) (n - f) f _ _ (by omega) (by rw [pt_f (by decide), pt_f (by decide)]; exact j7) (by rw [pt_f (by decide), pt_f (by decide)]; exact j8) (by rw [pt_f (by decide), pt_s]) pt_s (by rw [pt_n (by decide), pt_n (by decide)]; exact jY) (by omega) (fun k k1 k2 => absurd k2 (by omega)) (Or.inr ⟨nn, d1'⟩) (by rw [uu_s, uu_s, Nat.sub_self]; rfl) (Fn.p (Fn.p F1 (by decide)) (by decide))
        obtain ⟨t1, t2⟩ := tk_nu hb h1 h2 h6 h7
        exact hq K L' t' _ h3 h4 h2 (fun _ => ⟨t1.symm, t2.symm⟩) (fun z => absurd z g) (Or.inr (Or.inr (Or.inl ⟨h5, _, nvF_le (t' - f) (fun k k1 k2 => h6 k k1 (by omega)), h8, rfl⟩))) h9
    · have s1' : smB (Y f) = true := by rw [← jY]; exact s1
      simp only [E159_46, E159_47, E159_48, E159_51, E159_54, E159_55, E159_56, E159_59, E159_60, E159_61, E159_64, E159_65, E159_68, E159_71, E159_72, E159_75, E159_76, E159_79, E159_80, E159_83, E159_84, E159_87, E159_90, E159_91, E159_114, E159_117, E159_118, E159_121, E159_122, sml, pk54 hS, pk59 hS, pl59 hS, pa59 hS, pi59 hS, pr54_6 hR, rfs, rfn, cs0, csi, csl, csr, csn, kti, ktl, ktr, ktn, ktv, ktf, true_and, and_true, and_self, ↓reduceIte, Nat.reduceAdd, Nat.reduceSub, Nat.reduceMul, Nat.reduceLT, Nat.reduceLeDiff, Nat.reduceEqDiff, true_or, or_true, false_or, or_false, not_true_eq_false, not_false_eq_true, reduceCtorEq, cmp_lt, cmp_gt, cmp_eq, Int32.reduceAdd, Int32.reduceSub, Int32.reduceMul, Int32.reduceLT, Int32.reduceToNatClampNeg, eq_self, ne_eq, Int64.reduceAdd, Int64.reduceSub, Int64.reduceMul, Int64.reduceLT, pt, pt_m, pt_f, pt_s, j7, j8, g', a0, b0, s1, bI_t, n1_0, ne1_3]
      refine n2E (d := d) (f := f) (Y := Y) hS hR hn (fun K L' t' h1 h2 h3 h4 h5 h6 h7 h8 h9 => ?_) (n - f) f _ _ (by omega) (by rw [pt_f (by decide), pt_f (by decide)]; exact j7) (by rw [pt_f (by decide), pt_f (by decide)]; exact j8) (by rw [pt_f (by decide), pt_s]) pt_s (by rw [pt_n (by decide), pt_n (by decide)]; exact jY) (by omega) (fun k k1 k2 => absurd k2 (by omega)) (Or.inr ⟨nn, s1'⟩) (by rw [uu_s, uu_s, Nat.sub_self]; rfl) (Fn.p (Fn.p F1 (by decide)) (by decide))
      obtain ⟨t1, t2⟩ := tk_wd hb h1 h2 h6 h7
      exact hq K L' t' _ h3 h4 h2 (fun _ => ⟨t1.symm, t2.symm⟩) (fun z => absurd z g) (Or.inr (Or.inl ⟨h5, by rw [h8]⟩)) h9
theorem Tks.pc (hK : Tks X Y T P n m p) (hi : i ≤ m) : P i = nI (p i) := by
  rcases Nat.lt_or_ge i m with l | l
  · exact (hK.2.2.2.2.2.2.2 i l).2.2.2.1
  · rw [show i = m by omega, hK.2.2.2.2.2.2.1, hK.2.2.2.2.1]
/-- what next finds behind the place t, where token j begins -/
theorem Tks.nx (hK : Tks X Y T P n m p) {j : Nat} (hj : j ≤ m) {t : Nat} (et : bk Y n t = p j) {J K : mI} {L' : mL} {e : Nat} {c : Int32} (e7 : J 54 7 = nI n) (eY : J 59 = Y) (h8 : K 54 8 = nI (bk Y n t)) (h9 : K 54 9 = nI e) (he : e ≤ n) (h1 : bk Y n t < n → e = tkE X 13 n (bk Y n t) ∧ c = tkR X 13 n (bk Y n t)) (h2 : bk Y n t = n → c = -1) (hv : Tv c (K 54 10) (L' 54 11)) (F : Fn J K) : RTi X Y T P n m p K L' j := by
  rw [et] at h8 h1 h2
  refine ⟨(F.1 59 (by decide)).trans eY, (F.2 7 (by decide)).trans e7, h8.trans (hK.pc hj).symm, ⟨e, h9, he, fun l => (h1 (hK.2.2.2.2.2.2.2 j l).1).1⟩, ?_⟩
  have ec : T j = c := by
    rcases Nat.lt_or_ge j m with l | l
    · have a := hK.2.2.2.2.2.2.2 j l
      rw [(h1 a.1).2]
      exact a.2.2.1
    · obtain rfl : j = m := by omega
      rw [h2 hK.2.2.2.2.1]
      exact hK.2.2.2.2.2.1
  rw [ec]
  exact hv
theorem nxT_E (hS : Pm S) (hR : Pr R) (hK : Tks X Y T P n m p) (hi : i < m) (h : RTi X Y T P n m p I L i) (hq : ∀ J L', RTi X Y T P n m p J L' (i + 1) → Fn I J → Q .null S J L' R) : EvM (d + 2) 159 [.ref 54] S I L R Q := by
  obtain ⟨h1, h2, h3, ⟨e, h4, h5, h6⟩, h7⟩ := h
  have a := hK.2.2.2.2.2.2.2 i hi
  refine nxtE (X := X) (t := e) hS hR hK.1 hK.2.2.1 h5 h2 h4 h1 (fun J L' e' c k1 k2 k3 k4 k5 k6 k7 => hq J L' (hK.nx (j := i + 1) hi ?_ h2 h1 k1 k2 k3 k4 k5 k6 k7) k7)
  rw [h6 hi]
  exact a.2.2.2.2.symm
theorem wrE (hS : Pm S) (eb : I 54 13 = 0) (hq : ∀ J, Fm I J → J 54 13 = 1 → J 54 12 = I 54 8 → (∀ k, k ≤ 10 → J 54 k = I 54 k) → Q .null S J L R) : EvM (d + 1) 162 [.ref 54] S I L R Q := by
  simp only [M162, E162_0, E162_1, E162_4, E162_7, E162_8, E162_9, E162_12, E162_13, E162_14, E162_17, E162_20, pk54 hS, rfs, rfn, cs0, csi, csl, csr, csn, kti, ktl, ktr, ktn, ktv, ktf, true_and, and_true, and_self, ↓reduceIte, Nat.reduceAdd, Nat.reduceSub, Nat.reduceMul, Nat.reduceLT, Nat.reduceLeDiff, Nat.reduceEqDiff, true_or, or_true, false_or, or_false, not_true_eq_false, not_false_eq_true, reduceCtorEq, cmp_lt, cmp_gt, cmp_eq, Int32.reduceAdd, Int32.reduceSub, Int32.reduceMul, Int32.reduceLT, Int32.reduceToNatClampNeg, eq_self, ne_eq, Int64.reduceAdd, Int64.reduceSub, Int64.reduceMul, Int64.reduceLT, eb, pt, pt_f]
  refine hq _ (Fm.p (Fm.p Fm.rf (by decide)) (by decide)) (by rw [pt_f (by decide), pt_s]) ?_ (fun k hk => by rw [pt_f (by omega), pt_f (by omega)])
  rw [pt_s]
theorem muE_n (hS : Pm S) (hR : Pr R) (eb : I 54 13 = 0) (hq : ∀ J, Fm I J → J 54 13 = 1 → J 54 12 = I 54 8 → (∀ k, k ≤ 10 → J 54 k = I 54 k) → Q .null S J L R) : EvM (d + 3) 163 [.ref 54, .int 0] S I L R Q := by
  simp only [M163, E163_0, E163_1, E163_4, E163_5, pk54 hS, rfs, rfn, cs0, csi, csl, csr, csn, kti, ktl, ktr, ktn, ktv, ktf, true_and, and_true, and_self, ↓reduceIte, Nat.reduceAdd, Nat.reduceSub, Nat.reduceMul, Nat.reduceLT, Nat.reduceLeDiff, Nat.reduceEqDiff, true_or, or_true, false_or, or_false, not_true_eq_false, not_false_eq_true, reduceCtorEq, cmp_lt, cmp_gt, cmp_eq, Int32.reduceAdd, Int32.reduceSub, Int32.reduceMul, Int32.reduceLT, Int32.reduceToNatClampNeg, eq_self, ne_eq, Int64.reduceAdd, Int64.reduceSub, Int64.reduceMul, Int64.reduceLT]
  refine wrE hS eb (fun J fJ jb jf jk => ?_)
  simp only [E163_5, E163_8, E163_9, E163_12, E163_19, pk54 hS, rfs, rfn, cs0, csi, csl, csr, csn, kti, ktl, ktr, ktn, ktv, ktf, true_and, and_true, and_self, ↓reduceIte, Nat.reduceAdd, Nat.reduceSub, Nat.reduceMul, Nat.reduceLT, Nat.reduceLeDiff, Nat.reduceEqDiff, true_or, or_true, false_or, or_false, not_true_eq_false, not_false_eq_true, reduceCtorEq, cmp_lt, cmp_gt, cmp_eq, Int32.reduceAdd, Int32.reduceSub, Int32.reduceMul, Int32.reduceLT, Int32.reduceToNatClampNeg, eq_self, ne_eq, Int64.reduceAdd, Int64.reduceSub, Int64.reduceMul, Int64.reduceLT, jb, n1_0]
  exact hq J fJ jb jf jk
theorem muE_y (hS : Pm S) (hR : Pr R) (hK : Tks X Y T P n m p) (hi : i < m) (h : RTi X Y T P n m p I L i) (eb : I 54 13 = 0) (hq : ∀ J L', RTi X Y T P n m p J L' (i + 1) → Fn I J → J 54 13 = 0 → Q .null S J L' R) : EvM (d + 3) 163 [.ref 54, .int 1] S I L R Q := by
  simp only [M163, E163_0, E163_1, E163_8, E163_9, E163_12, E163_15, E163_16, pk54 hS, rfs, rfn, cs0, csi, csl, csr, csn, kti, ktl, ktr, ktn, ktv, ktf, true_and, and_true, and_self, ↓reduceIte, Nat.reduceAdd, Nat.reduceSub, Nat.reduceMul, Nat.reduceLT, Nat.reduceLeDiff, Nat.reduceEqDiff, true_or, or_true, false_or, or_false, not_true_eq_false, not_false_eq_true, reduceCtorEq, cmp_lt, cmp_gt, cmp_eq, Int32.reduceAdd, Int32.reduceSub, Int32.reduceMul, Int32.reduceLT, Int32.reduceToNatClampNeg, eq_self, ne_eq, Int64.reduceAdd, Int64.reduceSub, Int64.reduceMul, Int64.reduceLT, n1_0, eb]
  refine nxT_E hS hR hK hi h (fun J L' g1 g2 => ?_)
  simp only [E163_16, E163_19, rfs, rfn, cs0, csi, csl, csr, csn, kti, ktl, ktr, ktn, ktv, ktf, true_and, and_true, and_self, ↓reduceIte, Nat.reduceAdd, Nat.reduceSub, Nat.reduceMul, Nat.reduceLT, Nat.reduceLeDiff, Nat.reduceEqDiff, true_or, or_true, false_or, or_false, not_true_eq_false, not_false_eq_true, reduceCtorEq, cmp_lt, cmp_gt, cmp_eq, Int32.reduceAdd, Int32.reduceSub, Int32.reduceMul, Int32.reduceLT, Int32.reduceToNatClampNeg, eq_self, ne_eq, Int64.reduceAdd, Int64.reduceSub, Int64.reduceMul, Int64.reduceLT]
  exact hq J L' g1 g2 ((g2.2 13 (by decide)).trans eb)
theorem bgE (hS : Pm S) (hR : Pr R) (hK : Tks X Y T P n m p) (e7 : I 54 7 = nI n) (eY : I 59 = Y) (hq : ∀ J L', RTi X Y T P n m p J L' 0 → J 54 13 = 0 → J 54 12 = -1 → Fm I J → Q .null S J L' R) : EvM (d + 3) 158 [.ref 54] S I L R Q := by
  simp only [M158, E158_0, E158_1, E158_2, E158_5, E158_6, E158_7, E158_10, E158_11, E158_12, E158_15, E158_16, pk54 hS, rfs, rfn, cs0, csi, csl, csr, csn, kti, ktl, ktr, ktn, ktv, ktf, true_and, and_true, and_self, ↓reduceIte, Nat.reduceAdd, Nat.reduceSub, Nat.reduceMul, Nat.reduceLT, Nat.reduceLeDiff, Nat.reduceEqDiff, true_or, or_true, false_or, or_false, not_true_eq_false, not_false_eq_true, reduceCtorEq, cmp_lt, cmp_gt, cmp_eq, Int32.reduceAdd, Int32.reduceSub, Int32.reduceMul, Int32.reduceLT, Int32.reduceToNatClampNeg, eq_self, ne_eq, Int64.reduceAdd, Int64.reduceSub, Int64.reduceMul, Int64.reduceLT, pt]
  refine nxtE (X := X) (Y := Y) (n := n) (t := 0) hS hR hK.1 hK.2.2.1 (by omega) (by rw [pt_f (by decide), pt_f (by decide), pt_f (by decide)]; exact e7) (by rw [pt_f (by decide), pt_f (by decide), pt_s]; rfl) (by rw [pt_n (by decide), pt_n (by decide), pt_n (by decide)]; exact eY) (fun J L' e c k1 k2 k3 k4 k5 k6 k7 => ?_)
  simp only [E158_16, E158_19, rfs, rfn, cs0, csi, csl, csr, csn, kti, ktl, ktr, ktn, ktv, ktf, true_and, and_true, and_self, ↓reduceIte, Nat.reduceAdd, Nat.reduceSub, Nat.reduceMul, Nat.reduceLT, Nat.reduceLeDiff, Nat.reduceEqDiff, true_or, or_true, false_or, or_false, not_true_eq_false, not_false_eq_true, reduceCtorEq, cmp_lt, cmp_gt, cmp_eq, Int32.reduceAdd, Int32.reduceSub, Int32.reduceMul, Int32.reduceLT, Int32.reduceToNatClampNeg, eq_self, ne_eq, Int64.reduceAdd, Int64.reduceSub, Int64.reduceMul, Int64.reduceLT]
  refine hq J L' (hK.nx (Nat.zero_le m) hK.2.2.2.1.symm (by rw [pt_f (by decide), pt_f (by decide), pt_f (by decide)]; exact e7) (by rw [pt_n (by decide), pt_n (by decide), pt_n (by decide)]; exact eY) k1 k2 k3 k4 k5 k6 k7) ?_ ?_ (Fm.tr (Fm.p (Fm.p (Fm.p Fm.rf (by decide)) (by decide)) (by decide)) k7.m)
  · rw [k7.2 13 (by decide), pt_f (by decide), pt_s]
  · rw [k7.2 12 (by decide), pt_s]
theorem lt99 : ∀ g, g ≤ 99 → (Int64.ofNat g).toInt32 = nI g := by decide
/-- numbers: Math.min never steps in below 1000 -/
theorem nuE_y {w : Nat} {g : Int64} (hS : Pm S) (hR : Pr R) (hK : Tks X Y T P n m p) (hi : i < m) (h : RTi X Y T P n m p I L i) (eb : I 54 13 = 0) (hg : g = Int64.ofNat w) (hw : w ≤ 99) (h1 : ¬ T i < 0) (h2 : ¬ nI w < T i) (hq : ∀ J L', RTi X Y T P n m p J L' (i + 1) → Fn I J → J 54 13 = 0 → Q (.int (T i)) S J L' R) : EvM (d + 4) 164 [.ref 54, .long g] S I L R Q := by
  obtain ⟨s1, z, z1, z2, z3⟩ : I 54 10 = 2 ∧ ∃ z, z ≤ w ∧ L 54 11 = Int64.ofNat z ∧ T i = nI z := by
    rcases h.2.2.2.2 with ⟨_, c⟩ | ⟨_, c⟩ | ⟨s, z, z1, z2, z3⟩ | ⟨_, u, u1, u2, u3⟩
    · rw [c] at h1; exact absurd (by decide) h1
    · refine absurd ?_ h1
      rw [c]
      rcases wcd_o (L 54 11) with ⟨_, q⟩ | ⟨_, q⟩ | ⟨_, q⟩ | ⟨_, q⟩ | ⟨_, q⟩ | ⟨_, q⟩ | ⟨_, q⟩ | ⟨_, q⟩ | ⟨_, q⟩ | ⟨_, q⟩ | ⟨_, q⟩ | ⟨_, q⟩ | ⟨_, q⟩ | ⟨_, q⟩ | ⟨_, q⟩ | ⟨_, q⟩ | ⟨_, q⟩ | ⟨q, _⟩ <;> (rw [q]; decide)
    · have l : z ≤ w := by
        refine Classical.byContradiction (fun y => h2 ?_)
        rw [z3]
        by_cases y2 : z ≤ 1000
        · rw [if_pos y2]; exact nI_lt (by omega) (by omega)
        · rw [if_neg y2]; exact nI_lt (by omega) (by omega)
      rw [if_pos (by omega)] at z3
      exact ⟨s, z, l, z2, z3⟩
    · refine absurd ?_ h1
      rw [u3, Int32.lt_iff_toInt_lt, sg_t u u1, show (0 : Int32).toInt = 0 from rfl]
      omega
  have s1' : (I 54 10 = 2) = True := eq_true s1
  have e2 : (Int64.ofNat w < L 54 11) = False := eq_false (by rw [z2, lgN (by omega) (by omega)]; omega)
  have e3 : (L 54 11).toInt32 = T i := by
    rw [z2, z3]
    exact lt99 z (by omega)
  subst hg
  simp only [M164, E164_0, E164_1, E164_4, E164_5, E164_6, E164_7, E164_8, E164_11, E164_12, E164_15, E164_16, E164_19, E164_20, E164_21, E164_24, E164_25, E164_28, E164_29, pk54 hS, rfs, rfn, cs0, csi, csl, csr, csn, kti, ktl, ktr, ktn, ktv, ktf, true_and, and_true, and_self, ↓reduceIte, Nat.reduceAdd, Nat.reduceSub, Nat.reduceMul, Nat.reduceLT, Nat.reduceLeDiff, Nat.reduceEqDiff, true_or, or_true, false_or, or_false, not_true_eq_false, not_false_eq_true, reduceCtorEq, cmp_lt, cmp_gt, cmp_eq, Int32.reduceAdd, Int32.reduceSub, Int32.reduceMul, Int32.reduceLT, Int32.reduceToNatClampNeg, eq_self, ne_eq, Int64.reduceAdd, Int64.reduceSub, Int64.reduceMul, Int64.reduceLT, s1', e2, e3]
  refine muE_y hS hR hK hi h eb (fun J L' k1 k2 k3 => ?_)
  simp only [E164_29, E164_32, E164_33, rfs, rfn, cs0, csi, csl, csr, csn, kti, ktl, ktr, ktn, ktv, ktf, true_and, and_true, and_self, ↓reduceIte, Nat.reduceAdd, Nat.reduceSub, Nat.reduceMul, Nat.reduceLT, Nat.reduceLeDiff, Nat.reduceEqDiff, true_or, or_true, false_or, or_false, not_true_eq_false, not_false_eq_true, reduceCtorEq, cmp_lt, cmp_gt, cmp_eq, Int32.reduceAdd, Int32.reduceSub, Int32.reduceMul, Int32.reduceLT, Int32.reduceToNatClampNeg, eq_self, ne_eq, Int64.reduceAdd, Int64.reduceSub, Int64.reduceMul, Int64.reduceLT]
  exact hq J L' k1 k2 k3
theorem nuE_n {w : Nat} {g : Int64} (hS : Pm S) (hR : Pr R) (h : RTi X Y T P n m p I L i) (eb : I 54 13 = 0) (hg : g = Int64.ofNat w) (hw : w ≤ 99) (h1 : T i < 0 ∨ nI w < T i) (hq : ∀ J v, Fm I J → J 54 13 = 1 → J 54 12 = I 54 8 → (∀ k, k ≤ 10 → J 54 k = I 54 k) → Q (.int v) S J L R) : EvM (d + 4) 164 [.ref 54, .long g] S I L R Q := by
  by_cases s1 : I 54 10 = 2
  · have e2 : (Int64.ofNat w < L 54 11) = True := eq_true (by
      rcases h.2.2.2.2 with ⟨s, _⟩ | ⟨s, _⟩ | ⟨_, z, z1, z2, z3⟩ | ⟨s, _⟩
      · exact absurd (s1.symm.trans s) (by decide)
      · exact absurd (s1.symm.trans s) (by decide)
      · rw [z2, lgN (by omega) (by omega)]
        rcases h1 with h1 | h1
        · rw [z3] at h1
          exact absurd h1 (nI_pos (by split <;> omega))
        · refine Classical.byContradiction (fun y => ?_)
          rw [z3, if_pos (show z ≤ 1000 by omega)] at h1
          exact absurd h1 (nI_nlt (by omega) (by omega))
      · exact absurd (s1.symm.trans s) (by decide))
    have s1' : (I 54 10 = 2) = True := eq_true s1
    subst hg
    simp only [M164, E164_0, E164_1, E164_4, E164_5, E164_6, E164_7, E164_8, E164_11, E164_12, E164_15, E164_16, E164_19, E164_20, E164_21, E164_24, E164_25, E164_28, E164_29, pk54 hS, rfs, rfn, cs0, csi, csl, csr, csn, kti, ktl, ktr, ktn, ktv, ktf, true_and, and_true, and_self, ↓reduceIte, Nat.reduceAdd, Nat.reduceSub, Nat.reduceMul, Nat.reduceLT, Nat.reduceLeDiff, Nat.reduceEqDiff, true_or, or_true, false_or, or_false, not_true_eq_false, not_false_eq_true, reduceCtorEq, cmp_lt, cmp_gt, cmp_eq, Int32.reduceAdd, Int32.reduceSub, Int32.reduceMul, Int32.reduceLT, Int32.reduceToNatClampNeg, eq_self, ne_eq, Int64.reduceAdd, Int64.reduceSub, Int64.reduceMul, Int64.reduceLT, s1', e2]
    refine muE_n hS hR eb (fun J k1 k2 k3 k4 => ?_)
    simp only [E164_29, E164_32, E164_33, rfs, rfn, cs0, csi, csl, csr, csn, kti, ktl, ktr, ktn, ktv, ktf, true_and, and_true, and_self, ↓reduceIte, Nat.reduceAdd, Nat.reduceSub, Nat.reduceMul, Nat.reduceLT, Nat.reduceLeDiff, Nat.reduceEqDiff, true_or, or_true, false_or, or_false, not_true_eq_false, not_false_eq_true, reduceCtorEq, cmp_lt, cmp_gt, cmp_eq, Int32.reduceAdd, Int32.reduceSub, Int32.reduceMul, Int32.reduceLT, Int32.reduceToNatClampNeg, eq_self, ne_eq, Int64.reduceAdd, Int64.reduceSub, Int64.reduceMul, Int64.reduceLT]
    exact hq J _ k1 k2 k3 k4
  · simp only [M164, E164_0, E164_1, E164_4, E164_5, E164_6, E164_7, E164_8, E164_11, E164_12, E164_28, E164_29, pk54 hS, rfs, rfn, cs0, csi, csl, csr, csn, kti, ktl, ktr, ktn, ktv, ktf, true_and, and_true, and_self, ↓reduceIte, Nat.reduceAdd, Nat.reduceSub, Nat.reduceMul, Nat.reduceLT, Nat.reduceLeDiff, Nat.reduceEqDiff, true_or, or_true, false_or, or_false, not_true_eq_false, not_false_eq_true, reduceCtorEq, cmp_lt, cmp_gt, cmp_eq, Int32.reduceAdd, Int32.reduceSub, Int32.reduceMul, Int32.reduceLT, Int32.reduceToNatClampNeg, eq_self, ne_eq, Int64.reduceAdd, Int64.reduceSub, Int64.reduceMul, Int64.reduceLT, s1]
    refine muE_n hS hR eb (fun J k1 k2 k3 k4 => ?_)
    simp only [E164_29, E164_32, E164_33, rfs, rfn, cs0, csi, csl, csr, csn, kti, ktl, ktr, ktn, ktv, ktf, true_and, and_true, and_self, ↓reduceIte, Nat.reduceAdd, Nat.reduceSub, Nat.reduceMul, Nat.reduceLT, Nat.reduceLeDiff, Nat.reduceEqDiff, true_or, or_true, false_or, or_false, not_true_eq_false, not_false_eq_true, reduceCtorEq, cmp_lt, cmp_gt, cmp_eq, Int32.reduceAdd, Int32.reduceSub, Int32.reduceMul, Int32.reduceLT, Int32.reduceToNatClampNeg, eq_self, ne_eq, Int64.reduceAdd, Int64.reduceSub, Int64.reduceMul, Int64.reduceLT]
    exact hq J _ k1 k2 k3 k4
end TO
