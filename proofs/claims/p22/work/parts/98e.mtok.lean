/-! the reference's reader: tokens -/
def smB (c : Int32) : Bool := decide (¬ c < 97 ∧ ¬ 122 < c)
def dgB (c : Int32) : Bool := decide (¬ c < 48 ∧ ¬ 57 < c)
def Fn (I J : mI) : Prop := (∀ a, ¬ a = 54 → J a = I a) ∧ ∀ k, (k < 8 ∨ 10 < k) → J 54 k = I 54 k
theorem Fn.rf {I : mI} : Fn I I := ⟨fun _ _ => rfl, fun _ _ => rfl⟩
theorem Fn.tr {I J K : mI} (h : Fn I J) (h2 : Fn J K) : Fn I K := ⟨fun a h1 => (h2.1 a h1).trans (h.1 a h1), fun k h1 => (h2.2 k h1).trans (h.2 k h1)⟩
theorem Fn.p {I J : mI} {k : Nat} {x : Int32} (h : Fn I J) (hk : 8 ≤ k ∧ k ≤ 10) : Fn I (put J 54 k x) := ⟨fun a h1 => by rw [pt_n h1]; exact h.1 a h1, fun j hj => by rw [pt_f (by omega)]; exact h.2 j hj⟩
def Fm (I J : mI) : Prop := (∀ a, ¬ a = 54 → J a = I a) ∧ ∀ k, (k < 8 ∨ 13 < k) → J 54 k = I 54 k
theorem Fm.rf {I : mI} : Fm I I := ⟨fun _ _ => rfl, fun _ _ => rfl⟩
theorem Fm.tr {I J K : mI} (h : Fm I J) (h2 : Fm J K) : Fm I K := ⟨fun a h1 => (h2.1 a h1).trans (h.1 a h1), fun k h1 => (h2.2 k h1).trans (h.2 k h1)⟩
theorem Fn.m {I J : mI} (h : Fn I J) : Fm I J := ⟨h.1, fun k hk => h.2 k (by omega)⟩
theorem Fm.p {I J : mI} {k : Nat} {x : Int32} (h : Fm I J) (hk : 8 ≤ k ∧ k ≤ 13) : Fm I (put J 54 k x) := ⟨fun a h1 => by rw [pt_n h1]; exact h.1 a h1, fun j hj => by rw [pt_f (by omega)]; exact h.2 j hj⟩
/-- the token that stands: it begins at f -/
def Tk (I : mI) (L : mL) (f : Nat) : Prop := ∃ t n s, I 54 7 = nI n ∧ n ≤ 400 ∧ I 54 8 = nI f ∧ I 54 9 = nI t ∧ I 54 10 = nI s ∧ f ≤ t ∧ t ≤ n ∧ s ≤ 3 ∧ (s = 0 ∨ f < t) ∧ (s = 2 → ∃ g, g ≤ 20000 ∧ L 54 11 = Int64.ofNat g)
theorem Tk.cg {I J : mI} {L : mL} {f : Nat} (h : Tk I L f) (e : ∀ k, 7 ≤ k → k ≤ 10 → J 54 k = I 54 k) : Tk J L f := by
  obtain ⟨t, n, s, h1, h2, h3, h4, h5, h6⟩ := h
  exact ⟨t, n, s, (e 7 (by omega) (by omega)).trans h1, h2, (e 8 (by omega) (by omega)).trans h3, (e 9 (by omega) (by omega)).trans h4, (e 10 (by omega) (by omega)).trans h5, h6⟩
theorem Tk.le {I : mI} {L : mL} {f : Nat} (h : Tk I L f) : f ≤ 400 := by
  obtain ⟨t, n, s, h1, h2, h3, h4, h5, h6, h7, h8⟩ := h
  omega
theorem ni64_m {m : Nat} (h : m < 2 ^ 31) : (nI m).toInt64 = Int64.ofNat m := Int64.toInt_inj.mp (by rw [Int32.toInt_toInt64, nI_toInt h, Int64.toInt_ofNat_of_lt (by omega)])
theorem dig {g e : Nat} (he : e ≤ 9) : Int64.ofNat g * 10 + (nI (48 + e)).toInt64 - 48 = Int64.ofNat (g * 10 + e) := by
  rw [ni64_m (by omega), show (10 : Int64) = Int64.ofNat 10 from rfl, ← Int64.ofNat_mul, Nat.add_comm 48 e, Int64.ofNat_add, ← Int64.add_assoc, show (48 : Int64) = Int64.ofNat 48 from rfl, Int64.add_sub_cancel, ← Int64.ofNat_add]
theorem dgI {x : Int32} (h : dgB x = true) : ∃ e, e ≤ 9 ∧ x = nI (48 + e) := by
  unfold dgB at h
  rw [decide_eq_true_iff, Int32.lt_iff_toInt_lt, Int32.lt_iff_toInt_lt, show (48 : Int32).toInt = 48 from rfl, show (57 : Int32).toInt = 57 from rfl] at h
  refine ⟨x.toInt.toNat - 48, by omega, ti_nI (z := x.toInt) rfl (by omega) (by omega)⟩
theorem lgN {g m : Nat} (hg : g < 2 ^ 31) (hm : m < 2 ^ 31) : (Int64.ofNat m < Int64.ofNat g) = (m < g) := by
  rw [Int64.lt_iff_toInt_lt, Int64.toInt_ofNat_of_lt (by omega), Int64.toInt_ofNat_of_lt (by omega)]
  exact propext ⟨fun h => by omega, fun h => by omega⟩
section TO
variable {d n f : Nat} {S : mS} {I I0 : mI} {L : mL} {R : mR} {Q : mQ}
theorem sml {c : Int32} : EvM (d + 1) 156 [.int c] S I L R Q = Q (.int (bI (smB c))) S I L R := by
  have e : smB c = decide (¬ c < 97 ∧ ¬ 122 < c) := rfl
  rw [e]
  by_cases h1 : c < 97 <;> by_cases h2 : 122 < c <;> simp only [M156, E156_0, E156_1, E156_3, E156_6, E156_7, E156_9, E156_12, E156_13, E156_16, E156_17, rfs, rfn, cs0, csi, csl, csr, csn, kti, ktl, ktr, ktn, ktv, ktf, true_and, and_true, and_self, ↓reduceIte, Nat.reduceAdd, Nat.reduceSub, Nat.reduceMul, Nat.reduceLT, Nat.reduceLeDiff, Nat.reduceEqDiff, true_or, or_true, false_or, or_false, not_true_eq_false, not_false_eq_true, reduceCtorEq, cmp_lt, cmp_gt, cmp_eq, Int32.reduceAdd, Int32.reduceSub, Int32.reduceMul, Int32.reduceLT, Int32.reduceToNatClampNeg, eq_self, ne_eq, Int64.reduceAdd, Int64.reduceSub, Int64.reduceMul, Int64.reduceLT, h1, h2, decide_true, decide_false, bI_t, bI_f, and_false, false_and]
theorem dgt {c : Int32} : EvM (d + 1) 157 [.int c] S I L R Q = Q (.int (bI (dgB c))) S I L R := by
  have e : dgB c = decide (¬ c < 48 ∧ ¬ 57 < c) := rfl
  rw [e]
  by_cases h1 : c < 48 <;> by_cases h2 : 57 < c <;> simp only [M157, E157_0, E157_1, E157_3, E157_6, E157_7, E157_9, E157_12, E157_13, E157_16, E157_17, rfs, rfn, cs0, csi, csl, csr, csn, kti, ktl, ktr, ktn, ktv, ktf, true_and, and_true, and_self, ↓reduceIte, Nat.reduceAdd, Nat.reduceSub, Nat.reduceMul, Nat.reduceLT, Nat.reduceLeDiff, Nat.reduceEqDiff, true_or, or_true, false_or, or_false, not_true_eq_false, not_false_eq_true, reduceCtorEq, cmp_lt, cmp_gt, cmp_eq, Int32.reduceAdd, Int32.reduceSub, Int32.reduceMul, Int32.reduceLT, Int32.reduceToNatClampNeg, eq_self, ne_eq, Int64.reduceAdd, Int64.reduceSub, Int64.reduceMul, Int64.reduceLT, h1, h2, decide_true, decide_false, bI_t, bI_f, and_false, false_and]
theorem n1_lp (hS : Pm S) (hR : Pr R) (hn : n ≤ 400) : ∀ (q f : Nat) (I : mI), f + q = n → I 54 7 = nI n → I 54 8 = nI f → (∀ J f', f ≤ f' → f' ≤ n → J 54 8 = nI f' → Fn I J → Ev (d + 2) 159 46 [.ref 54] [] S J L R Q) → Ev (d + 2) 159 8 [.ref 54] [] S I L R Q := by
  intro q
  induction q with
  | zero =>
    intro f I hf e7 e8 h
    obtain rfl : f = n := by omega
    have e1 : (nI f < nI f) = False := eq_false (nI_nlt (by omega) (by omega))
    simp only [E159_8, E159_9, E159_12, E159_13, E159_16, pk54 hS, rfs, rfn, cs0, csi, csl, csr, csn, kti, ktl, ktr, ktn, ktv, ktf, true_and, and_true, and_self, ↓reduceIte, Nat.reduceAdd, Nat.reduceSub, Nat.reduceMul, Nat.reduceLT, Nat.reduceLeDiff, Nat.reduceEqDiff, true_or, or_true, false_or, or_false, not_true_eq_false, not_false_eq_true, reduceCtorEq, cmp_lt, cmp_gt, cmp_eq, Int32.reduceAdd, Int32.reduceSub, Int32.reduceMul, Int32.reduceLT, Int32.reduceToNatClampNeg, eq_self, ne_eq, Int64.reduceAdd, Int64.reduceSub, Int64.reduceMul, Int64.reduceLT, e7, e8, e1]
    exact h I f (by omega) (by omega) e8 Fn.rf
  | succ q ih =>
    intro f I hf e7 e8 h
    have e1 : (nI f < nI n) = True := eq_true (nI_lt (by omega) (by omega))
    have a0 : inb (nI f) 400 = True := inb_nI (by omega) (by decide)
    have b0 : (nI f).toNatClampNeg = f := nI_clamp (by omega)
    by_cases g : I 59 f = 32
    · have g' : (I 59 f = 32) = True := eq_true g
      rw [E159_8]
      simp only [E159_9, E159_12, E159_13, E159_16, E159_19, E159_20, E159_23, E159_24, E159_27, E159_28, E159_30, E159_33, E159_34, E159_35, E159_38, E159_39, E159_40, E159_43, pk54 hS, pk59 hS, pl59 hS, pa59 hS, pi59 hS, pr54_6 hR, rfs, rfn, cs0, csi, csl, csr, csn, kti, ktl, ktr, ktn, ktv, ktf, true_and, and_true, and_self, ↓reduceIte, Nat.reduceAdd, Nat.reduceSub, Nat.reduceMul, Nat.reduceLT, Nat.reduceLeDiff, Nat.reduceEqDiff, true_or, or_true, false_or, or_false, not_true_eq_false, not_false_eq_true, reduceCtorEq, cmp_lt, cmp_gt, cmp_eq, Int32.reduceAdd, Int32.reduceSub, Int32.reduceMul, Int32.reduceLT, Int32.reduceToNatClampNeg, eq_self, ne_eq, Int64.reduceAdd, Int64.reduceSub, Int64.reduceMul, Int64.reduceLT, e7, e8, e1, a0, b0, g', nI_1, pt]
      exact ih (f + 1) _ (by omega) (by rw [pt_f (by decide)]; exact e7) pt_s (fun J f' h1 h2 h3 h4 => h J f' (by omega) h2 h3 (Fn.tr (Fn.p Fn.rf (by decide)) h4))
    · simp only [E159_8, E159_9, E159_12, E159_13, E159_16, E159_19, E159_20, E159_23, E159_24, E159_27, E159_28, E159_30, pk54 hS, pk59 hS, pl59 hS, pa59 hS, pi59 hS, pr54_6 hR, rfs, rfn, cs0, csi, csl, csr, csn, kti, ktl, ktr, ktn, ktv, ktf, true_and, and_true, and_self, ↓reduceIte, Nat.reduceAdd, Nat.reduceSub, Nat.reduceMul, Nat.reduceLT, Nat.reduceLeDiff, Nat.reduceEqDiff, true_or, or_true, false_or, or_false, not_true_eq_false, not_false_eq_true, reduceCtorEq, cmp_lt, cmp_gt, cmp_eq, Int32.reduceAdd, Int32.reduceSub, Int32.reduceMul, Int32.reduceLT, Int32.reduceToNatClampNeg, eq_self, ne_eq, Int64.reduceAdd, Int64.reduceSub, Int64.reduceMul, Int64.reduceLT, e7, e8, e1, a0, b0, g]
      exact h I f (by omega) (by omega) e8 Fn.rf
theorem n2_lp (hS : Pm S) (hR : Pr R) (hn : n ≤ 400) (hq : ∀ J L', Tk J L' f → Fn I0 J → Q .null S J L' R) : ∀ (q t : Nat) (I : mI) (L : mL), t + q = n → I 54 7 = nI n → I 54 8 = nI f → I 54 9 = nI t → I 54 10 = 1 → f ≤ t → (f < t ∨ (t < n ∧ smB (I 59 t) = true)) → Fn I0 I → Ev (d + 2) 159 149 [.ref 54] [] S I L R Q := by
  intro q
  induction q with
  | zero =>
    intro t I L ht e7 e8 e9 e10 h1 h2 hF
    obtain rfl : t = n := by omega
    have e1 : (nI t < nI t) = False := eq_false (nI_nlt (by omega) (by omega))
    simp only [E159_149, E159_150, E159_153, E159_154, E159_157, E159_158, E159_161, E159_162, E159_165, E159_243, E159_244, E159_247, E159_248, E159_335, pk54 hS, rfs, rfn, cs0, csi, csl, csr, csn, kti, ktl, ktr, ktn, ktv, ktf, true_and, and_true, and_self, ↓reduceIte, Nat.reduceAdd, Nat.reduceSub, Nat.reduceMul, Nat.reduceLT, Nat.reduceLeDiff, Nat.reduceEqDiff, true_or, or_true, false_or, or_false, not_true_eq_false, not_false_eq_true, reduceCtorEq, cmp_lt, cmp_gt, cmp_eq, Int32.reduceAdd, Int32.reduceSub, Int32.reduceMul, Int32.reduceLT, Int32.reduceToNatClampNeg, eq_self, ne_eq, Int64.reduceAdd, Int64.reduceSub, Int64.reduceMul, Int64.reduceLT, e7, e9, e10, e1, ne1_2]
    exact hq I L ⟨t, t, 1, e7, hn, e8, e9, e10, h1, by omega, by decide, Or.inr (by omega), fun h => absurd h (by decide)⟩ hF
  | succ q ih =>
    intro t I L ht e7 e8 e9 e10 h1 h2 hF
    have e1 : (nI t < nI n) = True := eq_true (nI_lt (by omega) (by omega))
    have a0 : inb (nI t) 400 = True := inb_nI (by omega) (by decide)
    have b0 : (nI t).toNatClampNeg = t := nI_clamp (by omega)
    cases s : smB (I 59 t)
    · have h3 : f < t := by
        rcases h2 with h2 | ⟨_, h2⟩
        · exact h2
        · rw [s] at h2; cases h2
      simp only [E159_149, E159_150, E159_153, E159_154, E159_157, E159_158, E159_161, E159_162, E159_165, E159_168, E159_169, E159_172, E159_173, E159_176, E159_177, E159_180, E159_243, E159_244, E159_247, E159_248, E159_335, sml, pk54 hS, pk59 hS, pl59 hS, pa59 hS, pi59 hS, pr54_6 hR, rfs, rfn, cs0, csi, csl, csr, csn, kti, ktl, ktr, ktn, ktv, ktf, true_and, and_true, and_self, ↓reduceIte, Nat.reduceAdd, Nat.reduceSub, Nat.reduceMul, Nat.reduceLT, Nat.reduceLeDiff, Nat.reduceEqDiff, true_or, or_true, false_or, or_false, not_true_eq_false, not_false_eq_true, reduceCtorEq, cmp_lt, cmp_gt, cmp_eq, Int32.reduceAdd, Int32.reduceSub, Int32.reduceMul, Int32.reduceLT, Int32.reduceToNatClampNeg, eq_self, ne_eq, Int64.reduceAdd, Int64.reduceSub, Int64.reduceMul, Int64.reduceLT, e7, e9, e10, e1, ne1_2, a0, b0, s, bI_f]
      exact hq I L ⟨t, n, 1, e7, hn, e8, e9, e10, h1, by omega, by decide, Or.inr h3, fun h => absurd h (by decide)⟩ hF
    · rw [E159_149]
      simp only [E159_150, E159_153, E159_154, E159_157, E159_158, E159_161, E159_162, E159_165, E159_168, E159_169, E159_172, E159_173, E159_176, E159_177, E159_180, E159_183, E159_184, E159_185, E159_188, E159_189, E159_192, E159_193, E159_195, E159_198, E159_199, E159_202, E159_205, E159_206, E159_207, E159_210, E159_211, E159_214, E159_215, E159_216, E159_217, E159_220, E159_221, E159_224, E159_227, E159_230, E159_231, E159_232, E159_235, E159_236, E159_237, E159_240, sml, pk54 hS, pk59 hS, pl59 hS, pa59 hS, pi59 hS, pr54_6 hR, rfs, rfn, cs0, csi, csl, csr, csn, kti, ktl, ktr, ktn, ktv, ktf, true_and, and_true, and_self, ↓reduceIte, Nat.reduceAdd, Nat.reduceSub, Nat.reduceMul, Nat.reduceLT, Nat.reduceLeDiff, Nat.reduceEqDiff, true_or, or_true, false_or, or_false, not_true_eq_false, not_false_eq_true, reduceCtorEq, cmp_lt, cmp_gt, cmp_eq, Int32.reduceAdd, Int32.reduceSub, Int32.reduceMul, Int32.reduceLT, Int32.reduceToNatClampNeg, eq_self, ne_eq, Int64.reduceAdd, Int64.reduceSub, Int64.reduceMul, Int64.reduceLT, e7, e9, e10, e1, a0, b0, s, bI_t, n1_0, nI_1, pt]
      apply iteB
      all_goals exact ih (t + 1) _ _ (by omega) (by rw [pt_f (by decide)]; exact e7) (by rw [pt_f (by decide)]; exact e8) pt_s (by rw [pt_f (by decide)]; exact e10) (by omega) (Or.inl (by omega)) (Fn.p hF (by decide))
theorem n3_lp (hS : Pm S) (hR : Pr R) (hn : n ≤ 400) (hq : ∀ J L', Tk J L' f → Fn I0 J → Q .null S J L' R) : ∀ (q t g : Nat) (I : mI) (L : mL), t + q = n → I 54 7 = nI n → I 54 8 = nI f → I 54 9 = nI t → I 54 10 = 2 → f ≤ t → (f < t ∨ (t < n ∧ dgB (I 59 t) = true)) → g ≤ 20000 → L 54 11 = Int64.ofNat g → Fn I0 I → Ev (d + 2) 159 243 [.ref 54] [] S I L R Q := by
  intro q
  induction q with
  | zero =>
    intro t g I L ht e7 e8 e9 e10 h1 h2 hg el hF
    obtain rfl : t = n := by omega
    have e1 : (nI t < nI t) = False := eq_false (nI_nlt (by omega) (by omega))
    simp only [E159_243, E159_244, E159_247, E159_248, E159_251, E159_252, E159_255, E159_256, E159_259, E159_335, pk54 hS, rfs, rfn, cs0, csi, csl, csr, csn, kti, ktl, ktr, ktn, ktv, ktf, true_and, and_true, and_self, ↓reduceIte, Nat.reduceAdd, Nat.reduceSub, Nat.reduceMul, Nat.reduceLT, Nat.reduceLeDiff, Nat.reduceEqDiff, true_or, or_true, false_or, or_false, not_true_eq_false, not_false_eq_true, reduceCtorEq, cmp_lt, cmp_gt, cmp_eq, Int32.reduceAdd, Int32.reduceSub, Int32.reduceMul, Int32.reduceLT, Int32.reduceToNatClampNeg, eq_self, ne_eq, Int64.reduceAdd, Int64.reduceSub, Int64.reduceMul, Int64.reduceLT, e7, e9, e10, e1]
    exact hq I L ⟨t, t, 2, e7, hn, e8, e9, e10, h1, by omega, by decide, Or.inr (by omega), fun _ => ⟨g, hg, el⟩⟩ hF
  | succ q ih =>
    intro t g I L ht e7 e8 e9 e10 h1 h2 hg el hF
    have e1 : (nI t < nI n) = True := eq_true (nI_lt (by omega) (by omega))
    have a0 : inb (nI t) 400 = True := inb_nI (by omega) (by decide)
    have b0 : (nI t).toNatClampNeg = t := nI_clamp (by omega)
    cases s : dgB (I 59 t)
    · have h3 : f < t := by
        rcases h2 with h2 | ⟨_, h2⟩
        · exact h2
        · rw [s] at h2; cases h2
      simp only [E159_243, E159_244, E159_247, E159_248, E159_251, E159_252, E159_255, E159_256, E159_259, E159_262, E159_263, E159_266, E159_267, E159_270, E159_271, E159_274, E159_335, dgt, pk54 hS, pk59 hS, pl59 hS, pa59 hS, pi59 hS, pr54_6 hR, rfs, rfn, cs0, csi, csl, csr, csn, kti, ktl, ktr, ktn, ktv, ktf, true_and, and_true, and_self, ↓reduceIte, Nat.reduceAdd, Nat.reduceSub, Nat.reduceMul, Nat.reduceLT, Nat.reduceLeDiff, Nat.reduceEqDiff, true_or, or_true, false_or, or_false, not_true_eq_false, not_false_eq_true, reduceCtorEq, cmp_lt, cmp_gt, cmp_eq, Int32.reduceAdd, Int32.reduceSub, Int32.reduceMul, Int32.reduceLT, Int32.reduceToNatClampNeg, eq_self, ne_eq, Int64.reduceAdd, Int64.reduceSub, Int64.reduceMul, Int64.reduceLT, e7, e9, e10, e1, a0, b0, s, bI_f]
      exact hq I L ⟨t, n, 2, e7, hn, e8, e9, e10, h1, by omega, by decide, Or.inr h3, fun _ => ⟨g, hg, el⟩⟩ hF
    · obtain ⟨e, he, hx⟩ := dgI s
      have go : ∀ (g' : Nat) (L' : mL), g' ≤ 20000 → L' 54 11 = Int64.ofNat g' → Ev (d + 2) 159 243 [.ref 54] [] S (put I 54 9 (nI (t + 1))) L' R Q := fun g' L' hg' el' => ih (t + 1) g' _ _ (by omega) (by rw [pt_f (by decide)]; exact e7) (by rw [pt_f (by decide)]; exact e8) pt_s (by rw [pt_f (by decide)]; exact e10) (by omega) (Or.inl (by omega)) hg' el' (Fn.p hF (by decide))
      by_cases gl : (1000 : Int64) < Int64.ofNat g
      · rw [E159_243]
        simp only [E159_244, E159_247, E159_248, E159_251, E159_252, E159_255, E159_256, E159_259, E159_262, E159_263, E159_266, E159_267, E159_270, E159_271, E159_274, E159_277, E159_278, E159_279, E159_282, E159_285, E159_286, E159_289, E159_290, E159_293, E159_319, E159_322, E159_323, E159_324, E159_327, E159_328, E159_329, E159_332, dgt, pk54 hS, pk59 hS, pl59 hS, pa59 hS, pi59 hS, pr54_6 hR, rfs, rfn, cs0, csi, csl, csr, csn, kti, ktl, ktr, ktn, ktv, ktf, true_and, and_true, and_self, ↓reduceIte, Nat.reduceAdd, Nat.reduceSub, Nat.reduceMul, Nat.reduceLT, Nat.reduceLeDiff, Nat.reduceEqDiff, true_or, or_true, false_or, or_false, not_true_eq_false, not_false_eq_true, reduceCtorEq, cmp_lt, cmp_gt, cmp_eq, Int32.reduceAdd, Int32.reduceSub, Int32.reduceMul, Int32.reduceLT, Int32.reduceToNatClampNeg, eq_self, ne_eq, Int64.reduceAdd, Int64.reduceSub, Int64.reduceMul, Int64.reduceLT, e7, e9, e10, e1, a0, b0, s, bI_t, n1_0, nI_1, pt, el, gl]
        exact go g _ hg (by rw [uu_s, uu_s])
      · have gl' : g ≤ 1000 := by
          rw [show (1000 : Int64) = Int64.ofNat 1000 from rfl, lgN (by omega) (by decide)] at gl
          omega
        have s' : dgB (nI (48 + e)) = true := by rw [← hx]; exact s
        rw [E159_243]
        simp only [E159_244, E159_247, E159_248, E159_251, E159_252, E159_255, E159_256, E159_259, E159_262, E159_263, E159_266, E159_267, E159_270, E159_271, E159_274, E159_277, E159_278, E159_279, E159_282, E159_285, E159_286, E159_296, E159_297, E159_300, E159_303, E159_304, E159_305, E159_308, E159_309, E159_312, E159_313, E159_314, E159_315, E159_318, E159_319, E159_322, E159_323, E159_324, E159_327, E159_328, E159_329, E159_332, dgt, pk54 hS, pk59 hS, pl59 hS, pa59 hS, pi59 hS, pr54_6 hR, rfs, rfn, cs0, csi, csl, csr, csn, kti, ktl, ktr, ktn, ktv, ktf, true_and, and_true, and_self, ↓reduceIte, Nat.reduceAdd, Nat.reduceSub, Nat.reduceMul, Nat.reduceLT, Nat.reduceLeDiff, Nat.reduceEqDiff, true_or, or_true, false_or, or_false, not_true_eq_false, not_false_eq_true, reduceCtorEq, cmp_lt, cmp_gt, cmp_eq, Int32.reduceAdd, Int32.reduceSub, Int32.reduceMul, Int32.reduceLT, Int32.reduceToNatClampNeg, eq_self, ne_eq, Int64.reduceAdd, Int64.reduceSub, Int64.reduceMul, Int64.reduceLT, e7, e9, e10, e1, a0, b0, s, bI_t, n1_0, nI_1, pt, el, gl, hx, s', dig he]
        refine go (g * 10 + e) _ (by omega) ?_
        rw [uu_s, uu_s]
theorem nxt {t : Nat} (hS : Pm S) (hR : Pr R) (hn : n ≤ 400) (ht : t ≤ n) (e7 : I 54 7 = nI n) (e9 : I 54 9 = nI t) (hq : ∀ J L' f, t ≤ f → Tk J L' f → Fn I J → Q .null S J L' R) : EvM (d + 2) 159 [.ref 54] S I L R Q := by
  simp only [M159, E159_0, E159_1, E159_2, E159_5, pk54 hS, rfs, rfn, cs0, csi, csl, csr, csn, kti, ktl, ktr, ktn, ktv, ktf, true_and, and_true, and_self, ↓reduceIte, Nat.reduceAdd, Nat.reduceSub, Nat.reduceMul, Nat.reduceLT, Nat.reduceLeDiff, Nat.reduceEqDiff, true_or, or_true, false_or, or_false, not_true_eq_false, not_false_eq_true, reduceCtorEq, cmp_lt, cmp_gt, cmp_eq, Int32.reduceAdd, Int32.reduceSub, Int32.reduceMul, Int32.reduceLT, Int32.reduceToNatClampNeg, eq_self, ne_eq, Int64.reduceAdd, Int64.reduceSub, Int64.reduceMul, Int64.reduceLT, pt, e9]
  refine n1_lp (d := d) hS hR hn (n - t) t _ (by omega) (by rw [pt_f (by decide)]; exact e7) pt_s (fun J f f1 f2 j8 fJ => ?_)
  have j7 : J 54 7 = nI n := (fJ.2 7 (by decide)).trans (by rw [pt_f (by decide)]; exact e7)
  have F1 : Fn I J := (Fn.p Fn.rf (by decide)).tr fJ
  by_cases g : f = n
  · subst g
    simp only [E159_46, E159_47, E159_48, E159_51, E159_54, E159_55, E159_56, E159_59, E159_60, E159_61, E159_64, E159_65, E159_68, E159_71, E159_72, E159_114, E159_117, E159_118, E159_121, E159_122, E159_149, E159_150, E159_153, E159_154, E159_243, E159_244, E159_247, E159_248, E159_335, pk54 hS, pk59 hS, pl59 hS, pa59 hS, pi59 hS, pr54_6 hR, rfs, rfn, cs0, csi, csl, csr, csn, kti, ktl, ktr, ktn, ktv, ktf, true_and, and_true, and_self, ↓reduceIte, Nat.reduceAdd, Nat.reduceSub, Nat.reduceMul, Nat.reduceLT, Nat.reduceLeDiff, Nat.reduceEqDiff, true_or, or_true, false_or, or_false, not_true_eq_false, not_false_eq_true, reduceCtorEq, cmp_lt, cmp_gt, cmp_eq, Int32.reduceAdd, Int32.reduceSub, Int32.reduceMul, Int32.reduceLT, Int32.reduceToNatClampNeg, eq_self, ne_eq, Int64.reduceAdd, Int64.reduceSub, Int64.reduceMul, Int64.reduceLT, pt, pt_f, pt_s, j7, j8, ne0_1, ne0_2, ne0_3]
    exact hq _ _ f f1 ⟨f, f, 0, by rw [pt_f (by decide), pt_f (by decide)]; exact j7, hn, by rw [pt_f (by decide), pt_f (by decide)]; exact j8, by rw [pt_f (by decide), pt_s], pt_s, by omega, by omega, by decide, Or.inl rfl, fun h => absurd h (by decide)⟩ (Fn.p (Fn.p F1 (by decide)) (by decide))
  · have g' : (nI f = nI n) = False := eq_false (fun z => g ((nI_eq (by omega) (by omega)).mp z))
    have a0 : inb (nI f) 400 = True := inb_nI (by omega) (by decide)
    have b0 : (nI f).toNatClampNeg = f := nI_clamp (by omega)
    have nn : f < n := by omega
    cases s1 : smB (J 59 f)
    · cases d1 : dgB (J 59 f)
      · simp only [E159_46, E159_47, E159_48, E159_51, E159_54, E159_55, E159_56, E159_59, E159_60, E159_61, E159_64, E159_65, E159_68, E159_71, E159_72, E159_75, E159_76, E159_79, E159_80, E159_83, E159_84, E159_87, E159_90, E159_91, E159_94, E159_95, E159_98, E159_99, E159_102, E159_103, E159_106, E159_109, E159_110, E159_113, E159_114, E159_117, E159_118, E159_121, E159_122, E159_125, E159_126, E159_127, E159_130, E159_131, E159_134, E159_135, E159_136, E159_139, E159_140, E159_141, E159_144, E159_145, E159_146, E159_149, E159_150, E159_153, E159_154, E159_243, E159_244, E159_247, E159_248, E159_335, sml, dgt, pk54 hS, pk59 hS, pl59 hS, pa59 hS, pi59 hS, pr54_6 hR, rfs, rfn, cs0, csi, csl, csr, csn, kti, ktl, ktr, ktn, ktv, ktf, true_and, and_true, and_self, ↓reduceIte, Nat.reduceAdd, Nat.reduceSub, Nat.reduceMul, Nat.reduceLT, Nat.reduceLeDiff, Nat.reduceEqDiff, true_or, or_true, false_or, or_false, not_true_eq_false, not_false_eq_true, reduceCtorEq, cmp_lt, cmp_gt, cmp_eq, Int32.reduceAdd, Int32.reduceSub, Int32.reduceMul, Int32.reduceLT, Int32.reduceToNatClampNeg, eq_self, ne_eq, Int64.reduceAdd, Int64.reduceSub, Int64.reduceMul, Int64.reduceLT, pt, pt_m, pt_f, pt_s, j7, j8, g', a0, b0, s1, d1, bI_f, nI_1, ne3_1, ne3_2]
        exact hq _ _ f f1 ⟨f + 1, n, 3, by rw [pt_f (by decide), pt_f (by decide), pt_f (by decide)]; exact j7, hn, by rw [pt_f (by decide), pt_f (by decide), pt_f (by decide)]; exact j8, pt_s, by rw [pt_f (by decide), pt_s]; rfl, by omega, by omega, by decide, Or.inr (by omega), fun h => absurd h (by decide)⟩ (Fn.p (Fn.p (Fn.p F1 (by decide)) (by decide)) (by decide))
      · simp only [E159_46, E159_47, E159_48, E159_51, E159_54, E159_55, E159_56, E159_59, E159_60, E159_61, E159_64, E159_65, E159_68, E159_71, E159_72, E159_75, E159_76, E159_79, E159_80, E159_83, E159_84, E159_87, E159_90, E159_91, E159_94, E159_95, E159_98, E159_99, E159_102, E159_103, E159_106, E159_109, E159_110, E159_114, E159_117, E159_118, E159_121, E159_122, E159_149, E159_150, E159_153, E159_154, sml, dgt, pk54 hS, pk59 hS, pl59 hS, pa59 hS, pi59 hS, pr54_6 hR, rfs, rfn, cs0, csi, csl, csr, csn, kti, ktl, ktr, ktn, ktv, ktf, true_and, and_true, and_self, ↓reduceIte, Nat.reduceAdd, Nat.reduceSub, Nat.reduceMul, Nat.reduceLT, Nat.reduceLeDiff, Nat.reduceEqDiff, true_or, or_true, false_or, or_false, not_true_eq_false, not_false_eq_true, reduceCtorEq, cmp_lt, cmp_gt, cmp_eq, Int32.reduceAdd, Int32.reduceSub, Int32.reduceMul, Int32.reduceLT, Int32.reduceToNatClampNeg, eq_self, ne_eq, Int64.reduceAdd, Int64.reduceSub, Int64.reduceMul, Int64.reduceLT, pt, pt_m, pt_f, pt_s, j7, j8, g', a0, b0, s1, d1, bI_f, bI_t, n1_0, nI_1, ne2_1, ne2_3]
        exact n3_lp (d := d) (f := f) hS hR hn (fun J L' h1 h2 => hq J L' f f1 h1 h2) (n - f) f 0 _ _ (by omega) (by rw [pt_f (by decide), pt_f (by decide)]; exact j7) (by rw [pt_f (by decide), pt_f (by decide)]; exact j8) (by rw [pt_f (by decide), pt_s]) pt_s (by omega) (Or.inr ⟨nn, by rw [pt_m (by decide), pt_m (by decide)]; exact d1⟩) (by decide) (by rw [uu_s, uu_s]; rfl) (Fn.p (Fn.p F1 (by decide)) (by decide))
    · simp only [E159_46, E159_47, E159_48, E159_51, E159_54, E159_55, E159_56, E159_59, E159_60, E159_61, E159_64, E159_65, E159_68, E159_71, E159_72, E159_75, E159_76, E159_79, E159_80, E159_83, E159_84, E159_87, E159_90, E159_91, E159_114, E159_117, E159_118, E159_121, E159_122, sml, pk54 hS, pk59 hS, pl59 hS, pa59 hS, pi59 hS, pr54_6 hR, rfs, rfn, cs0, csi, csl, csr, csn, kti, ktl, ktr, ktn, ktv, ktf, true_and, and_true, and_self, ↓reduceIte, Nat.reduceAdd, Nat.reduceSub, Nat.reduceMul, Nat.reduceLT, Nat.reduceLeDiff, Nat.reduceEqDiff, true_or, or_true, false_or, or_false, not_true_eq_false, not_false_eq_true, reduceCtorEq, cmp_lt, cmp_gt, cmp_eq, Int32.reduceAdd, Int32.reduceSub, Int32.reduceMul, Int32.reduceLT, Int32.reduceToNatClampNeg, eq_self, ne_eq, Int64.reduceAdd, Int64.reduceSub, Int64.reduceMul, Int64.reduceLT, pt, pt_m, pt_f, pt_s, j7, j8, g', a0, b0, s1, bI_t, n1_0, ne1_3]
      exact n2_lp (d := d) (f := f) hS hR hn (fun J L' h1 h2 => hq J L' f f1 h1 h2) (n - f) f _ _ (by omega) (by rw [pt_f (by decide), pt_f (by decide)]; exact j7) (by rw [pt_f (by decide), pt_f (by decide)]; exact j8) (by rw [pt_f (by decide), pt_s]) pt_s (by omega) (Or.inr ⟨nn, by rw [pt_m (by decide), pt_m (by decide)]; exact s1⟩) (Fn.p (Fn.p F1 (by decide)) (by decide))
def wdB (I : mI) (L : mL) (w : Int64) : Bool := decide (I 54 10 = 1 ∧ L 54 11 = w)
def sgB (I : mI) (L : mL) (c : Int32) : Bool := decide (I 54 10 = 3 ∧ L 54 11 = c.toInt64)
theorem wdB0 {w : Int64} (h : wdB I L w = true) : ¬ I 54 10 = 0 := by
  unfold wdB at h
  rw [decide_eq_true_iff] at h
  rw [h.1]; decide
theorem sgB0 {c : Int32} (h : sgB I L c = true) : ¬ I 54 10 = 0 := by
  unfold sgB at h
  rw [decide_eq_true_iff] at h
  rw [h.1]; decide
theorem isw {w : Int64} (hS : Pm S) : EvM (d + 1) 160 [.ref 54, .long w] S I L R Q = Q (.int (bI (wdB I L w))) S I L R := by
  have e : wdB I L w = decide (I 54 10 = 1 ∧ L 54 11 = w) := rfl
  rw [e]
  by_cases h1 : I 54 10 = 1 <;> by_cases h2 : L 54 11 = w <;> simp only [M160, E160_0, E160_1, E160_4, E160_5, E160_8, E160_9, E160_12, E160_13, E160_14, E160_17, E160_18, E160_21, E160_22, pk54 hS, rfs, rfn, cs0, csi, csl, csr, csn, kti, ktl, ktr, ktn, ktv, ktf, true_and, and_true, and_self, ↓reduceIte, Nat.reduceAdd, Nat.reduceSub, Nat.reduceMul, Nat.reduceLT, Nat.reduceLeDiff, Nat.reduceEqDiff, true_or, or_true, false_or, or_false, not_true_eq_false, not_false_eq_true, reduceCtorEq, cmp_lt, cmp_gt, cmp_eq, Int32.reduceAdd, Int32.reduceSub, Int32.reduceMul, Int32.reduceLT, Int32.reduceToNatClampNeg, eq_self, ne_eq, Int64.reduceAdd, Int64.reduceSub, Int64.reduceMul, Int64.reduceLT, h1, h2, decide_true, decide_false, bI_t, bI_f, and_false, false_and]
theorem isg {c : Int32} (hS : Pm S) : EvM (d + 1) 161 [.ref 54, .int c] S I L R Q = Q (.int (bI (sgB I L c))) S I L R := by
  have e : sgB I L c = decide (I 54 10 = 3 ∧ L 54 11 = c.toInt64) := rfl
  rw [e]
  by_cases h1 : I 54 10 = 3 <;> by_cases h2 : L 54 11 = c.toInt64 <;> simp only [M161, E161_0, E161_1, E161_4, E161_5, E161_8, E161_9, E161_12, E161_13, E161_14, E161_15, E161_18, E161_19, E161_22, E161_23, pk54 hS, rfs, rfn, cs0, csi, csl, csr, csn, kti, ktl, ktr, ktn, ktv, ktf, true_and, and_true, and_self, ↓reduceIte, Nat.reduceAdd, Nat.reduceSub, Nat.reduceMul, Nat.reduceLT, Nat.reduceLeDiff, Nat.reduceEqDiff, true_or, or_true, false_or, or_false, not_true_eq_false, not_false_eq_true, reduceCtorEq, cmp_lt, cmp_gt, cmp_eq, Int32.reduceAdd, Int32.reduceSub, Int32.reduceMul, Int32.reduceLT, Int32.reduceToNatClampNeg, eq_self, ne_eq, Int64.reduceAdd, Int64.reduceSub, Int64.reduceMul, Int64.reduceLT, h1, h2, decide_true, decide_false, bI_t, bI_f, and_false, false_and]
theorem wrg {bad : Bool} (hS : Pm S) (eb : I 54 13 = bI bad) (hq : ∀ J, Fm I J → (∀ k, k ≤ 10 → J 54 k = I 54 k) → J 54 13 = 1 → Q .null S J L R) : EvM (d + 1) 162 [.ref 54] S I L R Q := by
  cases bad
  · simp only [M162, E162_0, E162_1, E162_4, E162_7, E162_8, E162_9, E162_12, E162_13, E162_14, E162_17, E162_20, pk54 hS, rfs, rfn, cs0, csi, csl, csr, csn, kti, ktl, ktr, ktn, ktv, ktf, true_and, and_true, and_self, ↓reduceIte, Nat.reduceAdd, Nat.reduceSub, Nat.reduceMul, Nat.reduceLT, Nat.reduceLeDiff, Nat.reduceEqDiff, true_or, or_true, false_or, or_false, not_true_eq_false, not_false_eq_true, reduceCtorEq, cmp_lt, cmp_gt, cmp_eq, Int32.reduceAdd, Int32.reduceSub, Int32.reduceMul, Int32.reduceLT, Int32.reduceToNatClampNeg, eq_self, ne_eq, Int64.reduceAdd, Int64.reduceSub, Int64.reduceMul, Int64.reduceLT, eb, bI_f, pt, pt_f]
    exact hq _ (Fm.p (Fm.p Fm.rf (by decide)) (by decide)) (fun k hk => by rw [pt_f (by omega), pt_f (by omega)]) (by rw [pt_f (by decide), pt_s])
  · simp only [M162, E162_0, E162_1, E162_4, E162_7, E162_8, E162_9, E162_12, E162_13, E162_14, E162_17, E162_20, pk54 hS, rfs, rfn, cs0, csi, csl, csr, csn, kti, ktl, ktr, ktn, ktv, ktf, true_and, and_true, and_self, ↓reduceIte, Nat.reduceAdd, Nat.reduceSub, Nat.reduceMul, Nat.reduceLT, Nat.reduceLeDiff, Nat.reduceEqDiff, true_or, or_true, false_or, or_false, not_true_eq_false, not_false_eq_true, reduceCtorEq, cmp_lt, cmp_gt, cmp_eq, Int32.reduceAdd, Int32.reduceSub, Int32.reduceMul, Int32.reduceLT, Int32.reduceToNatClampNeg, eq_self, ne_eq, Int64.reduceAdd, Int64.reduceSub, Int64.reduceMul, Int64.reduceLT, eb, bI_t, n1_0]
    exact hq _ Fm.rf (fun _ _ => rfl) eb
theorem mus {b bad : Bool} (hS : Pm S) (hR : Pr R) (hT : Tk I L f) (eb : I 54 13 = bI bad) (hb : b = true → ¬ I 54 10 = 0) (hq : ∀ J L' f' bad', f ≤ f' → Tk J L' f' → Fm I J → J 54 13 = bI bad' → (bad' = false → bad = false ∧ b = true ∧ f < f') → Q .null S J L' R) : EvM (d + 3) 163 [.ref 54, .int (bI b)] S I L R Q := by
  cases b
  · simp only [M163, E163_0, E163_1, E163_4, E163_5, pk54 hS, rfs, rfn, cs0, csi, csl, csr, csn, kti, ktl, ktr, ktn, ktv, ktf, true_and, and_true, and_self, ↓reduceIte, Nat.reduceAdd, Nat.reduceSub, Nat.reduceMul, Nat.reduceLT, Nat.reduceLeDiff, Nat.reduceEqDiff, true_or, or_true, false_or, or_false, not_true_eq_false, not_false_eq_true, reduceCtorEq, cmp_lt, cmp_gt, cmp_eq, Int32.reduceAdd, Int32.reduceSub, Int32.reduceMul, Int32.reduceLT, Int32.reduceToNatClampNeg, eq_self, ne_eq, Int64.reduceAdd, Int64.reduceSub, Int64.reduceMul, Int64.reduceLT, bI_f]
    refine wrg hS eb (fun J fJ jk jb => ?_)
    simp only [E163_5, E163_8, E163_9, E163_12, E163_19, pk54 hS, rfs, rfn, cs0, csi, csl, csr, csn, kti, ktl, ktr, ktn, ktv, ktf, true_and, and_true, and_self, ↓reduceIte, Nat.reduceAdd, Nat.reduceSub, Nat.reduceMul, Nat.reduceLT, Nat.reduceLeDiff, Nat.reduceEqDiff, true_or, or_true, false_or, or_false, not_true_eq_false, not_false_eq_true, reduceCtorEq, cmp_lt, cmp_gt, cmp_eq, Int32.reduceAdd, Int32.reduceSub, Int32.reduceMul, Int32.reduceLT, Int32.reduceToNatClampNeg, eq_self, ne_eq, Int64.reduceAdd, Int64.reduceSub, Int64.reduceMul, Int64.reduceLT, jb, n1_0]
    exact hq J L f true (Nat.le_refl f) (hT.cg (fun k h1 h2 => jk k h2)) fJ jb (fun h => by cases h)
  · cases bad
    · obtain ⟨t, n, s, h1, h2, h3, h4, h5, h6, h7, h8, h9, h10⟩ := hT
      have hs : f < t := by
        rcases h9 with h9 | h9
        · exact absurd (by rw [h5, h9]; rfl) (hb rfl)
        · exact h9
      simp only [M163, E163_0, E163_1, E163_8, E163_9, E163_12, E163_15, E163_16, pk54 hS, rfs, rfn, cs0, csi, csl, csr, csn, kti, ktl, ktr, ktn, ktv, ktf, true_and, and_true, and_self, ↓reduceIte, Nat.reduceAdd, Nat.reduceSub, Nat.reduceMul, Nat.reduceLT, Nat.reduceLeDiff, Nat.reduceEqDiff, true_or, or_true, false_or, or_false, not_true_eq_false, not_false_eq_true, reduceCtorEq, cmp_lt, cmp_gt, cmp_eq, Int32.reduceAdd, Int32.reduceSub, Int32.reduceMul, Int32.reduceLT, Int32.reduceToNatClampNeg, eq_self, ne_eq, Int64.reduceAdd, Int64.reduceSub, Int64.reduceMul, Int64.reduceLT, bI_t, bI_f, n1_0, eb]
      refine nxt hS hR h2 h7 h1 h4 (fun J L' f' g1 g2 g3 => ?_)
      simp only [E163_16, E163_19, rfs, rfn, cs0, csi, csl, csr, csn, kti, ktl, ktr, ktn, ktv, ktf, true_and, and_true, and_self, ↓reduceIte, Nat.reduceAdd, Nat.reduceSub, Nat.reduceMul, Nat.reduceLT, Nat.reduceLeDiff, Nat.reduceEqDiff, true_or, or_true, false_or, or_false, not_true_eq_false, not_false_eq_true, reduceCtorEq, cmp_lt, cmp_gt, cmp_eq, Int32.reduceAdd, Int32.reduceSub, Int32.reduceMul, Int32.reduceLT, Int32.reduceToNatClampNeg, eq_self, ne_eq, Int64.reduceAdd, Int64.reduceSub, Int64.reduceMul, Int64.reduceLT]
      exact hq J L' f' false (by omega) g2 g3.m ((g3.2 13 (by decide)).trans eb) (fun _ => ⟨rfl, rfl, by omega⟩)
    · simp only [M163, E163_0, E163_1, E163_8, E163_9, E163_12, E163_19, pk54 hS, rfs, rfn, cs0, csi, csl, csr, csn, kti, ktl, ktr, ktn, ktv, ktf, true_and, and_true, and_self, ↓reduceIte, Nat.reduceAdd, Nat.reduceSub, Nat.reduceMul, Nat.reduceLT, Nat.reduceLeDiff, Nat.reduceEqDiff, true_or, or_true, false_or, or_false, not_true_eq_false, not_false_eq_true, reduceCtorEq, cmp_lt, cmp_gt, cmp_eq, Int32.reduceAdd, Int32.reduceSub, Int32.reduceMul, Int32.reduceLT, Int32.reduceToNatClampNeg, eq_self, ne_eq, Int64.reduceAdd, Int64.reduceSub, Int64.reduceMul, Int64.reduceLT, bI_t, n1_0, eb]
      exact hq I L f true (Nat.le_refl f) hT Fm.rf eb (fun h => by cases h)
theorem lt15 : ∀ g, g ≤ 15 → (Int64.ofNat g).toInt32 = nI g := by decide
theorem num_m {bad : Bool} {m : Int64} (hS : Pm S) (hR : Pr R) (hT : Tk I L f) (eb : I 54 13 = bI bad) (hq : ∀ J L' f' bad' v, f ≤ f' → Tk J L' f' → Fm I J → J 54 13 = bI bad' → (bad' = false → f < f' ∧ (m = 15 → ∃ g, g ≤ 15 ∧ v = nI g)) → Q (.int v) S J L' R) : EvM (d + 4) 164 [.ref 54, .long m] S I L R Q := by
  by_cases g1 : I 54 10 = 2
  · have g1' : (I 54 10 = 2) = True := eq_true g1
    by_cases g2 : m < L 54 11
    · simp only [M164, E164_0, E164_1, E164_4, E164_5, E164_6, E164_7, E164_8, E164_11, E164_12, E164_15, E164_16, E164_19, E164_20, E164_21, E164_24, E164_25, E164_28, E164_29, pk54 hS, rfs, rfn, cs0, csi, csl, csr, csn, kti, ktl, ktr, ktn, ktv, ktf, true_and, and_true, and_self, ↓reduceIte, Nat.reduceAdd, Nat.reduceSub, Nat.reduceMul, Nat.reduceLT, Nat.reduceLeDiff, Nat.reduceEqDiff, true_or, or_true, false_or, or_false, not_true_eq_false, not_false_eq_true, reduceCtorEq, cmp_lt, cmp_gt, cmp_eq, Int32.reduceAdd, Int32.reduceSub, Int32.reduceMul, Int32.reduceLT, Int32.reduceToNatClampNeg, eq_self, ne_eq, Int64.reduceAdd, Int64.reduceSub, Int64.reduceMul, Int64.reduceLT, g1', g2]
      refine mus (b := false) hS hR hT eb (fun h => by cases h) (fun J L' f' bad' k1 k2 k3 k4 k5 => ?_)
      simp only [E164_29, E164_32, E164_33, rfs, rfn, cs0, csi, csl, csr, csn, kti, ktl, ktr, ktn, ktv, ktf, true_and, and_true, and_self, ↓reduceIte, Nat.reduceAdd, Nat.reduceSub, Nat.reduceMul, Nat.reduceLT, Nat.reduceLeDiff, Nat.reduceEqDiff, true_or, or_true, false_or, or_false, not_true_eq_false, not_false_eq_true, reduceCtorEq, cmp_lt, cmp_gt, cmp_eq, Int32.reduceAdd, Int32.reduceSub, Int32.reduceMul, Int32.reduceLT, Int32.reduceToNatClampNeg, eq_self, ne_eq, Int64.reduceAdd, Int64.reduceSub, Int64.reduceMul, Int64.reduceLT]
      exact hq J L' f' bad' _ k1 k2 k3 k4 (fun h => by have := (k5 h).2.1; cases this)
    · simp only [M164, E164_0, E164_1, E164_4, E164_5, E164_6, E164_7, E164_8, E164_11, E164_12, E164_15, E164_16, E164_19, E164_20, E164_21, E164_24, E164_25, E164_28, E164_29, pk54 hS, rfs, rfn, cs0, csi, csl, csr, csn, kti, ktl, ktr, ktn, ktv, ktf, true_and, and_true, and_self, ↓reduceIte, Nat.reduceAdd, Nat.reduceSub, Nat.reduceMul, Nat.reduceLT, Nat.reduceLeDiff, Nat.reduceEqDiff, true_or, or_true, false_or, or_false, not_true_eq_false, not_false_eq_true, reduceCtorEq, cmp_lt, cmp_gt, cmp_eq, Int32.reduceAdd, Int32.reduceSub, Int32.reduceMul, Int32.reduceLT, Int32.reduceToNatClampNeg, eq_self, ne_eq, Int64.reduceAdd, Int64.reduceSub, Int64.reduceMul, Int64.reduceLT, g1', g2]
      refine mus (b := true) hS hR hT eb (fun _ => by rw [g1]; decide) (fun J L' f' bad' k1 k2 k3 k4 k5 => ?_)
      simp only [E164_29, E164_32, E164_33, rfs, rfn, cs0, csi, csl, csr, csn, kti, ktl, ktr, ktn, ktv, ktf, true_and, and_true, and_self, ↓reduceIte, Nat.reduceAdd, Nat.reduceSub, Nat.reduceMul, Nat.reduceLT, Nat.reduceLeDiff, Nat.reduceEqDiff, true_or, or_true, false_or, or_false, not_true_eq_false, not_false_eq_true, reduceCtorEq, cmp_lt, cmp_gt, cmp_eq, Int32.reduceAdd, Int32.reduceSub, Int32.reduceMul, Int32.reduceLT, Int32.reduceToNatClampNeg, eq_self, ne_eq, Int64.reduceAdd, Int64.reduceSub, Int64.reduceMul, Int64.reduceLT]
      refine hq J L' f' bad' _ k1 k2 k3 k4 (fun h => ⟨(k5 h).2.2, fun hm => ?_⟩)
      obtain ⟨t, n, s, h1, h2, h3, h4, h5, h6, h7, h8, h9, h10⟩ := hT
      have hs : s = 2 := (nI_eq (a := s) (b := 2) (by omega) (by decide)).mp (h5.symm.trans g1)
      obtain ⟨g, hg, el⟩ := h10 hs
      rw [el, hm, show (15 : Int64) = Int64.ofNat 15 from rfl, lgN (by omega) (by decide)] at g2
      exact ⟨g, by omega, by rw [el, lt15 g (by omega)]⟩
  · simp only [M164, E164_0, E164_1, E164_4, E164_5, E164_6, E164_7, E164_8, E164_11, E164_12, E164_28, E164_29, pk54 hS, rfs, rfn, cs0, csi, csl, csr, csn, kti, ktl, ktr, ktn, ktv, ktf, true_and, and_true, and_self, ↓reduceIte, Nat.reduceAdd, Nat.reduceSub, Nat.reduceMul, Nat.reduceLT, Nat.reduceLeDiff, Nat.reduceEqDiff, true_or, or_true, false_or, or_false, not_true_eq_false, not_false_eq_true, reduceCtorEq, cmp_lt, cmp_gt, cmp_eq, Int32.reduceAdd, Int32.reduceSub, Int32.reduceMul, Int32.reduceLT, Int32.reduceToNatClampNeg, eq_self, ne_eq, Int64.reduceAdd, Int64.reduceSub, Int64.reduceMul, Int64.reduceLT, g1]
    refine mus (b := false) hS hR hT eb (fun h => by cases h) (fun J L' f' bad' k1 k2 k3 k4 k5 => ?_)
    simp only [E164_29, E164_32, E164_33, rfs, rfn, cs0, csi, csl, csr, csn, kti, ktl, ktr, ktn, ktv, ktf, true_and, and_true, and_self, ↓reduceIte, Nat.reduceAdd, Nat.reduceSub, Nat.reduceMul, Nat.reduceLT, Nat.reduceLeDiff, Nat.reduceEqDiff, true_or, or_true, false_or, or_false, not_true_eq_false, not_false_eq_true, reduceCtorEq, cmp_lt, cmp_gt, cmp_eq, Int32.reduceAdd, Int32.reduceSub, Int32.reduceMul, Int32.reduceLT, Int32.reduceToNatClampNeg, eq_self, ne_eq, Int64.reduceAdd, Int64.reduceSub, Int64.reduceMul, Int64.reduceLT]
    exact hq J L' f' bad' _ k1 k2 k3 k4 (fun h => by have := (k5 h).2.1; cases this)
end TO
