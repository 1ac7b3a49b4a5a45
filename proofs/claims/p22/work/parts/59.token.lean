/-! class Reader: tokens, STEPS, a whole TEXT -/
def enF (I : mI) (t : Nat) (s : Int32) : Nat → Nat → Nat
  | 0, e => e
  | m + 1, e => if s = 2 then e else if soF (I t e) = s then enF I t s m (e + 1) else e
theorem enF_le {I : mI} {t : Nat} {s : Int32} : ∀ (m e : Nat), e ≤ enF I t s m e ∧ enF I t s m e ≤ e + m
  | 0, e => ⟨Nat.le_refl _, Nat.le_refl _⟩
  | m + 1, e => by
    have := enF_le (I := I) (t := t) (s := s) m (e + 1)
    unfold enF
    split
    · omega
    · split <;> omega
def rdF (I : mI) (t : Nat) (s : Int32) (f e : Nat) : Int32 := if s = 0 then wdF I t f e else if s = 1 then nuF I t e (e - f) f 0 else -100 - (I t f &&& 255)
def tkE (I : mI) (t len f : Nat) : Nat := enF I t (soF (I t f)) (len - (f + 1)) (f + 1)
def tkR (I : mI) (t len f : Nat) : Int32 := rdF I t (soF (I t f)) f (tkE I t len f)
def tkP (I : mI) (k : Nat) (r : Int32) (f : Nat) : mI := put (put I 18 k r) 19 k (nI f)
def spL (t len : Nat) : Nat → Nat → Nat → mI → mI × Nat
  | 0, _, k, I => (I, k)
  | N + 1, f, k, I => if f < len then (if tkR I t len f = -132 then spL t len N (tkE I t len f) k I else spL t len N (tkE I t len f) (k + 1) (tkP I k (tkR I t len f) f)) else (I, k)
def splF (I : mI) (t len : Nat) : mI := tkP (spL t len len 0 0 I).1 (spL t len len 0 0 I).2 (-1) len
theorem RdK.pr {I J : mI} {a k : Nat} {x : Int32} (h : RdK I J) (h1 : 15 ≤ a) (h2 : a ≤ 19) : RdK I (put J a k x) := ⟨fun b q => (pt_n (by omega)).trans (h.1 b q), by rw [pt_n (by omega)]; exact h.2.1, fun c => by
  obtain ⟨n, g, e⟩ := h.2.2 c
  exact ⟨n, g, by rw [pt_n (by omega)]; exact e⟩⟩
theorem RdK.tk {I J : mI} {k f : Nat} {r : Int32} (h : RdK I J) : RdK I (tkP J k r f) := (h.pr (by decide) (by decide)).pr (by decide) (by decide)
theorem spL_k {t len : Nat} {I : mI} : ∀ (N f k : Nat) (J : mI), RdK I J → RdK I (spL t len N f k J).1
  | 0, _, _, _, h => h
  | N + 1, f, k, J, h => by
    unfold spL
    split
    · split
      · exact spL_k N _ _ _ h
      · exact spL_k N _ _ _ h.tk
    · exact h
theorem spL_le {t len : Nat} : ∀ (N f k : Nat) (J : mI), k ≤ f → f ≤ len → (spL t len N f k J).2 ≤ len
  | 0, f, k, _, h, g => Nat.le_trans h g
  | N + 1, f, k, J, h, g => by
    unfold spL
    split
    · have q := enF_le (I := J) (t := t) (s := soF (J t f)) (len - (f + 1)) (f + 1)
      have q1 : f + 1 ≤ tkE J t len f := q.1
      have q2 : tkE J t len f ≤ len := Nat.le_trans q.2 (by omega)
      split
      · exact spL_le N _ _ _ (by omega) q2
      · exact spL_le N _ _ _ (by omega) q2
    · exact Nat.le_trans h g
theorem RdK.spl {I J : mI} {t len : Nat} (h : RdK I J) : RdK I (splF J t len) := (spL_k _ _ _ _ h).tk
/-- one STEP -/
def rs1 (I : mI) (i : Nat) (w : Int32) : mI := put (put (advF I) 17 i w) 16 i (put (advF I) 17 i w 14 1)
def rs2 (I : mI) (w : Int32) : mI := if w = 5 then numF I 15 else sumF (partF 8) I
def rs3 (I : mI) (w : Int32) : mI := if w = 1 then sumF (partF 8) (takF I (-3)) else I
def rs4 (I : mI) : mI := if seeB I (-4) = true then testF (plainF 8) (advF I) else emiF I 1
def rs5 (I : mI) (i : Nat) : mI := put (put I 16 (i + 1) (I 14 1)) 14 4 (nI (i + 1))
def rsW (I : mI) : Int32 := -20 - nowF I
def rsF (I : mI) (i : Nat) : mI := if rsW I < 0 ∨ 5 < rsW I then faiF I else rs5 (rs4 (rs3 (rs2 (rs1 I i (rsW I)) (rsW I)) (rsW I))) i
def unL : Nat → Nat → mI → mI × Bool
  | 0, _, I => (faiF I, false)
  | N + 1, i, I => if I 14 5 = -1 then (if seeB (rsF I i) (-1) = true then (rsF I i, true) else unL N (i + 1) (takF (rsF I i) (-159))) else (faiF I, false)
def un0 (I : mI) : mI := put (put (put (put (put (put I 14 1 0) 14 4 0) 14 5 (-1)) 14 8 0) 14 9 0) 14 10 0
def undF (I : mI) (t len : Nat) : mI × Bool := unL 16 0 (splF (un0 I) t len)
theorem rs1_k (I : mI) (i : Nat) (w : Int32) : RdK I (rs1 I i w) := (RdK.rf.ad.pr (by decide) (by decide)).pr (by decide) (by decide)
theorem rs2_k (I : mI) (w : Int32) : RdK I (rs2 I w) := by
  unfold rs2
  split
  · exact RdK.rf.nu
  · exact sumF_k (partF_k 8) I
theorem rs3_k (I : mI) (w : Int32) : RdK I (rs3 I w) := by
  unfold rs3
  split
  · exact RdK.rf.ta.tr (sumF_k (partF_k 8) _)
  · exact RdK.rf
theorem rs4_k (I : mI) : RdK I (rs4 I) := by
  unfold rs4
  split
  · exact RdK.rf.ad.tr (testF_k (plainF_k 8) _)
  · exact RdK.rf.em
theorem rs5_k (I : mI) (i : Nat) : RdK I (rs5 I i) := (RdK.rf.pr (by decide) (by decide)).pk (by decide) (by decide)
theorem rsF_k (I : mI) (i : Nat) : RdK I (rsF I i) := by
  unfold rsF
  split
  · exact RdK.rf.fa
  · exact ((((rs1_k I i _).tr (rs2_k _ _)).tr (rs3_k _ _)).tr (rs4_k _)).tr (rs5_k _ _)
theorem unL_k : ∀ (N i : Nat) (I : mI), RdK I (unL N i I).1
  | 0, _, I => RdK.rf.fa
  | N + 1, i, I => by
    unfold unL
    split
    · split
      · dsimp only
        exact rsF_k I i
      · exact ((rsF_k I i).ta (w := -159)).tr (unL_k N (i + 1) (takF (rsF I i) (-159)))
    · exact RdK.rf.fa
section RD
variable {d D t : Nat} {S : mS} {I : mI} {L : mL} {R : mR} {Q : mQ}
theorem en_lp {len f k : Nat} {s : Int32} {y : Value} (hS : Pm S) (hR : Pr R) (ht : ok S t 10) (hn : S.2.2.2 t = 400) (hl : len ≤ 400) : ∀ (m e : Nat), e + m = len → Ev (d + 8) 47 33 [.ref 14, .ref t, .int (nI len), .int (nI k), .int (nI f), .int s, .int (nI e), y] [] S I L R Q = Ev (d + 8) 47 63 [.ref 14, .ref t, .int (nI len), .int (nI k), .int (nI f), .int s, .int (nI (enF I t s m e)), y] [] S I L R Q := by
  intro m
  induction m with
  | zero =>
    intro e he
    obtain rfl : e = len := by omega
    have g : (nI e < nI e) = False := eq_false (nI_nlt (Nat.le_refl e) (by omega))
    rw [E47_33]
    by_cases g2 : s = 2 <;> simp only [E47_0, E47_1, E47_2, E47_3, E47_7, E47_8, E47_11, E47_12, E47_15, E47_18, E47_18n, E47_19, E47_21, E47_22, E47_25, E47_27, E47_29, E47_30, E47_31, E47_35, E47_36, E47_39, E47_41, E47_42, E47_45, E47_45n, E47_46, E47_48, E47_49, E47_52, E47_54, E47_57, E47_60, E47_65, E47_68, E47_68n, E47_69, E47_71, E47_73, E47_76, E47_79, E47_81, E47_82, E47_85, E47_85n, E47_86, E47_88, E47_90, E47_93, E47_96, E47_98, E47_98n, E47_99, E47_101, E47_102, E47_105, E47_106, E47_107, E47_109, E47_111, E47_114, E47_117, E47_118, E47_121, E47_122, E47_124, E47_125, E47_126, E47_129, E47_130, E47_132, E47_133, E47_136, E47_138, E47_140, E47_143, E47_144, E47_147, E47_148, E47_149, E47_150, E47_151, E47_154, E47_155, E47_156, E47_157, rfs, rfn, cs0, csi, csl, csr, csn, kti, ktl, ktr, ktn, ktv, ktf, true_and, and_true, and_self, ↓reduceIte, Nat.reduceAdd, Nat.reduceSub, Nat.reduceMul, Nat.reduceLT, Nat.reduceLeDiff, Nat.reduceEqDiff, true_or, or_true, false_or, or_false, not_true_eq_false, not_false_eq_true, reduceCtorEq, cmp_lt, cmp_gt, cmp_eq, Int32.reduceAdd, Int32.reduceSub, Int32.reduceMul, Int32.reduceLT, Int32.reduceToNatClampNeg, eq_self, ne_eq, Int64.reduceAdd, Int64.reduceSub, Int64.reduceMul, Int64.reduceLT, g, g2] <;> rfl
  | succ m ih =>
    intro e he
    have e1 : (nI e < nI len) = True := eq_true (nI_lt (by omega) (by omega))
    have e3 : inb (nI e) 400 = True := inb_nI (by omega) (by decide)
    have e4 : (nI e).toNatClampNeg = e := nI_clamp (by omega)
    rw [E47_33]
    unfold enF
    by_cases g2 : s = 2
    · rw [if_pos g2]
      simp only [E47_0, E47_1, E47_2, E47_3, E47_7, E47_8, E47_11, E47_12, E47_15, E47_18, E47_18n, E47_19, E47_21, E47_22, E47_25, E47_27, E47_29, E47_30, E47_31, E47_35, E47_36, E47_39, E47_41, E47_42, E47_45, E47_45n, E47_46, E47_48, E47_49, E47_52, E47_54, E47_57, E47_60, E47_65, E47_68, E47_68n, E47_69, E47_71, E47_73, E47_76, E47_79, E47_81, E47_82, E47_85, E47_85n, E47_86, E47_88, E47_90, E47_93, E47_96, E47_98, E47_98n, E47_99, E47_101, E47_102, E47_105, E47_106, E47_107, E47_109, E47_111, E47_114, E47_117, E47_118, E47_121, E47_122, E47_124, E47_125, E47_126, E47_129, E47_130, E47_132, E47_133, E47_136, E47_138, E47_140, E47_143, E47_144, E47_147, E47_148, E47_149, E47_150, E47_151, E47_154, E47_155, E47_156, E47_157, rfs, rfn, cs0, csi, csl, csr, csn, kti, ktl, ktr, ktn, ktv, ktf, true_and, and_true, and_self, ↓reduceIte, Nat.reduceAdd, Nat.reduceSub, Nat.reduceMul, Nat.reduceLT, Nat.reduceLeDiff, Nat.reduceEqDiff, true_or, or_true, false_or, or_false, not_true_eq_false, not_false_eq_true, reduceCtorEq, cmp_lt, cmp_gt, cmp_eq, Int32.reduceAdd, Int32.reduceSub, Int32.reduceMul, Int32.reduceLT, Int32.reduceToNatClampNeg, eq_self, ne_eq, Int64.reduceAdd, Int64.reduceSub, Int64.reduceMul, Int64.reduceLT, g2]
    · rw [if_neg g2]
      by_cases g3 : soF (I t e) = s
      · rw [if_pos g3, ← ih (e + 1) (by omega)]
        simp only [E47_0, E47_1, E47_2, E47_3, E47_7, E47_8, E47_11, E47_12, E47_15, E47_18, E47_18n, E47_19, E47_21, E47_22, E47_25, E47_27, E47_29, E47_30, E47_31, E47_35, E47_36, E47_39, E47_41, E47_42, E47_45, E47_45n, E47_46, E47_48, E47_49, E47_52, E47_54, E47_57, E47_60, E47_65, E47_68, E47_68n, E47_69, E47_71, E47_73, E47_76, E47_79, E47_81, E47_82, E47_85, E47_85n, E47_86, E47_88, E47_90, E47_93, E47_96, E47_98, E47_98n, E47_99, E47_101, E47_102, E47_105, E47_106, E47_107, E47_109, E47_111, E47_114, E47_117, E47_118, E47_121, E47_122, E47_124, E47_125, E47_126, E47_129, E47_130, E47_132, E47_133, E47_136, E47_138, E47_140, E47_143, E47_144, E47_147, E47_148, E47_149, E47_150, E47_151, E47_154, E47_155, E47_156, E47_157, rfs, rfn, cs0, csi, csl, csr, csn, kti, ktl, ktr, ktn, ktv, ktf, true_and, and_true, and_self, ↓reduceIte, Nat.reduceAdd, Nat.reduceSub, Nat.reduceMul, Nat.reduceLT, Nat.reduceLeDiff, Nat.reduceEqDiff, true_or, or_true, false_or, or_false, not_true_eq_false, not_false_eq_true, reduceCtorEq, cmp_lt, cmp_gt, cmp_eq, Int32.reduceAdd, Int32.reduceSub, Int32.reduceMul, Int32.reduceLT, Int32.reduceToNatClampNeg, eq_self, ne_eq, Int64.reduceAdd, Int64.reduceSub, Int64.reduceMul, Int64.reduceLT, g2, g3, e1, e3, e4, ht, hn, sor, nI_1]
      · rw [if_neg g3]
        simp only [E47_0, E47_1, E47_2, E47_3, E47_7, E47_8, E47_11, E47_12, E47_15, E47_18, E47_18n, E47_19, E47_21, E47_22, E47_25, E47_27, E47_29, E47_30, E47_31, E47_35, E47_36, E47_39, E47_41, E47_42, E47_45, E47_45n, E47_46, E47_48, E47_49, E47_52, E47_54, E47_57, E47_60, E47_65, E47_68, E47_68n, E47_69, E47_71, E47_73, E47_76, E47_79, E47_81, E47_82, E47_85, E47_85n, E47_86, E47_88, E47_90, E47_93, E47_96, E47_98, E47_98n, E47_99, E47_101, E47_102, E47_105, E47_106, E47_107, E47_109, E47_111, E47_114, E47_117, E47_118, E47_121, E47_122, E47_124, E47_125, E47_126, E47_129, E47_130, E47_132, E47_133, E47_136, E47_138, E47_140, E47_143, E47_144, E47_147, E47_148, E47_149, E47_150, E47_151, E47_154, E47_155, E47_156, E47_157, rfs, rfn, cs0, csi, csl, csr, csn, kti, ktl, ktr, ktn, ktv, ktf, true_and, and_true, and_self, ↓reduceIte, Nat.reduceAdd, Nat.reduceSub, Nat.reduceMul, Nat.reduceLT, Nat.reduceLeDiff, Nat.reduceEqDiff, true_or, or_true, false_or, or_false, not_true_eq_false, not_false_eq_true, reduceCtorEq, cmp_lt, cmp_gt, cmp_eq, Int32.reduceAdd, Int32.reduceSub, Int32.reduceMul, Int32.reduceLT, Int32.reduceToNatClampNeg, eq_self, ne_eq, Int64.reduceAdd, Int64.reduceSub, Int64.reduceMul, Int64.reduceLT, g2, g3, e1, e3, e4, ht, hn, sor]
theorem sp_lp {len : Nat} (hS : Pm S) (hR : Pr R) (ht : ok S t 10) (hn : S.2.2.2 t = 400) (hl : len ≤ 400) : ∀ (N f k : Nat) (y5 y6 y7 : Value) (I : mI), len - f ≤ N → k ≤ f → f ≤ len → Ev (d + 8) 47 5 [.ref 14, .ref t, .int (nI len), .int (nI k), .int (nI f), y5, y6, y7] [] S I L R Q = Q .null S (tkP (spL t len N f k I).1 (spL t len N f k I).2 (-1) len) L R := by
  have last : ∀ (f k : Nat) (y5 y6 y7 : Value) (I : mI), k ≤ len → Ev (d + 8) 47 143 [.ref 14, .ref t, .int (nI len), .int (nI k), .int (nI f), y5, y6, y7] [] S I L R Q = Q .null S (tkP I k (-1) len) L R := by
    intro f k y5 y6 y7 I hk
    have e3 : inb (nI k) 401 = True := inb_nI (by omega) (by decide)
    have e4 : (nI k).toNatClampNeg = k := nI_clamp (by omega)
    simp only [E47_0, E47_1, E47_2, E47_3, E47_7, E47_8, E47_11, E47_12, E47_15, E47_18, E47_18n, E47_19, E47_21, E47_22, E47_25, E47_27, E47_29, E47_30, E47_31, E47_35, E47_36, E47_39, E47_41, E47_42, E47_45, E47_45n, E47_46, E47_48, E47_49, E47_52, E47_54, E47_57, E47_60, E47_63, E47_65, E47_68, E47_68n, E47_69, E47_71, E47_73, E47_76, E47_79, E47_81, E47_82, E47_85, E47_85n, E47_86, E47_88, E47_90, E47_93, E47_96, E47_98, E47_98n, E47_99, E47_101, E47_102, E47_105, E47_106, E47_107, E47_109, E47_111, E47_114, E47_117, E47_118, E47_121, E47_122, E47_124, E47_125, E47_126, E47_129, E47_130, E47_132, E47_133, E47_136, E47_138, E47_140, E47_143, E47_144, E47_147, E47_148, E47_149, E47_150, E47_151, E47_154, E47_155, E47_156, E47_157, pk14 hS, pk15 hS, pl15 hS, pa15 hS, pi15 hS, pk16 hS, pl16 hS, pa16 hS, pi16 hS, pk17 hS, pl17 hS, pa17 hS, pi17 hS, pk18 hS, pl18 hS, pa18 hS, pi18 hS, pk19 hS, pl19 hS, pa19 hS, pi19 hS, pr14_0 hR, pr14_2 hR, pr14_3 hR, pr14_6 hR, pr14_7 hR, rfs, rfn, cs0, csi, csl, csr, csn, kti, ktl, ktr, ktn, ktv, ktf, true_and, and_true, and_self, ↓reduceIte, Nat.reduceAdd, Nat.reduceSub, Nat.reduceMul, Nat.reduceLT, Nat.reduceLeDiff, Nat.reduceEqDiff, true_or, or_true, false_or, or_false, not_true_eq_false, not_false_eq_true, reduceCtorEq, cmp_lt, cmp_gt, cmp_eq, Int32.reduceAdd, Int32.reduceSub, Int32.reduceMul, Int32.reduceLT, Int32.reduceToNatClampNeg, eq_self, ne_eq, Int64.reduceAdd, Int64.reduceSub, Int64.reduceMul, Int64.reduceLT, n1_0, bI_t, bI_f, Bool.false_eq_true, pt, e3, e4]
    rfl
  intro N
  induction N with
  | zero =>
    intro f k y5 y6 y7 I hN hk hf
    obtain rfl : f = len := by omega
    have g : (nI f < nI f) = False := eq_false (nI_nlt (Nat.le_refl f) (by omega))
    rw [E47_5]
    simp only [E47_0, E47_1, E47_2, E47_3, E47_7, E47_8, E47_11, E47_12, E47_15, E47_18, E47_18n, E47_19, E47_21, E47_22, E47_25, E47_27, E47_29, E47_30, E47_31, E47_35, E47_36, E47_39, E47_41, E47_42, E47_45, E47_45n, E47_46, E47_48, E47_49, E47_52, E47_54, E47_57, E47_60, E47_63, E47_65, E47_68, E47_68n, E47_69, E47_71, E47_73, E47_76, E47_79, E47_81, E47_82, E47_85, E47_85n, E47_86, E47_88, E47_90, E47_93, E47_96, E47_98, E47_98n, E47_99, E47_101, E47_102, E47_105, E47_106, E47_107, E47_109, E47_111, E47_114, E47_117, E47_118, E47_121, E47_122, E47_124, E47_125, E47_126, E47_129, E47_130, E47_132, E47_133, E47_136, E47_138, E47_140, E47_144, E47_147, E47_148, E47_149, E47_150, E47_151, E47_154, E47_155, E47_156, E47_157, rfs, rfn, cs0, csi, csl, csr, csn, kti, ktl, ktr, ktn, ktv, ktf, true_and, and_true, and_self, ↓reduceIte, Nat.reduceAdd, Nat.reduceSub, Nat.reduceMul, Nat.reduceLT, Nat.reduceLeDiff, Nat.reduceEqDiff, true_or, or_true, false_or, or_false, not_true_eq_false, not_false_eq_true, reduceCtorEq, cmp_lt, cmp_gt, cmp_eq, Int32.reduceAdd, Int32.reduceSub, Int32.reduceMul, Int32.reduceLT, Int32.reduceToNatClampNeg, eq_self, ne_eq, Int64.reduceAdd, Int64.reduceSub, Int64.reduceMul, Int64.reduceLT, g]
    exact last _ _ _ _ _ _ (by omega)
  | succ N ih =>
    intro f k y5 y6 y7 I hN hk hf
    rw [E47_5]
    unfold spL
    by_cases g : f < len
    · rw [if_pos g]
      have e1 : (nI f < nI len) = True := eq_true (nI_lt g (by omega))
      have e2 : (nI k < (400 : Int32)) = True := eq_true (nI_lt (a := k) (b := 400) (by omega) (by omega))
      have e3 : inb (nI f) 400 = True := inb_nI (by omega) (by decide)
      have e4 : (nI f).toNatClampNeg = f := nI_clamp (by omega)
      have e5 : inb (nI k) 401 = True := inb_nI (by omega) (by decide)
      have e6 : (nI k).toNatClampNeg = k := nI_clamp (by omega)
      have q := enF_le (I := I) (t := t) (s := soF (I t f)) (len - (f + 1)) (f + 1)
      have q1 : f + 1 ≤ tkE I t len f := q.1
      have q2 : tkE I t len f ≤ len := Nat.le_trans q.2 (by omega)
      have k1 := en_lp (d := d) (f := f) (k := k) (s := soF (I t f)) (y := y7) (I := I) (L := L) (Q := Q) hS hR ht hn hl (len - (f + 1)) (f + 1) (by omega)
      rw [show enF I t (soF (I t f)) (len - (f + 1)) (f + 1) = tkE I t len f from rfl] at k1
      have k2 : ∀ r, Ev (d + 8) 47 107 [.ref 14, .ref t, .int (nI len), .int (nI k), .int (nI f), .int (soF (I t f)), .int (nI (tkE I t len f)), y7] [.int r] S I L R Q = (if r = -132 then Q .null S (tkP (spL t len N (tkE I t len f) k I).1 (spL t len N (tkE I t len f) k I).2 (-1) len) L R else Q .null S (tkP (spL t len N (tkE I t len f) (k + 1) (tkP I k r f)).1 (spL t len N (tkE I t len f) (k + 1) (tkP I k r f)).2 (-1) len) L R) := by
        intro r
        by_cases g2 : r = -132
        · rw [if_pos g2]
          simp only [E47_0, E47_1, E47_2, E47_3, E47_7, E47_8, E47_11, E47_12, E47_15, E47_18, E47_18n, E47_19, E47_21, E47_22, E47_25, E47_27, E47_29, E47_30, E47_31, E47_35, E47_36, E47_39, E47_41, E47_42, E47_45, E47_45n, E47_46, E47_48, E47_49, E47_52, E47_54, E47_57, E47_60, E47_63, E47_65, E47_68, E47_68n, E47_69, E47_71, E47_73, E47_76, E47_79, E47_81, E47_82, E47_85, E47_85n, E47_86, E47_88, E47_90, E47_93, E47_96, E47_98, E47_98n, E47_99, E47_101, E47_102, E47_105, E47_106, E47_107, E47_109, E47_111, E47_114, E47_117, E47_118, E47_121, E47_122, E47_124, E47_125, E47_126, E47_129, E47_130, E47_132, E47_133, E47_136, E47_138, E47_140, E47_144, E47_147, E47_148, E47_149, E47_150, E47_151, E47_154, E47_155, E47_156, E47_157, pk14 hS, pk15 hS, pl15 hS, pa15 hS, pi15 hS, pk16 hS, pl16 hS, pa16 hS, pi16 hS, pk17 hS, pl17 hS, pa17 hS, pi17 hS, pk18 hS, pl18 hS, pa18 hS, pi18 hS, pk19 hS, pl19 hS, pa19 hS, pi19 hS, pr14_0 hR, pr14_2 hR, pr14_3 hR, pr14_6 hR, pr14_7 hR, rfs, rfn, cs0, csi, csl, csr, csn, kti, ktl, ktr, ktn, ktv, ktf, true_and, and_true, and_self, ↓reduceIte, Nat.reduceAdd, Nat.reduceSub, Nat.reduceMul, Nat.reduceLT, Nat.reduceLeDiff, Nat.reduceEqDiff, true_or, or_true, false_or, or_false, not_true_eq_false, not_false_eq_true, reduceCtorEq, cmp_lt, cmp_gt, cmp_eq, Int32.reduceAdd, Int32.reduceSub, Int32.reduceMul, Int32.reduceLT, Int32.reduceToNatClampNeg, eq_self, ne_eq, Int64.reduceAdd, Int64.reduceSub, Int64.reduceMul, Int64.reduceLT, n1_0, bI_t, bI_f, Bool.false_eq_true, pt, g2]
          exact ih _ _ _ _ _ _ (by omega) (by omega) q2
        · rw [if_neg g2]
          simp only [E47_0, E47_1, E47_2, E47_3, E47_7, E47_8, E47_11, E47_12, E47_15, E47_18, E47_18n, E47_19, E47_21, E47_22, E47_25, E47_27, E47_29, E47_30, E47_31, E47_35, E47_36, E47_39, E47_41, E47_42, E47_45, E47_45n, E47_46, E47_48, E47_49, E47_52, E47_54, E47_57, E47_60, E47_63, E47_65, E47_68, E47_68n, E47_69, E47_71, E47_73, E47_76, E47_79, E47_81, E47_82, E47_85, E47_85n, E47_86, E47_88, E47_90, E47_93, E47_96, E47_98, E47_98n, E47_99, E47_101, E47_102, E47_105, E47_106, E47_107, E47_109, E47_111, E47_114, E47_117, E47_118, E47_121, E47_122, E47_124, E47_125, E47_126, E47_129, E47_130, E47_132, E47_133, E47_136, E47_138, E47_140, E47_144, E47_147, E47_148, E47_149, E47_150, E47_151, E47_154, E47_155, E47_156, E47_157, pk14 hS, pk15 hS, pl15 hS, pa15 hS, pi15 hS, pk16 hS, pl16 hS, pa16 hS, pi16 hS, pk17 hS, pl17 hS, pa17 hS, pi17 hS, pk18 hS, pl18 hS, pa18 hS, pi18 hS, pk19 hS, pl19 hS, pa19 hS, pi19 hS, pr14_0 hR, pr14_2 hR, pr14_3 hR, pr14_6 hR, pr14_7 hR, rfs, rfn, cs0, csi, csl, csr, csn, kti, ktl, ktr, ktn, ktv, ktf, true_and, and_true, and_self, ↓reduceIte, Nat.reduceAdd, Nat.reduceSub, Nat.reduceMul, Nat.reduceLT, Nat.reduceLeDiff, Nat.reduceEqDiff, true_or, or_true, false_or, or_false, not_true_eq_false, not_false_eq_true, reduceCtorEq, cmp_lt, cmp_gt, cmp_eq, Int32.reduceAdd, Int32.reduceSub, Int32.reduceMul, Int32.reduceLT, Int32.reduceToNatClampNeg, eq_self, ne_eq, Int64.reduceAdd, Int64.reduceSub, Int64.reduceMul, Int64.reduceLT, n1_0, bI_t, bI_f, Bool.false_eq_true, pt, g2, e5, e6, nI_1]
          exact ih _ _ _ _ _ _ (by omega) (by omega) q2
      have k3 : Ev (d + 8) 47 63 [.ref 14, .ref t, .int (nI len), .int (nI k), .int (nI f), .int (soF (I t f)), .int (nI (tkE I t len f)), y7] [] S I L R Q = Ev (d + 8) 47 107 [.ref 14, .ref t, .int (nI len), .int (nI k), .int (nI f), .int (soF (I t f)), .int (nI (tkE I t len f)), y7] [.int (tkR I t len f)] S I L R Q := by
        unfold tkR rdF
        by_cases s0 : soF (I t f) = 0
        · simp only [E47_0, E47_1, E47_2, E47_3, E47_7, E47_8, E47_11, E47_12, E47_15, E47_18, E47_18n, E47_19, E47_21, E47_22, E47_25, E47_27, E47_29, E47_30, E47_31, E47_35, E47_36, E47_39, E47_41, E47_42, E47_45, E47_45n, E47_46, E47_48, E47_49, E47_52, E47_54, E47_57, E47_60, E47_63, E47_65, E47_68, E47_68n, E47_69, E47_71, E47_73, E47_76, E47_79, E47_81, E47_82, E47_85, E47_85n, E47_86, E47_88, E47_90, E47_93, E47_96, E47_98, E47_98n, E47_99, E47_101, E47_102, E47_105, E47_106, E47_109, E47_111, E47_114, E47_117, E47_118, E47_121, E47_122, E47_124, E47_125, E47_126, E47_129, E47_130, E47_132, E47_133, E47_136, E47_138, E47_140, E47_143, E47_144, E47_147, E47_148, E47_149, E47_150, E47_151, E47_154, E47_155, E47_156, E47_157, pk14 hS, pk15 hS, pl15 hS, pa15 hS, pi15 hS, pk16 hS, pl16 hS, pa16 hS, pi16 hS, pk17 hS, pl17 hS, pa17 hS, pi17 hS, pk18 hS, pl18 hS, pa18 hS, pi18 hS, pk19 hS, pl19 hS, pa19 hS, pi19 hS, pr14_0 hR, pr14_2 hR, pr14_3 hR, pr14_6 hR, pr14_7 hR, rfs, rfn, cs0, csi, csl, csr, csn, kti, ktl, ktr, ktn, ktv, ktf, true_and, and_true, and_self, ↓reduceIte, Nat.reduceAdd, Nat.reduceSub, Nat.reduceMul, Nat.reduceLT, Nat.reduceLeDiff, Nat.reduceEqDiff, true_or, or_true, false_or, or_false, not_true_eq_false, not_false_eq_true, reduceCtorEq, cmp_lt, cmp_gt, cmp_eq, Int32.reduceAdd, Int32.reduceSub, Int32.reduceMul, Int32.reduceLT, Int32.reduceToNatClampNeg, eq_self, ne_eq, Int64.reduceAdd, Int64.reduceSub, Int64.reduceMul, Int64.reduceLT, n1_0, bI_t, bI_f, Bool.false_eq_true, pt, s0, wdI ht hn (show tkE I t len f ≤ 400 by omega) (show f ≤ tkE I t len f by omega)]
        · by_cases s1 : soF (I t f) = 1
          · simp only [E47_0, E47_1, E47_2, E47_3, E47_7, E47_8, E47_11, E47_12, E47_15, E47_18, E47_18n, E47_19, E47_21, E47_22, E47_25, E47_27, E47_29, E47_30, E47_31, E47_35, E47_36, E47_39, E47_41, E47_42, E47_45, E47_45n, E47_46, E47_48, E47_49, E47_52, E47_54, E47_57, E47_60, E47_63, E47_65, E47_68, E47_68n, E47_69, E47_71, E47_73, E47_76, E47_79, E47_81, E47_82, E47_85, E47_85n, E47_86, E47_88, E47_90, E47_93, E47_96, E47_98, E47_98n, E47_99, E47_101, E47_102, E47_105, E47_106, E47_109, E47_111, E47_114, E47_117, E47_118, E47_121, E47_122, E47_124, E47_125, E47_126, E47_129, E47_130, E47_132, E47_133, E47_136, E47_138, E47_140, E47_143, E47_144, E47_147, E47_148, E47_149, E47_150, E47_151, E47_154, E47_155, E47_156, E47_157, pk14 hS, pk15 hS, pl15 hS, pa15 hS, pi15 hS, pk16 hS, pl16 hS, pa16 hS, pi16 hS, pk17 hS, pl17 hS, pa17 hS, pi17 hS, pk18 hS, pl18 hS, pa18 hS, pi18 hS, pk19 hS, pl19 hS, pa19 hS, pi19 hS, pr14_0 hR, pr14_2 hR, pr14_3 hR, pr14_6 hR, pr14_7 hR, rfs, rfn, cs0, csi, csl, csr, csn, kti, ktl, ktr, ktn, ktv, ktf, true_and, and_true, and_self, ↓reduceIte, Nat.reduceAdd, Nat.reduceSub, Nat.reduceMul, Nat.reduceLT, Nat.reduceLeDiff, Nat.reduceEqDiff, true_or, or_true, false_or, or_false, not_true_eq_false, not_false_eq_true, reduceCtorEq, cmp_lt, cmp_gt, cmp_eq, Int32.reduceAdd, Int32.reduceSub, Int32.reduceMul, Int32.reduceLT, Int32.reduceToNatClampNeg, eq_self, ne_eq, Int64.reduceAdd, Int64.reduceSub, Int64.reduceMul, Int64.reduceLT, n1_0, bI_t, bI_f, Bool.false_eq_true, pt, s1, num0 ht hn (show tkE I t len f ≤ 400 by omega) (show f ≤ tkE I t len f by omega)]
          · simp only [E47_0, E47_1, E47_2, E47_3, E47_7, E47_8, E47_11, E47_12, E47_15, E47_18, E47_18n, E47_19, E47_21, E47_22, E47_25, E47_27, E47_29, E47_30, E47_31, E47_35, E47_36, E47_39, E47_41, E47_42, E47_45, E47_45n, E47_46, E47_48, E47_49, E47_52, E47_54, E47_57, E47_60, E47_63, E47_65, E47_68, E47_68n, E47_69, E47_71, E47_73, E47_76, E47_79, E47_81, E47_82, E47_85, E47_85n, E47_86, E47_88, E47_90, E47_93, E47_96, E47_98, E47_98n, E47_99, E47_101, E47_102, E47_105, E47_106, E47_109, E47_111, E47_114, E47_117, E47_118, E47_121, E47_122, E47_124, E47_125, E47_126, E47_129, E47_130, E47_132, E47_133, E47_136, E47_138, E47_140, E47_143, E47_144, E47_147, E47_148, E47_149, E47_150, E47_151, E47_154, E47_155, E47_156, E47_157, pk14 hS, pk15 hS, pl15 hS, pa15 hS, pi15 hS, pk16 hS, pl16 hS, pa16 hS, pi16 hS, pk17 hS, pl17 hS, pa17 hS, pi17 hS, pk18 hS, pl18 hS, pa18 hS, pi18 hS, pk19 hS, pl19 hS, pa19 hS, pi19 hS, pr14_0 hR, pr14_2 hR, pr14_3 hR, pr14_6 hR, pr14_7 hR, rfs, rfn, cs0, csi, csl, csr, csn, kti, ktl, ktr, ktn, ktv, ktf, true_and, and_true, and_self, ↓reduceIte, Nat.reduceAdd, Nat.reduceSub, Nat.reduceMul, Nat.reduceLT, Nat.reduceLeDiff, Nat.reduceEqDiff, true_or, or_true, false_or, or_false, not_true_eq_false, not_false_eq_true, reduceCtorEq, cmp_lt, cmp_gt, cmp_eq, Int32.reduceAdd, Int32.reduceSub, Int32.reduceMul, Int32.reduceLT, Int32.reduceToNatClampNeg, eq_self, ne_eq, Int64.reduceAdd, Int64.reduceSub, Int64.reduceMul, Int64.reduceLT, n1_0, bI_t, bI_f, Bool.false_eq_true, pt, s0, s1, e3, e4, ht, hn]
      simp only [E47_0, E47_1, E47_2, E47_3, E47_7, E47_8, E47_11, E47_12, E47_15, E47_18, E47_18n, E47_19, E47_21, E47_22, E47_25, E47_27, E47_29, E47_30, E47_31, E47_35, E47_36, E47_39, E47_41, E47_42, E47_45, E47_45n, E47_46, E47_48, E47_49, E47_52, E47_54, E47_57, E47_60, E47_65, E47_68, E47_68n, E47_69, E47_71, E47_73, E47_76, E47_79, E47_81, E47_82, E47_85, E47_85n, E47_86, E47_88, E47_90, E47_93, E47_96, E47_98, E47_98n, E47_99, E47_101, E47_102, E47_105, E47_106, E47_109, E47_111, E47_114, E47_117, E47_118, E47_121, E47_122, E47_124, E47_125, E47_126, E47_129, E47_130, E47_132, E47_133, E47_136, E47_138, E47_140, E47_144, E47_147, E47_148, E47_149, E47_150, E47_151, E47_154, E47_155, E47_156, E47_157, pk14 hS, pk15 hS, pl15 hS, pa15 hS, pi15 hS, pk16 hS, pl16 hS, pa16 hS, pi16 hS, pk17 hS, pl17 hS, pa17 hS, pi17 hS, pk18 hS, pl18 hS, pa18 hS, pi18 hS, pk19 hS, pl19 hS, pa19 hS, pi19 hS, pr14_0 hR, pr14_2 hR, pr14_3 hR, pr14_6 hR, pr14_7 hR, rfs, rfn, cs0, csi, csl, csr, csn, kti, ktl, ktr, ktn, ktv, ktf, true_and, and_true, and_self, ↓reduceIte, Nat.reduceAdd, Nat.reduceSub, Nat.reduceMul, Nat.reduceLT, Nat.reduceLeDiff, Nat.reduceEqDiff, true_or, or_true, false_or, or_false, not_true_eq_false, not_false_eq_true, reduceCtorEq, cmp_lt, cmp_gt, cmp_eq, Int32.reduceAdd, Int32.reduceSub, Int32.reduceMul, Int32.reduceLT, Int32.reduceToNatClampNeg, eq_self, ne_eq, Int64.reduceAdd, Int64.reduceSub, Int64.reduceMul, Int64.reduceLT, n1_0, bI_t, bI_f, Bool.false_eq_true, pt, e1, e2, e3, e4, ht, hn, sor, nI_1]
      rw [k1, k3, k2]
      by_cases g2 : tkR I t len f = -132
      · rw [if_pos g2, if_pos g2]
      · rw [if_neg g2, if_neg g2]
    · rw [if_neg g]
      have e1 : (nI f < nI len) = False := eq_false (nI_nlt (by omega) (by omega))
      simp only [E47_0, E47_1, E47_2, E47_3, E47_7, E47_8, E47_11, E47_12, E47_15, E47_18, E47_18n, E47_19, E47_21, E47_22, E47_25, E47_27, E47_29, E47_30, E47_31, E47_35, E47_36, E47_39, E47_41, E47_42, E47_45, E47_45n, E47_46, E47_48, E47_49, E47_52, E47_54, E47_57, E47_60, E47_63, E47_65, E47_68, E47_68n, E47_69, E47_71, E47_73, E47_76, E47_79, E47_81, E47_82, E47_85, E47_85n, E47_86, E47_88, E47_90, E47_93, E47_96, E47_98, E47_98n, E47_99, E47_101, E47_102, E47_105, E47_106, E47_107, E47_109, E47_111, E47_114, E47_117, E47_118, E47_121, E47_122, E47_124, E47_125, E47_126, E47_129, E47_130, E47_132, E47_133, E47_136, E47_138, E47_140, E47_144, E47_147, E47_148, E47_149, E47_150, E47_151, E47_154, E47_155, E47_156, E47_157, pk14 hS, pk15 hS, pl15 hS, pa15 hS, pi15 hS, pk16 hS, pl16 hS, pa16 hS, pi16 hS, pk17 hS, pl17 hS, pa17 hS, pi17 hS, pk18 hS, pl18 hS, pa18 hS, pi18 hS, pk19 hS, pl19 hS, pa19 hS, pi19 hS, pr14_0 hR, pr14_2 hR, pr14_3 hR, pr14_6 hR, pr14_7 hR, rfs, rfn, cs0, csi, csl, csr, csn, kti, ktl, ktr, ktn, ktv, ktf, true_and, and_true, and_self, ↓reduceIte, Nat.reduceAdd, Nat.reduceSub, Nat.reduceMul, Nat.reduceLT, Nat.reduceLeDiff, Nat.reduceEqDiff, true_or, or_true, false_or, or_false, not_true_eq_false, not_false_eq_true, reduceCtorEq, cmp_lt, cmp_gt, cmp_eq, Int32.reduceAdd, Int32.reduceSub, Int32.reduceMul, Int32.reduceLT, Int32.reduceToNatClampNeg, eq_self, ne_eq, Int64.reduceAdd, Int64.reduceSub, Int64.reduceMul, Int64.reduceLT, n1_0, bI_t, bI_f, Bool.false_eq_true, pt, e1]
      exact last _ _ _ _ _ _ (by omega)
theorem spl {len : Nat} (hS : Pm S) (hR : Pr R) (ht : ok S t 10) (hn : S.2.2.2 t = 400) (hl : len ≤ 400) : EvM (d + 8) 47 [.ref 14, .ref t, .int (nI len)] S I L R Q = Q .null S (splF I t len) L R := by
  have k := sp_lp (d := d) (L := L) (Q := Q) hS hR ht hn hl len 0 0 nv nv nv I (by omega) (by omega) (by omega)
  rw [show nI 0 = 0 from rfl] at k
  simp only [M47, E47_0, E47_1, E47_2, E47_3, E47_7, E47_8, E47_11, E47_12, E47_15, E47_18, E47_18n, E47_19, E47_21, E47_22, E47_25, E47_27, E47_29, E47_30, E47_31, E47_35, E47_36, E47_39, E47_41, E47_42, E47_45, E47_45n, E47_46, E47_48, E47_49, E47_52, E47_54, E47_57, E47_60, E47_63, E47_65, E47_68, E47_68n, E47_69, E47_71, E47_73, E47_76, E47_79, E47_81, E47_82, E47_85, E47_85n, E47_86, E47_88, E47_90, E47_93, E47_96, E47_98, E47_98n, E47_99, E47_101, E47_102, E47_105, E47_106, E47_107, E47_109, E47_111, E47_114, E47_117, E47_118, E47_121, E47_122, E47_124, E47_125, E47_126, E47_129, E47_130, E47_132, E47_133, E47_136, E47_138, E47_140, E47_143, E47_144, E47_147, E47_148, E47_149, E47_150, E47_151, E47_154, E47_155, E47_156, E47_157, rfs, rfn, cs0, csi, csl, csr, csn, kti, ktl, ktr, ktn, ktv, ktf, true_and, and_true, and_self, ↓reduceIte, Nat.reduceAdd, Nat.reduceSub, Nat.reduceMul, Nat.reduceLT, Nat.reduceLeDiff, Nat.reduceEqDiff, true_or, or_true, false_or, or_false, not_true_eq_false, not_false_eq_true, reduceCtorEq, cmp_lt, cmp_gt, cmp_eq, Int32.reduceAdd, Int32.reduceSub, Int32.reduceMul, Int32.reduceLT, Int32.reduceToNatClampNeg, eq_self, ne_eq, Int64.reduceAdd, Int64.reduceSub, Int64.reduceMul, Int64.reduceLT]
  exact k
end RD
