/-! class Run: what stays; a STEP's code; one STEP; a RUN -/
def Gu (u : Nat) (I J : mI) : Prop := ∀ a, a < u ∨ u + 5 < a → J a = I a
theorem Gu.rf {u : Nat} {I : mI} : Gu u I I := fun _ _ => rfl
theorem Gu.tr {u : Nat} {I J K : mI} (h : Gu u I J) (g : Gu u J K) : Gu u I K := fun a q => (g a q).trans (h a q)
section GU
variable {u a k z : Nat} {I J : mI} {x c b s w : Int32} {t : Bool}
theorem Gu.pt (h : Gu u I J) (h1 : u ≤ a) (h2 : a ≤ u + 5) : Gu u I (put J a k x) := fun e q => (pt_n (by omega)).trans (h e q)
theorem Gu.ic (h : Gu u I J) (h1 : u ≤ a) (h2 : a ≤ u + 5) : Gu u I (inc J a k) := h.pt h1 h2
theorem Gu.dc (h : Gu u I J) (h1 : u ≤ a) (h2 : a ≤ u + 5) : Gu u I (dcr J a k) := h.pt h1 h2
theorem Gu.ob (h : Gu u I J) (h1 : u ≤ a) (h2 : a ≤ u + 5) : Gu u I (orb J a k c) := h.pt h1 h2
theorem Gu.use (h : Gu u I J) : Gu u I (useF J u c t) := by
  unfold useF
  split
  · exact (h.dc (by omega) (by omega)).ic (by omega) (by omega)
  · exact (h.ic (by omega) (by omega)).ob (by omega) (by omega)
theorem Gu.los (h : Gu u I J) : Gu u I (losF J u c) := by
  unfold losF
  split
  · exact (h.dc (by omega) (by omega)).ic (by omega) (by omega)
  · exact h
theorem Gu.sl (h : Gu u I J) : Gu u I (slF J u) := by
  unfold slF
  split
  · exact h
  · exact h.pt (by omega) (by omega)
theorem Gu.mv (h : Gu u I J) : Gu u I (mv1 J u c b) := ((h.dc (by omega) (by omega)).ic (by omega) (by omega)).ic (by omega) (by omega)
theorem Gu.mov (h : Gu u I J) : Gu u I (movF J u c b) := by
  unfold movF
  split
  · exact h.mv.ob (by omega) (by omega)
  · exact h.mv
theorem Gu.tB (h : Gu u I J) : Gu u I (stB J u c b) := by
  unfold stB
  split
  · exact h.sl.ic (by omega) (by omega)
  · exact h.sl.mov
theorem Gu.tA (h : Gu u I J) : Gu u I (stA J u c b) := by
  unfold stA
  repeat' split
  all_goals first | exact h.ic (by omega) (by omega) | exact h.tB
theorem Gu.str (h : Gu u I J) : Gu u I (strF J u c b) := by
  unfold strF
  repeat' split
  all_goals first | exact h.ic (by omega) (by omega) | exact h.use.tA | exact h.use
theorem Gu.sho (h : Gu u I J) : Gu u I (shoF J u c) := by
  unfold shoF
  repeat' split
  all_goals first | exact h.ic (by omega) (by omega) | exact h.use.ob (by omega) (by omega) | exact h.use
theorem Gu.pn1 (h : Gu u I J) : Gu u I (pu1 J u c) := by
  unfold pu1
  split
  · exact (h.ob (by omega) (by omega)).los
  · exact h
theorem Gu.pun (h : Gu u I J) : Gu u I (punF J u c) := by
  unfold punF
  repeat' split
  all_goals first | exact h.ic (by omega) (by omega) | exact (h.use.ic (by omega) (by omega)).pn1 | exact h.use
theorem Gu.wel (h : Gu u I J) : Gu u I (welF J u c s) := by
  unfold welF
  repeat' split
  all_goals first | exact h.ic (by omega) (by omega) | exact (h.use.ob (by omega) (by omega)).pt (by omega) (by omega) | exact h.use
theorem Gu.fir (h : Gu u I J) : Gu u I (firF J u z c) := by
  unfold firF
  repeat' split
  all_goals first | exact h | exact (((h.ic (by omega) (by omega)).pt (by omega) (by omega)).pt (by omega) (by omega)).los | exact h.ic (by omega) (by omega)
theorem Gu.pu (h : Gu u I J) : Gu u I (puF J u c) := by
  unfold puF
  split
  · exact (h.pt (by omega) (by omega)).pt (by omega) (by omega)
  · exact h
theorem Gu.po (h : Gu u I J) : Gu u I (poF J u) := by
  unfold poF
  split
  · exact h
  · exact h.pt (by omega) (by omega)
end GU
/-- one place of the code -/
def stF (I : mI) (u : Nat) (w : Int32) : mI := if w < -4 then (if w < -7 then puF (poF (poF I u) u) u (jnF w (poV (poF I u) u) (poV I u)) else puF (poF I u) u (if w = -7 then 1 - poV I u else cvF (poF I u) u w (poV I u))) else puF I u (pvF I u w)
theorem Gu.st {u : Nat} {I J : mI} {w : Int32} (h : Gu u I J) : Gu u I (stF J u w) := by
  unfold stF
  repeat' split
  all_goals first | exact h.po.po.pu | exact h.po.pu | exact h.pu
theorem Tp.st {I : mI} {u : Nat} {w : Int32} (h : Tp I u) : Tp (stF I u w) u := by
  unfold stF
  repeat' split
  all_goals first | exact h.po.po.pu | exact h.po.pu | exact h.pu
def wcF (I : mI) (k m : Nat) (i : Int32) : Int32 := if i < 0 then 0 else if i < nI m then I k i.toNatClampNeg else 0
def rkF (u k m : Nat) : Nat → Int32 → mI → mI
  | 0, _, I => I
  | n + 1, i, I => rkF u k m n (i + 1) (stF I u (wcF I k m i))
theorem Gu.rk {u k m : Nat} {I : mI} : ∀ (n : Nat) (i : Int32) (J : mI), Gu u I J → Gu u I (rkF u k m n i J)
  | 0, _, _, h => h
  | n + 1, _, _, h => Gu.rk n _ _ h.st
theorem Tp.rk {u k m : Nat} : ∀ (n : Nat) (i : Int32) (J : mI), Tp J u → Tp (rkF u k m n i J) u
  | 0, _, _, h => h
  | n + 1, _, _, h => Tp.rk n _ _ h.st
/-- a Recipe: its length n, its rows -/
def RecS (S : mS) (R : mR) (q n k1 k2 k3 m : Nat) : Prop := ok S q 5 ∧ (ok S k1 11 ∧ S.2.2.2 k1 = n ∧ R q 1 = some k1) ∧ (ok S k2 11 ∧ S.2.2.2 k2 = n + 1 ∧ R q 2 = some k2) ∧ (ok S k3 11 ∧ S.2.2.2 k3 = m ∧ R q 3 = some k3) ∧ n ≤ 16 ∧ m ≤ 416
section RE
variable {S : mS} {R : mR} {q n k1 k2 k3 m : Nat}
theorem qk0 (h : RecS S R q n k1 k2 k3 m) : ok S q 5 = True := eq_true h.1
theorem qi1 (h : RecS S R q n k1 k2 k3 m) : okI S k1 = True := eq_true ⟨h.2.1.1.1, Or.inl h.2.1.1.2⟩
theorem ql1 (h : RecS S R q n k1 k2 k3 m) : S.2.2.2 k1 = n := h.2.1.2.1
theorem qr1 (h : RecS S R q n k1 k2 k3 m) : R q 1 = some k1 := h.2.1.2.2
theorem qi2 (h : RecS S R q n k1 k2 k3 m) : okI S k2 = True := eq_true ⟨h.2.2.1.1.1, Or.inl h.2.2.1.1.2⟩
theorem qa2 (h : RecS S R q n k1 k2 k3 m) : okA S k2 = True := eq_true ⟨h.2.2.1.1.1, by rw [h.2.2.1.1.2]; decide⟩
theorem ql2 (h : RecS S R q n k1 k2 k3 m) : S.2.2.2 k2 = n + 1 := h.2.2.1.2.1
theorem qr2 (h : RecS S R q n k1 k2 k3 m) : R q 2 = some k2 := h.2.2.1.2.2
theorem qi3 (h : RecS S R q n k1 k2 k3 m) : okI S k3 = True := eq_true ⟨h.2.2.2.1.1.1, Or.inl h.2.2.2.1.1.2⟩
theorem qa3 (h : RecS S R q n k1 k2 k3 m) : okA S k3 = True := eq_true ⟨h.2.2.2.1.1.1, by rw [h.2.2.2.1.1.2]; decide⟩
theorem ql3 (h : RecS S R q n k1 k2 k3 m) : S.2.2.2 k3 = m := h.2.2.2.1.2.1
theorem qr3 (h : RecS S R q n k1 k2 k3 m) : R q 3 = some k3 := h.2.2.2.1.2.2
end RE
/-- an int that is no less than 0 and less than nI n -/
theorem inb_lt {i : Int32} {n : Nat} (hn : n < 2 ^ 31) (h0 : ¬ i < 0) (h1 : i < nI n) : inb i n = True := by
  have a : ¬ i.toInt < 0 := fun z => h0 (Int32.lt_iff_toInt_lt.mpr z)
  have b := Int32.lt_iff_toInt_lt.mp h1
  rw [nI_toInt hn] at b
  refine eq_true ⟨h0, ?_⟩
  show i.toInt.toNat < n
  omega
theorem i32_up {i e : Int32} (h : i < e) : (i + 1).toInt = i.toInt + 1 := by
  have b := Int32.lt_iff_toInt_lt.mp h
  have c := Int32.toInt_lt e
  have c2 := Int32.le_toInt i
  rw [Int32.toInt_add]
  show ((i.toInt + 1).bmod (2 ^ 32)) = _
  rw [Int.bmod_def]
  split <;> omega
section RUN
variable {d u z q n k1 k2 k3 m : Nat} {S : mS} {I : mI} {L : mL} {R : mR} {Q : mQ}
theorem rk_lp {s e : Int32} (h : RunS S R u) (hq : RecS S R q n k1 k2 k3 m) (hk : k2 < u ∨ u + 5 < k2) (hs : inb (s + 1) (n + 1) = True) : ∀ (N : Nat) (i : Int32) (x4 x5 : Value) (I : mI), (e.toInt - i.toInt).toNat = N → Tp I u → I k2 (s + 1).toNatClampNeg = e → Ev (d + 4) 87 28 [.ref u, .ref q, .int s, .int i, x4, x5] [] S I L R Q = Q .null S (rkF u k3 m N i I) L R := by
  intro N
  induction N with
  | zero =>
    intro i x4 x5 I hN ht he
    have g : (i < e) = False := eq_false (fun z => by
      have := Int32.lt_iff_toInt_lt.mp z
      omega)
    rw [E87_28]
    simp only [E87_0, E87_1, E87_2, E87_5, E87_6, E87_9, E87_10, E87_11, E87_12, E87_12n, E87_13, E87_16, E87_17, E87_20, E87_21, E87_21n, E87_22, E87_25, E87_26, E87_27, E87_29, E87_29n, E87_30, E87_33, E87_34, E87_35, E87_36, E87_37, E87_40, E87_41, E87_44, E87_45, E87_45n, E87_46, E87_49, E87_50, E87_53, E87_54, E87_57, E87_57n, E87_58, E87_61, E87_62, E87_63, E87_65, E87_67, E87_69, E87_72, E87_73, E87_74, E87_76, E87_79, E87_82, E87_85, E87_87, E87_89, E87_92, E87_93, E87_96, E87_98, E87_99, E87_101, E87_103, E87_106, E87_107, E87_109, E87_110, E87_113, E87_114, E87_116, E87_118, E87_121, E87_124, E87_127, E87_128, E87_131, E87_133, E87_134, E87_136, E87_137, E87_140, E87_142, E87_145, E87_148, E87_151, E87_154, rfs, rfn, cs0, csi, csl, csr, csn, kti, ktl, ktr, ktn, ktv, ktf, true_and, and_true, and_self, ↓reduceIte, Nat.reduceAdd, Nat.reduceSub, Nat.reduceMul, Nat.reduceLT, Nat.reduceLeDiff, Nat.reduceEqDiff, true_or, or_true, false_or, or_false, not_true_eq_false, not_false_eq_true, reduceCtorEq, cmp_lt, cmp_gt, cmp_eq, Int32.reduceAdd, Int32.reduceSub, Int32.reduceMul, Int32.reduceLT, Int32.reduceToNatClampNeg, eq_self, ne_eq, Int64.reduceAdd, Int64.reduceSub, Int64.reduceMul, Int64.reduceLT, qk0 hq, qi2 hq, ql2 hq, qr2 hq, hs, he, g]
    rfl
  | succ N ih =>
    intro i x4 x5 I hN ht he
    have lt : i < e := Int32.lt_iff_toInt_lt.mpr (by omega)
    have g : (i < e) = True := eq_true lt
    have up := i32_up lt
    have key : ∀ (w : Int32) (x5 : Value), Ev (d + 4) 87 65 [.ref u, .ref q, .int s, .int i, .int w, x5] [] S I L R Q = Q .null S (rkF u k3 m N (i + 1) (stF I u w)) L R := by
      intro w x5
      have rest : ∀ (K : mI) (y : Value), Gu u I K → Tp K u → Ev (d + 4) 87 148 [.ref u, .ref q, .int s, .int i, .int w, y] [] S K L R Q = Q .null S (rkF u k3 m N (i + 1) K) L R := by
        intro K y hg hT
        simp only [E87_148, E87_151, rfs, rfn, cs0, csi, csl, csr, csn, kti, ktl, ktr, ktn, ktv, ktf, true_and, and_true, and_self, ↓reduceIte, Nat.reduceAdd, Nat.reduceSub, Nat.reduceMul, Nat.reduceLT, Nat.reduceLeDiff, Nat.reduceEqDiff, true_or, or_true, false_or, or_false, not_true_eq_false, not_false_eq_true, reduceCtorEq, cmp_lt, cmp_gt, cmp_eq, Int32.reduceAdd, Int32.reduceSub, Int32.reduceMul, Int32.reduceLT, Int32.reduceToNatClampNeg, eq_self, ne_eq, Int64.reduceAdd, Int64.reduceSub, Int64.reduceMul, Int64.reduceLT]
        exact ih (i + 1) _ _ K (by rw [up]; omega) hT (by rw [hg k2 hk]; exact he)
      unfold stF
      by_cases g1 : w < -4
      · by_cases g2 : w < -7
        · simp only [E87_0, E87_1, E87_2, E87_5, E87_6, E87_9, E87_10, E87_11, E87_12, E87_12n, E87_13, E87_16, E87_17, E87_20, E87_21, E87_21n, E87_22, E87_25, E87_26, E87_27, E87_29, E87_29n, E87_30, E87_33, E87_34, E87_35, E87_36, E87_37, E87_40, E87_41, E87_44, E87_45, E87_45n, E87_46, E87_49, E87_50, E87_53, E87_54, E87_57, E87_57n, E87_58, E87_61, E87_62, E87_63, E87_65, E87_67, E87_69, E87_72, E87_73, E87_74, E87_76, E87_79, E87_82, E87_85, E87_87, E87_89, E87_92, E87_93, E87_96, E87_98, E87_99, E87_101, E87_103, E87_106, E87_107, E87_109, E87_110, E87_113, E87_114, E87_116, E87_118, E87_121, E87_124, E87_127, E87_128, E87_131, E87_133, E87_134, E87_136, E87_137, E87_140, E87_142, E87_145, E87_151, E87_154, ru0 h, ru1 h, ru2 h, ru3 h, ru4 h, ru5 h, ri1 h, ri2 h, ri3 h, ri4 h, ri5 h, rl1 h, rl2 h, rl3 h, rl4 h, rl5 h, ra1 h, ra2 h, ra3 h, ra4 h, ra5 h, rr1 h, rr2 h, rr3 h, rr4 h, rr5 h, rfs, rfn, cs0, csi, csl, csr, csn, kti, ktl, ktr, ktn, ktv, ktf, true_and, and_true, and_self, ↓reduceIte, Nat.reduceAdd, Nat.reduceSub, Nat.reduceMul, Nat.reduceLT, Nat.reduceLeDiff, Nat.reduceEqDiff, true_or, or_true, false_or, or_false, not_true_eq_false, not_false_eq_true, reduceCtorEq, cmp_lt, cmp_gt, cmp_eq, Int32.reduceAdd, Int32.reduceSub, Int32.reduceMul, Int32.reduceLT, Int32.reduceToNatClampNeg, eq_self, ne_eq, Int64.reduceAdd, Int64.reduceSub, Int64.reduceMul, Int64.reduceLT, g1, g2, pop h ht, pop h ht.po, joi, psh h ht.po.po]
          exact rest _ _ Gu.rf.po.po.pu ht.po.po.pu
        · by_cases g3 : w = -7
          · simp only [E87_0, E87_1, E87_2, E87_5, E87_6, E87_9, E87_10, E87_11, E87_12, E87_12n, E87_13, E87_16, E87_17, E87_20, E87_21, E87_21n, E87_22, E87_25, E87_26, E87_27, E87_29, E87_29n, E87_30, E87_33, E87_34, E87_35, E87_36, E87_37, E87_40, E87_41, E87_44, E87_45, E87_45n, E87_46, E87_49, E87_50, E87_53, E87_54, E87_57, E87_57n, E87_58, E87_61, E87_62, E87_63, E87_65, E87_67, E87_69, E87_72, E87_73, E87_74, E87_76, E87_79, E87_82, E87_85, E87_87, E87_89, E87_92, E87_93, E87_96, E87_98, E87_99, E87_101, E87_103, E87_106, E87_107, E87_109, E87_110, E87_113, E87_114, E87_116, E87_118, E87_121, E87_124, E87_127, E87_128, E87_131, E87_133, E87_134, E87_136, E87_137, E87_140, E87_142, E87_145, E87_151, E87_154, ru0 h, ru1 h, ru2 h, ru3 h, ru4 h, ru5 h, ri1 h, ri2 h, ri3 h, ri4 h, ri5 h, rl1 h, rl2 h, rl3 h, rl4 h, rl5 h, ra1 h, ra2 h, ra3 h, ra4 h, ra5 h, rr1 h, rr2 h, rr3 h, rr4 h, rr5 h, rfs, rfn, cs0, csi, csl, csr, csn, kti, ktl, ktr, ktn, ktv, ktf, true_and, and_true, and_self, ↓reduceIte, Nat.reduceAdd, Nat.reduceSub, Nat.reduceMul, Nat.reduceLT, Nat.reduceLeDiff, Nat.reduceEqDiff, true_or, or_true, false_or, or_false, not_true_eq_false, not_false_eq_true, reduceCtorEq, cmp_lt, cmp_gt, cmp_eq, Int32.reduceAdd, Int32.reduceSub, Int32.reduceMul, Int32.reduceLT, Int32.reduceToNatClampNeg, eq_self, ne_eq, Int64.reduceAdd, Int64.reduceSub, Int64.reduceMul, Int64.reduceLT, g1, g2, g3, pop h ht, psh h ht.po]
            exact g3 ▸ rest _ _ Gu.rf.po.pu ht.po.pu
          · simp only [E87_0, E87_1, E87_2, E87_5, E87_6, E87_9, E87_10, E87_11, E87_12, E87_12n, E87_13, E87_16, E87_17, E87_20, E87_21, E87_21n, E87_22, E87_25, E87_26, E87_27, E87_29, E87_29n, E87_30, E87_33, E87_34, E87_35, E87_36, E87_37, E87_40, E87_41, E87_44, E87_45, E87_45n, E87_46, E87_49, E87_50, E87_53, E87_54, E87_57, E87_57n, E87_58, E87_61, E87_62, E87_63, E87_65, E87_67, E87_69, E87_72, E87_73, E87_74, E87_76, E87_79, E87_82, E87_85, E87_87, E87_89, E87_92, E87_93, E87_96, E87_98, E87_99, E87_101, E87_103, E87_106, E87_107, E87_109, E87_110, E87_113, E87_114, E87_116, E87_118, E87_121, E87_124, E87_127, E87_128, E87_131, E87_133, E87_134, E87_136, E87_137, E87_140, E87_142, E87_145, E87_151, E87_154, ru0 h, ru1 h, ru2 h, ru3 h, ru4 h, ru5 h, ri1 h, ri2 h, ri3 h, ri4 h, ri5 h, rl1 h, rl2 h, rl3 h, rl4 h, rl5 h, ra1 h, ra2 h, ra3 h, ra4 h, ra5 h, rr1 h, rr2 h, rr3 h, rr4 h, rr5 h, rfs, rfn, cs0, csi, csl, csr, csn, kti, ktl, ktr, ktn, ktv, ktf, true_and, and_true, and_self, ↓reduceIte, Nat.reduceAdd, Nat.reduceSub, Nat.reduceMul, Nat.reduceLT, Nat.reduceLeDiff, Nat.reduceEqDiff, true_or, or_true, false_or, or_false, not_true_eq_false, not_false_eq_true, reduceCtorEq, cmp_lt, cmp_gt, cmp_eq, Int32.reduceAdd, Int32.reduceSub, Int32.reduceMul, Int32.reduceLT, Int32.reduceToNatClampNeg, eq_self, ne_eq, Int64.reduceAdd, Int64.reduceSub, Int64.reduceMul, Int64.reduceLT, g1, g2, g3, pop h ht, cev h, psh h ht.po]
            exact rest _ _ Gu.rf.po.pu ht.po.pu
      · simp only [E87_0, E87_1, E87_2, E87_5, E87_6, E87_9, E87_10, E87_11, E87_12, E87_12n, E87_13, E87_16, E87_17, E87_20, E87_21, E87_21n, E87_22, E87_25, E87_26, E87_27, E87_29, E87_29n, E87_30, E87_33, E87_34, E87_35, E87_36, E87_37, E87_40, E87_41, E87_44, E87_45, E87_45n, E87_46, E87_49, E87_50, E87_53, E87_54, E87_57, E87_57n, E87_58, E87_61, E87_62, E87_63, E87_65, E87_67, E87_69, E87_72, E87_73, E87_74, E87_76, E87_79, E87_82, E87_85, E87_87, E87_89, E87_92, E87_93, E87_96, E87_98, E87_99, E87_101, E87_103, E87_106, E87_107, E87_109, E87_110, E87_113, E87_114, E87_116, E87_118, E87_121, E87_124, E87_127, E87_128, E87_131, E87_133, E87_134, E87_136, E87_137, E87_140, E87_142, E87_145, E87_151, E87_154, ru0 h, ru1 h, ru2 h, ru3 h, ru4 h, ru5 h, ri1 h, ri2 h, ri3 h, ri4 h, ri5 h, rl1 h, rl2 h, rl3 h, rl4 h, rl5 h, ra1 h, ra2 h, ra3 h, ra4 h, ra5 h, rr1 h, rr2 h, rr3 h, rr4 h, rr5 h, rfs, rfn, cs0, csi, csl, csr, csn, kti, ktl, ktr, ktn, ktv, ktf, true_and, and_true, and_self, ↓reduceIte, Nat.reduceAdd, Nat.reduceSub, Nat.reduceMul, Nat.reduceLT, Nat.reduceLeDiff, Nat.reduceEqDiff, true_or, or_true, false_or, or_false, not_true_eq_false, not_false_eq_true, reduceCtorEq, cmp_lt, cmp_gt, cmp_eq, Int32.reduceAdd, Int32.reduceSub, Int32.reduceMul, Int32.reduceLT, Int32.reduceToNatClampNeg, eq_self, ne_eq, Int64.reduceAdd, Int64.reduceSub, Int64.reduceMul, Int64.reduceLT, g1, pav h, psh h ht]
        exact rest _ _ Gu.rf.pu ht.pu
    have e2 : rkF u k3 m (N + 1) i I = rkF u k3 m N (i + 1) (stF I u (wcF I k3 m i)) := rfl
    rw [E87_28, e2, ← key _ x5]
    unfold wcF
    by_cases c1 : i < 0
    · simp only [E87_0, E87_1, E87_2, E87_5, E87_6, E87_9, E87_10, E87_11, E87_12, E87_12n, E87_13, E87_16, E87_17, E87_20, E87_21, E87_21n, E87_22, E87_25, E87_26, E87_27, E87_29, E87_29n, E87_30, E87_33, E87_34, E87_35, E87_36, E87_37, E87_40, E87_41, E87_44, E87_45, E87_45n, E87_46, E87_49, E87_50, E87_53, E87_54, E87_57, E87_57n, E87_58, E87_61, E87_62, E87_63, E87_67, E87_69, E87_72, E87_73, E87_74, E87_76, E87_79, E87_82, E87_87, E87_89, E87_92, E87_93, E87_96, E87_98, E87_99, E87_101, E87_103, E87_106, E87_107, E87_109, E87_110, E87_113, E87_114, E87_116, E87_118, E87_121, E87_124, E87_127, E87_128, E87_131, E87_133, E87_134, E87_136, E87_137, E87_140, E87_142, E87_145, E87_148, E87_151, E87_154, rfs, rfn, cs0, csi, csl, csr, csn, kti, ktl, ktr, ktn, ktv, ktf, true_and, and_true, and_self, ↓reduceIte, Nat.reduceAdd, Nat.reduceSub, Nat.reduceMul, Nat.reduceLT, Nat.reduceLeDiff, Nat.reduceEqDiff, true_or, or_true, false_or, or_false, not_true_eq_false, not_false_eq_true, reduceCtorEq, cmp_lt, cmp_gt, cmp_eq, Int32.reduceAdd, Int32.reduceSub, Int32.reduceMul, Int32.reduceLT, Int32.reduceToNatClampNeg, eq_self, ne_eq, Int64.reduceAdd, Int64.reduceSub, Int64.reduceMul, Int64.reduceLT, qk0 hq, qi2 hq, ql2 hq, qr2 hq, hs, he, g, c1]
    · by_cases c2 : i < nI m
      · have i3 := inb_lt (Nat.lt_of_le_of_lt hq.2.2.2.2.2 (by decide)) c1 c2
        simp only [E87_0, E87_1, E87_2, E87_5, E87_6, E87_9, E87_10, E87_11, E87_12, E87_12n, E87_13, E87_16, E87_17, E87_20, E87_21, E87_21n, E87_22, E87_25, E87_26, E87_27, E87_29, E87_29n, E87_30, E87_33, E87_34, E87_35, E87_36, E87_37, E87_40, E87_41, E87_44, E87_45, E87_45n, E87_46, E87_49, E87_50, E87_53, E87_54, E87_57, E87_57n, E87_58, E87_61, E87_62, E87_63, E87_67, E87_69, E87_72, E87_73, E87_74, E87_76, E87_79, E87_82, E87_87, E87_89, E87_92, E87_93, E87_96, E87_98, E87_99, E87_101, E87_103, E87_106, E87_107, E87_109, E87_110, E87_113, E87_114, E87_116, E87_118, E87_121, E87_124, E87_127, E87_128, E87_131, E87_133, E87_134, E87_136, E87_137, E87_140, E87_142, E87_145, E87_148, E87_151, E87_154, rfs, rfn, cs0, csi, csl, csr, csn, kti, ktl, ktr, ktn, ktv, ktf, true_and, and_true, and_self, ↓reduceIte, Nat.reduceAdd, Nat.reduceSub, Nat.reduceMul, Nat.reduceLT, Nat.reduceLeDiff, Nat.reduceEqDiff, true_or, or_true, false_or, or_false, not_true_eq_false, not_false_eq_true, reduceCtorEq, cmp_lt, cmp_gt, cmp_eq, Int32.reduceAdd, Int32.reduceSub, Int32.reduceMul, Int32.reduceLT, Int32.reduceToNatClampNeg, eq_self, ne_eq, Int64.reduceAdd, Int64.reduceSub, Int64.reduceMul, Int64.reduceLT, qk0 hq, qi2 hq, ql2 hq, qr2 hq, hs, he, g, c1, c2, i3, qi3 hq, qa3 hq, ql3 hq, qr3 hq]
      · simp only [E87_0, E87_1, E87_2, E87_5, E87_6, E87_9, E87_10, E87_11, E87_12, E87_12n, E87_13, E87_16, E87_17, E87_20, E87_21, E87_21n, E87_22, E87_25, E87_26, E87_27, E87_29, E87_29n, E87_30, E87_33, E87_34, E87_35, E87_36, E87_37, E87_40, E87_41, E87_44, E87_45, E87_45n, E87_46, E87_49, E87_50, E87_53, E87_54, E87_57, E87_57n, E87_58, E87_61, E87_62, E87_63, E87_67, E87_69, E87_72, E87_73, E87_74, E87_76, E87_79, E87_82, E87_87, E87_89, E87_92, E87_93, E87_96, E87_98, E87_99, E87_101, E87_103, E87_106, E87_107, E87_109, E87_110, E87_113, E87_114, E87_116, E87_118, E87_121, E87_124, E87_127, E87_128, E87_131, E87_133, E87_134, E87_136, E87_137, E87_140, E87_142, E87_145, E87_148, E87_151, E87_154, rfs, rfn, cs0, csi, csl, csr, csn, kti, ktl, ktr, ktn, ktv, ktf, true_and, and_true, and_self, ↓reduceIte, Nat.reduceAdd, Nat.reduceSub, Nat.reduceMul, Nat.reduceLT, Nat.reduceLeDiff, Nat.reduceEqDiff, true_or, or_true, false_or, or_false, not_true_eq_false, not_false_eq_true, reduceCtorEq, cmp_lt, cmp_gt, cmp_eq, Int32.reduceAdd, Int32.reduceSub, Int32.reduceMul, Int32.reduceLT, Int32.reduceToNatClampNeg, eq_self, ne_eq, Int64.reduceAdd, Int64.reduceSub, Int64.reduceMul, Int64.reduceLT, qk0 hq, qi2 hq, ql2 hq, qr2 hq, hs, he, g, c1, c2, qi3 hq, qa3 hq, ql3 hq, qr3 hq]
end RUN
/-- the code of STEP s -/
def reF (I : mI) (u k2 k3 m s : Nat) : mI := rkF u k3 m ((I k2 (s + 1)).toInt - (I k2 s).toInt).toNat (I k2 s) (put I u 8 0)
theorem Gu.re {u k2 k3 m s : Nat} {I J : mI} (h : Gu u I J) : Gu u I (reF J u k2 k3 m s) := Gu.rk _ _ _ (h.pt (by omega) (by omega))
theorem Tp.re {u k2 k3 m s : Nat} {J : mI} : Tp (reF J u k2 k3 m s) u := Tp.rk _ _ _ ⟨0, by omega, pt_s⟩
def paF (K : mI) (u z n k1 s : Nat) (at_ : Int32) : mI × Int32 := if K u 8 < 1 then (K, at_ + 1) else if K (u + 5) (K u 8 - 1).toNatClampNeg = 0 then (K, at_ + 1) else if K k1 s = 0 then (if firB K u z (K (u + 5) 0) = true then (firF K u z (K (u + 5) 0), at_ + 1) else (put (firF K u z (K (u + 5) 0)) (u + 2) 6 at_, nI n)) else if K k1 s = 1 then (strF K u (K (u + 5) 0) (K (u + 5) 1), at_ + 1) else if K k1 s = 2 then (shoF K u (K (u + 5) 0), at_ + 1) else if K k1 s = 3 then (punF K u (K (u + 5) 0), at_ + 1) else if K k1 s = 4 then (welF K u (K (u + 5) 0) (K (z + 3) 4), at_ + 1) else (K, K (u + 5) 0)
theorem Gu.pa {u z n k1 s : Nat} {I K : mI} {x : Int32} (h : Gu u I K) : Gu u I (paF K u z n k1 s x).1 := by
  unfold paF
  repeat' split
  all_goals first | exact h | exact h.fir | exact h.fir.pt (by omega) (by omega) | exact h.str | exact h.sho | exact h.pun | exact h.wel
def pasF (I : mI) (u z n k1 k2 k3 m : Nat) (s at_ : Int32) : mI × Int32 := if ¬ s < 0 ∧ s < nI n then paF (reF I u k2 k3 m s.toNatClampNeg) u z n k1 s.toNatClampNeg at_ else (I, nI n)
theorem Gu.pas {u z n k1 k2 k3 m : Nat} {I K : mI} {s x : Int32} (h : Gu u I K) : Gu u I (pasF K u z n k1 k2 k3 m s x).1 := by
  unfold pasF
  split
  · exact h.re.pa
  · exact h
theorem lt_nI {s : Int32} {n : Nat} (hn : n < 2 ^ 31) (h0 : ¬ s < 0) (h1 : s < nI n) : ∃ k, k < n ∧ s = nI k := by
  have a : ¬ s.toInt < 0 := fun z => h0 (Int32.lt_iff_toInt_lt.mpr z)
  have b := Int32.lt_iff_toInt_lt.mp h1
  rw [nI_toInt hn] at b
  exact ⟨s.toInt.toNat, by omega, ti_nI rfl (by omega) (by omega)⟩
section RUN
variable {d u z q n k1 k2 k3 m : Nat} {S : mS} {I : mI} {L : mL} {R : mR} {Q : mQ}
theorem rec {s : Nat} (h : RunS S R u) (hq : RecS S R q n k1 k2 k3 m) (hk : k2 < u ∨ u + 5 < k2) (hs : s < n) : EvM (d + 4) 87 [.ref u, .ref q, .int (nI s)] S I L R Q = Q .null S (reF I u k2 k3 m s) L R := by
  have hn : n ≤ 16 := hq.2.2.2.2.1
  have e1 : nI s + 1 = nI (s + 1) := nI_1 _
  have e2 : inb (nI (s + 1)) (n + 1) = True := inb_nI (by omega) (by omega)
  have e3 : (nI (s + 1)).toNatClampNeg = s + 1 := nI_clamp (by omega)
  have e4 : inb (nI s) (n + 1) = True := inb_nI (by omega) (by omega)
  have e5 : (nI s).toNatClampNeg = s := nI_clamp (by omega)
  have e6 : (nI s < 0) = False := eq_false (nI_pos (by omega))
  have e7 : (nI (s + 1) < nI (n + 1)) = True := eq_true (nI_lt (by omega) (by omega))
  have hk2 : ¬ k2 = u := by omega
  have k := rk_lp (d := d) (L := L) (Q := Q) (s := nI s) (e := I k2 (s + 1)) h hq hk (by rw [e1]; exact e2) _ (I k2 s) nv nv (put I u 8 0) rfl ⟨0, by omega, pt_s⟩ (by rw [e1, e3, pt_n hk2])
  simp only [M87, E87_0, E87_1, E87_2, E87_5, E87_6, E87_9, E87_10, E87_11, E87_12, E87_12n, E87_13, E87_16, E87_17, E87_20, E87_21, E87_21n, E87_22, E87_25, E87_26, E87_27, E87_29, E87_29n, E87_30, E87_33, E87_34, E87_35, E87_36, E87_37, E87_40, E87_41, E87_44, E87_45, E87_45n, E87_46, E87_49, E87_50, E87_53, E87_54, E87_57, E87_57n, E87_58, E87_61, E87_62, E87_63, E87_65, E87_67, E87_69, E87_72, E87_73, E87_74, E87_76, E87_79, E87_82, E87_85, E87_87, E87_89, E87_92, E87_93, E87_96, E87_98, E87_99, E87_101, E87_103, E87_106, E87_107, E87_109, E87_110, E87_113, E87_114, E87_116, E87_118, E87_121, E87_124, E87_127, E87_128, E87_131, E87_133, E87_134, E87_136, E87_137, E87_140, E87_142, E87_145, E87_148, E87_151, E87_154, ru0 h, ru1 h, ru2 h, ru3 h, ru4 h, ru5 h, ri1 h, ri2 h, ri3 h, ri4 h, ri5 h, rl1 h, rl2 h, rl3 h, rl4 h, rl5 h, ra1 h, ra2 h, ra3 h, ra4 h, ra5 h, rr1 h, rr2 h, rr3 h, rr4 h, rr5 h, rfs, rfn, cs0, csi, csl, csr, csn, kti, ktl, ktr, ktn, ktv, ktf, true_and, and_true, and_self, ↓reduceIte, Nat.reduceAdd, Nat.reduceSub, Nat.reduceMul, Nat.reduceLT, Nat.reduceLeDiff, Nat.reduceEqDiff, true_or, or_true, false_or, or_false, not_true_eq_false, not_false_eq_true, reduceCtorEq, cmp_lt, cmp_gt, cmp_eq, Int32.reduceAdd, Int32.reduceSub, Int32.reduceMul, Int32.reduceLT, Int32.reduceToNatClampNeg, eq_self, ne_eq, Int64.reduceAdd, Int64.reduceSub, Int64.reduceMul, Int64.reduceLT, ud0_1, ud0_2, ud0_3, ud0_4, ud0_5, ud1_0, ud1_2, ud1_3, ud1_4, ud1_5, ud2_0, ud2_1, ud2_3, ud2_4, ud2_5, ud3_0, ud3_1, ud3_2, ud3_4, ud3_5, ud4_0, ud4_1, ud4_2, ud4_3, ud4_5, ud5_0, ud5_1, ud5_2, ud5_3, ud5_4, ib0_14, ib1_14, ib2_14, ib3_14, ib4_14, ib5_14, ib6_14, ib7_14, ib8_14, ib9_14, ib10_14, ib11_14, ib12_14, ib13_14, ib0_64, ib1_64, pt, inc, dcr, orb, qk0 hq, qi2 hq, qa2 hq, ql2 hq, qr2 hq, e1, e4, e5, e6, e7, pt_n hk2]
  exact k
theorem sw75 (x : Int32) (g : ¬ x = 0 ∧ ¬ x = 1 ∧ ¬ x = 2 ∧ ¬ x = 3 ∧ ¬ x = 4) : (if x.toInt < 0 ∨ 0 + (([100, 124, 139, 148, 157] : List Int).length : Int) ≤ x.toInt then 172 else (([100, 124, 139, 148, 157] : List Int).getD (x.toInt - 0).toNat 0).toNat) = 172 := by
  obtain ⟨g0, g1, g2, g3, g4⟩ := g
  have z0 : ¬ x.toInt = 0 := fun e => g0 (i32e 0 e rfl)
  have z1 : ¬ x.toInt = 1 := fun e => g1 (i32e 1 e rfl)
  have z2 : ¬ x.toInt = 2 := fun e => g2 (i32e 2 e rfl)
  have z3 : ¬ x.toInt = 3 := fun e => g3 (i32e 3 e rfl)
  have z4 : ¬ x.toInt = 4 := fun e => g4 (i32e 4 e rfl)
  rw [if_pos]
  simp only [List.length_cons, List.length_nil]
  omega
theorem pas {s x : Int32} (h : RunS S R u) (hz : SmS S R z) (hq : RecS S R q n k1 k2 k3 m) (hk : k2 < u ∨ u + 5 < k2) (hqu : q < u ∨ u + 5 < q) (hn : I q 0 = nI n) : EvM (d + 5) 75 [.ref u, .ref z, .ref q, .int s, .int x] S I L R Q = Q (.int (pasF I u z n k1 k2 k3 m s x).2) S (pasF I u z n k1 k2 k3 m s x).1 L R := by
  have hn16 : n ≤ 16 := hq.2.2.2.2.1
  unfold pasF
  by_cases c1 : s < 0
  · simp only [M75, E75_0, E75_1, E75_4, E75_5, E75_5n, E75_6, E75_9, E75_12, E75_12n, E75_13, E75_16, E75_17, E75_18, E75_18n, E75_19, E75_20, E75_23, E75_24, E75_27, E75_28, E75_31, E75_32, E75_35, E75_36, E75_39, E75_40, E75_41, E75_42, E75_45, E75_47, E75_48, E75_49, E75_50, E75_51, E75_54, E75_55, E75_56, E75_58, E75_58n, E75_59, E75_62, E75_63, E75_64, E75_100, E75_101, E75_101n, E75_102, E75_104, E75_107, E75_110, E75_111, E75_114, E75_116, E75_118, E75_119, E75_119n, E75_120, E75_123, E75_124, E75_125, E75_127, E75_128, E75_131, E75_132, E75_133, E75_136, E75_139, E75_140, E75_142, E75_145, E75_148, E75_149, E75_151, E75_154, E75_157, E75_158, E75_160, E75_160n, E75_161, E75_164, E75_165, E75_166, E75_169, E75_172, E75_174, E75_175, E75_177, E75_178, E75_179, rfs, rfn, cs0, csi, csl, csr, csn, kti, ktl, ktr, ktn, ktv, ktf, true_and, and_true, and_self, ↓reduceIte, Nat.reduceAdd, Nat.reduceSub, Nat.reduceMul, Nat.reduceLT, Nat.reduceLeDiff, Nat.reduceEqDiff, true_or, or_true, false_or, or_false, not_true_eq_false, not_false_eq_true, reduceCtorEq, cmp_lt, cmp_gt, cmp_eq, Int32.reduceAdd, Int32.reduceSub, Int32.reduceMul, Int32.reduceLT, Int32.reduceToNatClampNeg, eq_self, ne_eq, Int64.reduceAdd, Int64.reduceSub, Int64.reduceMul, Int64.reduceLT, qk0 hq, c1, hn, false_and]
  by_cases c2 : s < nI n
  · obtain ⟨j, hj, rfl⟩ := lt_nI (by omega) c1 c2
    have e5 : (nI j).toNatClampNeg = j := nI_clamp (by omega)
    have e4 : inb (nI j) n = True := inb_nI (by omega) (by omega)
    rw [if_pos ⟨c1, c2⟩, e5]
    simp only [M75, E75_0, E75_1, E75_4, E75_5, E75_6, E75_9, E75_17, E75_18, E75_19, E75_20, rfs, rfn, cs0, csi, csl, csr, csn, kti, ktl, ktr, ktn, ktv, ktf, true_and, and_true, and_self, ↓reduceIte, Nat.reduceAdd, Nat.reduceSub, Nat.reduceMul, Nat.reduceLT, Nat.reduceLeDiff, Nat.reduceEqDiff, true_or, or_true, false_or, or_false, not_true_eq_false, not_false_eq_true, reduceCtorEq, cmp_lt, cmp_gt, cmp_eq, Int32.reduceAdd, Int32.reduceSub, Int32.reduceMul, Int32.reduceLT, Int32.reduceToNatClampNeg, eq_self, ne_eq, Int64.reduceAdd, Int64.reduceSub, Int64.reduceMul, Int64.reduceLT, ru0 h, ru1 h, ru2 h, ru3 h, ru4 h, ru5 h, ri1 h, ri2 h, ri3 h, ri4 h, ri5 h, rl1 h, rl2 h, rl3 h, rl4 h, rl5 h, ra1 h, ra2 h, ra3 h, ra4 h, ra5 h, rr1 h, rr2 h, rr3 h, rr4 h, rr5 h, qk0 hq, c1, c2, hn, rec h hq hk hj]
    have hT := Tp.re (u := u) (k2 := k2) (k3 := k3) (m := m) (s := j) (J := I)
    have hG := Gu.re (u := u) (k2 := k2) (k3 := k3) (m := m) (s := j) (Gu.rf (I := I))
    generalize reF I u k2 k3 m j = K at hT hG ⊢
    obtain ⟨t, h64, e8⟩ := hT
    have hn' : ∀ J, Gu u I J → J q 0 = nI n := fun J g => by rw [g q hqu]; exact hn
    unfold paF
    by_cases c3 : K u 8 < 1
    · simp only [E75_0, E75_1, E75_4, E75_5, E75_5n, E75_6, E75_9, E75_12, E75_12n, E75_13, E75_16, E75_17, E75_18, E75_18n, E75_19, E75_20, E75_23, E75_24, E75_27, E75_28, E75_31, E75_32, E75_35, E75_36, E75_39, E75_40, E75_41, E75_42, E75_45, E75_47, E75_48, E75_49, E75_50, E75_51, E75_54, E75_55, E75_56, E75_58, E75_58n, E75_59, E75_62, E75_63, E75_64, E75_100, E75_101, E75_101n, E75_102, E75_104, E75_107, E75_110, E75_111, E75_114, E75_116, E75_118, E75_119, E75_119n, E75_120, E75_123, E75_124, E75_125, E75_127, E75_128, E75_131, E75_132, E75_133, E75_136, E75_139, E75_140, E75_142, E75_145, E75_148, E75_149, E75_151, E75_154, E75_157, E75_158, E75_160, E75_160n, E75_161, E75_164, E75_165, E75_166, E75_169, E75_172, E75_174, E75_175, E75_177, E75_178, E75_179, rfs, rfn, cs0, csi, csl, csr, csn, kti, ktl, ktr, ktn, ktv, ktf, true_and, and_true, and_self, ↓reduceIte, Nat.reduceAdd, Nat.reduceSub, Nat.reduceMul, Nat.reduceLT, Nat.reduceLeDiff, Nat.reduceEqDiff, true_or, or_true, false_or, or_false, not_true_eq_false, not_false_eq_true, reduceCtorEq, cmp_lt, cmp_gt, cmp_eq, Int32.reduceAdd, Int32.reduceSub, Int32.reduceMul, Int32.reduceLT, Int32.reduceToNatClampNeg, eq_self, ne_eq, Int64.reduceAdd, Int64.reduceSub, Int64.reduceMul, Int64.reduceLT, ru0 h, ru1 h, ru2 h, ru3 h, ru4 h, ru5 h, ri1 h, ri2 h, ri3 h, ri4 h, ri5 h, rl1 h, rl2 h, rl3 h, rl4 h, rl5 h, ra1 h, ra2 h, ra3 h, ra4 h, ra5 h, rr1 h, rr2 h, rr3 h, rr4 h, rr5 h, c3]
    have i1 : inb (K u 8 - 1) 64 = True := by
      have lt : 1 ≤ t := by
        apply Classical.byContradiction
        intro q
        obtain rfl : t = 0 := by omega
        rw [e8] at c3
        exact c3 (by decide)
      rw [e8]
      obtain ⟨k, rfl⟩ : ∃ k, t = k + 1 := ⟨t - 1, by omega⟩
      rw [← nI_1, show nI k + 1 - 1 = nI k from Int32.add_sub_cancel _ _]
      exact inb_nI (by omega) (by decide)
    by_cases c4 : K (u + 5) (K u 8 - 1).toNatClampNeg = 0
    · simp only [E75_0, E75_1, E75_4, E75_5, E75_5n, E75_6, E75_9, E75_12, E75_12n, E75_13, E75_16, E75_17, E75_18, E75_18n, E75_19, E75_20, E75_23, E75_24, E75_27, E75_28, E75_31, E75_32, E75_35, E75_36, E75_39, E75_40, E75_41, E75_42, E75_45, E75_47, E75_48, E75_49, E75_50, E75_51, E75_54, E75_55, E75_56, E75_58, E75_58n, E75_59, E75_62, E75_63, E75_64, E75_100, E75_101, E75_101n, E75_102, E75_104, E75_107, E75_110, E75_111, E75_114, E75_116, E75_118, E75_119, E75_119n, E75_120, E75_123, E75_124, E75_125, E75_127, E75_128, E75_131, E75_132, E75_133, E75_136, E75_139, E75_140, E75_142, E75_145, E75_148, E75_149, E75_151, E75_154, E75_157, E75_158, E75_160, E75_160n, E75_161, E75_164, E75_165, E75_166, E75_169, E75_172, E75_174, E75_175, E75_177, E75_178, E75_179, rfs, rfn, cs0, csi, csl, csr, csn, kti, ktl, ktr, ktn, ktv, ktf, true_and, and_true, and_self, ↓reduceIte, Nat.reduceAdd, Nat.reduceSub, Nat.reduceMul, Nat.reduceLT, Nat.reduceLeDiff, Nat.reduceEqDiff, true_or, or_true, false_or, or_false, not_true_eq_false, not_false_eq_true, reduceCtorEq, cmp_lt, cmp_gt, cmp_eq, Int32.reduceAdd, Int32.reduceSub, Int32.reduceMul, Int32.reduceLT, Int32.reduceToNatClampNeg, eq_self, ne_eq, Int64.reduceAdd, Int64.reduceSub, Int64.reduceMul, Int64.reduceLT, ru0 h, ru1 h, ru2 h, ru3 h, ru4 h, ru5 h, ri1 h, ri2 h, ri3 h, ri4 h, ri5 h, rl1 h, rl2 h, rl3 h, rl4 h, rl5 h, ra1 h, ra2 h, ra3 h, ra4 h, ra5 h, rr1 h, rr2 h, rr3 h, rr4 h, rr5 h, c3, c4, i1]
    simp only [E75_23, E75_24, E75_27, E75_28, E75_31, E75_32, E75_35, E75_36, E75_39, E75_40, E75_41, E75_42, E75_50, E75_51, E75_54, E75_55, E75_56, E75_58, E75_59, E75_62, E75_63, rfs, rfn, cs0, csi, csl, csr, csn, kti, ktl, ktr, ktn, ktv, ktf, true_and, and_true, and_self, ↓reduceIte, Nat.reduceAdd, Nat.reduceSub, Nat.reduceMul, Nat.reduceLT, Nat.reduceLeDiff, Nat.reduceEqDiff, true_or, or_true, false_or, or_false, not_true_eq_false, not_false_eq_true, reduceCtorEq, cmp_lt, cmp_gt, cmp_eq, Int32.reduceAdd, Int32.reduceSub, Int32.reduceMul, Int32.reduceLT, Int32.reduceToNatClampNeg, eq_self, ne_eq, Int64.reduceAdd, Int64.reduceSub, Int64.reduceMul, Int64.reduceLT, ru0 h, ru1 h, ru2 h, ru3 h, ru4 h, ru5 h, ri1 h, ri2 h, ri3 h, ri4 h, ri5 h, rl1 h, rl2 h, rl3 h, rl4 h, rl5 h, ra1 h, ra2 h, ra3 h, ra4 h, ra5 h, rr1 h, rr2 h, rr3 h, rr4 h, rr5 h, c3, c4, i1, ib0_64, qk0 hq, qi1 hq, ql1 hq, qr1 hq, e4, e5]
    by_cases d0 : K k1 j = 0
    · rw [d0]
      cases f : firB K u z (K (u + 5) 0) with
      | true => simp only [E75_0, E75_1, E75_4, E75_5, E75_5n, E75_6, E75_9, E75_12, E75_12n, E75_13, E75_16, E75_17, E75_18, E75_18n, E75_19, E75_20, E75_23, E75_24, E75_27, E75_28, E75_31, E75_32, E75_35, E75_36, E75_39, E75_40, E75_41, E75_42, E75_45, E75_47, E75_48, E75_49, E75_50, E75_51, E75_54, E75_55, E75_56, E75_58, E75_58n, E75_59, E75_62, E75_63, E75_64, E75_100, E75_101, E75_101n, E75_102, E75_104, E75_107, E75_110, E75_111, E75_114, E75_116, E75_118, E75_119, E75_119n, E75_120, E75_123, E75_124, E75_125, E75_127, E75_128, E75_131, E75_132, E75_133, E75_136, E75_139, E75_140, E75_142, E75_145, E75_148, E75_149, E75_151, E75_154, E75_157, E75_158, E75_160, E75_160n, E75_161, E75_164, E75_165, E75_166, E75_169, E75_172, E75_174, E75_175, E75_177, E75_178, E75_179, rfs, rfn, cs0, csi, csl, csr, csn, kti, ktl, ktr, ktn, ktv, ktf, true_and, and_true, and_self, ↓reduceIte, Nat.reduceAdd, Nat.reduceSub, Nat.reduceMul, Nat.reduceLT, Nat.reduceLeDiff, Nat.reduceEqDiff, true_or, or_true, false_or, or_false, not_true_eq_false, not_false_eq_true, reduceCtorEq, cmp_lt, cmp_gt, cmp_eq, Int32.reduceAdd, Int32.reduceSub, Int32.reduceMul, Int32.reduceLT, Int32.reduceToNatClampNeg, eq_self, ne_eq, Int64.reduceAdd, Int64.reduceSub, Int64.reduceMul, Int64.reduceLT, ru0 h, ru1 h, ru2 h, ru3 h, ru4 h, ru5 h, ri1 h, ri2 h, ri3 h, ri4 h, ri5 h, rl1 h, rl2 h, rl3 h, rl4 h, rl5 h, ra1 h, ra2 h, ra3 h, ra4 h, ra5 h, rr1 h, rr2 h, rr3 h, rr4 h, rr5 h, fir h hz, f, bI_t, n1_0, show (if (0 : Int32).toInt < 0 ∨ 0 + (([100, 124, 139, 148, 157] : List Int).length : Int) ≤ (0 : Int32).toInt then 172 else (([100, 124, 139, 148, 157] : List Int).getD ((0 : Int32).toInt - 0).toNat 0).toNat) = 100 from by decide]
      | false => simp only [E75_0, E75_1, E75_4, E75_5, E75_5n, E75_6, E75_9, E75_12, E75_12n, E75_13, E75_16, E75_17, E75_18, E75_18n, E75_19, E75_20, E75_23, E75_24, E75_27, E75_28, E75_31, E75_32, E75_35, E75_36, E75_39, E75_40, E75_41, E75_42, E75_45, E75_47, E75_48, E75_49, E75_50, E75_51, E75_54, E75_55, E75_56, E75_58, E75_58n, E75_59, E75_62, E75_63, E75_64, E75_100, E75_101, E75_101n, E75_102, E75_104, E75_107, E75_110, E75_111, E75_114, E75_116, E75_118, E75_119, E75_119n, E75_120, E75_123, E75_124, E75_125, E75_127, E75_128, E75_131, E75_132, E75_133, E75_136, E75_139, E75_140, E75_142, E75_145, E75_148, E75_149, E75_151, E75_154, E75_157, E75_158, E75_160, E75_160n, E75_161, E75_164, E75_165, E75_166, E75_169, E75_172, E75_174, E75_175, E75_177, E75_178, E75_179, rfs, rfn, cs0, csi, csl, csr, csn, kti, ktl, ktr, ktn, ktv, ktf, true_and, and_true, and_self, ↓reduceIte, Nat.reduceAdd, Nat.reduceSub, Nat.reduceMul, Nat.reduceLT, Nat.reduceLeDiff, Nat.reduceEqDiff, true_or, or_true, false_or, or_false, not_true_eq_false, not_false_eq_true, reduceCtorEq, cmp_lt, cmp_gt, cmp_eq, Int32.reduceAdd, Int32.reduceSub, Int32.reduceMul, Int32.reduceLT, Int32.reduceToNatClampNeg, eq_self, ne_eq, Int64.reduceAdd, Int64.reduceSub, Int64.reduceMul, Int64.reduceLT, ru0 h, ru1 h, ru2 h, ru3 h, ru4 h, ru5 h, ri1 h, ri2 h, ri3 h, ri4 h, ri5 h, rl1 h, rl2 h, rl3 h, rl4 h, rl5 h, ra1 h, ra2 h, ra3 h, ra4 h, ra5 h, rr1 h, rr2 h, rr3 h, rr4 h, rr5 h, ud0_1, ud0_2, ud0_3, ud0_4, ud0_5, ud1_0, ud1_2, ud1_3, ud1_4, ud1_5, ud2_0, ud2_1, ud2_3, ud2_4, ud2_5, ud3_0, ud3_1, ud3_2, ud3_4, ud3_5, ud4_0, ud4_1, ud4_2, ud4_3, ud4_5, ud5_0, ud5_1, ud5_2, ud5_3, ud5_4, ib0_14, ib1_14, ib2_14, ib3_14, ib4_14, ib5_14, ib6_14, ib7_14, ib8_14, ib9_14, ib10_14, ib11_14, ib12_14, ib13_14, ib0_64, ib1_64, pt, inc, dcr, orb, fir h hz, f, bI_f, Bool.false_eq_true, qk0 hq, hn' _ (hG.fir.pt (a := u + 2) (by omega) (by omega)), show (if (0 : Int32).toInt < 0 ∨ 0 + (([100, 124, 139, 148, 157] : List Int).length : Int) ≤ (0 : Int32).toInt then 172 else (([100, 124, 139, 148, 157] : List Int).getD ((0 : Int32).toInt - 0).toNat 0).toNat) = 100 from by decide]
    by_cases d1 : K k1 j = 1
    · rw [d1]
      simp only [E75_0, E75_1, E75_4, E75_5, E75_5n, E75_6, E75_9, E75_12, E75_12n, E75_13, E75_16, E75_17, E75_18, E75_18n, E75_19, E75_20, E75_23, E75_24, E75_27, E75_28, E75_31, E75_32, E75_35, E75_36, E75_39, E75_40, E75_41, E75_42, E75_45, E75_47, E75_48, E75_49, E75_50, E75_51, E75_54, E75_55, E75_56, E75_58, E75_58n, E75_59, E75_62, E75_63, E75_64, E75_100, E75_101, E75_101n, E75_102, E75_104, E75_107, E75_110, E75_111, E75_114, E75_116, E75_118, E75_119, E75_119n, E75_120, E75_123, E75_124, E75_125, E75_127, E75_128, E75_131, E75_132, E75_133, E75_136, E75_139, E75_140, E75_142, E75_145, E75_148, E75_149, E75_151, E75_154, E75_157, E75_158, E75_160, E75_160n, E75_161, E75_164, E75_165, E75_166, E75_169, E75_172, E75_174, E75_175, E75_177, E75_178, E75_179, rfs, rfn, cs0, csi, csl, csr, csn, kti, ktl, ktr, ktn, ktv, ktf, true_and, and_true, and_self, ↓reduceIte, Nat.reduceAdd, Nat.reduceSub, Nat.reduceMul, Nat.reduceLT, Nat.reduceLeDiff, Nat.reduceEqDiff, true_or, or_true, false_or, or_false, not_true_eq_false, not_false_eq_true, reduceCtorEq, cmp_lt, cmp_gt, cmp_eq, Int32.reduceAdd, Int32.reduceSub, Int32.reduceMul, Int32.reduceLT, Int32.reduceToNatClampNeg, eq_self, ne_eq, Int64.reduceAdd, Int64.reduceSub, Int64.reduceMul, Int64.reduceLT, ru0 h, ru1 h, ru2 h, ru3 h, ru4 h, ru5 h, ri1 h, ri2 h, ri3 h, ri4 h, ri5 h, rl1 h, rl2 h, rl3 h, rl4 h, rl5 h, ra1 h, ra2 h, ra3 h, ra4 h, ra5 h, rr1 h, rr2 h, rr3 h, rr4 h, rr5 h, ib1_64, str h, n1_0, show (if (1 : Int32).toInt < 0 ∨ 0 + (([100, 124, 139, 148, 157] : List Int).length : Int) ≤ (1 : Int32).toInt then 172 else (([100, 124, 139, 148, 157] : List Int).getD ((1 : Int32).toInt - 0).toNat 0).toNat) = 124 from by decide]
    by_cases d2 : K k1 j = 2
    · rw [d2]
      simp only [E75_0, E75_1, E75_4, E75_5, E75_5n, E75_6, E75_9, E75_12, E75_12n, E75_13, E75_16, E75_17, E75_18, E75_18n, E75_19, E75_20, E75_23, E75_24, E75_27, E75_28, E75_31, E75_32, E75_35, E75_36, E75_39, E75_40, E75_41, E75_42, E75_45, E75_47, E75_48, E75_49, E75_50, E75_51, E75_54, E75_55, E75_56, E75_58, E75_58n, E75_59, E75_62, E75_63, E75_64, E75_100, E75_101, E75_101n, E75_102, E75_104, E75_107, E75_110, E75_111, E75_114, E75_116, E75_118, E75_119, E75_119n, E75_120, E75_123, E75_124, E75_125, E75_127, E75_128, E75_131, E75_132, E75_133, E75_136, E75_139, E75_140, E75_142, E75_145, E75_148, E75_149, E75_151, E75_154, E75_157, E75_158, E75_160, E75_160n, E75_161, E75_164, E75_165, E75_166, E75_169, E75_172, E75_174, E75_175, E75_177, E75_178, E75_179, rfs, rfn, cs0, csi, csl, csr, csn, kti, ktl, ktr, ktn, ktv, ktf, true_and, and_true, and_self, ↓reduceIte, Nat.reduceAdd, Nat.reduceSub, Nat.reduceMul, Nat.reduceLT, Nat.reduceLeDiff, Nat.reduceEqDiff, true_or, or_true, false_or, or_false, not_true_eq_false, not_false_eq_true, reduceCtorEq, cmp_lt, cmp_gt, cmp_eq, Int32.reduceAdd, Int32.reduceSub, Int32.reduceMul, Int32.reduceLT, Int32.reduceToNatClampNeg, eq_self, ne_eq, Int64.reduceAdd, Int64.reduceSub, Int64.reduceMul, Int64.reduceLT, ru0 h, ru1 h, ru2 h, ru3 h, ru4 h, ru5 h, ri1 h, ri2 h, ri3 h, ri4 h, ri5 h, rl1 h, rl2 h, rl3 h, rl4 h, rl5 h, ra1 h, ra2 h, ra3 h, ra4 h, ra5 h, rr1 h, rr2 h, rr3 h, rr4 h, rr5 h, sho h, ni2, ni3, ni4, ni5, ni6, ni7, ni8, ni12, ni14, ni16, ni17, ni60, ni64, ni160, ni400, ni401, ni416, ni8060, ni16120, ni59049, nn1, nn2, nn3, nn4, nn5, nn6, nem1_1022, ne1022_m1, nem1_20, ne20_m1, ne1022_0, nem1_m1000, nem1000_m1, cn2, cn4, cn6, cn8, cn14, cnm, nem2_m1, nem2_0, nem2_1, nem2_2, nem2_3, nem2_4, nem2_5, nem2_6, nem2_7, nem2_8, nem2_9, nem1_m2, nem1_0, nem1_1, nem1_2, nem1_3, nem1_4, nem1_5, nem1_6, nem1_7, nem1_8, nem1_9, ne0_m2, ne0_m1, ne0_1, ne0_2, ne0_3, ne0_4, ne0_5, ne0_6, ne0_7, ne0_8, ne0_9, ne1_m2, ne1_m1, ne1_0, ne1_2, ne1_3, ne1_4, ne1_5, ne1_6, ne1_7, ne1_8, ne1_9, ne2_m2, ne2_m1, ne2_0, ne2_1, ne2_3, ne2_4, ne2_5, ne2_6, ne2_7, ne2_8, ne2_9, ne3_m2, ne3_m1, ne3_0, ne3_1, ne3_2, ne3_4, ne3_5, ne3_6, ne3_7, ne3_8, ne3_9, ne4_m2, ne4_m1, ne4_0, ne4_1, ne4_2, ne4_3, ne4_5, ne4_6, ne4_7, ne4_8, ne4_9, ne5_m2, ne5_m1, ne5_0, ne5_1, ne5_2, ne5_3, ne5_4, ne5_6, ne5_7, ne5_8, ne5_9, ne6_m2, ne6_m1, ne6_0, ne6_1, ne6_2, ne6_3, ne6_4, ne6_5, ne6_7, ne6_8, ne6_9, ne7_m2, ne7_m1, ne7_0, ne7_1, ne7_2, ne7_3, ne7_4, ne7_5, ne7_6, ne7_8, ne7_9, ne8_m2, ne8_m1, ne8_0, ne8_1, ne8_2, ne8_3, ne8_4, ne8_5, ne8_6, ne8_7, ne8_9, ne9_m2, ne9_m1, ne9_0, ne9_1, ne9_2, ne9_3, ne9_4, ne9_5, ne9_6, ne9_7, ne9_8, show (if (2 : Int32).toInt < 0 ∨ 0 + (([100, 124, 139, 148, 157] : List Int).length : Int) ≤ (2 : Int32).toInt then 172 else (([100, 124, 139, 148, 157] : List Int).getD ((2 : Int32).toInt - 0).toNat 0).toNat) = 139 from by decide]
    by_cases d3 : K k1 j = 3
    · rw [d3]
      simp only [E75_0, E75_1, E75_4, E75_5, E75_5n, E75_6, E75_9, E75_12, E75_12n, E75_13, E75_16, E75_17, E75_18, E75_18n, E75_19, E75_20, E75_23, E75_24, E75_27, E75_28, E75_31, E75_32, E75_35, E75_36, E75_39, E75_40, E75_41, E75_42, E75_45, E75_47, E75_48, E75_49, E75_50, E75_51, E75_54, E75_55, E75_56, E75_58, E75_58n, E75_59, E75_62, E75_63, E75_64, E75_100, E75_101, E75_101n, E75_102, E75_104, E75_107, E75_110, E75_111, E75_114, E75_116, E75_118, E75_119, E75_119n, E75_120, E75_123, E75_124, E75_125, E75_127, E75_128, E75_131, E75_132, E75_133, E75_136, E75_139, E75_140, E75_142, E75_145, E75_148, E75_149, E75_151, E75_154, E75_157, E75_158, E75_160, E75_160n, E75_161, E75_164, E75_165, E75_166, E75_169, E75_172, E75_174, E75_175, E75_177, E75_178, E75_179, rfs, rfn, cs0, csi, csl, csr, csn, kti, ktl, ktr, ktn, ktv, ktf, true_and, and_true, and_self, ↓reduceIte, Nat.reduceAdd, Nat.reduceSub, Nat.reduceMul, Nat.reduceLT, Nat.reduceLeDiff, Nat.reduceEqDiff, true_or, or_true, false_or, or_false, not_true_eq_false, not_false_eq_true, reduceCtorEq, cmp_lt, cmp_gt, cmp_eq, Int32.reduceAdd, Int32.reduceSub, Int32.reduceMul, Int32.reduceLT, Int32.reduceToNatClampNeg, eq_self, ne_eq, Int64.reduceAdd, Int64.reduceSub, Int64.reduceMul, Int64.reduceLT, ru0 h, ru1 h, ru2 h, ru3 h, ru4 h, ru5 h, ri1 h, ri2 h, ri3 h, ri4 h, ri5 h, rl1 h, rl2 h, rl3 h, rl4 h, rl5 h, ra1 h, ra2 h, ra3 h, ra4 h, ra5 h, rr1 h, rr2 h, rr3 h, rr4 h, rr5 h, pun h, ni2, ni3, ni4, ni5, ni6, ni7, ni8, ni12, ni14, ni16, ni17, ni60, ni64, ni160, ni400, ni401, ni416, ni8060, ni16120, ni59049, nn1, nn2, nn3, nn4, nn5, nn6, nem1_1022, ne1022_m1, nem1_20, ne20_m1, ne1022_0, nem1_m1000, nem1000_m1, cn2, cn4, cn6, cn8, cn14, cnm, nem2_m1, nem2_0, nem2_1, nem2_2, nem2_3, nem2_4, nem2_5, nem2_6, nem2_7, nem2_8, nem2_9, nem1_m2, nem1_0, nem1_1, nem1_2, nem1_3, nem1_4, nem1_5, nem1_6, nem1_7, nem1_8, nem1_9, ne0_m2, ne0_m1, ne0_1, ne0_2, ne0_3, ne0_4, ne0_5, ne0_6, ne0_7, ne0_8, ne0_9, ne1_m2, ne1_m1, ne1_0, ne1_2, ne1_3, ne1_4, ne1_5, ne1_6, ne1_7, ne1_8, ne1_9, ne2_m2, ne2_m1, ne2_0, ne2_1, ne2_3, ne2_4, ne2_5, ne2_6, ne2_7, ne2_8, ne2_9, ne3_m2, ne3_m1, ne3_0, ne3_1, ne3_2, ne3_4, ne3_5, ne3_6, ne3_7, ne3_8, ne3_9, ne4_m2, ne4_m1, ne4_0, ne4_1, ne4_2, ne4_3, ne4_5, ne4_6, ne4_7, ne4_8, ne4_9, ne5_m2, ne5_m1, ne5_0, ne5_1, ne5_2, ne5_3, ne5_4, ne5_6, ne5_7, ne5_8, ne5_9, ne6_m2, ne6_m1, ne6_0, ne6_1, ne6_2, ne6_3, ne6_4, ne6_5, ne6_7, ne6_8, ne6_9, ne7_m2, ne7_m1, ne7_0, ne7_1, ne7_2, ne7_3, ne7_4, ne7_5, ne7_6, ne7_8, ne7_9, ne8_m2, ne8_m1, ne8_0, ne8_1, ne8_2, ne8_3, ne8_4, ne8_5, ne8_6, ne8_7, ne8_9, ne9_m2, ne9_m1, ne9_0, ne9_1, ne9_2, ne9_3, ne9_4, ne9_5, ne9_6, ne9_7, ne9_8, show (if (3 : Int32).toInt < 0 ∨ 0 + (([100, 124, 139, 148, 157] : List Int).length : Int) ≤ (3 : Int32).toInt then 172 else (([100, 124, 139, 148, 157] : List Int).getD ((3 : Int32).toInt - 0).toNat 0).toNat) = 148 from by decide]
    by_cases d4 : K k1 j = 4
    · rw [d4]
      simp only [E75_0, E75_1, E75_4, E75_5, E75_5n, E75_6, E75_9, E75_12, E75_12n, E75_13, E75_16, E75_17, E75_18, E75_18n, E75_19, E75_20, E75_23, E75_24, E75_27, E75_28, E75_31, E75_32, E75_35, E75_36, E75_39, E75_40, E75_41, E75_42, E75_45, E75_47, E75_48, E75_49, E75_50, E75_51, E75_54, E75_55, E75_56, E75_58, E75_58n, E75_59, E75_62, E75_63, E75_64, E75_100, E75_101, E75_101n, E75_102, E75_104, E75_107, E75_110, E75_111, E75_114, E75_116, E75_118, E75_119, E75_119n, E75_120, E75_123, E75_124, E75_125, E75_127, E75_128, E75_131, E75_132, E75_133, E75_136, E75_139, E75_140, E75_142, E75_145, E75_148, E75_149, E75_151, E75_154, E75_157, E75_158, E75_160, E75_160n, E75_161, E75_164, E75_165, E75_166, E75_169, E75_172, E75_174, E75_175, E75_177, E75_178, E75_179, rfs, rfn, cs0, csi, csl, csr, csn, kti, ktl, ktr, ktn, ktv, ktf, true_and, and_true, and_self, ↓reduceIte, Nat.reduceAdd, Nat.reduceSub, Nat.reduceMul, Nat.reduceLT, Nat.reduceLeDiff, Nat.reduceEqDiff, true_or, or_true, false_or, or_false, not_true_eq_false, not_false_eq_true, reduceCtorEq, cmp_lt, cmp_gt, cmp_eq, Int32.reduceAdd, Int32.reduceSub, Int32.reduceMul, Int32.reduceLT, Int32.reduceToNatClampNeg, eq_self, ne_eq, Int64.reduceAdd, Int64.reduceSub, Int64.reduceMul, Int64.reduceLT, ru0 h, ru1 h, ru2 h, ru3 h, ru4 h, ru5 h, ri1 h, ri2 h, ri3 h, ri4 h, ri5 h, rl1 h, rl2 h, rl3 h, rl4 h, rl5 h, ra1 h, ra2 h, ra3 h, ra4 h, ra5 h, rr1 h, rr2 h, rr3 h, rr4 h, rr5 h, wel h, ni2, ni3, ni4, ni5, ni6, ni7, ni8, ni12, ni14, ni16, ni17, ni60, ni64, ni160, ni400, ni401, ni416, ni8060, ni16120, ni59049, nn1, nn2, nn3, nn4, nn5, nn6, nem1_1022, ne1022_m1, nem1_20, ne20_m1, ne1022_0, nem1_m1000, nem1000_m1, cn2, cn4, cn6, cn8, cn14, cnm, nem2_m1, nem2_0, nem2_1, nem2_2, nem2_3, nem2_4, nem2_5, nem2_6, nem2_7, nem2_8, nem2_9, nem1_m2, nem1_0, nem1_1, nem1_2, nem1_3, nem1_4, nem1_5, nem1_6, nem1_7, nem1_8, nem1_9, ne0_m2, ne0_m1, ne0_1, ne0_2, ne0_3, ne0_4, ne0_5, ne0_6, ne0_7, ne0_8, ne0_9, ne1_m2, ne1_m1, ne1_0, ne1_2, ne1_3, ne1_4, ne1_5, ne1_6, ne1_7, ne1_8, ne1_9, ne2_m2, ne2_m1, ne2_0, ne2_1, ne2_3, ne2_4, ne2_5, ne2_6, ne2_7, ne2_8, ne2_9, ne3_m2, ne3_m1, ne3_0, ne3_1, ne3_2, ne3_4, ne3_5, ne3_6, ne3_7, ne3_8, ne3_9, ne4_m2, ne4_m1, ne4_0, ne4_1, ne4_2, ne4_3, ne4_5, ne4_6, ne4_7, ne4_8, ne4_9, ne5_m2, ne5_m1, ne5_0, ne5_1, ne5_2, ne5_3, ne5_4, ne5_6, ne5_7, ne5_8, ne5_9, ne6_m2, ne6_m1, ne6_0, ne6_1, ne6_2, ne6_3, ne6_4, ne6_5, ne6_7, ne6_8, ne6_9, ne7_m2, ne7_m1, ne7_0, ne7_1, ne7_2, ne7_3, ne7_4, ne7_5, ne7_6, ne7_8, ne7_9, ne8_m2, ne8_m1, ne8_0, ne8_1, ne8_2, ne8_3, ne8_4, ne8_5, ne8_6, ne8_7, ne8_9, ne9_m2, ne9_m1, ne9_0, ne9_1, ne9_2, ne9_3, ne9_4, ne9_5, ne9_6, ne9_7, ne9_8, sk0 hz, sk3 hz, sl3 hz, sr4 hz, si3 hz, ib4_5, show (if (4 : Int32).toInt < 0 ∨ 0 + (([100, 124, 139, 148, 157] : List Int).length : Int) ≤ (4 : Int32).toInt then 172 else (([100, 124, 139, 148, 157] : List Int).getD ((4 : Int32).toInt - 0).toNat 0).toNat) = 157 from by decide]
    rw [E75_64, sw75 _ ⟨d0, d1, d2, d3, d4⟩]
    simp only [E75_172, E75_174, rfs, rfn, cs0, csi, csl, csr, csn, kti, ktl, ktr, ktn, ktv, ktf, true_and, and_true, and_self, ↓reduceIte, Nat.reduceAdd, Nat.reduceSub, Nat.reduceMul, Nat.reduceLT, Nat.reduceLeDiff, Nat.reduceEqDiff, true_or, or_true, false_or, or_false, not_true_eq_false, not_false_eq_true, reduceCtorEq, cmp_lt, cmp_gt, cmp_eq, Int32.reduceAdd, Int32.reduceSub, Int32.reduceMul, Int32.reduceLT, Int32.reduceToNatClampNeg, eq_self, ne_eq, Int64.reduceAdd, Int64.reduceSub, Int64.reduceMul, Int64.reduceLT, d0, d1, d2, d3, d4]
  · simp only [M75, E75_0, E75_1, E75_4, E75_5, E75_5n, E75_6, E75_9, E75_12, E75_12n, E75_13, E75_16, E75_17, E75_18, E75_18n, E75_19, E75_20, E75_23, E75_24, E75_27, E75_28, E75_31, E75_32, E75_35, E75_36, E75_39, E75_40, E75_41, E75_42, E75_45, E75_47, E75_48, E75_49, E75_50, E75_51, E75_54, E75_55, E75_56, E75_58, E75_58n, E75_59, E75_62, E75_63, E75_64, E75_100, E75_101, E75_101n, E75_102, E75_104, E75_107, E75_110, E75_111, E75_114, E75_116, E75_118, E75_119, E75_119n, E75_120, E75_123, E75_124, E75_125, E75_127, E75_128, E75_131, E75_132, E75_133, E75_136, E75_139, E75_140, E75_142, E75_145, E75_148, E75_149, E75_151, E75_154, E75_157, E75_158, E75_160, E75_160n, E75_161, E75_164, E75_165, E75_166, E75_169, E75_172, E75_174, E75_175, E75_177, E75_178, E75_179, rfs, rfn, cs0, csi, csl, csr, csn, kti, ktl, ktr, ktn, ktv, ktf, true_and, and_true, and_self, ↓reduceIte, Nat.reduceAdd, Nat.reduceSub, Nat.reduceMul, Nat.reduceLT, Nat.reduceLeDiff, Nat.reduceEqDiff, true_or, or_true, false_or, or_false, not_true_eq_false, not_false_eq_true, reduceCtorEq, cmp_lt, cmp_gt, cmp_eq, Int32.reduceAdd, Int32.reduceSub, Int32.reduceMul, Int32.reduceLT, Int32.reduceToNatClampNeg, eq_self, ne_eq, Int64.reduceAdd, Int64.reduceSub, Int64.reduceMul, Int64.reduceLT, qk0 hq, c1, c2, hn, and_false]
end RUN
