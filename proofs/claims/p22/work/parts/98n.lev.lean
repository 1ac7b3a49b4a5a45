/-! the reference's findLevels without a target -/
theorem lb7 : ∀ t, t < 128 → ∀ h, h < 7 → ((nI t >>> (nI h &&& 31)) &&& 1 = 1 ↔ t.testBit h = true) := by decide +kernel
theorem lo7 : ∀ t, t < 128 → ∀ h, h < 7 → (nI t ||| ((1 : Int32) <<< (nI h &&& 31))) = nI (t ||| 2 ^ h) ∧ t ||| 2 ^ h < 128 := by decide +kernel
theorem lq7 : ∀ t, t < 128 → ∀ h, h < 7 → (nI t >>> (nI h &&& 31)) &&& 1 = nI (if t.testBit h = true then 1 else 0) := by decide +kernel
def LvP (I : mI) (lev : Nat → Nat) : Prop := ∀ v, v < 59049 → lev v < 128 ∧ I 73 v = nI (lev v)
def FrL (I I' : mI) : Prop := (∀ a, ¬ a = 54 → ¬ a = 73 → ¬ a = 77 → ¬ a = 78 → I' a = I a) ∧ (∀ k, ¬ k = 56 → ¬ k = 58 → I' 54 k = I 54 k)
theorem FrL.rf {I : mI} : FrL I I := ⟨fun _ _ _ _ _ => rfl, fun _ _ _ => rfl⟩
theorem FrL.tr {I I' I'' : mI} (h : FrL I I') (h2 : FrL I' I'') : FrL I I'' := ⟨fun a h1 h3 h4 h5 => (h2.1 a h1 h3 h4 h5).trans (h.1 a h1 h3 h4 h5), fun k h1 h3 => (h2.2 k h1 h3).trans (h.2 k h1 h3)⟩
theorem Fr.l {I I' : mI} (h : Fr I I') : FrL I I' := ⟨fun a h1 _ h3 h4 => h.1 a h1 h3 h4, h.2⟩
theorem RfI.l {I I' : mI} {c : Nat} {w : Nat → Nat} {nu : Int32} (h : RfI I c w nu) (f : FrL I I') : RfI I' c w nu := by
  unfold RfI
  rw [f.1 56 (by decide) (by decide) (by decide) (by decide), f.1 72 (by decide) (by decide) (by decide) (by decide)]
  exact h
theorem LvP.fr {I I' : mI} {lev : Nat → Nat} (h : LvP I lev) (f : Fr I I') : LvP I' lev := fun v hv => by
  rw [f.1 73 (by decide) (by decide) (by decide)]
  exact h v hv
section LV
variable {d c N B last h : Nat} {w : Nat → Nat} {nu f1 f3 : Int32} {S : mS} {L : mL} {R : mR} {Q : mQ}
theorem li_lp {v p st m : Nat} {s : Nat → Nat} (hS : Pm S) (hR : Pr R) (hN : N ≤ 59049) (hh : h + 1 < 7) : ∀ (q i : Nat) (I : mI) (lev : Nat → Nat), i + q = m → Sp I N st m s → LvP I lev → (∀ I' lev', LvP I' lev' → (∀ a, ¬ a = 73 → I' a = I a) → (∀ u k, (lev' u).testBit k = true ↔ (lev u).testBit k = true ∨ (k = h + 1 ∧ ∃ j, i ≤ j ∧ j < m ∧ s j = u)) → Ev (d + 5) 213 152 [.ref 54, .int f1, .int (nI B), .int f3, .int (nI last), .int (nI h), .int (nI v), .int (nI p), .int (nI m)] [] S I' L R Q) → Ev (d + 5) 213 116 [.ref 54, .int f1, .int (nI B), .int f3, .int (nI last), .int (nI h), .int (nI v), .int (nI p), .int (nI i)] [] S I L R Q := by
  intro q
  induction q with
  | zero =>
    intro i I lev h1 sp lp hq
    obtain rfl : i = m := by omega
    have hle := sp.le
    have e0 : (nI i < nI i) = False := eq_false (nI_nlt (Nat.le_refl i) (by omega))
    have i2 := sp.2.1
    rw [E213_116]
    simp only [E213_118, E213_119, E213_122, rfs, rfn, cs0, csi, csl, csr, csn, kti, ktl, ktr, ktn, ktv, ktf, true_and, and_true, and_self, ↓reduceIte, Nat.reduceAdd, Nat.reduceSub, Nat.reduceMul, Nat.reduceLT, Nat.reduceLeDiff, Nat.reduceEqDiff, true_or, or_true, false_or, or_false, not_true_eq_false, not_false_eq_true, reduceCtorEq, cmp_lt, cmp_gt, cmp_eq, Int32.reduceAdd, Int32.reduceSub, Int32.reduceMul, Int32.reduceLT, Int32.reduceToNatClampNeg, eq_self, ne_eq, Int64.reduceAdd, Int64.reduceSub, Int64.reduceMul, Int64.reduceLT, pk54 hS, i2, e0]
    refine hq I lev lp (fun _ _ => rfl) (fun u k => ⟨Or.inl, fun z => ?_⟩)
    rcases z with z | ⟨_, j, z1, z2, _⟩
    · exact z
    · omega
  | succ q ih =>
    intro i I lev h1 sp lp hq
    have hle := sp.le
    have e1 : (nI i < nI m) = True := eq_true (nI_lt (by omega) (by omega))
    have i2 := sp.2.1
    have i3 : inb (nI i) 59049 = True := inb_nI (by omega) (by decide)
    have i4 : (nI i).toNatClampNeg = i := nI_clamp (by omega)
    obtain ⟨s1, s2⟩ := sp.2.2.1 i (by omega)
    have s3 : inb (nI (s i)) 59049 = True := inb_nI (by omega) (by decide)
    have s4 : (nI (s i)).toNatClampNeg = s i := nI_clamp (by omega)
    obtain ⟨t1, t2⟩ := lp (s i) (by omega)
    obtain ⟨o1, o2⟩ := lo7 (lev (s i)) t1 (h + 1) hh
    rw [E213_116]
    simp only [E213_118, E213_119, E213_122, E213_125, E213_126, E213_129, E213_130, E213_133, E213_135, E213_136, E213_137, E213_138, E213_139, E213_141, E213_142, E213_143, E213_144, E213_145, E213_146, E213_149, rfs, rfn, cs0, csi, csl, csr, csn, kti, ktl, ktr, ktn, ktv, ktf, true_and, and_true, and_self, ↓reduceIte, Nat.reduceAdd, Nat.reduceSub, Nat.reduceMul, Nat.reduceLT, Nat.reduceLeDiff, Nat.reduceEqDiff, true_or, or_true, false_or, or_false, not_true_eq_false, not_false_eq_true, reduceCtorEq, cmp_lt, cmp_gt, cmp_eq, Int32.reduceAdd, Int32.reduceSub, Int32.reduceMul, Int32.reduceLT, Int32.reduceToNatClampNeg, eq_self, ne_eq, Int64.reduceAdd, Int64.reduceSub, Int64.reduceMul, Int64.reduceLT, pk54 hS, pk73 hS, pl73 hS, pa73 hS, pi73 hS, pk78 hS, pl78 hS, pa78 hS, pi78 hS, pr54_51 hR, pr54_57 hR, i2, e1, i3, i4, s2, s3, s4, t2, nI_1, o1]
    have ne : ∀ a, ¬ a = 73 → va_up I 73 (va_up (I 73) (s i) (nI (lev (s i) ||| 2 ^ (h + 1)))) a = I a := fun a ha => uu_n _ _ ha
    refine ih (i + 1) _ (va_up lev (s i) (lev (s i) ||| 2 ^ (h + 1))) (by omega) ?_ (fun u hu => ?_) (fun I' lev' z1 z2 z3 => hq I' lev' z1 (fun a ha => (z2 a ha).trans (ne a ha)) (fun u k => (z3 u k).trans ?_))
    · unfold Sp
      rw [ne 54 (by decide), ne 77 (by decide), ne 78 (by decide)]
      exact sp
    · rw [uu_s]
      by_cases z : u = s i
      · rw [z, uu_s, uu_s]
        exact ⟨o2, rfl⟩
      · rw [uu_n _ _ z, uu_n _ _ z]
        exact lp u hu
    · by_cases z : u = s i
      · rw [z, uu_s, Nat.testBit_or, Nat.testBit_two_pow, Bool.or_eq_true, decide_eq_true_iff]
        constructor
        · rintro ((y | y) | ⟨y, j, y1, y2, y3⟩)
          · exact Or.inl y
          · exact Or.inr ⟨y.symm, i, by omega, by omega, rfl⟩
          · exact Or.inr ⟨y, j, by omega, y2, y3⟩
        · rintro (y | ⟨y, _⟩)
          · exact Or.inl (Or.inl y)
          · exact Or.inl (Or.inr y.symm)
      · rw [uu_n _ _ z]
        constructor
        · rintro (y | ⟨y, j, y1, y2, y3⟩)
          · exact Or.inl y
          · exact Or.inr ⟨y, j, by omega, y2, y3⟩
        · rintro (y | ⟨y, j, y1, y2, y3⟩)
          · exact Or.inl y
          · refine Or.inr ⟨y, j, ?_, y2, y3⟩
            apply Classical.byContradiction
            intro x
            exact z (by rw [← y3]; congr 1; omega)
theorem lp_lp {v : Nat} (hS : Pm S) (hR : Pr R) (hN : N ≤ 59049) (hw : wOk w c) (hc : c ≤ 5) (hm : ∀ p, p < c → ∀ y u, y < N → mv w c p y u → u < N) (hB : B < 2 ^ 24) (hh : h + 1 < 7) (hv : v < 59049) : ∀ (q p : Nat) (I : mI) (lev : Nat → Nat) (st : Nat) (y8 : Value), p + q = c → st + q < 2 ^ 32 → ((lev v).testBit h = true → v < N) → RfI I c w nu → Rst I N st → LvP I lev → (∀ I' lev' st' y7 y8, RfI I' c w nu → Rst I' N st' → st' ≤ st + q → LvP I' lev' → FrL I I' → (∀ u k, (lev' u).testBit k = true ↔ (lev u).testBit k = true ∨ (k = h + 1 ∧ (lev v).testBit h = true ∧ ∃ p', p ≤ p' ∧ p' < c ∧ Xs (mv w c p') (hot w c nu p' v) B u)) → Ev (d + 5) 213 158 [.ref 54, .int f1, .int (nI B), .int f3, .int (nI last), .int (nI h), .int (nI v), y7, y8] [] S I' L R Q) → Ev (d + 5) 213 77 [.ref 54, .int f1, .int (nI B), .int f3, .int (nI last), .int (nI h), .int (nI v), .int (nI p), y8] [] S I L R Q := by
  have e30 : inb 0 8060 = True := inb_nI (j := 0) (by decide) (by decide)
  have z0 : Int32.toNatClampNeg 0 = 0 := rfl
  intro q
  induction q with
  | zero =>
    intro p I lev st y8 h1 h2 h3 hi hr lp hq
    obtain rfl : p = c := by omega
    have e0 : (nI p < nI p) = False := eq_false (nI_nlt (Nat.le_refl p) (by omega))
    have i0 := hi.1
    rw [E213_77]
    simp only [E213_79, E213_80, E213_83, E213_84, E213_85, rfs, rfn, cs0, csi, csl, csr, csn, kti, ktl, ktr, ktn, ktv, ktf, true_and, and_true, and_self, ↓reduceIte, Nat.reduceAdd, Nat.reduceSub, Nat.reduceMul, Nat.reduceLT, Nat.reduceLeDiff, Nat.reduceEqDiff, true_or, or_true, false_or, or_false, not_true_eq_false, not_false_eq_true, reduceCtorEq, cmp_lt, cmp_gt, cmp_eq, Int32.reduceAdd, Int32.reduceSub, Int32.reduceMul, Int32.reduceLT, Int32.reduceToNatClampNeg, eq_self, ne_eq, Int64.reduceAdd, Int64.reduceSub, Int64.reduceMul, Int64.reduceLT, pk54 hS, pk56 hS, pl56 hS, pa56 hS, pi56 hS, pr54_3 hR, e30, i0, e0]
    refine hq I lev st _ _ hi hr (by omega) lp FrL.rf (fun u k => ⟨Or.inl, fun z => ?_⟩)
    rcases z with z | ⟨_, _, p', z1, z2, _⟩
    · exact z
    · omega
  | succ q ih =>
    intro p I lev st y8 h1 h2 h3 hi hr lp hq
    have e1 : (nI p < nI c) = True := eq_true (nI_lt (by omega) (by omega))
    have i0 := hi.1
    have v3 : inb (nI v) 59049 = True := inb_nI hv (by decide)
    have v4 : (nI v).toNatClampNeg = v := nI_clamp (by omega)
    obtain ⟨t1, t2⟩ := lp v hv
    have bh := lb7 (lev v) t1 h (by omega)
    rw [E213_77]
    by_cases g : (lev v).testBit h = true
    · have bt := eq_true (bh.mpr g)
      simp only [E213_79, E213_80, E213_83, E213_84, E213_85, E213_88, E213_89, E213_92, E213_94, E213_95, E213_97, E213_98, E213_99, E213_100, E213_101, E213_104, E213_105, E213_107, E213_109, E213_110, rfs, rfn, cs0, csi, csl, csr, csn, kti, ktl, ktr, ktn, ktv, ktf, true_and, and_true, and_self, ↓reduceIte, Nat.reduceAdd, Nat.reduceSub, Nat.reduceMul, Nat.reduceLT, Nat.reduceLeDiff, Nat.reduceEqDiff, true_or, or_true, false_or, or_false, not_true_eq_false, not_false_eq_true, reduceCtorEq, cmp_lt, cmp_gt, cmp_eq, Int32.reduceAdd, Int32.reduceSub, Int32.reduceMul, Int32.reduceLT, Int32.reduceToNatClampNeg, eq_self, ne_eq, Int64.reduceAdd, Int64.reduceSub, Int64.reduceMul, Int64.reduceLT, pk54 hS, pk56 hS, pl56 hS, pa56 hS, pi56 hS, pk73 hS, pl73 hS, pa73 hS, pi73 hS, pr54_3 hR, pr54_51 hR, e30, i0, e1, v3, v4, t2, bt]
      refine fsA (d := d) (nu := nu) hS hR hN (by omega) hi hr hw hc (by omega) (h3 g) (hm p (by omega)) hB (fun I1 m s x1 x2 x3 => ?_)
      simp only [E213_113, E213_114, rfs, rfn, cs0, csi, csl, csr, csn, kti, ktl, ktr, ktn, ktv, ktf, true_and, and_true, and_self, ↓reduceIte, Nat.reduceAdd, Nat.reduceSub, Nat.reduceMul, Nat.reduceLT, Nat.reduceLeDiff, Nat.reduceEqDiff, true_or, or_true, false_or, or_false, not_true_eq_false, not_false_eq_true, reduceCtorEq, cmp_lt, cmp_gt, cmp_eq, Int32.reduceAdd, Int32.reduceSub, Int32.reduceMul, Int32.reduceLT, Int32.reduceToNatClampNeg, eq_self, ne_eq, Int64.reduceAdd, Int64.reduceSub, Int64.reduceMul, Int64.reduceLT]
      refine li_lp (d := d) hS hR hN hh m 0 I1 lev (by omega) x1 (lp.fr x3) (fun I2 lev2 y1 y2 y3 => ?_)
      simp only [E213_152, E213_155, rfs, rfn, cs0, csi, csl, csr, csn, kti, ktl, ktr, ktn, ktv, ktf, true_and, and_true, and_self, ↓reduceIte, Nat.reduceAdd, Nat.reduceSub, Nat.reduceMul, Nat.reduceLT, Nat.reduceLeDiff, Nat.reduceEqDiff, true_or, or_true, false_or, or_false, not_true_eq_false, not_false_eq_true, reduceCtorEq, cmp_lt, cmp_gt, cmp_eq, Int32.reduceAdd, Int32.reduceSub, Int32.reduceMul, Int32.reduceLT, Int32.reduceToNatClampNeg, eq_self, ne_eq, Int64.reduceAdd, Int64.reduceSub, Int64.reduceMul, Int64.reduceLT, nI_1]
      have fr2 : FrL I1 I2 := ⟨fun a z1 z2 z3 z4 => y2 a z2, fun k _ _ => by rw [y2 54 (by decide)]⟩
      have fr1 := x3.l.tr fr2
      refine ih (p + 1) I2 lev2 (st + 1) _ (by omega) (by omega) (fun z => h3 ?_) (hi.l fr1) ⟨?_, fun u hu => ?_⟩ y1 (fun I' lev' st' y7 y8 z1 z2 z3 z4 z5 z6 => hq I' lev' st' y7 y8 z1 z2 (by omega) z4 (fr1.tr z5) (fun u k => (z6 u k).trans ?_))
      · exact g
      · rw [y2 54 (by decide)]
        exact x1.1
      · rw [y2 77 (by decide)]
        exact x1.2.2.2.2.2 u hu
      · have g2 : (lev2 v).testBit h = true ↔ (lev v).testBit h = true := (y3 v h).trans ⟨fun z => z.resolve_right (fun z => by omega), Or.inl⟩
        rw [y3 u k, g2]
        have e : (∃ j, 0 ≤ j ∧ j < m ∧ s j = u) ↔ Xs (mv w c p) (hot w c nu p v) B u := (⟨fun ⟨j, _, z⟩ => ⟨j, z⟩, fun ⟨j, z⟩ => ⟨j, Nat.zero_le _, z⟩⟩ : (∃ j, 0 ≤ j ∧ j < m ∧ s j = u) ↔ ∃ j, j < m ∧ s j = u).trans (x2 u)
        rw [e]
        constructor
        · rintro ((z | ⟨z1, z2⟩) | ⟨z1, z2, p', z3, z4⟩)
          · exact Or.inl z
          · exact Or.inr ⟨z1, g, p, by omega, by omega, z2⟩
          · exact Or.inr ⟨z1, z2, p', by omega, z4⟩
        · rintro (z | ⟨z1, z2, p', z3, z4, z5⟩)
          · exact Or.inl (Or.inl z)
          · by_cases y : p' = p
            · rw [y] at z5
              exact Or.inl (Or.inr ⟨z1, z5⟩)
            · exact Or.inr ⟨z1, z2, p', by omega, z4, z5⟩
    · have bt := eq_false (fun z => g (bh.mp z))
      simp only [E213_79, E213_80, E213_83, E213_84, E213_85, E213_88, E213_89, E213_92, E213_94, E213_95, E213_97, E213_98, E213_99, E213_100, E213_101, rfs, rfn, cs0, csi, csl, csr, csn, kti, ktl, ktr, ktn, ktv, ktf, true_and, and_true, and_self, ↓reduceIte, Nat.reduceAdd, Nat.reduceSub, Nat.reduceMul, Nat.reduceLT, Nat.reduceLeDiff, Nat.reduceEqDiff, true_or, or_true, false_or, or_false, not_true_eq_false, not_false_eq_true, reduceCtorEq, cmp_lt, cmp_gt, cmp_eq, Int32.reduceAdd, Int32.reduceSub, Int32.reduceMul, Int32.reduceLT, Int32.reduceToNatClampNeg, eq_self, ne_eq, Int64.reduceAdd, Int64.reduceSub, Int64.reduceMul, Int64.reduceLT, pk54 hS, pk56 hS, pl56 hS, pa56 hS, pi56 hS, pk73 hS, pl73 hS, pa73 hS, pi73 hS, pr54_3 hR, pr54_51 hR, e30, i0, e1, v3, v4, t2, bt]
      refine hq I lev st _ _ hi hr (by omega) lp FrL.rf (fun u k => ⟨Or.inl, fun z => ?_⟩)
      rcases z with z | ⟨_, z, _⟩
      · exact z
      · exact absurd z g
theorem lv_lp (hS : Pm S) (hR : Pr R) (hN : N ≤ 59049) (hw : wOk w c) (hc : c ≤ 5) (hm : ∀ p, p < c → ∀ y u, y < N → mv w c p y u → u < N) (hB : B < 2 ^ 24) (hh : h + 1 < 7) : ∀ (q v : Nat) (I : mI) (lev : Nat → Nat) (st : Nat) (y7 y8 : Value), v + q = 59049 → st + 5 * q < 2 ^ 32 → (∀ v, (lev v).testBit h = true → v < N) → RfI I c w nu → Rst I N st → LvP I lev → (∀ I' lev' st' y6 y7 y8, RfI I' c w nu → Rst I' N st' → st' ≤ st + 5 * q → LvP I' lev' → FrL I I' → (∀ u k, (lev' u).testBit k = true ↔ (lev u).testBit k = true ∨ (k = h + 1 ∧ ∃ v', v ≤ v' ∧ v' < 59049 ∧ (lev v').testBit h = true ∧ ∃ p', p' < c ∧ Xs (mv w c p') (hot w c nu p' v') B u)) → Ev (d + 5) 213 164 [.ref 54, .int f1, .int (nI B), .int f3, .int (nI last), .int (nI h), y6, y7, y8] [] S I' L R Q) → Ev (d + 5) 213 67 [.ref 54, .int f1, .int (nI B), .int f3, .int (nI last), .int (nI h), .int (nI v), y7, y8] [] S I L R Q := by
  intro q
  induction q with
  | zero =>
    intro v I lev st y7 y8 h1 h2 h3 hi hr lp hq
    obtain rfl : v = 59049 := by omega
    have e0 : (nI 59049 < (59049 : Int32)) = False := eq_false (by decide)
    rw [E213_67]
    simp only [E213_69, E213_71, rfs, rfn, cs0, csi, csl, csr, csn, kti, ktl, ktr, ktn, ktv, ktf, true_and, and_true, and_self, ↓reduceIte, Nat.reduceAdd, Nat.reduceSub, Nat.reduceMul, Nat.reduceLT, Nat.reduceLeDiff, Nat.reduceEqDiff, true_or, or_true, false_or, or_false, not_true_eq_false, not_false_eq_true, reduceCtorEq, cmp_lt, cmp_gt, cmp_eq, Int32.reduceAdd, Int32.reduceSub, Int32.reduceMul, Int32.reduceLT, Int32.reduceToNatClampNeg, eq_self, ne_eq, Int64.reduceAdd, Int64.reduceSub, Int64.reduceMul, Int64.reduceLT, e0]
    refine hq I lev st _ _ _ hi hr (by omega) lp FrL.rf (fun u k => ⟨Or.inl, fun z => ?_⟩)
    rcases z with z | ⟨_, v', z1, z2, _⟩
    · exact z
    · omega
  | succ q ih =>
    intro v I lev st y7 y8 h1 h2 h3 hi hr lp hq
    have e1 : (nI v < (59049 : Int32)) = True := eq_true (nI_lt (b := 59049) (by omega) (by decide))
    rw [E213_67]
    simp only [E213_69, E213_71, E213_74, E213_75, rfs, rfn, cs0, csi, csl, csr, csn, kti, ktl, ktr, ktn, ktv, ktf, true_and, and_true, and_self, ↓reduceIte, Nat.reduceAdd, Nat.reduceSub, Nat.reduceMul, Nat.reduceLT, Nat.reduceLeDiff, Nat.reduceEqDiff, true_or, or_true, false_or, or_false, not_true_eq_false, not_false_eq_true, reduceCtorEq, cmp_lt, cmp_gt, cmp_eq, Int32.reduceAdd, Int32.reduceSub, Int32.reduceMul, Int32.reduceLT, Int32.reduceToNatClampNeg, eq_self, ne_eq, Int64.reduceAdd, Int64.reduceSub, Int64.reduceMul, Int64.reduceLT, e1]
    refine lp_lp (d := d) (nu := nu) hS hR hN hw hc hm hB hh (by omega) c 0 I lev st _ (by omega) (by omega) (h3 v) hi hr lp (fun I1 lev1 st1 z7 z8 x1 x2 x3 x4 x5 x6 => ?_)
    simp only [E213_158, E213_161, rfs, rfn, cs0, csi, csl, csr, csn, kti, ktl, ktr, ktn, ktv, ktf, true_and, and_true, and_self, ↓reduceIte, Nat.reduceAdd, Nat.reduceSub, Nat.reduceMul, Nat.reduceLT, Nat.reduceLeDiff, Nat.reduceEqDiff, true_or, or_true, false_or, or_false, not_true_eq_false, not_false_eq_true, reduceCtorEq, cmp_lt, cmp_gt, cmp_eq, Int32.reduceAdd, Int32.reduceSub, Int32.reduceMul, Int32.reduceLT, Int32.reduceToNatClampNeg, eq_self, ne_eq, Int64.reduceAdd, Int64.reduceSub, Int64.reduceMul, Int64.reduceLT, nI_1]
    have same : ∀ v', (lev1 v').testBit h = true ↔ (lev v').testBit h = true := fun v' => (x6 v' h).trans ⟨fun z => z.resolve_right (fun z => by omega), Or.inl⟩
    refine ih (v + 1) I1 lev1 st1 _ _ (by omega) (by omega) (fun v' z => h3 v' ((same v').mp z)) x1 x2 x4 (fun I' lev' st' y6 y7 y8 z1 z2 z3 z4 z5 z6 => hq I' lev' st' y6 y7 y8 z1 z2 (by omega) z4 (x5.tr z5) (fun u k => (z6 u k).trans ?_))
    rw [x6 u k]
    constructor
    · rintro ((z | ⟨z1, z2, p', _, z3⟩) | ⟨z1, v', z2, z3, z4, z5⟩)
      · exact Or.inl z
      · exact Or.inr ⟨z1, v, by omega, by omega, z2, p', z3⟩
      · exact Or.inr ⟨z1, v', by omega, z3, (same v').mp z4, z5⟩
    · rintro (z | ⟨z1, v', z2, z3, z4, p', z5⟩)
      · exact Or.inl (Or.inl z)
      · by_cases y : v' = v
        · rw [y] at z4 z5
          exact Or.inl (Or.inr ⟨z1, z4, p', by omega, z5⟩)
        · exact Or.inr ⟨z1, v', by omega, z3, (same v').mpr z4, p', z5⟩
/-- what findLevels leaves: hh levels stand; v its answer -/
def Flz (f3 : Int32) (c B r last : Nat) (w : Nat → Nat) (nu : Int32) (I : mI) (lev : Nat → Nat) (hh : Nat) (v : Int32) : Prop := LvP I lev ∧ (∀ u k, (lev u).testBit k = true ↔ k ≤ hh ∧ Lev w c nu B r k u) ∧ hh ≤ last ∧ ((v = -1 ∧ hh = last ∧ ∀ t, t < 59049 → f3 = nI t → ∀ k, k ≤ last → ¬ Lev w c nu B r k t) ∨ (v = nI hh ∧ ∃ t, t < 59049 ∧ f3 = nI t ∧ Lev w c nu B r hh t ∧ ∀ k, k < hh → ¬ Lev w c nu B r k t))
theorem lh_lp {r : Nat} (hS : Pm S) (hR : Pr R) (hw : wOk w c) (hc : c ≤ 5) (hm : ∀ p, p < c → ∀ y u, y < 59049 → mv w c p y u → u < 59049) (hB : B < 2 ^ 24) (hr0 : r < 59049) (hl : last < 7) (hf : f3 = -1 ∨ ∃ t, t < 59049 ∧ f3 = nI t) : ∀ (q h : Nat) (I : mI) (lev : Nat → Nat) (st : Nat) (y6 y7 y8 : Value), h + q = last → st + 295245 * q < 2 ^ 32 → (∀ u k, (lev u).testBit k = true ↔ k ≤ h ∧ Lev w c nu B r k u) → (∀ t, t < 59049 → f3 = nI t → ∀ k, k < h → ¬ Lev w c nu B r k t) → RfI I c w nu → Rst I 59049 st → LvP I lev → (∀ I' lev' st' hh v, Flz f3 c B r last w nu I' lev' hh v → Rst I' 59049 st' → st' ≤ st + 295245 * q → FrL I I' → Q (.int v) S I' L R) → Ev (d + 5) 213 34 [.ref 54, .int f1, .int (nI B), .int f3, .int (nI last), .int (nI h), y6, y7, y8] [] S I L R Q := by
  intro q
  induction q with
  | zero =>
    intro h I lev st y6 y7 y8 h1 h2 h3 hno hi hr lp hq
    obtain rfl : h = last := by omega
    have e0 : (nI h < nI h) = False := eq_false (nI_nlt (Nat.le_refl h) (by omega))
    rcases hf with rfl | ⟨t, ht, rfl⟩
    · simp only [E213_34, E213_36, E213_38, E213_170, E213_171, E213_172, E213_195, E213_196, rfs, rfn, cs0, csi, csl, csr, csn, kti, ktl, ktr, ktn, ktv, ktf, true_and, and_true, and_self, ↓reduceIte, Nat.reduceAdd, Nat.reduceSub, Nat.reduceMul, Nat.reduceLT, Nat.reduceLeDiff, Nat.reduceEqDiff, true_or, or_true, false_or, or_false, not_true_eq_false, not_false_eq_true, reduceCtorEq, cmp_lt, cmp_gt, cmp_eq, Int32.reduceAdd, Int32.reduceSub, Int32.reduceMul, Int32.reduceLT, Int32.reduceToNatClampNeg, eq_self, ne_eq, Int64.reduceAdd, Int64.reduceSub, Int64.reduceMul, Int64.reduceLT, e0]
      exact hq I lev st h _ ⟨lp, h3, Nat.le_refl h, Or.inl ⟨rfl, rfl, fun t ht e => absurd e.symm (fun z => nI_pos (n := t) (by omega) (by rw [z]; decide))⟩⟩ hr (by omega) FrL.rf
    · have nt : (nI t = -1) = False := eq_false (fun z => nI_pos (n := t) (by omega) (by rw [z]; decide))
      have t3 : inb (nI t) 59049 = True := inb_nI ht (by decide)
      have t4 : (nI t).toNatClampNeg = t := nI_clamp (by omega)
      obtain ⟨t1, t2⟩ := lp t ht
      have bh := lb7 (lev t) t1 h (by omega)
      by_cases g : (lev t).testBit h = true
      · have bt := eq_true (bh.mpr g)
        simp only [E213_34, E213_36, E213_38, E213_170, E213_171, E213_172, E213_175, E213_176, E213_179, E213_180, E213_181, E213_183, E213_184, E213_185, E213_186, E213_187, E213_190, E213_192, E213_196, pk54 hS, pk73 hS, pl73 hS, pa73 hS, pi73 hS, pr54_51 hR, rfs, rfn, cs0, csi, csl, csr, csn, kti, ktl, ktr, ktn, ktv, ktf, true_and, and_true, and_self, ↓reduceIte, Nat.reduceAdd, Nat.reduceSub, Nat.reduceMul, Nat.reduceLT, Nat.reduceLeDiff, Nat.reduceEqDiff, true_or, or_true, false_or, or_false, not_true_eq_false, not_false_eq_true, reduceCtorEq, cmp_lt, cmp_gt, cmp_eq, Int32.reduceAdd, Int32.reduceSub, Int32.reduceMul, Int32.reduceLT, Int32.reduceToNatClampNeg, eq_self, ne_eq, Int64.reduceAdd, Int64.reduceSub, Int64.reduceMul, Int64.reduceLT, e0, nt, t3, t4, t2, bt]
        exact hq I lev st h _ ⟨lp, h3, Nat.le_refl h, Or.inr ⟨rfl, t, ht, rfl, ((h3 t h).mp g).2, hno t ht rfl⟩⟩ hr (by omega) FrL.rf
      · have bt := eq_false (fun z => g (bh.mp z))
        simp only [E213_34, E213_36, E213_38, E213_170, E213_171, E213_172, E213_175, E213_176, E213_179, E213_180, E213_181, E213_183, E213_184, E213_185, E213_186, E213_187, E213_195, E213_196, pk54 hS, pk73 hS, pl73 hS, pa73 hS, pi73 hS, pr54_51 hR, rfs, rfn, cs0, csi, csl, csr, csn, kti, ktl, ktr, ktn, ktv, ktf, true_and, and_true, and_self, ↓reduceIte, Nat.reduceAdd, Nat.reduceSub, Nat.reduceMul, Nat.reduceLT, Nat.reduceLeDiff, Nat.reduceEqDiff, true_or, or_true, false_or, or_false, not_true_eq_false, not_false_eq_true, reduceCtorEq, cmp_lt, cmp_gt, cmp_eq, Int32.reduceAdd, Int32.reduceSub, Int32.reduceMul, Int32.reduceLT, Int32.reduceToNatClampNeg, eq_self, ne_eq, Int64.reduceAdd, Int64.reduceSub, Int64.reduceMul, Int64.reduceLT, e0, nt, t3, t4, t2, bt]
        refine hq I lev st h _ ⟨lp, h3, Nat.le_refl h, Or.inl ⟨rfl, rfl, fun u hu e k hk z => ?_⟩⟩ hr (by omega) FrL.rf
        obtain rfl : u = t := (nI_eq (by omega) (by omega)).mp e.symm
        by_cases y : k = h
        · subst y; exact g ((h3 u k).mpr ⟨Nat.le_refl k, z⟩)
        · exact hno u hu rfl k (by omega) z
  | succ q ih =>
    intro h I lev st y6 y7 y8 h1 h2 h3 hno hi hr lp hq
    have e1 : (nI h < nI last) = True := eq_true (nI_lt (by omega) (by omega))
    have b5 : st + 295245 < 2 ^ 32 := Nat.lt_of_le_of_lt (by omega) h2
    have b6 : st + 5 * 59049 < 2 ^ 32 := b5
    have body : (∀ t, t < 59049 → f3 = nI t → ∀ k, k < h + 1 → ¬ Lev w c nu B r k t) → ∀ y6, Ev (d + 5) 213 64 [.ref 54, .int f1, .int (nI B), .int f3, .int (nI last), .int (nI h), y6, y7, y8] [] S I L R Q := by
      intro hno' y6
      simp only [E213_64, E213_65, rfs, rfn, cs0, csi, csl, csr, csn, kti, ktl, ktr, ktn, ktv, ktf, true_and, and_true, and_self, ↓reduceIte, Nat.reduceAdd, Nat.reduceSub, Nat.reduceMul, Nat.reduceLT, Nat.reduceLeDiff, Nat.reduceEqDiff, true_or, or_true, false_or, or_false, not_true_eq_false, not_false_eq_true, reduceCtorEq, cmp_lt, cmp_gt, cmp_eq, Int32.reduceAdd, Int32.reduceSub, Int32.reduceMul, Int32.reduceLT, Int32.reduceToNatClampNeg, eq_self, ne_eq, Int64.reduceAdd, Int64.reduceSub, Int64.reduceMul, Int64.reduceLT]
      refine lv_lp (d := d) (nu := nu) hS hR (Nat.le_refl 59049) hw hc hm hB (by omega) 59049 0 I lev st _ _ (by omega) b6 (fun v z => Lev_lt hm hr0 h v ((h3 v h).mp z).2) hi hr lp (fun I1 lev1 st1 z6 z7 z8 x1 x2 x3 x4 x5 x6 => ?_)
      simp only [E213_164, E213_167, rfs, rfn, cs0, csi, csl, csr, csn, kti, ktl, ktr, ktn, ktv, ktf, true_and, and_true, and_self, ↓reduceIte, Nat.reduceAdd, Nat.reduceSub, Nat.reduceMul, Nat.reduceLT, Nat.reduceLeDiff, Nat.reduceEqDiff, true_or, or_true, false_or, or_false, not_true_eq_false, not_false_eq_true, reduceCtorEq, cmp_lt, cmp_gt, cmp_eq, Int32.reduceAdd, Int32.reduceSub, Int32.reduceMul, Int32.reduceLT, Int32.reduceToNatClampNeg, eq_self, ne_eq, Int64.reduceAdd, Int64.reduceSub, Int64.reduceMul, Int64.reduceLT, nI_1]
      refine ih (h + 1) I1 lev1 st1 _ _ _ (by omega) (by omega) (fun u k => (x6 u k).trans ?_) hno' x1 x2 x4 (fun I' lev' st' hh v z1 z2 z3 z4 => hq I' lev' st' hh v z1 z2 (by omega) (x5.tr z4))
      rw [h3 u k]
      constructor
      · rintro (⟨z1, z2⟩ | ⟨z1, v', z2, z3, z4, p', z5, z6⟩)
        · exact ⟨by omega, z2⟩
        · subst z1
          exact ⟨Nat.le_refl _, p', z5, v', ((h3 v' h).mp z4).2, z6⟩
      · rintro ⟨z1, z2⟩
        by_cases y : k = h + 1
        · subst y
          obtain ⟨p', z5, v', z4, z6⟩ := z2
          have := Lev_lt hm hr0 h v' z4
          exact Or.inr ⟨rfl, v', by omega, by omega, (h3 v' h).mpr ⟨Nat.le_refl _, z4⟩, p', z5, z6⟩
        · exact Or.inl ⟨by omega, z2⟩
    rcases hf with rfl | ⟨t, ht, rfl⟩
    · simp only [E213_34, E213_36, E213_38, E213_41, E213_42, E213_43, rfs, rfn, cs0, csi, csl, csr, csn, kti, ktl, ktr, ktn, ktv, ktf, true_and, and_true, and_self, ↓reduceIte, Nat.reduceAdd, Nat.reduceSub, Nat.reduceMul, Nat.reduceLT, Nat.reduceLeDiff, Nat.reduceEqDiff, true_or, or_true, false_or, or_false, not_true_eq_false, not_false_eq_true, reduceCtorEq, cmp_lt, cmp_gt, cmp_eq, Int32.reduceAdd, Int32.reduceSub, Int32.reduceMul, Int32.reduceLT, Int32.reduceToNatClampNeg, eq_self, ne_eq, Int64.reduceAdd, Int64.reduceSub, Int64.reduceMul, Int64.reduceLT, e1]
      exact body (fun t ht e => absurd e.symm (fun z => nI_pos (n := t) (by omega) (by rw [z]; decide))) _
    · have nt : (nI t = -1) = False := eq_false (fun z => nI_pos (n := t) (by omega) (by rw [z]; decide))
      have t3 : inb (nI t) 59049 = True := inb_nI ht (by decide)
      have t4 : (nI t).toNatClampNeg = t := nI_clamp (by omega)
      obtain ⟨t1, t2⟩ := lp t ht
      have bh := lb7 (lev t) t1 h (by omega)
      by_cases g : (lev t).testBit h = true
      · have bt := eq_true (bh.mpr g)
        simp only [E213_34, E213_36, E213_38, E213_41, E213_42, E213_43, E213_46, E213_47, E213_50, E213_51, E213_52, E213_54, E213_55, E213_56, E213_57, E213_58, E213_61, E213_63, pk54 hS, pk73 hS, pl73 hS, pa73 hS, pi73 hS, pr54_51 hR, rfs, rfn, cs0, csi, csl, csr, csn, kti, ktl, ktr, ktn, ktv, ktf, true_and, and_true, and_self, ↓reduceIte, Nat.reduceAdd, Nat.reduceSub, Nat.reduceMul, Nat.reduceLT, Nat.reduceLeDiff, Nat.reduceEqDiff, true_or, or_true, false_or, or_false, not_true_eq_false, not_false_eq_true, reduceCtorEq, cmp_lt, cmp_gt, cmp_eq, Int32.reduceAdd, Int32.reduceSub, Int32.reduceMul, Int32.reduceLT, Int32.reduceToNatClampNeg, eq_self, ne_eq, Int64.reduceAdd, Int64.reduceSub, Int64.reduceMul, Int64.reduceLT, e1, nt, t3, t4, t2, bt]
        exact hq I lev st h _ ⟨lp, h3, by omega, Or.inr ⟨rfl, t, ht, rfl, ((h3 t h).mp g).2, hno t ht rfl⟩⟩ hr (by omega) FrL.rf
      · have bt := eq_false (fun z => g (bh.mp z))
        simp only [E213_34, E213_36, E213_38, E213_41, E213_42, E213_43, E213_46, E213_47, E213_50, E213_51, E213_52, E213_54, E213_55, E213_56, E213_57, E213_58, pk54 hS, pk73 hS, pl73 hS, pa73 hS, pi73 hS, pr54_51 hR, rfs, rfn, cs0, csi, csl, csr, csn, kti, ktl, ktr, ktn, ktv, ktf, true_and, and_true, and_self, ↓reduceIte, Nat.reduceAdd, Nat.reduceSub, Nat.reduceMul, Nat.reduceLT, Nat.reduceLeDiff, Nat.reduceEqDiff, true_or, or_true, false_or, or_false, not_true_eq_false, not_false_eq_true, reduceCtorEq, cmp_lt, cmp_gt, cmp_eq, Int32.reduceAdd, Int32.reduceSub, Int32.reduceMul, Int32.reduceLT, Int32.reduceToNatClampNeg, eq_self, ne_eq, Int64.reduceAdd, Int64.reduceSub, Int64.reduceMul, Int64.reduceLT, e1, nt, t3, t4, t2, bt]
        refine body (fun u hu e k hk z => ?_) _
        obtain rfl : u = t := (nI_eq (by omega) (by omega)).mp e.symm
        by_cases y : k = h
        · subst y; exact g ((h3 u k).mpr ⟨Nat.le_refl k, z⟩)
        · exact hno u hu rfl k (by omega) z
/-- findLevels -/
theorem flT {I : mI} {r st : Nat} (hS : Pm S) (hR : Pr R) (hw : wOk w c) (hc : c ≤ 5) (hm : ∀ p, p < c → ∀ y u, y < 59049 → mv w c p y u → u < 59049) (hB : B < 2 ^ 24) (hr0 : r < 59049) (hl : last < 7) (hf : f3 = -1 ∨ ∃ t, t < 59049 ∧ f3 = nI t) (hst : st + 295245 * last < 2 ^ 32) (hi : RfI I c w nu) (hr : Rst I 59049 st) (hq : ∀ I' lev' st' hh v, Flz f3 c B r last w nu I' lev' hh v → Rst I' 59049 st' → st' ≤ st + 295245 * last → FrL I I' → Q (.int v) S I' L R) : EvM (d + 5) 213 [.ref 54, .int (nI r), .int (nI B), .int f3, .int (nI last)] S I L R Q := by
  have r3 : inb (nI r) 59049 = True := inb_nI (by omega) (by decide)
  have r4 : (nI r).toNatClampNeg = r := nI_clamp (by omega)
  simp only [M213, E213_0, E213_1, rfs, rfn, cs0, csi, csl, csr, csn, kti, ktl, ktr, ktn, ktv, ktf, true_and, and_true, and_self, ↓reduceIte, Nat.reduceAdd, Nat.reduceSub, Nat.reduceMul, Nat.reduceLT, Nat.reduceLeDiff, Nat.reduceEqDiff, true_or, or_true, false_or, or_false, not_true_eq_false, not_false_eq_true, reduceCtorEq, cmp_lt, cmp_gt, cmp_eq, Int32.reduceAdd, Int32.reduceSub, Int32.reduceMul, Int32.reduceLT, Int32.reduceToNatClampNeg, eq_self, ne_eq, Int64.reduceAdd, Int64.reduceSub, Int64.reduceMul, Int64.reduceLT]
  have cl := clrL (d := d + 4) (L := L) (Q := Q) (x1 := .int (nI r)) (x2 := .int (nI B)) (x3 := .int f3) (x4 := .int (nI last)) (y6 := nv) (y7 := nv) (y8 := nv) hS hR rfl 59049 0 I (by omega)
  rw [show nI 0 = 0 from rfl] at cl
  rw [cl]
  simp only [E213_24, E213_25, E213_28, E213_29, E213_30, E213_31, E213_32, rfs, rfn, cs0, csi, csl, csr, csn, kti, ktl, ktr, ktn, ktv, ktf, true_and, and_true, and_self, ↓reduceIte, Nat.reduceAdd, Nat.reduceSub, Nat.reduceMul, Nat.reduceLT, Nat.reduceLeDiff, Nat.reduceEqDiff, true_or, or_true, false_or, or_false, not_true_eq_false, not_false_eq_true, reduceCtorEq, cmp_lt, cmp_gt, cmp_eq, Int32.reduceAdd, Int32.reduceSub, Int32.reduceMul, Int32.reduceLT, Int32.reduceToNatClampNeg, eq_self, ne_eq, Int64.reduceAdd, Int64.reduceSub, Int64.reduceMul, Int64.reduceLT, pk54 hS, pk73 hS, pl73 hS, pa73 hS, pi73 hS, pr54_51 hR, r3, r4, up_up, uu_s]
  have ne : ∀ {x : Nat → Int32} {a : Nat}, ¬ a = 73 → va_up I 73 x a = I a := fun ha => uu_n _ _ ha
  have fr : ∀ {x : Nat → Int32}, FrL I (va_up I 73 x) := fun {x} => ⟨fun a _ h2 _ _ => ne h2, fun k _ _ => by rw [ne (by decide)]⟩
  refine lh_lp (d := d) (nu := nu) (r := r) hS hR hw hc hm hB hr0 hl hf last 0 _ (va_up (fun _ => 0) r 1) st _ _ _ (by omega) hst (fun u k => ?_) (fun t _ _ k hk => absurd hk (by omega)) (hi.l fr) ⟨?_, fun u hu => ?_⟩ (fun u hu => ?_) (fun I' lev' st' hh v z1 z2 z3 z4 => hq I' lev' st' hh v z1 z2 z3 (fr.tr z4))
  · by_cases z : u = r
    · rw [z, uu_s, show (1 : Nat) = 2 ^ 0 from rfl, Nat.testBit_two_pow, decide_eq_true_iff]
      constructor
      · rintro rfl
        exact ⟨Nat.le_refl _, rfl⟩
      · rintro ⟨y, _⟩
        omega
    · rw [uu_n _ _ z, Nat.zero_testBit]
      constructor
      · intro y
        cases y
      · rintro ⟨y1, y2⟩
        obtain rfl : k = 0 := by omega
        exact absurd y2 z
  · rw [ne (by decide)]
    exact hr.1
  · rw [ne (by decide)]
    exact hr.2 u hu
  · rw [uu_s]
    by_cases z : u = r
    · rw [z, uu_s, uu_s]
      exact ⟨by decide, rfl⟩
    · rw [uu_n _ _ z, uu_n _ _ z]
      refine ⟨by decide, ?_⟩
      show (if 0 ≤ u ∧ u < 59049 then (0 : Int32) else I 73 u) = nI 0
      rw [if_pos ⟨Nat.zero_le _, hu⟩]
      rfl
end LV
