/-! the reference: weights, numbers of rows, leads -/
def Rn (w : Nat → Nat) (c : Nat) (nu : Int32) (B v p u : Nat) : Prop := Xs (mv w c p) (hot w c nu p v) B u
def BmP (I : mI) (a : Nat) (f : Nat → Nat) : Prop := ∀ v, v < 59049 → f v < 128 ∧ I a v = nI (f v)
theorem BmP.cg {I J : mI} {a : Nat} {f : Nat → Nat} (h : BmP I a f) (e : J a = I a) : BmP J a f := by
  unfold BmP
  rw [e]
  exact h
theorem LvP.b {I : mI} {f : Nat → Nat} (h : LvP I f) : BmP I 73 f := h
theorem BmP.up {I : mI} {a v h : Nat} {f : Nat → Nat} (hb : BmP I a f) (hv : v < 59049) (hh : h < 7) : BmP (put I a v (nI (f v ||| 2 ^ h))) a (va_up f v (f v ||| 2 ^ h)) := by
  intro u hu
  by_cases z : u = v
  · rw [z, uu_s, pt_s]
    exact ⟨(lo7 (f v) (hb v hv).1 h hh).2, rfl⟩
  · rw [uu_n _ _ z, pt_f z]
    exact hb u hu
theorem BmP.id {I : mI} {a v : Nat} {f : Nat → Nat} (hb : BmP I a f) (hv : v < 59049) : BmP (put I a v (nI (f v))) a f := by
  intro u hu
  by_cases z : u = v
  · rw [z, pt_s]
    exact ⟨(hb v hv).1, rfl⟩
  · rw [pt_f z]
    exact hb u hu
theorem bup {f : Nat → Nat} {v h u k : Nat} : (va_up f v (f v ||| 2 ^ h) u).testBit k = true ↔ (f u).testBit k = true ∨ (k = h ∧ u = v) := by
  by_cases z : u = v
  · rw [z, uu_s, Nat.testBit_or, Nat.testBit_two_pow, Bool.or_eq_true, decide_eq_true_iff]
    exact ⟨fun y => y.elim Or.inl (fun y => Or.inr ⟨y.symm, rfl⟩), fun y => y.elim Or.inl (fun y => Or.inr y.1.symm)⟩
  · rw [uu_n _ _ z]
    exact ⟨Or.inl, fun y => y.elim (fun y => y) (fun y => absurd y.2 z)⟩
theorem or7 : ∀ t, t < 128 → nI t ||| (0 : Int32) = nI t := by decide +kernel
theorem sh7 : ∀ h, h < 7 → (1 : Int32) <<< (nI h &&& 31) = nI (2 ^ h) ∧ 2 ^ h < 128 := by decide +kernel
def Wt (I : mI) (c : Nat) : Prop := ∀ i, i < c → I 72 i = nI (wt c i)
def PnS (I : mI) (c : Nat) (nu : Int32) (B st : Nat) : Prop := RfI I c (wt c) nu ∧ I 56 10 = nI B ∧ Rst I 59049 st
theorem PnS.cg {I J : mI} {c B st : Nat} {nu : Int32} (h : PnS I c nu B st) (e6 : J 56 = I 56) (e2 : J 72 = I 72) (e7 : J 77 = I 77) (e4 : J 54 56 = I 54 56) : PnS J c nu B st := by
  unfold PnS RfI Rst
  rw [e6, e2, e7, e4]
  exact h
theorem PnS.fr {I J : mI} {c B st st' : Nat} {nu : Int32} (h : PnS I c nu B st) (f : Fr I J) (r : Rst J 59049 st') : PnS J c nu B st' :=
  ⟨h.1.fr f, by rw [f.1 56 (by decide) (by decide) (by decide)]; exact h.2.1, r⟩
/-- nothing but the row a and what findSpread leaves -/
def FrA (a : Nat) (I J : mI) : Prop := (∀ b, ¬ b = a → ¬ b = 54 → ¬ b = 77 → ¬ b = 78 → J b = I b) ∧ (∀ k, ¬ k = 56 → ¬ k = 58 → J 54 k = I 54 k)
theorem FrA.rf {a : Nat} {I : mI} : FrA a I I := ⟨fun _ _ _ _ _ => rfl, fun _ _ _ => rfl⟩
theorem FrA.tr {a : Nat} {I J K : mI} (h : FrA a I J) (h2 : FrA a J K) : FrA a I K := ⟨fun b h1 h3 h4 h5 => (h2.1 b h1 h3 h4 h5).trans (h.1 b h1 h3 h4 h5), fun k h1 h3 => (h2.2 k h1 h3).trans (h.2 k h1 h3)⟩
theorem Fr.a {a : Nat} {I J : mI} (h : Fr I J) : FrA a I J := ⟨fun b _ h3 h4 h5 => h.1 b h3 h4 h5, h.2⟩
theorem FrA.p {a k : Nat} {x : Int32} {I J : mI} (h : FrA a I J) (ha : ¬ a = 54) : FrA a I (put J a k x) := ⟨fun b h1 h3 h4 h5 => by rw [pt_n h1]; exact h.1 b h1 h3 h4 h5, fun j h1 h3 => by rw [pt_m (fun z => ha z.symm)]; exact h.2 j h1 h3⟩
section LD
variable {d c B st : Nat} {nu : Int32} {S : mS} {I : mI} {L : mL} {R : mR} {Q : mQ}
theorem fwt (hS : Pm S) (hR : Pr R) (hc : c = 3 ∨ c = 4 ∨ c = 5) (h0 : I 56 0 = nI c) (hq : ∀ J, (∀ a, ¬ a = 72 → J a = I a) → Wt J c → Q .null S J L R) : EvM (d + 1) 207 [.ref 54] S I L R Q := by
  rcases hc with rfl | rfl | rfl
  · rw [ni3] at h0
    simp only [M207, E207_0, E207_1, E207_2, E207_3, E207_6, E207_7, E207_8, E207_9, E207_10, E207_11, E207_12, E207_15, E207_16, E207_19, E207_20, E207_21, E207_22, E207_23, E207_25, E207_26, E207_27, E207_30, E207_33, pk54 hS, pk56 hS, pl56 hS, pa56 hS, pi56 hS, pk72 hS, pl72 hS, pa72 hS, pi72 hS, pr54_3 hR, pr54_50 hR, rfs, rfn, cs0, csi, csl, csr, csn, kti, ktl, ktr, ktn, ktv, ktf, true_and, and_true, and_self, ↓reduceIte, Nat.reduceAdd, Nat.reduceSub, Nat.reduceMul, Nat.reduceLT, Nat.reduceLeDiff, Nat.reduceEqDiff, true_or, or_true, false_or, or_false, not_true_eq_false, not_false_eq_true, reduceCtorEq, cmp_lt, cmp_gt, cmp_eq, Int32.reduceAdd, Int32.reduceSub, Int32.reduceMul, Int32.reduceLT, Int32.reduceToNatClampNeg, eq_self, ne_eq, Int64.reduceAdd, Int64.reduceSub, Int64.reduceMul, Int64.reduceLT, inb_is, pt, pt_m, h0]
    refine hq _ (fun a ha => by simp only [pt_n ha]) (fun i hi => ?_)
    rcases (by omega : i = 0 ∨ i = 1 ∨ i = 2) with rfl | rfl | rfl <;> (simp (disch := omega) only [pt_s, pt_f]; decide)
  · rw [ni4] at h0
    simp only [M207, E207_0, E207_1, E207_2, E207_3, E207_6, E207_7, E207_8, E207_9, E207_10, E207_11, E207_12, E207_15, E207_16, E207_19, E207_20, E207_21, E207_22, E207_23, E207_25, E207_26, E207_27, E207_30, E207_33, pk54 hS, pk56 hS, pl56 hS, pa56 hS, pi56 hS, pk72 hS, pl72 hS, pa72 hS, pi72 hS, pr54_3 hR, pr54_50 hR, rfs, rfn, cs0, csi, csl, csr, csn, kti, ktl, ktr, ktn, ktv, ktf, true_and, and_true, and_self, ↓reduceIte, Nat.reduceAdd, Nat.reduceSub, Nat.reduceMul, Nat.reduceLT, Nat.reduceLeDiff, Nat.reduceEqDiff, true_or, or_true, false_or, or_false, not_true_eq_false, not_false_eq_true, reduceCtorEq, cmp_lt, cmp_gt, cmp_eq, Int32.reduceAdd, Int32.reduceSub, Int32.reduceMul, Int32.reduceLT, Int32.reduceToNatClampNeg, eq_self, ne_eq, Int64.reduceAdd, Int64.reduceSub, Int64.reduceMul, Int64.reduceLT, inb_is, pt, pt_m, h0]
    refine hq _ (fun a ha => by simp only [pt_n ha]) (fun i hi => ?_)
    rcases (by omega : i = 0 ∨ i = 1 ∨ i = 2 ∨ i = 3) with rfl | rfl | rfl | rfl <;> (simp (disch := omega) only [pt_s, pt_f]; decide)
  · rw [ni5] at h0
    simp only [M207, E207_0, E207_1, E207_2, E207_3, E207_6, E207_7, E207_8, E207_9, E207_10, E207_11, E207_12, E207_15, E207_16, E207_19, E207_20, E207_21, E207_22, E207_23, E207_25, E207_26, E207_27, E207_30, E207_33, pk54 hS, pk56 hS, pl56 hS, pa56 hS, pi56 hS, pk72 hS, pl72 hS, pa72 hS, pi72 hS, pr54_3 hR, pr54_50 hR, rfs, rfn, cs0, csi, csl, csr, csn, kti, ktl, ktr, ktn, ktv, ktf, true_and, and_true, and_self, ↓reduceIte, Nat.reduceAdd, Nat.reduceSub, Nat.reduceMul, Nat.reduceLT, Nat.reduceLeDiff, Nat.reduceEqDiff, true_or, or_true, false_or, or_false, not_true_eq_false, not_false_eq_true, reduceCtorEq, cmp_lt, cmp_gt, cmp_eq, Int32.reduceAdd, Int32.reduceSub, Int32.reduceMul, Int32.reduceLT, Int32.reduceToNatClampNeg, eq_self, ne_eq, Int64.reduceAdd, Int64.reduceSub, Int64.reduceMul, Int64.reduceLT, inb_is, pt, pt_m, h0]
    refine hq _ (fun a ha => by simp only [pt_n ha]) (fun i hi => ?_)
    rcases (by omega : i = 0 ∨ i = 1 ∨ i = 2 ∨ i = 3 ∨ i = 4) with rfl | rfl | rfl | rfl | rfl <;> (simp (disch := omega) only [pt_s, pt_f]; decide)
theorem rw_lp {A : Nat} (hA : A = 20 ∨ A = 30) (hS : Pm S) (hR : Pr R) (hc : c ≤ 5) (h0 : I 56 0 = nI c) (hw : Wt I c) (hi : RwI (I 56)) (hq : ∀ r, r < 59049 → Q (.int (nI r)) S I L R) : ∀ (q i s : Nat), i + q = c → s + 9 ^ q ≤ 9 ^ c → Ev (d + 1) 208 4 [.ref 54, .int (nI A), .int (nI s), .int (nI i)] [] S I L R Q := by
  have z0 : inb 0 8060 = True := inb_nI (j := 0) (by decide) (by decide)
  have c9 : 9 ^ c ≤ 59049 := Nat.le_trans (Nat.pow_le_pow_right (by decide) hc) (by decide)
  intro q
  induction q with
  | zero =>
    intro i s hi2 hs
    obtain rfl : i = c := by omega
    have e0 : (nI i < nI i) = False := eq_false (nI_nlt (Nat.le_refl i) (by omega))
    rw [Nat.pow_zero] at hs
    rw [E208_4]
    simp only [E208_5, E208_6, E208_9, E208_10, E208_11, E208_40, E208_41, pk54 hS, pk56 hS, pl56 hS, pa56 hS, pi56 hS, pr54_3 hR, rfs, rfn, cs0, csi, csl, csr, csn, kti, ktl, ktr, ktn, ktv, ktf, true_and, and_true, and_self, ↓reduceIte, Nat.reduceAdd, Nat.reduceSub, Nat.reduceMul, Nat.reduceLT, Nat.reduceLeDiff, Nat.reduceEqDiff, true_or, or_true, false_or, or_false, not_true_eq_false, not_false_eq_true, reduceCtorEq, cmp_lt, cmp_gt, cmp_eq, Int32.reduceAdd, Int32.reduceSub, Int32.reduceMul, Int32.reduceLT, Int32.reduceToNatClampNeg, eq_self, ne_eq, Int64.reduceAdd, Int64.reduceSub, Int64.reduceMul, Int64.reduceLT, z0, h0, e0]
    exact hq s (by omega)
  | succ q ih =>
    intro i s hi2 hs
    have e1 : (nI i < nI c) = True := eq_true (nI_lt (by omega) (by omega))
    have a0 : inb (nI i) 5 = True := inb_nI (by omega) (by decide)
    have a1 : (nI i).toNatClampNeg = i := nI_clamp (by omega)
    have hAi : A + i < 8060 := by omega
    have b0 : inb (nI (A + i)) 8060 = True := inb_nI hAi (by decide)
    have b1 : (nI (A + i)).toNatClampNeg = A + i := nI_clamp (by omega)
    have wi := hw i (by omega)
    have hwi : wt c i = 9 ^ q := by
      unfold wt
      congr 1
      omega
    rw [hwi] at wi
    obtain ⟨y, y8, ey⟩ : ∃ y, y ≤ 8 ∧ I 56 (A + i) = nI (y + 1) := by
      obtain ⟨⟨x, x1, x9, ex⟩, ⟨z, z1, z9, ez⟩⟩ := hi i (by omega)
      rcases hA with rfl | rfl
      · exact ⟨x - 1, by omega, by rw [ex]; congr 1; omega⟩
      · exact ⟨z - 1, by omega, by rw [ez]; congr 1; omega⟩
    have eA : nI A + nI i = nI (A + i) := by rw [nI_add]
    have es : nI s + nI (9 ^ q) * nI y = nI (s + 9 ^ q * y) := by rw [pk_mul, nI_add]
    have m8 : 9 ^ q * y ≤ 9 ^ q * 8 := Nat.mul_le_mul_left _ y8
    rw [Nat.pow_succ] at hs
    rw [E208_4]
    simp only [E208_5, E208_6, E208_9, E208_10, E208_11, E208_14, E208_15, E208_16, E208_19, E208_20, E208_21, E208_22, E208_25, E208_26, E208_27, E208_28, E208_29, E208_30, E208_31, E208_32, E208_33, E208_34, E208_37, pk54 hS, pk56 hS, pl56 hS, pa56 hS, pi56 hS, pk72 hS, pl72 hS, pa72 hS, pi72 hS, pr54_3 hR, pr54_50 hR, rfs, rfn, cs0, csi, csl, csr, csn, kti, ktl, ktr, ktn, ktv, ktf, true_and, and_true, and_self, ↓reduceIte, Nat.reduceAdd, Nat.reduceSub, Nat.reduceMul, Nat.reduceLT, Nat.reduceLeDiff, Nat.reduceEqDiff, true_or, or_true, false_or, or_false, not_true_eq_false, not_false_eq_true, reduceCtorEq, cmp_lt, cmp_gt, cmp_eq, Int32.reduceAdd, Int32.reduceSub, Int32.reduceMul, Int32.reduceLT, Int32.reduceToNatClampNeg, eq_self, ne_eq, Int64.reduceAdd, Int64.reduceSub, Int64.reduceMul, Int64.reduceLT, z0, h0, e1, a0, a1, eA, b0, b1, wi, ey, nI_m1, es, nI_1]
    exact ih (i + 1) (s + 9 ^ q * y) (by omega) (by omega)
theorem rwa {A : Nat} (hA : A = 20 ∨ A = 30) (hS : Pm S) (hR : Pr R) (hc : c ≤ 5) (h0 : I 56 0 = nI c) (hw : Wt I c) (hi : RwI (I 56)) (hq : ∀ r, r < 59049 → Q (.int (nI r)) S I L R) : EvM (d + 1) 208 [.ref 54, .int (nI A)] S I L R Q := by
  simp only [M208, E208_0, E208_1, E208_2, E208_3, rfs, rfn, cs0, csi, csl, csr, csn, kti, ktl, ktr, ktn, ktv, ktf, true_and, and_true, and_self, ↓reduceIte, Nat.reduceAdd, Nat.reduceSub, Nat.reduceMul, Nat.reduceLT, Nat.reduceLeDiff, Nat.reduceEqDiff, true_or, or_true, false_or, or_false, not_true_eq_false, not_false_eq_true, reduceCtorEq, cmp_lt, cmp_gt, cmp_eq, Int32.reduceAdd, Int32.reduceSub, Int32.reduceMul, Int32.reduceLT, Int32.reduceToNatClampNeg, eq_self, ne_eq, Int64.reduceAdd, Int64.reduceSub, Int64.reduceMul, Int64.reduceLT]
  exact rw_lp hA hS hR hc h0 hw hi hq c 0 0 (by omega) (by omega)
theorem ld_lp {a k v p m : Nat} {s f : Nat → Nat} (hS : Pm S) (hR : Pr R) (haI : okI S a = True) (haL : S.2.2.2 a = 59049) (hk : k < 7) (h : Sp I 59049 st m s) (hb : BmP I a f) (hq : ∀ b' : Bool, (b' = true ↔ ∃ j, j < m ∧ (f (s j)).testBit k = true) → Q (.int (bI b')) S I L R) : ∀ (q i : Nat) (b : Bool), i + q = m → (b = true ↔ ∃ j, j < i ∧ (f (s j)).testBit k = true) → Ev (d + 1) 215 19 [.ref 54, .int (nI v), .int (nI p), .ref a, .int (nI k), .int (bI b), .int (nI i)] [] S I L R Q := by
  have hle := h.le
  have h2 := h.2.1
  intro q
  induction q with
  | zero =>
    intro i b h1 hb2
    obtain rfl : i = m := by omega
    have e0 : (nI i < nI i) = False := eq_false (nI_nlt (Nat.le_refl i) (by omega))
    rw [E215_19]
    simp only [E215_21, E215_22, E215_25, E215_64, E215_66, pk54 hS, rfs, rfn, cs0, csi, csl, csr, csn, kti, ktl, ktr, ktn, ktv, ktf, true_and, and_true, and_self, ↓reduceIte, Nat.reduceAdd, Nat.reduceSub, Nat.reduceMul, Nat.reduceLT, Nat.reduceLeDiff, Nat.reduceEqDiff, true_or, or_true, false_or, or_false, not_true_eq_false, not_false_eq_true, reduceCtorEq, cmp_lt, cmp_gt, cmp_eq, Int32.reduceAdd, Int32.reduceSub, Int32.reduceMul, Int32.reduceLT, Int32.reduceToNatClampNeg, eq_self, ne_eq, Int64.reduceAdd, Int64.reduceSub, Int64.reduceMul, Int64.reduceLT, h2, e0, bI_01]
    exact hq b hb2
  | succ q ih =>
    intro i b h1 hb2
    have e1 : (nI i < nI m) = True := eq_true (nI_lt (by omega) (by omega))
    cases b
    · have i3 : inb (nI i) 59049 = True := inb_nI (by omega) (by decide)
      have i4 : (nI i).toNatClampNeg = i := nI_clamp (by omega)
      obtain ⟨s1, s2⟩ := h.2.2.1 i (by omega)
      have s3 : inb (nI (s i)) 59049 = True := inb_nI (by omega) (by decide)
      have s4 : (nI (s i)).toNatClampNeg = s i := nI_clamp (by omega)
      obtain ⟨t1, t2⟩ := hb (s i) s1
      have bh := lb7 (f (s i)) t1 k hk
      rw [E215_19]
      by_cases g : (f (s i)).testBit k = true
      · have bt := eq_true (bh.mpr g)
        simp only [E215_21, E215_22, E215_25, E215_28, E215_30, E215_33, E215_33n, E215_34, E215_35, E215_38, E215_40, E215_41, E215_42, E215_44, E215_45, E215_46, E215_47, E215_48, E215_51, E215_52, E215_55, E215_56, E215_58, E215_61, pk54 hS, pk78 hS, pl78 hS, pa78 hS, pi78 hS, pr54_57 hR, rfs, rfn, cs0, csi, csl, csr, csn, kti, ktl, ktr, ktn, ktv, ktf, true_and, and_true, and_self, ↓reduceIte, Nat.reduceAdd, Nat.reduceSub, Nat.reduceMul, Nat.reduceLT, Nat.reduceLeDiff, Nat.reduceEqDiff, true_or, or_true, false_or, or_false, not_true_eq_false, not_false_eq_true, reduceCtorEq, cmp_lt, cmp_gt, cmp_eq, Int32.reduceAdd, Int32.reduceSub, Int32.reduceMul, Int32.reduceLT, Int32.reduceToNatClampNeg, eq_self, ne_eq, Int64.reduceAdd, Int64.reduceSub, Int64.reduceMul, Int64.reduceLT, h2, e1, bI_f, i3, i4, s2, s3, s4, haI, haL, t2, bt, nI_1]
        exact ih (i + 1) true (by omega) ⟨fun _ => ⟨i, by omega, g⟩, fun _ => rfl⟩
      · have bt := eq_false (fun z => g (bh.mp z))
        simp only [E215_21, E215_22, E215_25, E215_28, E215_30, E215_33, E215_33n, E215_34, E215_35, E215_38, E215_40, E215_41, E215_42, E215_44, E215_45, E215_46, E215_47, E215_48, E215_51, E215_52, E215_55, E215_56, E215_58, E215_61, pk54 hS, pk78 hS, pl78 hS, pa78 hS, pi78 hS, pr54_57 hR, rfs, rfn, cs0, csi, csl, csr, csn, kti, ktl, ktr, ktn, ktv, ktf, true_and, and_true, and_self, ↓reduceIte, Nat.reduceAdd, Nat.reduceSub, Nat.reduceMul, Nat.reduceLT, Nat.reduceLeDiff, Nat.reduceEqDiff, true_or, or_true, false_or, or_false, not_true_eq_false, not_false_eq_true, reduceCtorEq, cmp_lt, cmp_gt, cmp_eq, Int32.reduceAdd, Int32.reduceSub, Int32.reduceMul, Int32.reduceLT, Int32.reduceToNatClampNeg, eq_self, ne_eq, Int64.reduceAdd, Int64.reduceSub, Int64.reduceMul, Int64.reduceLT, h2, e1, bI_f, i3, i4, s2, s3, s4, haI, haL, t2, bt, nI_1]
        refine ih (i + 1) false (by omega) ⟨fun z => (by cases z), fun ⟨j, j1, j2⟩ => ?_⟩
        by_cases y : j = i
        · rw [y] at j2; exact absurd j2 g
        · exact hb2.mpr ⟨j, by omega, j2⟩
    · rw [E215_19]
      simp only [E215_21, E215_22, E215_25, E215_28, E215_30, E215_33, E215_33n, E215_34, E215_35, E215_38, E215_40, E215_41, E215_42, E215_44, E215_45, E215_46, E215_47, E215_48, E215_51, E215_52, E215_55, E215_56, E215_58, E215_61, pk54 hS, rfs, rfn, cs0, csi, csl, csr, csn, kti, ktl, ktr, ktn, ktv, ktf, true_and, and_true, and_self, ↓reduceIte, Nat.reduceAdd, Nat.reduceSub, Nat.reduceMul, Nat.reduceLT, Nat.reduceLeDiff, Nat.reduceEqDiff, true_or, or_true, false_or, or_false, not_true_eq_false, not_false_eq_true, reduceCtorEq, cmp_lt, cmp_gt, cmp_eq, Int32.reduceAdd, Int32.reduceSub, Int32.reduceMul, Int32.reduceLT, Int32.reduceToNatClampNeg, eq_self, ne_eq, Int64.reduceAdd, Int64.reduceSub, Int64.reduceMul, Int64.reduceLT, h2, e1, bI_t, n1_0, nI_1]
      obtain ⟨j, j1, j2⟩ := hb2.mp rfl
      exact ih (i + 1) true (by omega) ⟨fun _ => ⟨j, by omega, j2⟩, fun _ => rfl⟩
/-- leads -/
theorem led {a k v p : Nat} {f : Nat → Nat} (hS : Pm S) (hR : Pr R) (haI : okI S a = True) (haL : S.2.2.2 a = 59049) (ha : ¬ a = 54 ∧ ¬ a = 77 ∧ ¬ a = 78) (hk : k < 7) (hc : c = 3 ∨ c = 4 ∨ c = 5) (hB : B < 2 ^ 24) (hst : st + 1 < 2 ^ 32) (hP : PnS I c nu B st) (hp : p < c) (hv : v < 59049) (hb : BmP I a f) (hq : ∀ J b, PnS J c nu B (st + 1) → Fr I J → (b = true ↔ ∃ u, Rn (wt c) c nu B v p u ∧ (f u).testBit k = true) → Q (.int (bI b)) S J L R) : EvM (d + 5) 215 [.ref 54, .int (nI v), .int (nI p), .ref a, .int (nI k)] S I L R Q := by
  obtain ⟨hi, h10, hr⟩ := id hP
  have z10 : inb 10 8060 = True := inb_nI (j := 10) (by decide) (by decide)
  have c10 : Int32.toNatClampNeg 10 = 10 := rfl
  simp only [M215, E215_0, E215_1, E215_2, E215_3, E215_4, E215_7, E215_9, E215_10, pk54 hS, pk56 hS, pl56 hS, pa56 hS, pi56 hS, pr54_3 hR, rfs, rfn, cs0, csi, csl, csr, csn, kti, ktl, ktr, ktn, ktv, ktf, true_and, and_true, and_self, ↓reduceIte, Nat.reduceAdd, Nat.reduceSub, Nat.reduceMul, Nat.reduceLT, Nat.reduceLeDiff, Nat.reduceEqDiff, true_or, or_true, false_or, or_false, not_true_eq_false, not_false_eq_true, reduceCtorEq, cmp_lt, cmp_gt, cmp_eq, Int32.reduceAdd, Int32.reduceSub, Int32.reduceMul, Int32.reduceLT, Int32.reduceToNatClampNeg, eq_self, ne_eq, Int64.reduceAdd, Int64.reduceSub, Int64.reduceMul, Int64.reduceLT, z10, c10, h10]
  refine fsA (d := d) (nu := nu) (w := wt c) (c := c) (N := 59049) (st := st) hS hR (Nat.le_refl _) hst hi hr (wtO hc) (by omega) hp hv (mvN hc p hp) hB (fun J m s x1 x2 x3 => ?_)
  simp only [E215_13, E215_14, E215_16, E215_17, rfs, rfn, cs0, csi, csl, csr, csn, kti, ktl, ktr, ktn, ktv, ktf, true_and, and_true, and_self, ↓reduceIte, Nat.reduceAdd, Nat.reduceSub, Nat.reduceMul, Nat.reduceLT, Nat.reduceLeDiff, Nat.reduceEqDiff, true_or, or_true, false_or, or_false, not_true_eq_false, not_false_eq_true, reduceCtorEq, cmp_lt, cmp_gt, cmp_eq, Int32.reduceAdd, Int32.reduceSub, Int32.reduceMul, Int32.reduceLT, Int32.reduceToNatClampNeg, eq_self, ne_eq, Int64.reduceAdd, Int64.reduceSub, Int64.reduceMul, Int64.reduceLT]
  refine ld_lp (d := d + 4) (a := a) hS hR haI haL hk x1 (hb.cg (x3.1 a ha.1 ha.2.1 ha.2.2)) (fun b' hb' => ?_) m 0 false (by omega) ⟨fun z => (by cases z), fun ⟨j, z, _⟩ => by omega⟩
  refine hq J b' (hP.fr x3 ⟨x1.1, x1.2.2.2.2.2⟩) x3 (hb'.trans ⟨fun ⟨j, j1, j2⟩ => ⟨s j, (x2 (s j)).mp ⟨j, j1, rfl⟩, j2⟩, fun ⟨u, u1, u2⟩ => ?_⟩)
  obtain ⟨j, j1, j2⟩ := (x2 u).mpr u1
  exact ⟨j, j1, by rw [j2]; exact u2⟩
end LD
