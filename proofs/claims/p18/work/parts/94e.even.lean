/-! the class's Planner: EVEN, and what it keeps for the next question -/
/-- one long for what a question is about -/
def kyF (a b h e : Int32) : Int64 := ((a.toInt64 <<< ((20 : Int32).toInt64 &&& 63) ||| b.toInt64) <<< ((10 : Int32).toInt64 &&& 63) ||| h.toInt64) <<< ((4 : Int32).toInt64 &&& 63) ||| e.toInt64
theorem ky20 (x : Int64) : (x <<< ((20 : Int32).toInt64 &&& 63)).toBitVec = x.toBitVec <<< 20 := rfl
theorem ky10 (x : Int64) : (x <<< ((10 : Int32).toInt64 &&& 63)).toBitVec = x.toBitVec <<< 10 := rfl
theorem ky4 (x : Int64) : (x <<< ((4 : Int32).toInt64 &&& 63)).toBitVec = x.toBitVec <<< 4 := rfl
theorem tN_nI {a : Nat} (h : a < 2 ^ 31) : (nI a).toInt64.toBitVec.toNat = a := by
  have e : (nI a).toInt64.toInt = (a : Int) := by rw [Int32.toInt_toInt64, nI_toInt h]
  have h2 : (nI a).toInt64.toBitVec.toInt = (a : Int) := e
  rw [BitVec.toInt_eq_toNat_cond] at h2
  have h3 := (nI a).toInt64.toBitVec.isLt
  split at h2 <;> omega
theorem kyF_n {a b h e : Nat} (ha : a < 2 ^ 16) (hb : b < 2 ^ 16) (hh : h < 2 ^ 10) (he : e < 2 ^ 4) : (kyF (nI a) (nI b) (nI h) (nI e)).toBitVec.toNat = ((a * 2 ^ 20 + b) * 2 ^ 10 + h) * 2 ^ 4 + e := by
  unfold kyF
  rw [Int64.toBitVec_or, ky4, Int64.toBitVec_or, ky10, Int64.toBitVec_or, ky20, BitVec.toNat_or, BitVec.toNat_shiftLeft, BitVec.toNat_or, BitVec.toNat_shiftLeft, BitVec.toNat_or, BitVec.toNat_shiftLeft, tN_nI (by omega), tN_nI (by omega), tN_nI (by omega), tN_nI (by omega)]
  have e1 : a <<< 20 = a * 2 ^ 20 := Nat.shiftLeft_eq a 20
  have m1 : a <<< 20 % 2 ^ 64 = a <<< 20 := Nat.mod_eq_of_lt (by omega)
  rw [m1, ← Nat.shiftLeft_add_eq_or_of_lt (show b < 2 ^ 20 by omega), e1]
  have e2 : (a * 2 ^ 20 + b) <<< 10 = (a * 2 ^ 20 + b) * 2 ^ 10 := Nat.shiftLeft_eq _ 10
  have m2 : (a * 2 ^ 20 + b) <<< 10 % 2 ^ 64 = (a * 2 ^ 20 + b) <<< 10 := Nat.mod_eq_of_lt (by omega)
  rw [m2, ← Nat.shiftLeft_add_eq_or_of_lt (show h < 2 ^ 10 by omega), e2]
  have e3 : ((a * 2 ^ 20 + b) * 2 ^ 10 + h) <<< 4 = ((a * 2 ^ 20 + b) * 2 ^ 10 + h) * 2 ^ 4 := Nat.shiftLeft_eq _ 4
  have m3 : ((a * 2 ^ 20 + b) * 2 ^ 10 + h) <<< 4 % 2 ^ 64 = ((a * 2 ^ 20 + b) * 2 ^ 10 + h) <<< 4 := Nat.mod_eq_of_lt (by omega)
  rw [m3, ← Nat.shiftLeft_add_eq_or_of_lt (show e < 2 ^ 4 by omega), e3]
theorem kyF_i {a b h e a' b' h' e' : Nat} (ha : a < 2 ^ 16) (hb : b < 2 ^ 16) (hh : h < 2 ^ 10) (he : e < 2 ^ 4) (ha' : a' < 2 ^ 16) (hb' : b' < 2 ^ 16) (hh' : h' < 2 ^ 10) (he' : e' < 2 ^ 4) (q : kyF (nI a) (nI b) (nI h) (nI e) = kyF (nI a') (nI b') (nI h') (nI e')) : a = a' ∧ b = b' ∧ h = h' ∧ e = e' := by
  have q1 := congrArg (fun x => x.toBitVec.toNat) q
  simp only [kyF_n ha hb hh he, kyF_n ha' hb' hh' he'] at q1
  omega
theorem kyF_m {a b h e : Nat} (ha : a < 2 ^ 16) (hb : b < 2 ^ 16) (hh : h < 2 ^ 10) (he : e < 2 ^ 4) : ¬ kyF (nI a) (nI b) (nI h) (nI e) = -1 := fun q => by
  have q1 := congrArg (fun x => x.toBitVec.toNat) q
  simp only [kyF_n ha hb hh he] at q1
  have : ((-1 : Int64)).toBitVec.toNat = 18446744073709551615 := by decide
  rw [this] at q1
  omega
def evr (w : Nat → Nat) (c k : Nat) : Nat := rnum w (fun _ => k) c
def noL (w : Nat → Nat) (c : Nat) (nu : Int32) (B r t : Nat) : Prop := ∀ h, h ≤ 6 → ¬ LvD true w c nu B r h t
/-- the least k of an even row from which the row t comes, or -1 -/
def EvA (w : Nat → Nat) (c : Nat) (nu : Int32) (B t : Nat) (v : Int32) : Prop := (v = -1 ∧ ∀ k, 1 ≤ k → k ≤ 9 → noL w c nu B (evr w c k) t) ∨ ∃ k, 1 ≤ k ∧ k ≤ 9 ∧ v = nI k ∧ ¬ noL w c nu B (evr w c k) t ∧ ∀ k', 1 ≤ k' → k' < k → noL w c nu B (evr w c k') t
theorem EvA.eq {w : Nat → Nat} {c B t : Nat} {nu u v : Int32} (h : EvA w c nu B t u) (k : EvA w c nu B t v) : u = v := by
  rcases h with ⟨h1, h2⟩ | ⟨a, a1, a2, a3, a4, a5⟩
  · rcases k with ⟨k1, k2⟩ | ⟨b, b1, b2, b3, b4, b5⟩
    · rw [h1, k1]
    · exact absurd (h2 b b1 b2) b4
  · rcases k with ⟨k1, k2⟩ | ⟨b, b1, b2, b3, b4, b5⟩
    · exact absurd (k2 a a1 a2) a4
    · have : a = b := Nat.le_antisymm (Nat.le_of_not_lt (fun z => b4 (a5 b b1 z))) (Nat.le_of_not_lt (fun z => a4 (b5 a a1 z)))
      rw [a3, b3, this]
theorem MinH.no {w : Nat → Nat} {c B r t : Nat} {nu v : Int32} (h : MinH w c nu B r t v) : v = -1 ↔ noL w c nu B r t := by
  rcases h with ⟨h1, h2⟩ | ⟨k, k1, k2, k3, _⟩
  · exact ⟨fun _ => h2, fun _ => h1⟩
  · refine ⟨fun z => absurd (k2.symm.trans z) (fun q => ?_), fun z => absurd k3 (z k k1)⟩
    have := congrArg Int32.toInt q
    rw [nI_toInt (by omega)] at this
    have e : (-1 : Int32).toInt = -1 := rfl
    omega
theorem rnum_c {w : Nat → Nat} {k : Nat} : ∀ c, rnum w (fun _ => k) c = rnum w (fun _ => 2) c * (k - 1) := by
  intro c
  induction c with
  | zero => exact (Nat.zero_mul _).symm
  | succ c ih =>
    show rnum w (fun _ => k) c + (k - 1) * w c = (rnum w (fun _ => 2) c + (2 - 1) * w c) * (k - 1)
    rw [ih, Nat.add_mul, show (2 - 1) * w c = w c from Nat.one_mul _, Nat.mul_comm (w c)]
theorem isum_c {k : Nat} : ∀ c, isum (fun _ => k) c = k * c := by
  intro c
  induction c with
  | zero => exact (Nat.mul_zero k).symm
  | succ c ih =>
    show isum (fun _ => k) c + k = k * (c + 1)
    rw [ih, Nat.mul_succ]
/-- nothing but forge, levels, path, EVEN's own has changed -/
def PfE (P c : Nat) (I J : mI) (L L' : mL) : Prop := ((∀ a, (a < P ∨ a = P + 1 ∨ a = P + 2 ∨ P + 54 + 3 * c ≤ a) → J a = I a) ∧ ∀ k, ¬ k = 11 → J P k = I P k) ∧ (∀ a, (a < P ∨ P + 54 + 3 * c ≤ a) → L' a = L a) ∧ ∀ k, ¬ k = 12 → L' P k = L P k
theorem PfV.e {P c : Nat} {I J : mI} {L L' : mL} (h : PfV P c I J L L') : PfE P c I J L L' := ⟨⟨fun a q => h.1 a (by omega), fun k _ => by rw [h.1 P (by omega)]⟩, fun a q => h.2 a (by omega), fun k _ => by rw [h.2 P (by omega)]⟩
theorem PfE.tr {P c : Nat} {I J K : mI} {L L' L'' : mL} (h : PfE P c I J L L') (k : PfE P c J K L' L'') : PfE P c I K L L'' := ⟨⟨fun a q => (k.1.1 a q).trans (h.1.1 a q), fun j q => (k.1.2 j q).trans (h.1.2 j q)⟩, fun a q => (k.2.1 a q).trans (h.2.1 a q), fun j q => (k.2.2 j q).trans (h.2.2 j q)⟩
theorem PfE.p {P c : Nat} {I : mI} {L : mL} {x : Int32} : PfE P c I (put I P 11 x) L L := ⟨⟨fun a q => pt_n (by omega), fun k q => pt_f q⟩, fun _ _ => rfl, fun _ _ => rfl⟩
theorem PfE.l {P c : Nat} {I : mI} {L : mL} {x : Int64} : PfE P c I I L (va_up L P (va_up (L P) 12 x)) := ⟨⟨fun _ _ => rfl, fun _ _ => rfl⟩, fun a q => uu_n _ _ (by omega), fun k q => by rw [uu_s, uu_n _ _ q]⟩
theorem StK.pe {P c z B : Nat} {A A2 : Nat → Nat} {nu : Int32} {I J : mI} {L L' : mL} (h : StK I z c A A2 nu B) (hzP : z + 6 < P ∨ P + 54 + 3 * c ≤ z) (f : PfE P c I J L L') : StK J z c A A2 nu B := h.cg (fun a a1 a2 => f.1.1 a (by omega))
theorem PlV.pt {w : Nat → Nat} {c N n P k : Nat} {I : mI} {L : mL} {x : Int32} (h : PlV w c N n P I L) : PlV w c N n P (put I P k x) L := by
  have e : pL1 P c = P + 11 + 3 * c := rfl
  refine PlV.mk h.1.1 ?_ (fun q hq => ?_)
  · rw [pt_n (by omega)]
    exact h.1.2
  · exact LvJ.mono (h.g hq) (pt_n (by omega)) (fun _ _ _ => rfl)
theorem PlV.lp {w : Nat → Nat} {c N n P : Nat} {I : mI} {L : mL} {x : Nat → Int64} (h : PlV w c N n P I L) : PlV w c N n P I (va_up L P x) := by
  have e : pL1 P c = P + 11 + 3 * c := rfl
  refine PlV.mk (h.1.1.mono (fun a a1 a2 => uu_n _ _ (by omega))) (h.1.2.mono (fun a a1 a2 => uu_n _ _ (by omega))) (fun q hq => ?_)
  exact LvJ.mono (h.g hq) rfl (fun b b1 b2 => uu_n _ _ (by omega))
def EvC (w : Nat → Nat) (c N P : Nat) (I : mI) (L : mL) : Prop := L P 12 = -1 ∨ ∃ t h B, t < N ∧ h < 2 ^ 10 ∧ B < 2 ^ 4 ∧ L P 12 = kyF (nI 0) (nI t) (nI h) (nI B) ∧ EvA w c (nI h) B t (I P 11)
theorem EvC.pf {w : Nat → Nat} {c N P : Nat} {I J : mI} {L L' : mL} (h : EvC w c N P I L) (f : PfV P c I J L L') : EvC w c N P J L' := by
  unfold EvC
  rw [f.1 P (by omega), f.2 P (by omega)]
  exact h
section EK
variable {d P c n N B z th : Nat} {w : Nat → Nat} {A A2 : Nat → Nat} {S : mS} {I : mI} {L : mL} {R : mR} {Q : mQ}
theorem kyA {a b h e : Int32} : EvM (d + 1) 39 [.int a, .int b, .int h, .int e] S I L R Q = Q (.long (kyF a b h e)) S I L R := by
  simp only [M39, E39_0, E39_1, E39_2, E39_4, E39_5, E39_6, E39_7, E39_8, E39_10, E39_11, E39_12, E39_13, E39_14, E39_15, E39_16, E39_17, E39_18, E39_19, rfs, rfn, cs0, csi, csl, csr, csn, kti, ktl, ktr, ktn, ktv, ktf, true_and, and_true, and_self, ↓reduceIte, Nat.reduceAdd, Nat.reduceSub, Nat.reduceMul, Nat.reduceLT, Nat.reduceLeDiff, Nat.reduceEqDiff, true_or, or_true, false_or, or_false, not_true_eq_false, not_false_eq_true, reduceCtorEq, cmp_lt, cmp_gt, cmp_eq, Int32.reduceAdd, Int32.reduceSub, Int32.reduceMul, Int32.reduceLT, Int32.reduceToNatClampNeg, eq_self, ne_eq, Int64.reduceAdd, Int64.reduceSub, Int64.reduceMul, Int64.reduceLT, kyF]
def EvI (w : Nat → Nat) (c : Nat) (nu : Int32) (B t i : Nat) (v : Int32) : Prop := (v = -1 ∧ ∀ k, 1 ≤ k → k < i → noL w c nu B (evr w c k) t) ∨ (2 ≤ i ∧ v = nI (i - 1) ∧ ¬ noL w c nu B (evr w c (i - 1)) t ∧ ∀ k, 1 ≤ k → k < i - 1 → noL w c nu B (evr w c k) t)
theorem evK_lp {k : Int64} {b5 : Int32} (hP : PlS S R P c n) (hW : WN w c N) (hc : c ≤ 5) (hn : n < 2 ^ 24) (hN : N ≤ 64 * n) (hN3 : N < 2 ^ 30) (hz : SmS S R z) (hzP : z + 6 < P ∨ P + 54 + 3 * c ≤ z) (hK : StK I z c A A2 (nI th) B) (hb5 : b5 = nI (rnum w (fun _ => 2) c)) (hev : ∀ k, 1 ≤ k → k ≤ 9 → evr w c k < N ∧ irn w (evr w c k) c = k * c) (ha2 : irn w (rnum w A2 c) c = isum A2 c ∧ isum A2 c < 2 ^ 20) (hq : ∀ v J L', PlI J P c n w → PlV w c N n P J L' → PfE P c I J L L' → L' P 12 = L P 12 → J P 11 = v → EvA w c (nI th) B (rnum w A2 c) v → Q (.int v) S J L' R) : ∀ (q i : Nat) (J : mI) (L1 : mL) (x7 : Value) (kb : Nat), i + q = 10 → 1 ≤ i → PlI J P c n w → PlV w c N n P J L1 → PfE P c I J L L1 → L1 P 12 = L P 12 → J (P + 3) 6 = nI th → LvK false w c N 6 n J L1 (pL1 P c + 10) (pL1 P c + 11) (nI th) B (rnum w A2 c) kb → EvI w c (nI th) B (rnum w A2 c) i (J P 11) → Ev (d + 6) 36 67 [.ref P, .ref z, .int (nI B), .long k, nv, .int b5, .int (nI i), x7] [] S J L1 R Q := by
  have hP' := hP
  obtain ⟨⟨o0, -, -⟩, ⟨r0, r1, r2, r3, r4, -⟩, hF, ⟨v1, v2, v3, v4⟩, -⟩ := hP'
  have e : pL1 P c = P + 11 + 3 * c := rfl
  have z2 := hz.2.2.1
  have oF := hF.1.1
  have hB : B < 2 ^ 24 := by have := hK.2.2.2.2.2; omega
  have nm1 : ∀ i, i < 12 → ¬ nI i = (-1 : Int32) := by decide
  have fin : ∀ (x6 : Value) (J : mI) (L1 : mL) (x7 : Value), PlI J P c n w → PlV w c N n P J L1 → PfE P c I J L L1 → L1 P 12 = L P 12 → EvA w c (nI th) B (rnum w A2 c) (J P 11) → Ev (d + 6) 36 155 [.ref P, .ref z, .int (nI B), .long k, nv, .int b5, x6, x7] [] S J L1 R Q := fun x6 J L1 x7 hJ hV g gl a => by
    simp only [E36_155, E36_156, E36_159, rfs, rfn, cs0, csi, csl, csr, csn, kti, ktl, ktr, ktn, ktv, ktf, true_and, and_true, and_self, ↓reduceIte, Nat.reduceAdd, Nat.reduceSub, Nat.reduceMul, Nat.reduceLT, Nat.reduceLeDiff, Nat.reduceEqDiff, true_or, or_true, false_or, or_false, not_true_eq_false, not_false_eq_true, reduceCtorEq, cmp_lt, cmp_gt, cmp_eq, Int32.reduceAdd, Int32.reduceSub, Int32.reduceMul, Int32.reduceLT, Int32.reduceToNatClampNeg, eq_self, ne_eq, Int64.reduceAdd, Int64.reduceSub, Int64.reduceMul, Int64.reduceLT, o0]
    exact hq _ _ _ hJ hV g gl rfl a
  intro q
  induction q with
  | zero =>
    intro i J L1 x7 kb hi h1 hJ hV g gl hnu KB a
    obtain rfl : i = 10 := by omega
    have e0 : ((9 : Int32) < nI 10) = True := eq_true (by decide)
    rw [E36_67]
    simp only [E36_69, E36_71, rfs, rfn, cs0, csi, csl, csr, csn, kti, ktl, ktr, ktn, ktv, ktf, true_and, and_true, and_self, ↓reduceIte, Nat.reduceAdd, Nat.reduceSub, Nat.reduceMul, Nat.reduceLT, Nat.reduceLeDiff, Nat.reduceEqDiff, true_or, or_true, false_or, or_false, not_true_eq_false, not_false_eq_true, reduceCtorEq, cmp_lt, cmp_gt, cmp_eq, Int32.reduceAdd, Int32.reduceSub, Int32.reduceMul, Int32.reduceLT, Int32.reduceToNatClampNeg, eq_self, ne_eq, Int64.reduceAdd, Int64.reduceSub, Int64.reduceMul, Int64.reduceLT, e0]
    refine fin _ _ _ _ hJ hV g gl ?_
    rcases a with ⟨a1, a2⟩ | ⟨a1, a2, a3, a4⟩
    · exact Or.inl ⟨a1, fun k k1 k2 => a2 k k1 (by omega)⟩
    · exact Or.inr ⟨9, by decide, by decide, a2, a3, a4⟩
  | succ q ih =>
    intro i J L1 x7 kb hi h1 hJ hV g gl hnu KB a
    have e0 : ((9 : Int32) < nI i) = False := eq_false (nI_nlt (a := 9) (b := i) (by omega) (by omega))
    rw [E36_67]
    rcases a with ⟨a1, a2⟩ | ⟨a1, a2, a3, a4⟩
    · obtain ⟨y0, b1, s1, n1, t1, -⟩ := hK.pe hzP g
      have s1' : nI i - 1 = nI (i - 1) := by
        obtain ⟨q, rfl⟩ : ∃ q, i = q + 1 := ⟨i - 1, by omega⟩
        exact nI_m1 q
      have ro : b5 * nI (i - 1) = nI (evr w c i) := by
        rw [hb5, pk_mul]
        unfold evr
        rw [rnum_c (k := i)]
      obtain ⟨ev1, ev2⟩ := hev i h1 (by omega)
      simp only [E36_0, E36_1, E36_1n, E36_2, E36_5, E36_5n, E36_6, E36_9, E36_10, E36_11, E36_12, E36_13, E36_14, E36_17, E36_17n, E36_18, E36_21, E36_24, E36_24n, E36_25, E36_28, E36_29, E36_32, E36_33, E36_34, E36_35, E36_38, E36_39, E36_42, E36_43, E36_44, E36_47, E36_48, E36_49, E36_52, E36_53, E36_56, E36_59, E36_62, E36_64, E36_65, E36_69, E36_71, E36_74, E36_75, E36_78, E36_79, E36_82, E36_83, E36_86, E36_88, E36_90, E36_91, E36_92, E36_93, E36_93n, E36_94, E36_97, E36_98, E36_101, E36_103, E36_104, E36_107, E36_110, E36_111, E36_111n, E36_112, E36_112n, E36_113, E36_116, E36_119, E36_120, E36_122, E36_123, E36_124, E36_127, E36_128, E36_131, E36_133, E36_136, E36_137, E36_140, E36_141, E36_144, E36_146, E36_149, E36_152, E36_156, E36_159, rfs, rfn, cs0, csi, csl, csr, csn, kti, ktl, ktr, ktn, ktv, ktf, true_and, and_true, and_self, ↓reduceIte, Nat.reduceAdd, Nat.reduceSub, Nat.reduceMul, Nat.reduceLT, Nat.reduceLeDiff, Nat.reduceEqDiff, true_or, or_true, false_or, or_false, not_true_eq_false, not_false_eq_true, reduceCtorEq, cmp_lt, cmp_gt, cmp_eq, Int32.reduceAdd, Int32.reduceSub, Int32.reduceMul, Int32.reduceLT, Int32.reduceToNatClampNeg, eq_self, ne_eq, Int64.reduceAdd, Int64.reduceSub, Int64.reduceMul, Int64.reduceLT, e0, a1, o0, r3, sk0 hz, v3.1.1, s1', ro, n1]
      refine aiK (m := 3) (N := N) (on := true) (w := w) (c := c) v3 hn (by omega) hN hN3 hB ev1 hV.2.2.2.1 (fun J2 L2 k3 fV fG K3 => ?_)
      obtain ⟨hV2, f2⟩ := hV.one (q := 2) (by decide) fV fG (K3.j hB)
      have hJ2 := hJ.one fV (Or.inl (by omega))
      have g2 := g.tr f2.e
      obtain ⟨y0', b2, s2, -⟩ := hK.pe hzP g2
      have KB2 : LvK false w c N 6 n J2 L2 (pL1 P c + 10) (pL1 P c + 11) (nI th) B (rnum w A2 c) kb := KB.mono (fV _ (by omega)) (fun b x y => fG b (by omega) (by omega) (by omega) (by omega))
      have hnu2 : J2 (P + 3) 6 = nI th := by rw [fV _ (by omega)]; exact hnu
      have ic := hJ2.1.1
      simp only [E36_0, E36_1, E36_1n, E36_2, E36_5, E36_5n, E36_6, E36_9, E36_10, E36_11, E36_12, E36_13, E36_14, E36_17, E36_17n, E36_18, E36_21, E36_24, E36_24n, E36_25, E36_28, E36_29, E36_32, E36_33, E36_34, E36_35, E36_38, E36_39, E36_42, E36_43, E36_44, E36_47, E36_48, E36_49, E36_52, E36_53, E36_56, E36_59, E36_62, E36_64, E36_65, E36_69, E36_71, E36_74, E36_75, E36_78, E36_79, E36_82, E36_83, E36_86, E36_88, E36_90, E36_91, E36_92, E36_93, E36_93n, E36_94, E36_97, E36_98, E36_101, E36_103, E36_104, E36_107, E36_110, E36_111, E36_111n, E36_112, E36_112n, E36_113, E36_116, E36_119, E36_120, E36_122, E36_123, E36_124, E36_127, E36_128, E36_131, E36_133, E36_136, E36_137, E36_140, E36_141, E36_144, E36_146, E36_149, E36_152, E36_156, E36_159, rfs, rfn, cs0, csi, csl, csr, csn, kti, ktl, ktr, ktn, ktv, ktf, true_and, and_true, and_self, ↓reduceIte, Nat.reduceAdd, Nat.reduceSub, Nat.reduceMul, Nat.reduceLT, Nat.reduceLeDiff, Nat.reduceEqDiff, true_or, or_true, false_or, or_false, not_true_eq_false, not_false_eq_true, reduceCtorEq, cmp_lt, cmp_gt, cmp_eq, Int32.reduceAdd, Int32.reduceSub, Int32.reduceMul, Int32.reduceLT, Int32.reduceToNatClampNeg, eq_self, ne_eq, Int64.reduceAdd, Int64.reduceSub, Int64.reduceMul, Int64.reduceLT, o0, oF, r0, sk0 hz, z2.2.2, ic, pk_mul]
      rw [ioK hz.1 z2.1 z2.2.1 y0' hc s2]
      simp only [E36_0, E36_1, E36_1n, E36_2, E36_5, E36_5n, E36_6, E36_9, E36_10, E36_11, E36_12, E36_13, E36_14, E36_17, E36_17n, E36_18, E36_21, E36_24, E36_24n, E36_25, E36_28, E36_29, E36_32, E36_33, E36_34, E36_35, E36_38, E36_39, E36_42, E36_43, E36_44, E36_47, E36_48, E36_49, E36_52, E36_53, E36_56, E36_59, E36_62, E36_64, E36_65, E36_69, E36_71, E36_74, E36_75, E36_78, E36_79, E36_82, E36_83, E36_86, E36_88, E36_90, E36_91, E36_92, E36_93, E36_93n, E36_94, E36_97, E36_98, E36_101, E36_103, E36_104, E36_107, E36_110, E36_111, E36_111n, E36_112, E36_112n, E36_113, E36_116, E36_119, E36_120, E36_122, E36_123, E36_124, E36_127, E36_128, E36_131, E36_133, E36_136, E36_137, E36_140, E36_141, E36_144, E36_146, E36_149, E36_152, E36_156, E36_159, rfs, rfn, cs0, csi, csl, csr, csn, kti, ktl, ktr, ktn, ktv, ktf, true_and, and_true, and_self, ↓reduceIte, Nat.reduceAdd, Nat.reduceSub, Nat.reduceMul, Nat.reduceLT, Nat.reduceLeDiff, Nat.reduceEqDiff, true_or, or_true, false_or, or_false, not_true_eq_false, not_false_eq_true, reduceCtorEq, cmp_lt, cmp_gt, cmp_eq, Int32.reduceAdd, Int32.reduceSub, Int32.reduceMul, Int32.reduceLT, Int32.reduceToNatClampNeg, eq_self, ne_eq, Int64.reduceAdd, Int64.reduceSub, Int64.reduceMul, Int64.reduceLT, o0, r2, r3]
      refine feP (q1 := 2) (q2 := 1) rfl rfl (by decide) (by decide) hP hJ2 hV2 hW hc hn hN hB hnu2 K3 KB2 (fun u J3 L3 k3' kb' hJ3 hV3 g3 hnu3 _ KB3 hF3 => ?_)
      have mh : MinH w c (nI th) B (evr w c i) (rnum w A2 c) u := hF3.min hW.1 hW.2.1 (by
        rw [ev2, ha2.1]
        exact losI (by have := Nat.mul_le_mul (show i ≤ 9 by omega) hc; omega) ha2.2)
      have gl3 : L3 P 12 = L P 12 := by
        rw [g3.2 P (by omega), f2.2 P (by omega)]
        exact gl
      have nx : ∀ x, EvI w c (nI th) B (rnum w A2 c) (i + 1) x → Ev (d + 6) 36 67 [.ref P, .ref z, .int (nI B), .long k, nv, .int b5, .int (nI (i + 1)), .int (nI i * nI c - nI (isum A2 c))] [] S (put J3 P 11 x) L3 R Q := fun x hx => by
        refine ih (i + 1) _ _ _ kb' (by omega) (by omega) hJ3.pt hV3.pt ((g2.tr g3.e).tr PfE.p) gl3 ?_ (KB3.mono (pt_n (by omega)) (fun _ _ _ => rfl)) ?_
        · rw [pt_n (by omega)]
          exact hnu3
        · rw [pt_s]
          exact hx
      rw [pk_mul] at nx
      by_cases gu : u = -1
      · simp only [E36_0, E36_1, E36_1n, E36_2, E36_5, E36_5n, E36_6, E36_9, E36_10, E36_11, E36_12, E36_13, E36_14, E36_17, E36_17n, E36_18, E36_21, E36_24, E36_24n, E36_25, E36_28, E36_29, E36_32, E36_33, E36_34, E36_35, E36_38, E36_39, E36_42, E36_43, E36_44, E36_47, E36_48, E36_49, E36_52, E36_53, E36_56, E36_59, E36_62, E36_64, E36_65, E36_69, E36_71, E36_74, E36_75, E36_78, E36_79, E36_82, E36_83, E36_86, E36_88, E36_90, E36_91, E36_92, E36_93, E36_93n, E36_94, E36_97, E36_98, E36_101, E36_103, E36_104, E36_107, E36_110, E36_111, E36_111n, E36_112, E36_112n, E36_113, E36_116, E36_119, E36_120, E36_122, E36_123, E36_124, E36_127, E36_128, E36_131, E36_133, E36_136, E36_137, E36_140, E36_141, E36_144, E36_146, E36_149, E36_152, E36_156, E36_159, rfs, rfn, cs0, csi, csl, csr, csn, kti, ktl, ktr, ktn, ktv, ktf, true_and, and_true, and_self, ↓reduceIte, Nat.reduceAdd, Nat.reduceSub, Nat.reduceMul, Nat.reduceLT, Nat.reduceLeDiff, Nat.reduceEqDiff, true_or, or_true, false_or, or_false, not_true_eq_false, not_false_eq_true, reduceCtorEq, cmp_lt, cmp_gt, cmp_eq, Int32.reduceAdd, Int32.reduceSub, Int32.reduceMul, Int32.reduceLT, Int32.reduceToNatClampNeg, eq_self, ne_eq, Int64.reduceAdd, Int64.reduceSub, Int64.reduceMul, Int64.reduceLT, gu, o0, pt, nI_1]
        refine nx _ (Or.inl ⟨rfl, fun k k1 k2 => ?_⟩)
        by_cases y : k = i
        · rw [y]
          exact mh.no.mp gu
        · exact a2 k k1 (by omega)
      · simp only [E36_0, E36_1, E36_1n, E36_2, E36_5, E36_5n, E36_6, E36_9, E36_10, E36_11, E36_12, E36_13, E36_14, E36_17, E36_17n, E36_18, E36_21, E36_24, E36_24n, E36_25, E36_28, E36_29, E36_32, E36_33, E36_34, E36_35, E36_38, E36_39, E36_42, E36_43, E36_44, E36_47, E36_48, E36_49, E36_52, E36_53, E36_56, E36_59, E36_62, E36_64, E36_65, E36_69, E36_71, E36_74, E36_75, E36_78, E36_79, E36_82, E36_83, E36_86, E36_88, E36_90, E36_91, E36_92, E36_93, E36_93n, E36_94, E36_97, E36_98, E36_101, E36_103, E36_104, E36_107, E36_110, E36_111, E36_111n, E36_112, E36_112n, E36_113, E36_116, E36_119, E36_120, E36_122, E36_123, E36_124, E36_127, E36_128, E36_131, E36_133, E36_136, E36_137, E36_140, E36_141, E36_144, E36_146, E36_149, E36_152, E36_156, E36_159, rfs, rfn, cs0, csi, csl, csr, csn, kti, ktl, ktr, ktn, ktv, ktf, true_and, and_true, and_self, ↓reduceIte, Nat.reduceAdd, Nat.reduceSub, Nat.reduceMul, Nat.reduceLT, Nat.reduceLeDiff, Nat.reduceEqDiff, true_or, or_true, false_or, or_false, not_true_eq_false, not_false_eq_true, reduceCtorEq, cmp_lt, cmp_gt, cmp_eq, Int32.reduceAdd, Int32.reduceSub, Int32.reduceMul, Int32.reduceLT, Int32.reduceToNatClampNeg, eq_self, ne_eq, Int64.reduceAdd, Int64.reduceSub, Int64.reduceMul, Int64.reduceLT, gu, o0, pt, nI_1]
        exact nx _ (Or.inr ⟨by omega, rfl, fun z => gu (mh.no.mpr z), fun k k1 k2 => a2 k k1 k2⟩)
    · have g1 : ¬ J P 11 = -1 := by rw [a2]; exact nm1 _ (by omega)
      simp only [E36_0, E36_1, E36_1n, E36_2, E36_5, E36_5n, E36_6, E36_9, E36_10, E36_11, E36_12, E36_13, E36_14, E36_17, E36_17n, E36_18, E36_21, E36_24, E36_24n, E36_25, E36_28, E36_29, E36_32, E36_33, E36_34, E36_35, E36_38, E36_39, E36_42, E36_43, E36_44, E36_47, E36_48, E36_49, E36_52, E36_53, E36_56, E36_59, E36_62, E36_64, E36_65, E36_69, E36_71, E36_74, E36_75, E36_78, E36_79, E36_82, E36_83, E36_86, E36_88, E36_90, E36_91, E36_92, E36_93, E36_93n, E36_94, E36_97, E36_98, E36_101, E36_103, E36_104, E36_107, E36_110, E36_111, E36_111n, E36_112, E36_112n, E36_113, E36_116, E36_119, E36_120, E36_122, E36_123, E36_124, E36_127, E36_128, E36_131, E36_133, E36_136, E36_137, E36_140, E36_141, E36_144, E36_146, E36_149, E36_152, E36_156, E36_159, rfs, rfn, cs0, csi, csl, csr, csn, kti, ktl, ktr, ktn, ktv, ktf, true_and, and_true, and_self, ↓reduceIte, Nat.reduceAdd, Nat.reduceSub, Nat.reduceMul, Nat.reduceLT, Nat.reduceLeDiff, Nat.reduceEqDiff, true_or, or_true, false_or, or_false, not_true_eq_false, not_false_eq_true, reduceCtorEq, cmp_lt, cmp_gt, cmp_eq, Int32.reduceAdd, Int32.reduceSub, Int32.reduceMul, Int32.reduceLT, Int32.reduceToNatClampNeg, eq_self, ne_eq, Int64.reduceAdd, Int64.reduceSub, Int64.reduceMul, Int64.reduceLT, e0, g1, o0]
      exact fin _ _ _ _ hJ hV g gl (Or.inr ⟨i - 1, by omega, by omega, a2, a3, a4⟩)
theorem evK (hS : Pm S) (h85 : 85 ≤ P) (hP : PlS S R P c n) (hI : PlI I P c n w) (hV : PlV w c N n P I L) (hW : WN w c N) (hc : c ≤ 5) (hn : n < 2 ^ 24) (hN : N ≤ 64 * n) (hN3 : N ≤ 2 ^ 16) (hz : SmS S R z) (hzP : z + 6 < P ∨ P + 54 + 3 * c ≤ z) (hK : StK I z c A A2 (nI th) B) (hth : th < 2 ^ 10) (hB4 : B < 2 ^ 4) (hr : rnum w A c < N) (ht : rnum w A2 c < N) (h3 : RwK I 3 c (fun _ => 2)) (hev : ∀ k, 1 ≤ k → k ≤ 9 → evr w c k < N ∧ irn w (evr w c k) c = k * c) (ha2 : irn w (rnum w A2 c) c = isum A2 c ∧ isum A2 c < 2 ^ 20) (hC : EvC w c N P I L) (hq : ∀ v J L', PlI J P c n w → PlV w c N n P J L' → PfE P c I J L L' → EvC w c N P J L' → EvA w c (nI th) B (rnum w A2 c) v → Q (.int v) S J L' R) : EvM (d + 6) 36 [.ref P, .ref z] S I L R Q := by
  have hP' := hP
  obtain ⟨⟨o0, -, -⟩, ⟨r0, r1, r2, r3, r4, -⟩, hF, -⟩ := hP'
  have e : pL1 P c = P + 11 + 3 * c := rfl
  have z2 := hz.2.2.1
  have si2 : okI S (z + 2) := ⟨z2.1.1, Or.inl z2.1.2⟩
  have oF := hF.1.1
  have z0 : (0 : Int32).toNatClampNeg = 0 := rfl
  simp only [M36, E36_0, E36_1, E36_1n, E36_2, E36_5, E36_5n, E36_6, E36_9, E36_10, E36_11, E36_12, E36_13, E36_14, E36_17, E36_17n, E36_18, E36_21, E36_24, E36_24n, E36_25, E36_28, E36_29, E36_32, E36_33, E36_34, E36_35, E36_38, E36_39, E36_42, E36_43, E36_44, E36_47, E36_48, E36_49, E36_52, E36_53, E36_56, E36_59, E36_62, E36_64, E36_65, E36_69, E36_71, E36_74, E36_75, E36_78, E36_79, E36_82, E36_83, E36_86, E36_88, E36_90, E36_91, E36_92, E36_93, E36_93n, E36_94, E36_97, E36_98, E36_101, E36_103, E36_104, E36_107, E36_110, E36_111, E36_111n, E36_112, E36_112n, E36_113, E36_116, E36_119, E36_120, E36_122, E36_123, E36_124, E36_127, E36_128, E36_131, E36_133, E36_136, E36_137, E36_140, E36_141, E36_144, E36_146, E36_149, E36_152, E36_155, E36_156, E36_159, rfs, rfn, cs0, csi, csl, csr, csn, kti, ktl, ktr, ktn, ktv, ktf, true_and, and_true, and_self, ↓reduceIte, Nat.reduceAdd, Nat.reduceSub, Nat.reduceMul, Nat.reduceLT, Nat.reduceLeDiff, Nat.reduceEqDiff, true_or, or_true, false_or, or_false, not_true_eq_false, not_false_eq_true, reduceCtorEq, cmp_lt, cmp_gt, cmp_eq, Int32.reduceAdd, Int32.reduceSub, Int32.reduceMul, Int32.reduceLT, Int32.reduceToNatClampNeg, eq_self, ne_eq, Int64.reduceAdd, Int64.reduceSub, Int64.reduceMul, Int64.reduceLT, o0]
  refine aaK (d := d + 1) hP hI hV hW hc hn hN (by omega) hz hzP hK hr ht (fun J L1 k1 k2 hJ hV1 g hnu K1 K2 => ?_)
  obtain ⟨y0, b1, s1, n1, t1, -⟩ := hK.pf hzP g
  have hC1 := hC.pf g
  simp only [E36_0, E36_1, E36_1n, E36_2, E36_5, E36_5n, E36_6, E36_9, E36_10, E36_11, E36_12, E36_13, E36_14, E36_17, E36_17n, E36_18, E36_21, E36_24, E36_24n, E36_25, E36_28, E36_29, E36_32, E36_33, E36_34, E36_35, E36_38, E36_39, E36_42, E36_43, E36_44, E36_47, E36_48, E36_49, E36_52, E36_53, E36_56, E36_59, E36_62, E36_64, E36_65, E36_69, E36_71, E36_74, E36_75, E36_78, E36_79, E36_82, E36_83, E36_86, E36_88, E36_90, E36_91, E36_92, E36_93, E36_93n, E36_94, E36_97, E36_98, E36_101, E36_103, E36_104, E36_107, E36_110, E36_111, E36_111n, E36_112, E36_112n, E36_113, E36_116, E36_119, E36_120, E36_122, E36_123, E36_124, E36_127, E36_128, E36_131, E36_133, E36_136, E36_137, E36_140, E36_141, E36_144, E36_146, E36_149, E36_152, E36_156, E36_159, rfs, rfn, cs0, csi, csl, csr, csn, kti, ktl, ktr, ktn, ktv, ktf, true_and, and_true, and_self, ↓reduceIte, Nat.reduceAdd, Nat.reduceSub, Nat.reduceMul, Nat.reduceLT, Nat.reduceLeDiff, Nat.reduceEqDiff, true_or, or_true, false_or, or_false, not_true_eq_false, not_false_eq_true, reduceCtorEq, cmp_lt, cmp_gt, cmp_eq, Int32.reduceAdd, Int32.reduceSub, Int32.reduceMul, Int32.reduceLT, Int32.reduceToNatClampNeg, eq_self, ne_eq, Int64.reduceAdd, Int64.reduceSub, Int64.reduceMul, Int64.reduceLT, o0, oF, r0, sk0 hz, z2.2.2, sr4 hz, si3 hz, sl3 hz, ib0_5, z0, t1]
  refine nuK hF hJ.1 hc si2 z2.2.1 s1 ?_
  simp only [E36_0, E36_1, E36_1n, E36_2, E36_5, E36_5n, E36_6, E36_9, E36_10, E36_11, E36_12, E36_13, E36_14, E36_17, E36_17n, E36_18, E36_21, E36_24, E36_24n, E36_25, E36_28, E36_29, E36_32, E36_33, E36_34, E36_35, E36_38, E36_39, E36_42, E36_43, E36_44, E36_47, E36_48, E36_49, E36_52, E36_53, E36_56, E36_59, E36_62, E36_64, E36_65, E36_69, E36_71, E36_74, E36_75, E36_78, E36_79, E36_82, E36_83, E36_86, E36_88, E36_90, E36_91, E36_92, E36_93, E36_93n, E36_94, E36_97, E36_98, E36_101, E36_103, E36_104, E36_107, E36_110, E36_111, E36_111n, E36_112, E36_112n, E36_113, E36_116, E36_119, E36_120, E36_122, E36_123, E36_124, E36_127, E36_128, E36_131, E36_133, E36_136, E36_137, E36_140, E36_141, E36_144, E36_146, E36_149, E36_152, E36_156, E36_159, rfs, rfn, cs0, csi, csl, csr, csn, kti, ktl, ktr, ktn, ktv, ktf, true_and, and_true, and_self, ↓reduceIte, Nat.reduceAdd, Nat.reduceSub, Nat.reduceMul, Nat.reduceLT, Nat.reduceLeDiff, Nat.reduceEqDiff, true_or, or_true, false_or, or_false, not_true_eq_false, not_false_eq_true, reduceCtorEq, cmp_lt, cmp_gt, cmp_eq, Int32.reduceAdd, Int32.reduceSub, Int32.reduceMul, Int32.reduceLT, Int32.reduceToNatClampNeg, eq_self, ne_eq, Int64.reduceAdd, Int64.reduceSub, Int64.reduceMul, Int64.reduceLT, o0, sk0 hz, n1]
  rw [kyA]
  have k0 : kyF 0 (nI (rnum w A2 c)) (nI th) (nI B) = kyF (nI 0) (nI (rnum w A2 c)) (nI th) (nI B) := rfl
  by_cases gk : kyF 0 (nI (rnum w A2 c)) (nI th) (nI B) = L1 P 12
  · simp only [E36_0, E36_1, E36_1n, E36_2, E36_5, E36_5n, E36_6, E36_9, E36_10, E36_11, E36_12, E36_13, E36_14, E36_17, E36_17n, E36_18, E36_21, E36_24, E36_24n, E36_25, E36_28, E36_29, E36_32, E36_33, E36_34, E36_35, E36_38, E36_39, E36_42, E36_43, E36_44, E36_47, E36_48, E36_49, E36_52, E36_53, E36_56, E36_59, E36_62, E36_64, E36_65, E36_69, E36_71, E36_74, E36_75, E36_78, E36_79, E36_82, E36_83, E36_86, E36_88, E36_90, E36_91, E36_92, E36_93, E36_93n, E36_94, E36_97, E36_98, E36_101, E36_103, E36_104, E36_107, E36_110, E36_111, E36_111n, E36_112, E36_112n, E36_113, E36_116, E36_119, E36_120, E36_122, E36_123, E36_124, E36_127, E36_128, E36_131, E36_133, E36_136, E36_137, E36_140, E36_141, E36_144, E36_146, E36_149, E36_152, E36_155, E36_156, E36_159, rfs, rfn, cs0, csi, csl, csr, csn, kti, ktl, ktr, ktn, ktv, ktf, true_and, and_true, and_self, ↓reduceIte, Nat.reduceAdd, Nat.reduceSub, Nat.reduceMul, Nat.reduceLT, Nat.reduceLeDiff, Nat.reduceEqDiff, true_or, or_true, false_or, or_false, not_true_eq_false, not_false_eq_true, reduceCtorEq, cmp_lt, cmp_gt, cmp_eq, Int32.reduceAdd, Int32.reduceSub, Int32.reduceMul, Int32.reduceLT, Int32.reduceToNatClampNeg, eq_self, ne_eq, Int64.reduceAdd, Int64.reduceSub, Int64.reduceMul, Int64.reduceLT, o0, gk]
    refine hq _ _ _ hJ hV1 g.e hC1 ?_
    rcases hC1 with c1 | ⟨t, h, B', c1, c2, c3, c4, c5⟩
    · rw [c1, k0] at gk
      exact absurd gk (kyF_m (by decide) (by omega) hth hB4)
    · rw [c4, k0] at gk
      obtain ⟨-, q1, q2, q3⟩ := kyF_i (by decide) (by omega) hth hB4 (by decide) (by omega) c2 c3 gk
      rw [q1, q2, q3]
      exact c5
  · have l12 : (va_up L1 P (va_up (L1 P) 12 (kyF 0 (nI (rnum w A2 c)) (nI th) (nI B)))) P 12 = kyF (nI 0) (nI (rnum w A2 c)) (nI th) (nI B) := by rw [uu_s, uu_s]; exact k0
    have g1 : PfE P c I (put J P 11 (-1)) L (va_up L1 P (va_up (L1 P) 12 (kyF 0 (nI (rnum w A2 c)) (nI th) (nI B)))) := (g.e.tr PfE.p).tr PfE.l
    simp only [E36_0, E36_1, E36_1n, E36_2, E36_5, E36_5n, E36_6, E36_9, E36_10, E36_11, E36_12, E36_13, E36_14, E36_17, E36_17n, E36_18, E36_21, E36_24, E36_24n, E36_25, E36_28, E36_29, E36_32, E36_33, E36_34, E36_35, E36_38, E36_39, E36_42, E36_43, E36_44, E36_47, E36_48, E36_49, E36_52, E36_53, E36_56, E36_59, E36_62, E36_64, E36_65, E36_69, E36_71, E36_74, E36_75, E36_78, E36_79, E36_82, E36_83, E36_86, E36_88, E36_90, E36_91, E36_92, E36_93, E36_93n, E36_94, E36_97, E36_98, E36_101, E36_103, E36_104, E36_107, E36_110, E36_111, E36_111n, E36_112, E36_112n, E36_113, E36_116, E36_119, E36_120, E36_122, E36_123, E36_124, E36_127, E36_128, E36_131, E36_133, E36_136, E36_137, E36_140, E36_141, E36_144, E36_146, E36_149, E36_152, E36_156, E36_159, rfs, rfn, cs0, csi, csl, csr, csn, kti, ktl, ktr, ktn, ktv, ktf, true_and, and_true, and_self, ↓reduceIte, Nat.reduceAdd, Nat.reduceSub, Nat.reduceMul, Nat.reduceLT, Nat.reduceLeDiff, Nat.reduceEqDiff, true_or, or_true, false_or, or_false, not_true_eq_false, not_false_eq_true, reduceCtorEq, cmp_lt, cmp_gt, cmp_eq, Int32.reduceAdd, Int32.reduceSub, Int32.reduceMul, Int32.reduceLT, Int32.reduceToNatClampNeg, eq_self, ne_eq, Int64.reduceAdd, Int64.reduceSub, Int64.reduceMul, Int64.reduceLT, o0, oF, r0, pt, gk]
    refine nuK hF hJ.pt.1 hc (of_eq_true (pi3 hS)) (pl3 hS) (h3.cg ((pt_n (by omega)).trans (g.1 3 (by omega)))) ?_
    simp only [E36_0, E36_1, E36_1n, E36_2, E36_5, E36_5n, E36_6, E36_9, E36_10, E36_11, E36_12, E36_13, E36_14, E36_17, E36_17n, E36_18, E36_21, E36_24, E36_24n, E36_25, E36_28, E36_29, E36_32, E36_33, E36_34, E36_35, E36_38, E36_39, E36_42, E36_43, E36_44, E36_47, E36_48, E36_49, E36_52, E36_53, E36_56, E36_59, E36_62, E36_64, E36_65, E36_69, E36_71, E36_74, E36_75, E36_78, E36_79, E36_82, E36_83, E36_86, E36_88, E36_90, E36_91, E36_92, E36_93, E36_93n, E36_94, E36_97, E36_98, E36_101, E36_103, E36_104, E36_107, E36_110, E36_111, E36_111n, E36_112, E36_112n, E36_113, E36_116, E36_119, E36_120, E36_122, E36_123, E36_124, E36_127, E36_128, E36_131, E36_133, E36_136, E36_137, E36_140, E36_141, E36_144, E36_146, E36_149, E36_152, E36_156, E36_159, rfs, rfn, cs0, csi, csl, csr, csn, kti, ktl, ktr, ktn, ktv, ktf, true_and, and_true, and_self, ↓reduceIte, Nat.reduceAdd, Nat.reduceSub, Nat.reduceMul, Nat.reduceLT, Nat.reduceLeDiff, Nat.reduceEqDiff, true_or, or_true, false_or, or_false, not_true_eq_false, not_false_eq_true, reduceCtorEq, cmp_lt, cmp_gt, cmp_eq, Int32.reduceAdd, Int32.reduceSub, Int32.reduceMul, Int32.reduceLT, Int32.reduceToNatClampNeg, eq_self, ne_eq, Int64.reduceAdd, Int64.reduceSub, Int64.reduceMul, Int64.reduceLT]
    have lp := evK_lp (d := d) (k := kyF 0 (nI (rnum w A2 c)) (nI th) (nI B)) (b5 := nI (rnum w (fun _ => 2) c)) (I := put J P 11 (-1)) (L := va_up L1 P (va_up (L1 P) 12 (kyF 0 (nI (rnum w A2 c)) (nI th) (nI B)))) (Q := Q) hP hW hc hn hN (by omega) hz hzP (hK.pe hzP g1) rfl hev ha2 (fun v J' L' x1 x2 x3 x4 x5 x6 => hq v J' L' x1 x2 (g1.tr x3) (Or.inr ⟨rnum w A2 c, th, B, ht, hth, hB4, by rw [x4]; exact l12, by rw [x5]; exact x6⟩) x6) 9 1
    refine lp _ _ _ k2 (by omega) (by omega) hJ.pt hV1.pt.lp ⟨⟨fun _ _ => rfl, fun _ _ => rfl⟩, fun _ _ => rfl, fun _ _ => rfl⟩ rfl ?_ (K2.mono (pt_n (by omega)) (fun b x y => uu_n _ _ (by omega))) ?_
    · rw [pt_n (by omega)]
      exact hnu
    · rw [pt_s]
      exact Or.inl ⟨rfl, fun k k1 k2 => by omega⟩
end EK
