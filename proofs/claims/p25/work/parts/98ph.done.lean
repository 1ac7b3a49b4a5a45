/-! group G (p25): the reference's doneBy, soonest exactly -/
section GH
variable {d n F : Nat} {S : mS} {I : mI} {L : mL} {R : mR} {Q : mQ} {mm nd fr : Nat → Nat} {o : Nat → Nat}
def PrM (mm nd : Nat → Nat) (n : Nat) (I : mI) : Prop := n ≤ 8 ∧ I 56 2 = nI n ∧ ∀ p, p < n → I 56 (40 + 2 * p) = nI (mm p) ∧ I 56 (40 + 2 * p + 1) = (if nd p = 0 then -1 else nI (nd p - 1)) ∧ 1 ≤ mm p ∧ mm p ≤ 200 ∧ nd p ≤ p
def DbJ (F : Nat) (a : List Nat) (s : gSt) (I0 J : mI) : Prop := (∀ c, ¬ c = 82 → ¬ c = 83 → J c = I0 c) ∧ (∃ fr : Nat → Nat, (∀ k, k < F → J 83 k = nI (fr k)) ∧ arL fr F = s.1) ∧ ∀ i, i ∈ a → J 82 i = nI (s.2 i)
theorem mx_ins {l : List Nat} {e : Nat} (h0 : 0 < l.length) (h : hdl l ≤ e) : mx2 (mxl l) e = mxl (ins e l.tail) := by
  rw [mxl_ins, mxl_c h0]
  unfold mx2
  repeat' split
  all_goals omega
theorem dfE {y2 y3 y4 y5 : Value} {y6 : Int32} (hS : Pm S) (hR : Pr R) (hF : F ≤ 3) (h83 : ∀ k, k < F → I 83 k = nI (fr k)) (hb : mxl (arL fr F) ≤ 1600) (hq : ∀ f, f < F → hdl (arL fr F) = fr f → Ev (d + 1) 224 134 [.ref 54, .int (nI F), y2, y3, y4, y5, .int y6, .int (nI f), .int (nI F)] [] S I L R Q) : ∀ (q i f : Nat), i + q = F → f < i → hdl (arL fr i) = fr f → Ev (d + 1) 224 96 [.ref 54, .int (nI F), y2, y3, y4, y5, .int y6, .int (nI f), .int (nI i)] [] S I L R Q := by
  intro q
  induction q with
  | zero =>
    intro i f hi hf hm
    obtain rfl : i = F := by omega
    have e1 : (nI i < nI i) = False := eq_false (nI_nlt (by omega) (by omega))
    simp only [E224_96, E224_98, E224_99, rfs, rfn, cs0, csi, csl, csr, csn, kti, ktl, ktr, ktn, ktv, ktf, true_and, and_true, and_self, ↓reduceIte, Nat.reduceAdd, Nat.reduceSub, Nat.reduceMul, Nat.reduceLT, Nat.reduceLeDiff, Nat.reduceEqDiff, true_or, or_true, false_or, or_false, not_true_eq_false, not_false_eq_true, reduceCtorEq, cmp_lt, cmp_gt, cmp_eq, Int32.reduceAdd, Int32.reduceSub, Int32.reduceMul, Int32.reduceLT, Int32.reduceToNatClampNeg, eq_self, ne_eq, Int64.reduceAdd, Int64.reduceSub, Int64.reduceMul, Int64.reduceLT, e1]
    exact hq f hf hm
  | succ q ih =>
    intro i f hi hf hm
    have e1 : (nI i < nI F) = True := eq_true (nI_lt (by omega) (by omega))
    have i0 : inb (nI i) 3 = True := inb_nI (by omega) (by decide)
    have f0 : inb (nI f) 3 = True := inb_nI (by omega) (by decide)
    have e5 : (nI i).toNatClampNeg = i := nI_clamp (by omega)
    have e6 : (nI f).toNatClampNeg = f := nI_clamp (by omega)
    have b1 := ar_le hb (show i < F by omega)
    have b2 := ar_le hb (show f < F by omega)
    have hh : hdl (arL fr (i + 1)) = if fr i ≤ fr f then fr i else fr f := by
      show hdl (ins (fr i) (arL fr i)) = _
      have l0 : 0 < (arL fr i).length := by rw [ar_len]; omega
      generalize arL fr i = l at hm l0
      match l, l0, hm with
      | c :: l, _, hm =>
        have hc : c = fr f := hm
        rw [ins_c, hc]
        by_cases g : fr i ≤ fr f
        · rw [if_pos g, if_pos g]; rfl
        · rw [if_neg g, if_neg g]; rfl
    rw [E224_96]
    by_cases g : fr i < fr f
    · have g' : (nI (fr i) < nI (fr f)) = True := eq_true (nI_lt g (by omega))
      simp only [E224_98, E224_99, E224_102, E224_103, E224_106, E224_108, E224_109, E224_110, E224_113, E224_115, E224_116, E224_119, E224_121, E224_124, E224_126, E224_128, E224_131, pk54 hS, pk83 hS, pl83 hS, pa83 hS, pi83 hS, pr54_65 hR, rfs, rfn, cs0, csi, csl, csr, csn, kti, ktl, ktr, ktn, ktv, ktf, true_and, and_true, and_self, ↓reduceIte, Nat.reduceAdd, Nat.reduceSub, Nat.reduceMul, Nat.reduceLT, Nat.reduceLeDiff, Nat.reduceEqDiff, true_or, or_true, false_or, or_false, not_true_eq_false, not_false_eq_true, reduceCtorEq, cmp_lt, cmp_gt, cmp_eq, Int32.reduceAdd, Int32.reduceSub, Int32.reduceMul, Int32.reduceLT, Int32.reduceToNatClampNeg, eq_self, ne_eq, Int64.reduceAdd, Int64.reduceSub, Int64.reduceMul, Int64.reduceLT, e1, i0, f0, e5, e6, h83 i (by omega), h83 f (by omega), g', nI_1]
      exact ih (i + 1) i (by omega) (by omega) (by rw [hh, if_pos (by omega)])
    · have g' : (nI (fr i) < nI (fr f)) = False := eq_false (nI_nlt (by omega) (by omega))
      simp only [E224_98, E224_99, E224_102, E224_103, E224_106, E224_108, E224_109, E224_110, E224_113, E224_115, E224_116, E224_119, E224_121, E224_124, E224_126, E224_128, E224_131, pk54 hS, pk83 hS, pl83 hS, pa83 hS, pi83 hS, pr54_65 hR, rfs, rfn, cs0, csi, csl, csr, csn, kti, ktl, ktr, ktn, ktv, ktf, true_and, and_true, and_self, ↓reduceIte, Nat.reduceAdd, Nat.reduceSub, Nat.reduceMul, Nat.reduceLT, Nat.reduceLeDiff, Nat.reduceEqDiff, true_or, or_true, false_or, or_false, not_true_eq_false, not_false_eq_true, reduceCtorEq, cmp_lt, cmp_gt, cmp_eq, Int32.reduceAdd, Int32.reduceSub, Int32.reduceMul, Int32.reduceLT, Int32.reduceToNatClampNeg, eq_self, ne_eq, Int64.reduceAdd, Int64.reduceSub, Int64.reduceMul, Int64.reduceLT, e1, i0, f0, e5, e6, h83 i (by omega), h83 f (by omega), g', nI_1]
      refine ih (i + 1) f (by omega) (by omega) ?_
      rw [hh]
      split <;> omega
theorem dbT {k p f q l x : Nat} {x2 : Int32} {z6 : Int32} (hS : Pm S) (hR : Pr R) (hk : k < 8) (hp : p < 8) (hf : f < 3) (e6 : I 56 (40 + 2 * p) = nI (mm p)) (e83 : I 83 f = nI x) (bx : x ≤ 1600) (bq : q ≤ 1600) (bl : l ≤ 1600) (bm : mm p ≤ 200) (hn : ∀ y5 y6 y7 y8, Ev (d + 1) 224 30 [.ref 54, .int (nI F), .int x2, .int (nI (mx2 l (mx2 x q + mm p))), .int (nI (k + 1)), y5, y6, y7, y8] [] S (put (put I 82 p (nI (mx2 x q))) 83 f (nI (mx2 x q + mm p))) L R Q) : Ev (d + 1) 224 166 [.ref 54, .int (nI F), .int x2, .int (nI l), .int (nI k), .int (nI p), .int z6, .int (nI f), .int (nI q)] [] S I L R Q := by
  have f0 : inb (nI f) 3 = True := inb_nI (by omega) (by decide)
  have f1 : (nI f).toNatClampNeg = f := nI_clamp (by omega)
  have p0 : inb (nI p) 8 = True := inb_nI (by omega) (by decide)
  have p1 : (nI p).toNatClampNeg = p := nI_clamp (by omega)
  have m2 : (2 : Int32) * nI p = nI (2 * p) := by rw [show (2 : Int32) = nI 2 from rfl, pk_mul]
  have m4 : (40 : Int32) + nI (2 * p) = nI (40 + 2 * p) := by rw [show (40 : Int32) = nI 40 from rfl, nI_add]
  have a0 : inb (nI (40 + 2 * p)) 8060 = True := inb_nI (by omega) (by decide)
  have a1 : (nI (40 + 2 * p)).toNatClampNeg = 40 + 2 * p := nI_clamp (by omega)
  have fin : ∀ v, v = mx2 x q → Ev (d + 1) 224 196 [.ref 54, .int (nI F), .int x2, .int (nI l), .int (nI k), .int (nI p), .int z6, .int (nI f), .int (nI q)] [.int (nI v), .int (nI p), .ref 82] S I L R Q := by
    intro v hv
    subst hv
    have bv : mx2 x q ≤ 1600 := mx2_le bx bq
    by_cases g : l < mx2 x q + mm p
    · have g' : (nI l < nI (mx2 x q + mm p)) = True := eq_true (nI_lt g (by omega))
      have em : mx2 l (mx2 x q + mm p) = mx2 x q + mm p := if_pos g
      rw [em] at hn
      simp only [E224_196, E224_197, E224_198, E224_201, E224_203, E224_204, E224_207, E224_209, E224_210, E224_211, E224_214, E224_216, E224_217, E224_219, E224_220, E224_221, E224_222, E224_223, E224_224, E224_225, E224_228, E224_230, E224_231, E224_232, E224_235, E224_236, E224_239, E224_241, E224_242, E224_245, E224_246, E224_247, E224_250, pk54 hS, pk56 hS, pl56 hS, pa56 hS, pi56 hS, pk82 hS, pl82 hS, pa82 hS, pi82 hS, pk83 hS, pl83 hS, pa83 hS, pi83 hS, pr54_3 hR, pr54_64 hR, pr54_65 hR, rfs, rfn, cs0, csi, csl, csr, csn, kti, ktl, ktr, ktn, ktv, ktf, true_and, and_true, and_self, ↓reduceIte, Nat.reduceAdd, Nat.reduceSub, Nat.reduceMul, Nat.reduceLT, Nat.reduceLeDiff, Nat.reduceEqDiff, true_or, or_true, false_or, or_false, not_true_eq_false, not_false_eq_true, reduceCtorEq, cmp_lt, cmp_gt, cmp_eq, Int32.reduceAdd, Int32.reduceSub, Int32.reduceMul, Int32.reduceLT, Int32.reduceToNatClampNeg, eq_self, ne_eq, Int64.reduceAdd, Int64.reduceSub, Int64.reduceMul, Int64.reduceLT, pt, pt_m, pt_s, f0, f1, p0, p1, m2, m4, a0, a1, e6, nI_add, nI_1, g']
      exact hn _ _ _ _
    · have g' : (nI l < nI (mx2 x q + mm p)) = False := eq_false (nI_nlt (by omega) (by omega))
      have em : mx2 l (mx2 x q + mm p) = l := if_neg g
      rw [em] at hn
      simp only [E224_196, E224_197, E224_198, E224_201, E224_203, E224_204, E224_207, E224_209, E224_210, E224_211, E224_214, E224_216, E224_217, E224_219, E224_220, E224_221, E224_222, E224_223, E224_224, E224_225, E224_228, E224_230, E224_231, E224_232, E224_235, E224_236, E224_239, E224_241, E224_242, E224_245, E224_246, E224_247, E224_250, pk54 hS, pk56 hS, pl56 hS, pa56 hS, pi56 hS, pk82 hS, pl82 hS, pa82 hS, pi82 hS, pk83 hS, pl83 hS, pa83 hS, pi83 hS, pr54_3 hR, pr54_64 hR, pr54_65 hR, rfs, rfn, cs0, csi, csl, csr, csn, kti, ktl, ktr, ktn, ktv, ktf, true_and, and_true, and_self, ↓reduceIte, Nat.reduceAdd, Nat.reduceSub, Nat.reduceMul, Nat.reduceLT, Nat.reduceLeDiff, Nat.reduceEqDiff, true_or, or_true, false_or, or_false, not_true_eq_false, not_false_eq_true, reduceCtorEq, cmp_lt, cmp_gt, cmp_eq, Int32.reduceAdd, Int32.reduceSub, Int32.reduceMul, Int32.reduceLT, Int32.reduceToNatClampNeg, eq_self, ne_eq, Int64.reduceAdd, Int64.reduceSub, Int64.reduceMul, Int64.reduceLT, pt, pt_m, pt_s, f0, f1, p0, p1, m2, m4, a0, a1, e6, nI_add, nI_1, g']
      exact hn _ _ _ _
  by_cases g : q < x
  · have g' : (nI q < nI x) = True := eq_true (nI_lt g (by omega))
    simp only [E224_166, E224_167, E224_170, E224_172, E224_173, E224_176, E224_178, E224_179, E224_181, E224_184, E224_185, E224_188, E224_190, E224_191, pk54 hS, pk82 hS, pl82 hS, pa82 hS, pi82 hS, pk83 hS, pl83 hS, pa83 hS, pi83 hS, pr54_64 hR, pr54_65 hR, rfs, rfn, cs0, csi, csl, csr, csn, kti, ktl, ktr, ktn, ktv, ktf, true_and, and_true, and_self, ↓reduceIte, Nat.reduceAdd, Nat.reduceSub, Nat.reduceMul, Nat.reduceLT, Nat.reduceLeDiff, Nat.reduceEqDiff, true_or, or_true, false_or, or_false, not_true_eq_false, not_false_eq_true, reduceCtorEq, cmp_lt, cmp_gt, cmp_eq, Int32.reduceAdd, Int32.reduceSub, Int32.reduceMul, Int32.reduceLT, Int32.reduceToNatClampNeg, eq_self, ne_eq, Int64.reduceAdd, Int64.reduceSub, Int64.reduceMul, Int64.reduceLT, f0, f1, e83, g']
    exact fin x (by unfold mx2; split <;> omega)
  · have g' : (nI q < nI x) = False := eq_false (nI_nlt (by omega) (by omega))
    simp only [E224_166, E224_167, E224_170, E224_172, E224_173, E224_176, E224_178, E224_179, E224_181, E224_184, E224_185, E224_188, E224_190, E224_191, E224_194, pk54 hS, pk82 hS, pl82 hS, pa82 hS, pi82 hS, pk83 hS, pl83 hS, pa83 hS, pi83 hS, pr54_64 hR, pr54_65 hR, rfs, rfn, cs0, csi, csl, csr, csn, kti, ktl, ktr, ktn, ktv, ktf, true_and, and_true, and_self, ↓reduceIte, Nat.reduceAdd, Nat.reduceSub, Nat.reduceMul, Nat.reduceLT, Nat.reduceLeDiff, Nat.reduceEqDiff, true_or, or_true, false_or, or_false, not_true_eq_false, not_false_eq_true, reduceCtorEq, cmp_lt, cmp_gt, cmp_eq, Int32.reduceAdd, Int32.reduceSub, Int32.reduceMul, Int32.reduceLT, Int32.reduceToNatClampNeg, eq_self, ne_eq, Int64.reduceAdd, Int64.reduceSub, Int64.reduceMul, Int64.reduceLT, f0, f1, e83, g']
    exact fin q (by unfold mx2; split <;> omega)
theorem dkE {I0 : mI} (hS : Pm S) (hR : Pr R) (hF : 1 ≤ F ∧ F ≤ 3) (hP : PrM mm nd n I0) (ho : Odr I0 n o) (hpm : (sg o 0 n).Perm (List.range n)) (hq1 : ∀ J, Okr nd [] (sg o 0 n) → (∀ c, ¬ c = 82 → ¬ c = 83 → J c = I0 c) → (∀ i, i < n → J 82 i = nI ((rnl mm nd (sg o 0 n) (gs0 F)).2 i)) → Q (.int (nI (lst mm nd F (sg o 0 n)))) S J L R) (hq2 : ∀ J, ¬ Okr nd [] (sg o 0 n) → (∀ c, ¬ c = 82 → ¬ c = 83 → J c = I0 c) → Q (.int (-1)) S J L R) : ∀ (q k P : Nat) (J : mI) (y5 y6 y7 y8 : Value), k + q = n → Okr nd [] (sg o 0 k) → Msk P (sg o 0 k) → DbJ F (sg o 0 k) (rnl mm nd (sg o 0 k) (gs0 F)) I0 J → Ev (d + 1) 224 30 [.ref 54, .int (nI F), .int (nI P), .int (nI (mxl (rnl mm nd (sg o 0 k) (gs0 F)).1)), .int (nI k), y5, y6, y7, y8] [] S J L R Q := by
  obtain ⟨hn, en, hp⟩ := hP
  have z2 : inb 2 8060 = True := inb_nI (j := 2) (by decide) (by decide)
  intro q
  induction q with
  | zero =>
    intro k P J y5 y6 y7 y8 hk hok hM hJ
    obtain rfl : k = n := by omega
    have J6 : J 56 = I0 56 := hJ.1 56 (by decide) (by decide)
    have e1 : (nI k < nI k) = False := eq_false (nI_nlt (by omega) (by omega))
    simp only [E224_30, E224_32, E224_33, E224_36, E224_37, E224_38, E224_253, E224_254, pk54 hS, pk56 hS, pl56 hS, pa56 hS, pi56 hS, pr54_3 hR, rfs, rfn, cs0, csi, csl, csr, csn, kti, ktl, ktr, ktn, ktv, ktf, true_and, and_true, and_self, ↓reduceIte, Nat.reduceAdd, Nat.reduceSub, Nat.reduceMul, Nat.reduceLT, Nat.reduceLeDiff, Nat.reduceEqDiff, true_or, or_true, false_or, or_false, not_true_eq_false, not_false_eq_true, reduceCtorEq, cmp_lt, cmp_gt, cmp_eq, Int32.reduceAdd, Int32.reduceSub, Int32.reduceMul, Int32.reduceLT, Int32.reduceToNatClampNeg, eq_self, ne_eq, Int64.reduceAdd, Int64.reduceSub, Int64.reduceMul, Int64.reduceLT, z2, J6, en, e1]
    exact hq1 J hok hJ.1 (fun i hi => hJ.2.2 i (hpm.mem_iff.mpr (List.mem_range.mpr hi)))
  | succ q ih =>
    intro k P J y5 y6 y7 y8 hk hok hM hJ
    have J6 : J 56 = I0 56 := hJ.1 56 (by decide) (by decide)
    have J1 : J 81 = I0 81 := hJ.1 81 (by decide) (by decide)
    have e1 : (nI k < nI n) = True := eq_true (nI_lt (by omega) (by omega))
    have k0 : inb (nI k) 8 = True := inb_nI (by omega) (by decide)
    have k1 : (nI k).toNatClampNeg = k := nI_clamp (by omega)
    obtain ⟨o1, o2⟩ := ho.1 k (by omega)
    have eS : sg o 0 n = sg o 0 k ++ o k :: sg o (k + 1) q := by
      rw [show n = k + (q + 1) by omega, sg_ap, Nat.zero_add]
      rfl
    have eK : sg o 0 (k + 1) = sg o 0 k ++ [o k] := by
      rw [sg_ap, Nat.zero_add]
      rfl
    have hN : Nod mm nd n F (sg o 0 k) (o k :: sg o (k + 1) q) := Nod.mk' hn (by omega) (fun i hi => (hp i hi).2.2.2.1) (by rw [← eS]; exact hpm) hok
    have hok' : Rdy nd (sg o 0 k) (o k) → Okr nd [] (sg o 0 (k + 1)) := fun hr => by
      rw [eK]
      refine (okr_ap _ _ _).mpr ⟨hok, ?_, trivial⟩
      rw [List.append_nil]
      exact hr.elim Or.inl (fun z => Or.inr (List.mem_reverse.mpr z))
    have hno : ¬ Rdy nd (sg o 0 k) (o k) → ¬ Okr nd [] (sg o 0 n) := fun hr z => by
      rw [eS] at z
      have := ((okr_ap _ _ _).mp z).2.1
      rw [List.append_nil] at this
      exact hr (this.elim Or.inl (fun z => Or.inr (List.mem_reverse.mp z)))
    have er : rnl mm nd (sg o 0 (k + 1)) (gs0 F) = gpl mm nd (o k) (rnl mm nd (sg o 0 k) (gs0 F)) := by rw [eK, rnl_ap]; rfl
    obtain ⟨h1, h2, h3, h4, h5⟩ := hp (o k) o1
    have pk : ¬ o k ∈ sg o 0 k := fun z => hN.nn.2.2 _ z (List.mem_cons_self ..)
    have hM' := (hM.o (show o k < 8 by omega))
    rw [← eK] at hM'
    generalize hpp : o k = p at *
    have m2 : (2 : Int32) * nI p = nI (2 * p) := by rw [show (2 : Int32) = nI 2 from rfl, pk_mul]
    have m4 : (40 : Int32) + nI (2 * p) = nI (40 + 2 * p) := by rw [show (40 : Int32) = nI 40 from rfl, nI_add]
    have a1 : inb (nI (40 + 2 * p + 1)) 8060 = True := inb_nI (by omega) (by decide)
    have b1 : (nI (40 + 2 * p + 1)).toNatClampNeg = 40 + 2 * p + 1 := nI_clamp (by omega)
    obtain ⟨fr, h83, e83⟩ := hJ.2.1
    have mx := hN.mx
    have key : ∀ (z6 : Int32) (qq : Nat), Rdy nd (sg o 0 k) p → qq = ned mm nd (rnl mm nd (sg o 0 k) (gs0 F)).2 p → qq ≤ 1600 → (∀ f, Ev (d + 1) 224 166 [.ref 54, .int (nI F), .int (nI (P ||| 2 ^ p)), .int (nI (mxl (rnl mm nd (sg o 0 k) (gs0 F)).1)), .int (nI k), .int (nI p), .int z6, .int (nI f), .int (nI qq)] [] S J L R Q → Ev (d + 1) 224 134 [.ref 54, .int (nI F), .int (nI (P ||| 2 ^ p)), .int (nI (mxl (rnl mm nd (sg o 0 k) (gs0 F)).1)), .int (nI k), .int (nI p), .int z6, .int (nI f), .int (nI F)] [] S J L R Q) → Ev (d + 1) 224 96 [.ref 54, .int (nI F), .int (nI (P ||| 2 ^ p)), .int (nI (mxl (rnl mm nd (sg o 0 k) (gs0 F)).1)), .int (nI k), .int (nI p), .int z6, .int (nI 0), .int (nI 1)] [] S J L R Q := by
      intro z6 qq hr eq bq h134
      refine dfE (d := d) hS hR hF.2 h83 (by rw [e83]; exact mx) (fun f hf hmin => h134 f ?_) (F - 1) 1 0 (by omega) (by omega) rfl
      have x16 : fr f ≤ 1600 := ar_le (by rw [e83]; exact mx) hf
      have hx : hdl (rnl mm nd (sg o 0 k) (gs0 F)).1 = fr f := by rw [← e83]; exact hmin
      refine dbT (d := d) (x := fr f) hS hR (by omega) (by omega) (by omega) (by rw [J6]; exact h1) (h83 f hf) x16 bq mx h4 (fun y5 y6 y7 y8 => ?_)
      have sv : mx2 (fr f) qq = mx2 (hdl (rnl mm nd (sg o 0 k) (gs0 F)).1) (ned mm nd (rnl mm nd (sg o 0 k) (gs0 F)).2 p) := by rw [hx, eq]
      have s1 : (gpl mm nd p (rnl mm nd (sg o 0 k) (gs0 F))).1 = ins (mx2 (fr f) qq + mm p) (rnl mm nd (sg o 0 k) (gs0 F)).1.tail := by rw [sv]; rfl
      have s2 : (gpl mm nd p (rnl mm nd (sg o 0 k) (gs0 F))).2 p = mx2 (fr f) qq := by rw [sv]; exact if_pos rfl
      have s3 : ∀ c, ¬ c = p → (gpl mm nd p (rnl mm nd (sg o 0 k) (gs0 F))).2 c = (rnl mm nd (sg o 0 k) (gs0 F)).2 c := fun c hc => if_neg hc
      have hv := mx2_l (fr f) qq
      have em : mx2 (mxl (rnl mm nd (sg o 0 k) (gs0 F)).1) (mx2 (fr f) qq + mm p) = mxl (rnl mm nd (sg o 0 (k + 1)) (gs0 F)).1 := by
        rw [er, s1]
        exact mx_ins (by rw [hN.st.2.1]; exact hF.1) (by omega)
      rw [em]
      refine ih (k + 1) (P ||| 2 ^ p) _ y5 y6 y7 y8 (by omega) (hok' hr) hM'.2 ⟨fun c c1 c2 => by rw [pt_n c2, pt_n c1]; exact hJ.1 c c1 c2, ⟨fun j => if j = f then mx2 (fr f) qq + mm p else fr j, fun j hj => ?_, ?_⟩, fun i hi => ?_⟩
      · by_cases z : j = f
        · rw [z, pt_s]
          exact congrArg nI (if_pos rfl).symm
        · rw [pt_f z, pt_m (by decide), h83 j hj]
          exact congrArg nI (if_neg z).symm
      · rw [arL_up hf hmin, er, s1, e83]
      · rw [er, pt_m (by decide)]
        by_cases z : i = p
        · rw [z, pt_s, s2]
        · rw [pt_f z, s3 i z]
          rw [eK] at hi
          rcases List.mem_append.mp hi with y | y
          · exact hJ.2.2 i y
          · exact absurd (List.mem_singleton.mp y) z
    have key' := key
    by_cases e : nd p = 0
    · rw [if_pos e] at h2
      have q0 : (0 : Nat) = ned mm nd (rnl mm nd (sg o 0 k) (gs0 F)).2 p := (if_pos e).symm
      simp only [E224_30, E224_32, E224_33, E224_36, E224_37, E224_38, E224_41, E224_42, E224_45, E224_47, E224_48, E224_50, E224_51, E224_54, E224_56, E224_57, E224_59, E224_60, E224_61, E224_62, E224_63, E224_64, E224_66, E224_68, E224_69, E224_83, E224_84, E224_85, E224_87, E224_88, E224_89, E224_90, E224_91, E224_93, E224_94, pk54 hS, pk56 hS, pl56 hS, pa56 hS, pi56 hS, pk81 hS, pl81 hS, pa81 hS, pi81 hS, pr54_3 hR, pr54_63 hR, rfs, rfn, cs0, csi, csl, csr, csn, kti, ktl, ktr, ktn, ktv, ktf, true_and, and_true, and_self, ↓reduceIte, Nat.reduceAdd, Nat.reduceSub, Nat.reduceMul, Nat.reduceLT, Nat.reduceLeDiff, Nat.reduceEqDiff, true_or, or_true, false_or, or_false, not_true_eq_false, not_false_eq_true, reduceCtorEq, cmp_lt, cmp_gt, cmp_eq, Int32.reduceAdd, Int32.reduceSub, Int32.reduceMul, Int32.reduceLT, Int32.reduceToNatClampNeg, eq_self, ne_eq, Int64.reduceAdd, Int64.reduceSub, Int64.reduceMul, Int64.reduceLT, z2, J6, J1, en, e1, k0, k1, o2, m2, m4, nI_1, a1, b1, h2, hM'.1]
      refine key (-1) 0 (Or.inl e) q0 (by decide) (fun f h => ?_)
      simp only [E224_134, E224_136, E224_137, E224_140, E224_141, E224_164, rfs, rfn, cs0, csi, csl, csr, csn, kti, ktl, ktr, ktn, ktv, ktf, true_and, and_true, and_self, ↓reduceIte, Nat.reduceAdd, Nat.reduceSub, Nat.reduceMul, Nat.reduceLT, Nat.reduceLeDiff, Nat.reduceEqDiff, true_or, or_true, false_or, or_false, not_true_eq_false, not_false_eq_true, reduceCtorEq, cmp_lt, cmp_gt, cmp_eq, Int32.reduceAdd, Int32.reduceSub, Int32.reduceMul, Int32.reduceLT, Int32.reduceToNatClampNeg, eq_self, ne_eq, Int64.reduceAdd, Int64.reduceSub, Int64.reduceMul, Int64.reduceLT]
      exact h
    · rw [if_neg e] at h2
      have nc : (nI (nd p - 1) = -1) = False := eq_false (fun z => nI_pos (n := nd p - 1) (by omega) (by rw [z]; decide))
      by_cases hr : nd p - 1 ∈ sg o 0 k
      · have hb : ¬ (nI P >>> (nI (nd p - 1) &&& 31)) &&& 1 = 0 := fun z => ((hM.b (show nd p - 1 < 8 by omega)).mp z) hr
        have c0 : inb (nI (nd p - 1)) 8 = True := inb_nI (by omega) (by decide)
        have c1 : (nI (nd p - 1)).toNatClampNeg = nd p - 1 := nI_clamp (by omega)
        have m2c : (2 : Int32) * nI (nd p - 1) = nI (2 * (nd p - 1)) := by rw [show (2 : Int32) = nI 2 from rfl, pk_mul]
        have m4c : (40 : Int32) + nI (2 * (nd p - 1)) = nI (40 + 2 * (nd p - 1)) := by rw [show (40 : Int32) = nI 40 from rfl, nI_add]
        have a0c : inb (nI (40 + 2 * (nd p - 1))) 8060 = True := inb_nI (by omega) (by decide)
        have a1c : (nI (40 + 2 * (nd p - 1))).toNatClampNeg = 40 + 2 * (nd p - 1) := nI_clamp (by omega)
        have ee : (rnl mm nd (sg o 0 k) (gs0 F)).2 (nd p - 1) + mm (nd p - 1) = ned mm nd (rnl mm nd (sg o 0 k) (gs0 F)).2 p := (if_neg e).symm
        have bb : (rnl mm nd (sg o 0 k) (gs0 F)).2 (nd p - 1) + mm (nd p - 1) ≤ 1600 := Nat.le_trans (hN.st.2.2.1 _ (List.mem_reverse.mpr hr)) mx
        have j82 := hJ.2.2 _ hr
        have h6 : I0 56 (40 + 2 * (nd p - 1)) = nI (mm (nd p - 1)) := (hp (nd p - 1) (by omega)).1
        simp only [E224_30, E224_32, E224_33, E224_36, E224_37, E224_38, E224_41, E224_42, E224_45, E224_47, E224_48, E224_50, E224_51, E224_54, E224_56, E224_57, E224_59, E224_60, E224_61, E224_62, E224_63, E224_64, E224_66, E224_68, E224_69, E224_72, E224_73, E224_75, E224_76, E224_77, E224_78, E224_83, E224_84, E224_85, E224_87, E224_88, E224_89, E224_90, E224_91, E224_93, E224_94, pk54 hS, pk56 hS, pl56 hS, pa56 hS, pi56 hS, pk81 hS, pl81 hS, pa81 hS, pi81 hS, pr54_3 hR, pr54_63 hR, rfs, rfn, cs0, csi, csl, csr, csn, kti, ktl, ktr, ktn, ktv, ktf, true_and, and_true, and_self, ↓reduceIte, Nat.reduceAdd, Nat.reduceSub, Nat.reduceMul, Nat.reduceLT, Nat.reduceLeDiff, Nat.reduceEqDiff, true_or, or_true, false_or, or_false, not_true_eq_false, not_false_eq_true, reduceCtorEq, cmp_lt, cmp_gt, cmp_eq, Int32.reduceAdd, Int32.reduceSub, Int32.reduceMul, Int32.reduceLT, Int32.reduceToNatClampNeg, eq_self, ne_eq, Int64.reduceAdd, Int64.reduceSub, Int64.reduceMul, Int64.reduceLT, z2, J6, J1, en, e1, k0, k1, o2, m2, m4, nI_1, a1, b1, h2, nc, hb, hM'.1]
        refine key _ _ (Or.inr hr) ee bb (fun f h => ?_)
        simp only [E224_134, E224_136, E224_137, E224_144, E224_145, E224_148, E224_150, E224_151, E224_152, E224_155, E224_157, E224_158, E224_160, E224_161, E224_162, E224_163, E224_164, pk54 hS, pk56 hS, pl56 hS, pa56 hS, pi56 hS, pk82 hS, pl82 hS, pa82 hS, pi82 hS, pr54_3 hR, pr54_64 hR, rfs, rfn, cs0, csi, csl, csr, csn, kti, ktl, ktr, ktn, ktv, ktf, true_and, and_true, and_self, ↓reduceIte, Nat.reduceAdd, Nat.reduceSub, Nat.reduceMul, Nat.reduceLT, Nat.reduceLeDiff, Nat.reduceEqDiff, true_or, or_true, false_or, or_false, not_true_eq_false, not_false_eq_true, reduceCtorEq, cmp_lt, cmp_gt, cmp_eq, Int32.reduceAdd, Int32.reduceSub, Int32.reduceMul, Int32.reduceLT, Int32.reduceToNatClampNeg, eq_self, ne_eq, Int64.reduceAdd, Int64.reduceSub, Int64.reduceMul, Int64.reduceLT, nc, c0, c1, m2c, m4c, a0c, a1c, j82, J6, h6, nI_add]
        exact h
      · have hb : (nI P >>> (nI (nd p - 1) &&& 31)) &&& 1 = 0 := (hM.b (show nd p - 1 < 8 by omega)).mpr hr
        simp only [E224_30, E224_32, E224_33, E224_36, E224_37, E224_38, E224_41, E224_42, E224_45, E224_47, E224_48, E224_50, E224_51, E224_54, E224_56, E224_57, E224_59, E224_60, E224_61, E224_62, E224_63, E224_64, E224_66, E224_68, E224_69, E224_72, E224_73, E224_75, E224_76, E224_77, E224_78, E224_81, E224_82, pk54 hS, pk56 hS, pl56 hS, pa56 hS, pi56 hS, pk81 hS, pl81 hS, pa81 hS, pi81 hS, pr54_3 hR, pr54_63 hR, rfs, rfn, cs0, csi, csl, csr, csn, kti, ktl, ktr, ktn, ktv, ktf, true_and, and_true, and_self, ↓reduceIte, Nat.reduceAdd, Nat.reduceSub, Nat.reduceMul, Nat.reduceLT, Nat.reduceLeDiff, Nat.reduceEqDiff, true_or, or_true, false_or, or_false, not_true_eq_false, not_false_eq_true, reduceCtorEq, cmp_lt, cmp_gt, cmp_eq, Int32.reduceAdd, Int32.reduceSub, Int32.reduceMul, Int32.reduceLT, Int32.reduceToNatClampNeg, eq_self, ne_eq, Int64.reduceAdd, Int64.reduceSub, Int64.reduceMul, Int64.reduceLT, z2, J6, J1, en, e1, k0, k1, o2, m2, m4, nI_1, a1, b1, h2, nc, hb]
        exact hq2 J (hno (fun z => z.elim e hr)) hJ.1
theorem dnbE (hS : Pm S) (hR : Pr R) (hF : 1 ≤ F ∧ F ≤ 3) (hP : PrM mm nd n I) (ho : Odr I n o) (hpm : (sg o 0 n).Perm (List.range n)) (hq1 : ∀ J, Okr nd [] (sg o 0 n) → (∀ c, ¬ c = 82 → ¬ c = 83 → J c = I c) → (∀ i, i < n → J 82 i = nI ((rnl mm nd (sg o 0 n) (gs0 F)).2 i)) → Q (.int (nI (lst mm nd F (sg o 0 n)))) S J L R) (hq2 : ∀ J, ¬ Okr nd [] (sg o 0 n) → (∀ c, ¬ c = 82 → ¬ c = 83 → J c = I c) → Q (.int (-1)) S J L R) : EvM (d + 1) 224 [.ref 54, .int (nI F)] S I L R Q := by
  have e0 : mxl (rnl mm nd (sg o 0 0) (gs0 F)).1 = 0 := mx_0 F
  have k := fun y5 y6 y7 y8 J hJ => dkE (d := d) (I0 := I) hS hR hF hP ho hpm hq1 hq2 n 0 0 J y5 y6 y7 y8 (by omega) trivial ⟨by decide, fun j _ => by rw [Nat.zero_testBit]; exact ⟨fun z => (by cases z), fun z => (by cases z)⟩⟩ hJ
  rw [e0, show nI 0 = 0 from rfl] at k
  simp only [M224, E224_0, E224_1, E224_2, E224_3, E224_4, E224_5, E224_7, E224_9, E224_10, E224_13, E224_14, E224_17, E224_19, E224_20, E224_21, E224_24, E224_27, E224_28, pk54 hS, pk83 hS, pl83 hS, pa83 hS, pi83 hS, pr54_65 hR, rfs, rfn, cs0, csi, csl, csr, csn, kti, ktl, ktr, ktn, ktv, ktf, true_and, and_true, and_self, ↓reduceIte, Nat.reduceAdd, Nat.reduceSub, Nat.reduceMul, Nat.reduceLT, Nat.reduceLeDiff, Nat.reduceEqDiff, true_or, or_true, false_or, or_false, not_true_eq_false, not_false_eq_true, reduceCtorEq, cmp_lt, cmp_gt, cmp_eq, Int32.reduceAdd, Int32.reduceSub, Int32.reduceMul, Int32.reduceLT, Int32.reduceToNatClampNeg, eq_self, ne_eq, Int64.reduceAdd, Int64.reduceSub, Int64.reduceMul, Int64.reduceLT, inb_is, pt]
  refine k _ _ _ _ _ ⟨fun c _ h2 => by rw [pt_n h2, pt_n h2, pt_n h2], ⟨fun _ => 0, fun j hj => ?_, ?_⟩, fun _ z => (by cases z)⟩
  · rcases (by omega : j = 0 ∨ j = 1 ∨ j = 2) with rfl | rfl | rfl <;> (simp (disch := omega) only [pt_s, pt_f]; rfl)
  · have : ∀ k, arL (fun _ => 0) k = List.replicate k 0 := fun k => by
      induction k with
      | zero => rfl
      | succ k ih =>
        show ins 0 (arL (fun _ => 0) k) = 0 :: List.replicate k 0
        rw [ih]
        cases k <;> rfl
    exact this F
theorem ltL_tri : ∀ (a b : List Nat), a.length = b.length → ltL a b ∨ a = b ∨ ltL b a
  | [], [], _ => Or.inr (Or.inl rfl)
  | [], _ :: _, h => by cases h
  | _ :: _, [], h => by cases h
  | x :: a, y :: b, h => by
    have h' : a.length = b.length := Nat.succ.inj h
    by_cases c : x < y
    · exact Or.inl (Or.inl c)
    by_cases c2 : y < x
    · exact Or.inr (Or.inr (Or.inl c2))
    have e : x = y := by omega
    subst e
    rcases ltL_tri a b h' with g | g | g
    · exact Or.inl (Or.inr ⟨rfl, g⟩)
    · exact Or.inr (Or.inl (by rw [g]))
    · exact Or.inr (Or.inr (Or.inr ⟨rfl, g⟩))
/-- the best of the rows up to here -/
def Bst (mm nd : Nat → Nat) (n F : Nat) (T : List Nat → Prop) (x : Int32) (c : Nat → Int32) : Prop := (x = -1 ∧ ∀ r, Vdr nd n r → ¬ T r) ∨ ∃ Rr, Vdr nd n Rr ∧ T Rr ∧ x = nI (lst mm nd F Rr) ∧ lst mm nd F Rr ≤ 1600 ∧ (∀ i, i < n → c i = nI ((rnl mm nd Rr (gs0 F)).2 i)) ∧ ∀ r, Vdr nd n r → T r → lst mm nd F Rr ≤ lst mm nd F r ∧ (ltL r Rr → lst mm nd F Rr < lst mm nd F r)
theorem Bst.mo {T T' : List Nat → Prop} {x : Int32} {c : Nat → Int32} (h : Bst mm nd n F T x c) (e : ∀ r, Vdr nd n r → (T r ↔ T' r)) : Bst mm nd n F T' x c := by
  rcases h with ⟨a, b⟩ | ⟨Rr, a, b, c1, c2, c3, c4⟩
  · exact Or.inl ⟨a, fun r hr z => b r hr ((e r hr).mpr z)⟩
  · exact Or.inr ⟨Rr, a, (e Rr a).mp b, c1, c2, c3, fun r hr z => c4 r hr ((e r hr).mpr z)⟩
theorem sg_id : ∀ n, sg (fun k => k) 0 n = List.range n
  | 0 => rfl
  | n + 1 => by
    rw [sg_ap n 1 0, sg_id n, List.range_succ, Nat.zero_add]
    rfl
theorem okr_id (hl : ∀ p, p < n → nd p ≤ p) : ∀ (m k : Nat) {σ : List Nat}, k + m ≤ n → (∀ x, x < k → x ∈ σ) → Okr nd σ (sg (fun k => k) k m)
  | 0, _, _, _, _ => trivial
  | m + 1, k, σ, h, hs => by
    have := hl k (by omega)
    refine ⟨?_, okr_id hl m (k + 1) (by omega) (fun x hx => ?_)⟩
    · by_cases e : nd k = 0
      · exact Or.inl e
      · exact Or.inr (hs (nd k - 1) (by omega))
    · by_cases e : x = k
      · rw [e]; exact List.mem_cons_self ..
      · exact List.mem_cons_of_mem _ (hs x (by omega))
theorem sofE {w : Int32} {I0 : mI} (hS : Pm S) (hR : Pr R) (hF : 1 ≤ F ∧ F ≤ 3) (h1 : 1 ≤ n) (hP : PrM mm nd n I0) (hw : w = -1 ∨ ∃ q, q < n ∧ w = nI q) (hq : ∀ v J Rr, FBr mm nd n F Rr → ((w = -1 ∧ v = nI (lst mm nd F Rr)) ∨ ∃ q, q < n ∧ w = nI q ∧ v = nI ((rnl mm nd Rr (gs0 F)).2 q)) → Q (.int v) S J L R) : ∀ (N : Nat) (o : Nat → Nat) (x : Int32) (J : mI) (y5 y6 : Value), 8 ^ n - nmb o n < N → Odr J n o → (sg o 0 n).Perm (List.range n) → (∀ a, (a < 81 ∨ 84 < a) → J a = I0 a) → Bst mm nd n F (fun r => ltL r (sg o 0 n)) x (J 84) → Ev (d + 3) 227 74 [.ref 54, .int (nI F), .int w, .int x, .int (bI true), y5, y6] [] S J L R Q := by
  obtain ⟨hn, en, hp⟩ := id hP
  have out : ∀ (x : Int32) (J : mI) (y5 y6 : Value), Bst mm nd n F (fun _ => True) x (J 84) → Ev (d + 3) 227 74 [.ref 54, .int (nI F), .int w, .int x, .int (bI false), y5, y6] [] S J L R Q := by
    intro x J y5 y6 hB
    rcases hB with ⟨_, b⟩ | ⟨Rr, a, _, c1, c2, c3, c4⟩
    · refine absurd trivial (b (List.range n) ⟨List.Perm.refl _, ?_⟩)
      rw [← sg_id n]
      exact okr_id (fun p hp' => (hp p hp').2.2.2.2) n 0 (by omega) (fun x hx => absurd hx (by omega))
    have hf : FBr mm nd n F Rr := ⟨a, fun r hr => (c4 r hr trivial).1, fun r hr => (c4 r hr trivial).2⟩
    rcases hw with rfl | ⟨q, q1, rfl⟩
    · simp only [E227_74, E227_76, E227_145, E227_146, E227_147, E227_150, E227_151, E227_160, rfs, rfn, cs0, csi, csl, csr, csn, kti, ktl, ktr, ktn, ktv, ktf, true_and, and_true, and_self, ↓reduceIte, Nat.reduceAdd, Nat.reduceSub, Nat.reduceMul, Nat.reduceLT, Nat.reduceLeDiff, Nat.reduceEqDiff, true_or, or_true, false_or, or_false, not_true_eq_false, not_false_eq_true, reduceCtorEq, cmp_lt, cmp_gt, cmp_eq, Int32.reduceAdd, Int32.reduceSub, Int32.reduceMul, Int32.reduceLT, Int32.reduceToNatClampNeg, eq_self, ne_eq, Int64.reduceAdd, Int64.reduceSub, Int64.reduceMul, Int64.reduceLT, bI_f]
      exact hq _ _ Rr hf (Or.inl ⟨rfl, c1⟩)
    · have nq : (nI q = -1) = False := eq_false (fun z => nI_pos (n := q) (by omega) (by rw [z]; decide))
      have q0 : inb (nI q) 8 = True := inb_nI (by omega) (by decide)
      have q2 : (nI q).toNatClampNeg = q := nI_clamp (by omega)
      simp only [E227_74, E227_76, E227_145, E227_146, E227_147, E227_150, E227_151, E227_154, E227_155, E227_158, E227_159, E227_160, pk54 hS, pk84 hS, pl84 hS, pa84 hS, pi84 hS, pr54_66 hR, rfs, rfn, cs0, csi, csl, csr, csn, kti, ktl, ktr, ktn, ktv, ktf, true_and, and_true, and_self, ↓reduceIte, Nat.reduceAdd, Nat.reduceSub, Nat.reduceMul, Nat.reduceLT, Nat.reduceLeDiff, Nat.reduceEqDiff, true_or, or_true, false_or, or_false, not_true_eq_false, not_false_eq_true, reduceCtorEq, cmp_lt, cmp_gt, cmp_eq, Int32.reduceAdd, Int32.reduceSub, Int32.reduceMul, Int32.reduceLT, Int32.reduceToNatClampNeg, eq_self, ne_eq, Int64.reduceAdd, Int64.reduceSub, Int64.reduceMul, Int64.reduceLT, bI_f, nq, q0, q2]
      exact hq _ _ Rr hf (Or.inr ⟨q, q1, rfl, c3 q q1⟩)
  intro N
  induction N with
  | zero => intro o x J y5 y6 h; omega
  | succ N ih =>
    intro o x J y5 y6 hN ho hpm hJ hB
    have J6 : J 56 = I0 56 := hJ 56 (by decide)
    have hPJ : PrM mm nd n J := by
      unfold PrM
      rw [J6]
      exact hP
    have ln : ∀ r, Vdr nd n r → r.length = (sg o 0 n).length := fun r hr => by rw [hr.1.length_eq, hpm.length_eq]
    have key : ∀ (K : mI) (x : Int32) (y5 y6 : Value), K 81 = J 81 → (∀ a, (a < 81 ∨ 84 < a) → K a = I0 a) → Bst mm nd n F (fun r => ltL r (sg o 0 n) ∨ r = sg o 0 n) x (K 84) → Ev (d + 3) 227 136 [.ref 54, .int (nI F), .int w, .int x, .int 1, y5, y6] [] S K L R Q := by
      intro K x y5 y6 hk hK hB
      have K6 : K 56 = I0 56 := hK 56 (by decide)
      simp only [E227_136, E227_137, pk54 hS, rfs, rfn, cs0, csi, csl, csr, csn, kti, ktl, ktr, ktn, ktv, ktf, true_and, and_true, and_self, ↓reduceIte, Nat.reduceAdd, Nat.reduceSub, Nat.reduceMul, Nat.reduceLT, Nat.reduceLeDiff, Nat.reduceEqDiff, true_or, or_true, false_or, or_false, not_true_eq_false, not_false_eq_true, reduceCtorEq, cmp_lt, cmp_gt, cmp_eq, Int32.reduceAdd, Int32.reduceSub, Int32.reduceMul, Int32.reduceLT, Int32.reduceToNatClampNeg, eq_self, ne_eq, Int64.reduceAdd, Int64.reduceSub, Int64.reduceMul, Int64.reduceLT]
      refine nxoE (d := d) hS hR h1 hn (by rw [K6]; exact en) (ho.cg hk) (fun b J2 o' g1 gx g2 g3 => ?_)
      simp only [E227_137, E227_140, E227_142, rfs, rfn, cs0, csi, csl, csr, csn, kti, ktl, ktr, ktn, ktv, ktf, true_and, and_true, and_self, ↓reduceIte, Nat.reduceAdd, Nat.reduceSub, Nat.reduceMul, Nat.reduceLT, Nat.reduceLeDiff, Nat.reduceEqDiff, true_or, or_true, false_or, or_false, not_true_eq_false, not_false_eq_true, reduceCtorEq, cmp_lt, cmp_gt, cmp_eq, Int32.reduceAdd, Int32.reduceSub, Int32.reduceMul, Int32.reduceLT, Int32.reduceToNatClampNeg, eq_self, ne_eq, Int64.reduceAdd, Int64.reduceSub, Int64.reduceMul, Int64.reduceLT]
      have hJ2 : ∀ a, (a < 81 ∨ 84 < a) → J2 a = I0 a := fun a ha => (g3 a (by omega)).trans (hK a ha)
      have e84 : J2 84 = K 84 := g3 84 (by decide)
      rcases gx with ⟨rfl, gx⟩ | ⟨rfl, gx1, gx2, gx3⟩
      · refine out x J2 _ _ ?_
        rw [e84]
        refine hB.mo (fun r hr => ⟨fun _ => trivial, fun _ => ?_⟩)
        rcases ltL_tri r (sg o 0 n) (ln r hr) with z | z | z
        · exact Or.inl z
        · exact Or.inr z
        · exact absurd z (gx r (hr.1.trans hpm.symm))
      · refine ih o' x J2 _ _ ?_ g1 (gx1.trans hpm) hJ2 ?_
        · have l1 := g2 rfl
          have l2 := nmb_b (o := o') n (fun j hj => by have := (g1.1 j hj).1; omega)
          omega
        · rw [e84]
          refine hB.mo (fun r hr => ⟨fun z => ?_, fun z => ?_⟩)
          · rcases z with z | z
            · exact ltL_tr z gx2
            · rw [z]; exact gx2
          · rcases ltL_tri r (sg o 0 n) (ln r hr) with y | y | y
            · exact Or.inl y
            · exact Or.inr y
            · rcases gx3 r (hr.1.trans hpm.symm) y with e | y
              · rw [e] at z
                exact absurd z ltL_ir
              · exact absurd (ltL_tr z y) ltL_ir
    simp only [E227_74, E227_76, E227_79, E227_80, E227_81, pk54 hS, rfs, rfn, cs0, csi, csl, csr, csn, kti, ktl, ktr, ktn, ktv, ktf, true_and, and_true, and_self, ↓reduceIte, Nat.reduceAdd, Nat.reduceSub, Nat.reduceMul, Nat.reduceLT, Nat.reduceLeDiff, Nat.reduceEqDiff, true_or, or_true, false_or, or_false, not_true_eq_false, not_false_eq_true, reduceCtorEq, cmp_lt, cmp_gt, cmp_eq, Int32.reduceAdd, Int32.reduceSub, Int32.reduceMul, Int32.reduceLT, Int32.reduceToNatClampNeg, eq_self, ne_eq, Int64.reduceAdd, Int64.reduceSub, Int64.reduceMul, Int64.reduceLT, bI_t, n1_0]
    refine dnbE (d := d + 1) hS hR hF hPJ ho hpm (fun J2 hok g g82 => ?_) (fun J2 hok g => ?_)
    · have hJ2 : ∀ a, (a < 81 ∨ 84 < a) → J2 a = I0 a := fun a ha => (g a (by omega) (by omega)).trans (hJ a ha)
      have j81 : J2 81 = J 81 := g 81 (by decide) (by decide)
      have j84 : J2 84 = J 84 := g 84 (by decide) (by decide)
      have hv : Vdr nd n (sg o 0 n) := ⟨hpm, hok⟩
      have hN2 : Nod mm nd n F (sg o 0 n) [] := Nod.mk' hn (by omega) (fun i hi => (hp i hi).2.2.2.1) (by rw [List.append_nil]; exact hpm) hok
      have lb : lst mm nd F (sg o 0 n) ≤ 1600 := hN2.mx
      have n1 : (nI (lst mm nd F (sg o 0 n)) = -1) = False := eq_false (fun z => nI_pos (n := lst mm nd F (sg o 0 n)) (by omega) (by rw [z]; decide))
      have take : ∀ K : mI, (∀ i, i < n → K 84 i = J2 82 i) → (∀ r, Vdr nd n r → ltL r (sg o 0 n) → lst mm nd F (sg o 0 n) < lst mm nd F r) → Bst mm nd n F (fun r => ltL r (sg o 0 n) ∨ r = sg o 0 n) (nI (lst mm nd F (sg o 0 n))) (K 84) := fun K hK hlt => Or.inr ⟨sg o 0 n, hv, Or.inr rfl, rfl, lb, fun i hi => (hK i hi).trans (g82 i hi), fun r hr z => by
        rcases z with z | z
        · have := hlt r hr z
          exact ⟨by omega, fun _ => this⟩
        · rw [z]
          exact ⟨Nat.le_refl _, fun y => absurd y ltL_ir⟩⟩
      have cp : ∀ i, i < n → put (put (put (put (put (put (put (put J2 84 0 (J2 82 0)) 84 1 (J2 82 1)) 84 2 (J2 82 2)) 84 3 (J2 82 3)) 84 4 (J2 82 4)) 84 5 (J2 82 5)) 84 6 (J2 82 6)) 84 7 (J2 82 7) 84 i = J2 82 i := fun i hi => by
        rcases (by omega : i = 0 ∨ i = 1 ∨ i = 2 ∨ i = 3 ∨ i = 4 ∨ i = 5 ∨ i = 6 ∨ i = 7) with rfl | rfl | rfl | rfl | rfl | rfl | rfl | rfl <;> simp (disch := omega) only [pt_s, pt_f]
      have cf : ∀ a, ¬ a = 84 → put (put (put (put (put (put (put (put J2 84 0 (J2 82 0)) 84 1 (J2 82 1)) 84 2 (J2 82 2)) 84 3 (J2 82 3)) 84 4 (J2 82 4)) 84 5 (J2 82 5)) 84 6 (J2 82 6)) 84 7 (J2 82 7) a = J2 a := fun a ha => by rw [pt_n ha, pt_n ha, pt_n ha, pt_n ha, pt_n ha, pt_n ha, pt_n ha, pt_n ha]
      rcases hB with ⟨rfl, hb⟩ | ⟨Rr, a1, a2, rfl, a4, a5, a6⟩
      · simp only [E227_81, E227_84, E227_86, E227_88, E227_89, E227_92, E227_93, E227_94, E227_97, E227_99, E227_100, E227_103, E227_105, E227_106, E227_107, E227_109, E227_111, E227_113, E227_116, E227_117, E227_120, E227_122, E227_123, E227_126, E227_128, E227_129, E227_130, E227_133, pk54 hS, pk82 hS, pl82 hS, pa82 hS, pi82 hS, pk84 hS, pl84 hS, pa84 hS, pi84 hS, pr54_64 hR, pr54_66 hR, rfs, rfn, cs0, csi, csl, csr, csn, kti, ktl, ktr, ktn, ktv, ktf, true_and, and_true, and_self, ↓reduceIte, Nat.reduceAdd, Nat.reduceSub, Nat.reduceMul, Nat.reduceLT, Nat.reduceLeDiff, Nat.reduceEqDiff, true_or, or_true, false_or, or_false, not_true_eq_false, not_false_eq_true, reduceCtorEq, cmp_lt, cmp_gt, cmp_eq, Int32.reduceAdd, Int32.reduceSub, Int32.reduceMul, Int32.reduceLT, Int32.reduceToNatClampNeg, eq_self, ne_eq, Int64.reduceAdd, Int64.reduceSub, Int64.reduceMul, Int64.reduceLT, inb_is, pt, pt_m, n1]
        exact key _ _ _ _ ((cf 81 (by decide)).trans j81) (fun a ha => (cf a (by omega)).trans (hJ2 a ha)) (take _ cp (fun r hr z => absurd z (hb r hr)))
      · have n2 : (nI (lst mm nd F Rr) = -1) = False := eq_false (fun z => nI_pos (n := lst mm nd F Rr) (by omega) (by rw [z]; decide))
        by_cases gl : lst mm nd F (sg o 0 n) < lst mm nd F Rr
        · have g' : (nI (lst mm nd F (sg o 0 n)) < nI (lst mm nd F Rr)) = True := eq_true (nI_lt gl (by omega))
          simp only [E227_81, E227_84, E227_86, E227_88, E227_89, E227_92, E227_93, E227_94, E227_97, E227_99, E227_100, E227_103, E227_105, E227_106, E227_107, E227_109, E227_111, E227_113, E227_116, E227_117, E227_120, E227_122, E227_123, E227_126, E227_128, E227_129, E227_130, E227_133, pk54 hS, pk82 hS, pl82 hS, pa82 hS, pi82 hS, pk84 hS, pl84 hS, pa84 hS, pi84 hS, pr54_64 hR, pr54_66 hR, rfs, rfn, cs0, csi, csl, csr, csn, kti, ktl, ktr, ktn, ktv, ktf, true_and, and_true, and_self, ↓reduceIte, Nat.reduceAdd, Nat.reduceSub, Nat.reduceMul, Nat.reduceLT, Nat.reduceLeDiff, Nat.reduceEqDiff, true_or, or_true, false_or, or_false, not_true_eq_false, not_false_eq_true, reduceCtorEq, cmp_lt, cmp_gt, cmp_eq, Int32.reduceAdd, Int32.reduceSub, Int32.reduceMul, Int32.reduceLT, Int32.reduceToNatClampNeg, eq_self, ne_eq, Int64.reduceAdd, Int64.reduceSub, Int64.reduceMul, Int64.reduceLT, inb_is, pt, pt_m, n1, n2, g']
          exact key _ _ _ _ ((cf 81 (by decide)).trans j81) (fun a ha => (cf a (by omega)).trans (hJ2 a ha)) (take _ cp (fun r hr z => by
            have := (a6 r hr z).1
            omega))
        · have g' : (nI (lst mm nd F (sg o 0 n)) < nI (lst mm nd F Rr)) = False := eq_false (nI_nlt (by omega) (by omega))
          simp only [E227_81, E227_84, E227_86, E227_88, E227_89, E227_92, E227_93, E227_94, E227_97, E227_99, E227_100, E227_103, E227_105, E227_106, E227_107, E227_109, E227_111, E227_113, E227_116, E227_117, E227_120, E227_122, E227_123, E227_126, E227_128, E227_129, E227_130, E227_133, pk54 hS, pk82 hS, pl82 hS, pa82 hS, pi82 hS, pk84 hS, pl84 hS, pa84 hS, pi84 hS, pr54_64 hR, pr54_66 hR, rfs, rfn, cs0, csi, csl, csr, csn, kti, ktl, ktr, ktn, ktv, ktf, true_and, and_true, and_self, ↓reduceIte, Nat.reduceAdd, Nat.reduceSub, Nat.reduceMul, Nat.reduceLT, Nat.reduceLeDiff, Nat.reduceEqDiff, true_or, or_true, false_or, or_false, not_true_eq_false, not_false_eq_true, reduceCtorEq, cmp_lt, cmp_gt, cmp_eq, Int32.reduceAdd, Int32.reduceSub, Int32.reduceMul, Int32.reduceLT, Int32.reduceToNatClampNeg, eq_self, ne_eq, Int64.reduceAdd, Int64.reduceSub, Int64.reduceMul, Int64.reduceLT, inb_is, pt, pt_m, n1, n2, g']
          refine key _ _ _ _ j81 hJ2 (Or.inr ⟨Rr, a1, Or.inl a2, rfl, a4, fun i hi => by rw [j84]; exact a5 i hi, fun r hr z => ?_⟩)
          rcases z with z | z
          · exact a6 r hr z
          · rw [z]
            exact ⟨by omega, fun y => absurd (ltL_tr y a2) ltL_ir⟩
    · have hJ2 : ∀ a, (a < 81 ∨ 84 < a) → J2 a = I0 a := fun a ha => (g a (by omega) (by omega)).trans (hJ a ha)
      have m1 : ((-1 : Int32) = -1) = True := eq_true rfl
      simp only [E227_81, E227_84, E227_86, E227_88, E227_89, E227_92, rfs, rfn, cs0, csi, csl, csr, csn, kti, ktl, ktr, ktn, ktv, ktf, true_and, and_true, and_self, ↓reduceIte, Nat.reduceAdd, Nat.reduceSub, Nat.reduceMul, Nat.reduceLT, Nat.reduceLeDiff, Nat.reduceEqDiff, true_or, or_true, false_or, or_false, not_true_eq_false, not_false_eq_true, reduceCtorEq, cmp_lt, cmp_gt, cmp_eq, Int32.reduceAdd, Int32.reduceSub, Int32.reduceMul, Int32.reduceLT, Int32.reduceToNatClampNeg, eq_self, ne_eq, Int64.reduceAdd, Int64.reduceSub, Int64.reduceMul, Int64.reduceLT, m1]
      refine key _ _ _ _ (g 81 (by decide) (by decide)) hJ2 ?_
      rw [g 84 (by decide) (by decide)]
      refine hB.mo (fun r hr => ⟨Or.inl, fun z => ?_⟩)
      rcases z with z | z
      · exact z
      · rw [z] at hr
        exact absurd hr.2 hok
/-- soonest of the reference -/
theorem soonM {w : Int32} (hS : Pm S) (hR : Pr R) (hP : PrM mm nd n I) {f : Int32} (hq : ∀ v J, ((inB f.toInt64 1 3 = false ∨ inB w.toInt64 (-1) ((nI n).toInt64 - 1) = false ∨ n = 0) ∧ v = -1) ∨ (¬ n = 0 ∧ inB w.toInt64 (-1) ((nI n).toInt64 - 1) = true ∧ ∃ F, 1 ≤ F ∧ F ≤ 3 ∧ f = nI F ∧ ∃ Rr, FBr mm nd n F Rr ∧ ((w = -1 ∧ v = nI (lst mm nd F Rr)) ∨ ∃ q, q < n ∧ w = nI q ∧ v = nI ((rnl mm nd Rr (gs0 F)).2 q))) → Q (.int v) S J L R) : EvM (d + 4) 227 [.ref 54, .int f, .int w] S I L R Q := by
  obtain ⟨hn, en, hp⟩ := id hP
  have z2 : inb 2 8060 = True := inb_nI (j := 2) (by decide) (by decide)
  cases g1 : inB f.toInt64 1 3
  · simp only [M227, E227_0, E227_1, E227_2, E227_5, E227_6, E227_7, E227_8, E227_11, E227_14, E227_46, E227_47, inn, g1, bI_f, pk54 hS, rfs, rfn, cs0, csi, csl, csr, csn, kti, ktl, ktr, ktn, ktv, ktf, true_and, and_true, and_self, ↓reduceIte, Nat.reduceAdd, Nat.reduceSub, Nat.reduceMul, Nat.reduceLT, Nat.reduceLeDiff, Nat.reduceEqDiff, true_or, or_true, false_or, or_false, not_true_eq_false, not_false_eq_true, reduceCtorEq, cmp_lt, cmp_gt, cmp_eq, Int32.reduceAdd, Int32.reduceSub, Int32.reduceMul, Int32.reduceLT, Int32.reduceToNatClampNeg, eq_self, ne_eq, Int64.reduceAdd, Int64.reduceSub, Int64.reduceMul, Int64.reduceLT, pt]
    exact hq _ _ (Or.inl ⟨Or.inl g1, rfl⟩)
  obtain ⟨F, F1, F2, rfl⟩ := inN (a := 1) (b := 3) g1 rfl rfl (by decide)
  cases g2 : inB w.toInt64 (-1) ((nI n).toInt64 - 1)
  · simp only [M227, E227_0, E227_1, E227_2, E227_5, E227_6, E227_7, E227_8, E227_11, E227_14, E227_17, E227_18, E227_19, E227_22, E227_23, E227_26, E227_27, E227_28, E227_29, E227_30, E227_31, E227_34, E227_37, E227_38, E227_41, E227_42, E227_43, E227_46, E227_47, inn, g1, g2, bI_f, bI_t, n1_0, pk54 hS, pk56 hS, pl56 hS, pa56 hS, pi56 hS, pr54_3 hR, rfs, rfn, cs0, csi, csl, csr, csn, kti, ktl, ktr, ktn, ktv, ktf, true_and, and_true, and_self, ↓reduceIte, Nat.reduceAdd, Nat.reduceSub, Nat.reduceMul, Nat.reduceLT, Nat.reduceLeDiff, Nat.reduceEqDiff, true_or, or_true, false_or, or_false, not_true_eq_false, not_false_eq_true, reduceCtorEq, cmp_lt, cmp_gt, cmp_eq, Int32.reduceAdd, Int32.reduceSub, Int32.reduceMul, Int32.reduceLT, Int32.reduceToNatClampNeg, eq_self, ne_eq, Int64.reduceAdd, Int64.reduceSub, Int64.reduceMul, Int64.reduceLT, pt, pt_m, z2, en]
    exact hq _ _ (Or.inl ⟨Or.inr (Or.inl g2), rfl⟩)
  by_cases g3 : n = 0
  · subst g3
    have z : nI 0 = (0 : Int32) := rfl
    have en' := en
    have g2' := g2
    rw [z] at en' g2'
    simp only [M227, E227_0, E227_1, E227_2, E227_5, E227_6, E227_7, E227_8, E227_11, E227_14, E227_17, E227_18, E227_19, E227_22, E227_23, E227_26, E227_27, E227_28, E227_29, E227_30, E227_31, E227_34, E227_37, E227_38, E227_41, E227_42, E227_43, E227_46, E227_47, inn, g1, g2', bI_t, n1_0, pk54 hS, pk56 hS, pl56 hS, pa56 hS, pi56 hS, pr54_3 hR, rfs, rfn, cs0, csi, csl, csr, csn, kti, ktl, ktr, ktn, ktv, ktf, true_and, and_true, and_self, ↓reduceIte, Nat.reduceAdd, Nat.reduceSub, Nat.reduceMul, Nat.reduceLT, Nat.reduceLeDiff, Nat.reduceEqDiff, true_or, or_true, false_or, or_false, not_true_eq_false, not_false_eq_true, reduceCtorEq, cmp_lt, cmp_gt, cmp_eq, Int32.reduceAdd, Int32.reduceSub, Int32.reduceMul, Int32.reduceLT, Int32.reduceToNatClampNeg, eq_self, ne_eq, Int64.reduceAdd, Int64.reduceSub, Int64.reduceMul, Int64.reduceLT, pt, pt_m, z2, en']
    exact hq _ _ (Or.inl ⟨Or.inr (Or.inr rfl), rfl⟩)
  have g3' : (nI n = 0) = False := eq_false (nI_ne0 (by omega) (by omega))
  have Nw := inD (by omega) g2
  simp only [M227, E227_0, E227_1, E227_2, E227_5, E227_6, E227_7, E227_8, E227_11, E227_14, E227_17, E227_18, E227_19, E227_22, E227_23, E227_26, E227_27, E227_28, E227_29, E227_30, E227_31, E227_34, E227_37, E227_38, E227_41, E227_42, E227_43, E227_46, E227_47, E227_48, E227_49, E227_50, E227_51, E227_53, E227_56, E227_57, E227_60, E227_61, E227_62, E227_63, E227_66, E227_69, E227_70, E227_71, E227_72, inn, g1, g2, bI_t, n1_0, pk54 hS, pk56 hS, pl56 hS, pa56 hS, pi56 hS, pk81 hS, pl81 hS, pa81 hS, pi81 hS, pr54_3 hR, pr54_63 hR, rfs, rfn, cs0, csi, csl, csr, csn, kti, ktl, ktr, ktn, ktv, ktf, true_and, and_true, and_self, ↓reduceIte, Nat.reduceAdd, Nat.reduceSub, Nat.reduceMul, Nat.reduceLT, Nat.reduceLeDiff, Nat.reduceEqDiff, true_or, or_true, false_or, or_false, not_true_eq_false, not_false_eq_true, reduceCtorEq, cmp_lt, cmp_gt, cmp_eq, Int32.reduceAdd, Int32.reduceSub, Int32.reduceMul, Int32.reduceLT, Int32.reduceToNatClampNeg, eq_self, ne_eq, Int64.reduceAdd, Int64.reduceSub, Int64.reduceMul, Int64.reduceLT, inb_is, pt, pt_m, en, g3']
  refine sofE (d := d + 1) (n := n) (I0 := put I 54 0 0) hS hR ⟨F1, F2⟩ (by omega) (by unfold PrM; rw [pt_n (by decide)]; exact hP) Nw (fun v J Rr hf hv => hq v J (Or.inr ⟨g3, g2, F, F1, F2, rfl, Rr, hf, hv⟩)) (8 ^ n + 1) (fun k => k) _ _ _ _ (Nat.lt_succ_of_le (Nat.sub_le _ _)) ⟨fun k hk => ⟨hk, ?_⟩, fun j k h1 h2 e => by have e' : j = k := e; omega⟩ (by rw [sg_id]) (fun a ha => ?_) (Or.inl ⟨rfl, fun r hr z => ?_⟩)
  · rcases (by omega : k = 0 ∨ k = 1 ∨ k = 2 ∨ k = 3 ∨ k = 4 ∨ k = 5 ∨ k = 6 ∨ k = 7) with rfl | rfl | rfl | rfl | rfl | rfl | rfl | rfl <;> (simp (disch := omega) only [pt_s, pt_f]; rfl)
  · simp (disch := omega) only [pt_n]
  · rw [sg_id] at z
    have pw : (List.range n).Pairwise (fun x y => x < y) := by
      rw [← sg_id]
      exact sg_pw n 0 (fun i j _ h2 _ => h2)
    rcases ltL_min pw hr.1 with e | y
    · rw [← e] at z
      exact ltL_ir z
    · exact ltL_ir (ltL_tr z y)
end GH
