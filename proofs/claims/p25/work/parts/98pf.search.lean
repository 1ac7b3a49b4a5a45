/-! group G (p25): the class's Gate exactly: the search -/
section GF
variable {d p f : Nat} {S : mS} {I : mI} {L : mL} {R : mR} {mm nd ch : Nat → Nat}
theorem plE (hS : Pm S) (hR : Pr R) (hB : GaB mm nd ch p f) (hC : Chn mm nd ch p) : ∀ (N k : Nat) (a rem : List Nat) (I : mI) (P rs D : Nat) (b bf : Int32) (Q : mQ), k + N = 8 → a.length = k → Nod mm nd p f a rem → Msk P a → rs = gsm (rem.map mm) → Bef mm nd f a b bf → GaS mm nd ch p f I → GaN mm f a (rnl mm nd a (gs0 f)) I → I 47 f = nI D → D ≤ 1000000 → (∀ J D', GaF f a I J → J 47 f = nI D' → GaO mm nd p f a (fun _ => True) (I (49 + f)) (J (49 + f)) D D' → Q .null S J L R) → EvM (d + N + 3) 23 [.ref 40, .int (nI k), .int (nI P), .int (nI rs), .int b, .int bf] S I L R Q := by
  have p8 := hB.1
  have f1 := hB.2.1
  have f3 := hB.2.2.1
  obtain ⟨c1, c2, c3⟩ := cho hS hR f3
  have i3 : inb (nI f) 4 = True := inb_nI (by omega) (by decide)
  have i4 : (nI f).toNatClampNeg = f := nI_clamp (by omega)
  have none : ∀ (a rem : List Nat) (I : mI) (D : Nat) (Q : mQ), Nod mm nd p f a rem → I 47 f = nI D → (∀ r, FBr mm nd p f (a ++ r) → ¬ lst mm nd f (a ++ r) < D) → (∀ J D', GaF f a I J → J 47 f = nI D' → GaO mm nd p f a (fun _ => True) (I (49 + f)) (J (49 + f)) D D' → Q .null S J L R) → Q .null S I L R := fun a rem I D Q _ h47 hn hq => hq I D GaF.rf h47 ⟨Or.inl ⟨rfl, rfl⟩, fun r _ hf hl => absurd hl (hn r hf)⟩
  have stop : ∀ (M : Nat) (a rem : List Nat) (I : mI) (k D : Nat) (pl rs b bf : Int32) (x7 x8 x9 x10 : Value) (Q : mQ), a.length = p → Nod mm nd p f a rem → I 40 9 = nI f → GaN mm f a (rnl mm nd a (gs0 f)) I → I 47 f = nI D → D ≤ 1000000 → (∀ J D', GaF f a I J → J 47 f = nI D' → GaO mm nd p f a (fun _ => True) (I (49 + f)) (J (49 + f)) D D' → Q .null S J L R) → Ev (M + 1) 23 20 [.ref 40, .int (nI k), .int pl, .int rs, .int b, .int bf, .int (nI (mxl (rnl mm nd a (gs0 f)).1)), x7, x8, x9, x10] [] S I L R Q := by
    intro M a rem I k D pl rs b bf x7 x8 x9 x10 Q hl hN hf hn h47 hD hq
    have mx := hN.mx
    have rn : rem = [] := by
      have e := hN.pm.length_eq
      rw [List.length_append, List.length_range] at e
      exact List.length_eq_zero_iff.mp (by omega)
    have hv : Vdr nd p a := by
      have := hN.pm
      rw [rn, List.append_nil] at this
      exact ⟨this, hN.ok⟩
    have full : ∀ r, Vdr nd p (a ++ r) → r = [] := fun r h => by
      have e := h.1.length_eq
      rw [List.length_append, List.length_range] at e
      exact List.length_eq_zero_iff.mp (by omega)
    by_cases g : mxl (rnl mm nd a (gs0 f)).1 < D
    · have g' : (nI (mxl (rnl mm nd a (gs0 f)).1) < nI D) = True := eq_true (nI_lt g (by omega))
      simp only [E23_0, E23_1, E23_4, E23_6, E23_7, E23_8, E23_11, E23_14, E23_15, E23_17, E23_20, E23_22, E23_23, E23_26, E23_27, E23_30, E23_31, E23_34, E23_35, E23_38, E23_39, E23_42, E23_44, E23_45, E23_46, E23_49, E23_50, E23_51, E23_54, E23_55, E23_58, E23_59, E23_60, E23_62, E23_65, E23_66, E23_67, E23_70, E23_72, E23_73, E23_76, E23_78, E23_79, E23_81, E23_83, E23_84, E23_87, E23_88, E23_91, E23_92, E23_95, E23_96, E23_97, E23_98, E23_100, E23_103, E23_104, E23_107, E23_108, E23_111, E23_112, E23_115, E23_116, E23_117, E23_121, E23_122, E23_125, E23_128, E23_130, E23_132, E23_135, E23_137, E23_139, E23_142, E23_143, E23_146, E23_147, E23_149, E23_150, E23_152, E23_153, E23_154, E23_155, E23_158, E23_159, E23_161, E23_162, E23_165, E23_168, E23_170, E23_173, E23_174, E23_177, E23_179, E23_180, E23_182, E23_184, E23_187, E23_188, E23_189, E23_192, E23_194, E23_195, E23_198, E23_200, E23_201, E23_202, E23_205, E23_207, E23_208, E23_209, E23_210, E23_211, E23_214, E23_216, E23_217, E23_220, E23_222, E23_223, E23_224, E23_225, E23_226, E23_227, E23_228, E23_229, E23_230, E23_232, E23_233, E23_234, E23_235, E23_236, E23_239, E23_241, E23_242, E23_243, E23_245, E23_247, E23_250, E23_251, E23_254, E23_256, E23_258, E23_259, E23_262, E23_265, pk40 hS, pk44 hS, pl44 hS, pa44 hS, pi44 hS, pk47 hS, pl47 hS, pa47 hS, pi47 hS, pk48 hS, pl48 hS, pa48 hS, pq48 hS, pr40_3 hR, pr40_6 hR, pr40_7 hR, rfs, rfn, cs0, csi, csl, csr, csn, kti, ktl, ktr, ktn, ktv, ktf, true_and, and_true, and_self, ↓reduceIte, Nat.reduceAdd, Nat.reduceSub, Nat.reduceMul, Nat.reduceLT, Nat.reduceLeDiff, Nat.reduceEqDiff, true_or, or_true, false_or, or_false, not_true_eq_false, not_false_eq_true, reduceCtorEq, cmp_lt, cmp_gt, cmp_eq, Int32.reduceAdd, Int32.reduceSub, Int32.reduceMul, Int32.reduceLT, Int32.reduceToNatClampNeg, eq_self, ne_eq, Int64.reduceAdd, Int64.reduceSub, Int64.reduceMul, Int64.reduceLT, pt, pt_m, hf, i3, i4, h47, g', c1, c2, c3]
      have ch : ∀ M : mI, ChS mm nd p f a (va_up (put I 47 f (nI (mxl (rnl mm nd a (gs0 f)).1))) (49 + f) (va_cpy (put I 47 f (nI (mxl (rnl mm nd a (gs0 f)).1)) 44) (put I 47 f (nI (mxl (rnl mm nd a (gs0 f)).1)) (49 + f)) 0 0 8) (49 + f)) := fun _ i hi => by
        rw [uu_s]
        unfold va_cpy
        rw [if_pos ⟨Nat.zero_le i, by omega⟩, show 0 + (i - 0) = i by omega, pt_m (by decide)]
        have ia : i ∈ a := (vdr_lt hv).mpr hi
        exact (hn.2.2 i ia).1
      refine hq _ (mxl (rnl mm nd a (gs0 f)).1) ⟨fun c q1 q2 q3 q4 => ?_, fun k hk => ?_, fun i hi => ⟨?_, ?_⟩⟩ ?_ ⟨Or.inr ⟨g, [], trivial, ?_, ?_, ?_⟩, fun r _ hfb hl2 => ?_⟩
      · rw [uu_n _ _ q4, pt_n q3]
      · rw [uu_n _ _ (by omega), pt_f hk]
      · rw [uu_n _ _ (by omega), pt_m (by decide)]
      · rw [uu_n _ _ (by omega), pt_m (by decide)]
      · rw [uu_n _ _ (by omega), pt_s]
      · rw [List.append_nil]; exact hv
      · rw [List.append_nil]; rfl
      · rw [List.append_nil]; exact ch I
      · obtain rfl := full r hfb.1
        rw [List.append_nil]
        exact ⟨rfl, ch I⟩
    · have g' : (nI (mxl (rnl mm nd a (gs0 f)).1) < nI D) = False := eq_false (nI_nlt (by omega) (by omega))
      simp only [E23_0, E23_1, E23_4, E23_6, E23_7, E23_8, E23_11, E23_14, E23_15, E23_17, E23_20, E23_22, E23_23, E23_26, E23_27, E23_30, E23_31, E23_34, E23_35, E23_38, E23_39, E23_42, E23_44, E23_45, E23_46, E23_49, E23_50, E23_51, E23_54, E23_55, E23_58, E23_59, E23_60, E23_62, E23_65, E23_66, E23_67, E23_70, E23_72, E23_73, E23_76, E23_78, E23_79, E23_81, E23_83, E23_84, E23_87, E23_88, E23_91, E23_92, E23_95, E23_96, E23_97, E23_98, E23_100, E23_103, E23_104, E23_107, E23_108, E23_111, E23_112, E23_115, E23_116, E23_117, E23_121, E23_122, E23_125, E23_128, E23_130, E23_132, E23_135, E23_137, E23_139, E23_142, E23_143, E23_146, E23_147, E23_149, E23_150, E23_152, E23_153, E23_154, E23_155, E23_158, E23_159, E23_161, E23_162, E23_165, E23_168, E23_170, E23_173, E23_174, E23_177, E23_179, E23_180, E23_182, E23_184, E23_187, E23_188, E23_189, E23_192, E23_194, E23_195, E23_198, E23_200, E23_201, E23_202, E23_205, E23_207, E23_208, E23_209, E23_210, E23_211, E23_214, E23_216, E23_217, E23_220, E23_222, E23_223, E23_224, E23_225, E23_226, E23_227, E23_228, E23_229, E23_230, E23_232, E23_233, E23_234, E23_235, E23_236, E23_239, E23_241, E23_242, E23_243, E23_245, E23_247, E23_250, E23_251, E23_254, E23_256, E23_258, E23_259, E23_262, E23_265, pk40 hS, pk44 hS, pl44 hS, pa44 hS, pi44 hS, pk47 hS, pl47 hS, pa47 hS, pi47 hS, pk48 hS, pl48 hS, pa48 hS, pq48 hS, pr40_3 hR, pr40_6 hR, pr40_7 hR, rfs, rfn, cs0, csi, csl, csr, csn, kti, ktl, ktr, ktn, ktv, ktf, true_and, and_true, and_self, ↓reduceIte, Nat.reduceAdd, Nat.reduceSub, Nat.reduceMul, Nat.reduceLT, Nat.reduceLeDiff, Nat.reduceEqDiff, true_or, or_true, false_or, or_false, not_true_eq_false, not_false_eq_true, reduceCtorEq, cmp_lt, cmp_gt, cmp_eq, Int32.reduceAdd, Int32.reduceSub, Int32.reduceMul, Int32.reduceLT, Int32.reduceToNatClampNeg, eq_self, ne_eq, Int64.reduceAdd, Int64.reduceSub, Int64.reduceMul, Int64.reduceLT, hf, i3, i4, h47, g']
      refine none a rem I D Q hN h47 (fun r hfb z => ?_) hq
      have := fb_la (by omega) hN hfb.1
      omega
  intro N
  induction N with
  | zero =>
    intro k a rem I P rs D b bf Q hk hl hN hP hrs hbf hs hn h47 hD hq
    obtain rfl : k = 8 := by omega
    obtain ⟨⟨fr, h46, e46⟩, mx, _⟩ := id hn
    have ap : a.length ≤ p := by
      have e := hN.pm.length_eq
      rw [List.length_append, List.length_range] at e
      omega
    have e : (nI 8 < (8 : Int32)) = False := eq_false (by decide)
    have g : (nI 8 < nI p) = False := eq_false (nI_nlt (by omega) (by omega))
    simp only [M23, E23_0, E23_1, pk40 hS, rfs, rfn, cs0, csi, csl, csr, csn, kti, ktl, ktr, ktn, ktv, ktf, true_and, and_true, and_self, ↓reduceIte, Nat.reduceAdd, Nat.reduceSub, Nat.reduceMul, Nat.reduceLT, Nat.reduceLeDiff, Nat.reduceEqDiff, true_or, or_true, false_or, or_false, not_true_eq_false, not_false_eq_true, reduceCtorEq, cmp_lt, cmp_gt, cmp_eq, Int32.reduceAdd, Int32.reduceSub, Int32.reduceMul, Int32.reduceLT, Int32.reduceToNatClampNeg, eq_self, ne_eq, Int64.reduceAdd, Int64.reduceSub, Int64.reduceMul, Int64.reduceLT]
    refine lafE hS hR f3 hs.2.1 h46 (by rw [e46]; exact mx) ?_
    rw [e46]
    simp only [E23_4, E23_6, E23_7, E23_8, E23_11, E23_14, E23_15, E23_17, pk40 hS, rfs, rfn, cs0, csi, csl, csr, csn, kti, ktl, ktr, ktn, ktv, ktf, true_and, and_true, and_self, ↓reduceIte, Nat.reduceAdd, Nat.reduceSub, Nat.reduceMul, Nat.reduceLT, Nat.reduceLeDiff, Nat.reduceEqDiff, true_or, or_true, false_or, or_false, not_true_eq_false, not_false_eq_true, reduceCtorEq, cmp_lt, cmp_gt, cmp_eq, Int32.reduceAdd, Int32.reduceSub, Int32.reduceMul, Int32.reduceLT, Int32.reduceToNatClampNeg, eq_self, ne_eq, Int64.reduceAdd, Int64.reduceSub, Int64.reduceMul, Int64.reduceLT, hs.1, g, e]
    exact stop _ a rem I 8 D _ _ _ _ _ _ _ _ Q (by omega) hN hs.2.1 hn h47 hD hq
  | succ N ih =>
    intro k a rem I P rs D b bf Q hk hl hN hP hrs hbf hs hn h47 hD hq
    obtain ⟨⟨fr, h46, e46⟩, mx, _⟩ := id hn
    have hf := hs.2.1
    have hp := hs.1
    have ap : a.length ≤ p := by
      have e := hN.pm.length_eq
      rw [List.length_append, List.length_range] at e
      omega
    have e : (nI k < (8 : Int32)) = True := eq_true (nI_lt (a := k) (b := 8) (by omega) (by decide))
    simp only [M23, E23_0, E23_1, pk40 hS, rfs, rfn, cs0, csi, csl, csr, csn, kti, ktl, ktr, ktn, ktv, ktf, true_and, and_true, and_self, ↓reduceIte, Nat.reduceAdd, Nat.reduceSub, Nat.reduceMul, Nat.reduceLT, Nat.reduceLeDiff, Nat.reduceEqDiff, true_or, or_true, false_or, or_false, not_true_eq_false, not_false_eq_true, reduceCtorEq, cmp_lt, cmp_gt, cmp_eq, Int32.reduceAdd, Int32.reduceSub, Int32.reduceMul, Int32.reduceLT, Int32.reduceToNatClampNeg, eq_self, ne_eq, Int64.reduceAdd, Int64.reduceSub, Int64.reduceMul, Int64.reduceLT]
    refine lafE hS hR f3 hf h46 (by rw [e46]; exact mx) ?_
    rw [e46]
    by_cases g : k < p
    · have g' : (nI k < nI p) = True := eq_true (nI_lt g (by omega))
      simp only [E23_4, E23_6, E23_7, E23_8, E23_11, E23_14, E23_15, E23_17, E23_66, E23_67, pk40 hS, rfs, rfn, cs0, csi, csl, csr, csn, kti, ktl, ktr, ktn, ktv, ktf, true_and, and_true, and_self, ↓reduceIte, Nat.reduceAdd, Nat.reduceSub, Nat.reduceMul, Nat.reduceLT, Nat.reduceLeDiff, Nat.reduceEqDiff, true_or, or_true, false_or, or_false, not_true_eq_false, not_false_eq_true, reduceCtorEq, cmp_lt, cmp_gt, cmp_eq, Int32.reduceAdd, Int32.reduceSub, Int32.reduceMul, Int32.reduceLT, Int32.reduceToNatClampNeg, eq_self, ne_eq, Int64.reduceAdd, Int64.reduceSub, Int64.reduceMul, Int64.reduceLT, hp, g', e]
      refine frfE hS hR f1 f3 hf h46 (by rw [e46]; exact mx) (fun fi hfi hmin => ?_)
      have i7 : inb (nI fi) 3 = True := inb_nI (by omega) (by decide)
      have e7 : (nI fi).toNatClampNeg = fi := nI_clamp (by omega)
      have t46 : I 46 fi = nI (hdl (rnl mm nd a (gs0 f)).1) := by rw [h46 fi hfi, ← hmin, e46]
      have t16 : hdl (rnl mm nd a (gs0 f)).1 ≤ 1600 := Nat.le_trans (mxl_mem (hd_mem (by rw [hN.st.2.1]; exact f1))) mx
      by_cases g2 : mxl (rnl mm nd a (gs0 f)).1 < D
      · have g2' : (nI (mxl (rnl mm nd a (gs0 f)).1) < nI D) = True := eq_true (nI_lt g2 (by omega))
        simp only [E23_70, E23_72, E23_73, E23_76, E23_78, E23_79, E23_81, E23_83, E23_84, E23_87, E23_88, E23_91, E23_92, E23_95, E23_96, E23_97, E23_98, E23_100, pk40 hS, pk46 hS, pl46 hS, pa46 hS, pi46 hS, pk47 hS, pl47 hS, pa47 hS, pi47 hS, pr40_5 hR, pr40_6 hR, rfs, rfn, cs0, csi, csl, csr, csn, kti, ktl, ktr, ktn, ktv, ktf, true_and, and_true, and_self, ↓reduceIte, Nat.reduceAdd, Nat.reduceSub, Nat.reduceMul, Nat.reduceLT, Nat.reduceLeDiff, Nat.reduceEqDiff, true_or, or_true, false_or, or_false, not_true_eq_false, not_false_eq_true, reduceCtorEq, cmp_lt, cmp_gt, cmp_eq, Int32.reduceAdd, Int32.reduceSub, Int32.reduceMul, Int32.reduceLT, Int32.reduceToNatClampNeg, eq_self, ne_eq, Int64.reduceAdd, Int64.reduceSub, Int64.reduceMul, Int64.reduceLT, hf, i3, i4, i7, e7, t46, h47, g2']
        refine bndE hS hR hB hs hn hP t16 (fun c hc => Nat.le_trans (hN.st.2.2.1 c (List.mem_reverse.mpr hc)) mx) (by rw [hrs]; exact hN.rs) (fun B hB4 hX => ?_)
        by_cases g3 : B < D
        · have g3' : (nI B < nI D) = True := eq_true (nI_lt g3 (by omega))
          simp only [E23_103, E23_104, E23_107, E23_108, E23_111, E23_112, E23_116, E23_117, pk40 hS, pk47 hS, pl47 hS, pa47 hS, pi47 hS, pr40_6 hR, rfs, rfn, cs0, csi, csl, csr, csn, kti, ktl, ktr, ktn, ktv, ktf, true_and, and_true, and_self, ↓reduceIte, Nat.reduceAdd, Nat.reduceSub, Nat.reduceMul, Nat.reduceLT, Nat.reduceLeDiff, Nat.reduceEqDiff, true_or, or_true, false_or, or_false, not_true_eq_false, not_false_eq_true, reduceCtorEq, cmp_lt, cmp_gt, cmp_eq, Int32.reduceAdd, Int32.reduceSub, Int32.reduceMul, Int32.reduceLT, Int32.reduceToNatClampNeg, eq_self, ne_eq, Int64.reduceAdd, Int64.reduceSub, Int64.reduceMul, Int64.reduceLT, hf, i3, i4, h47, g3']
          have q := fun x => plEc (d := d + N + 1) (k := k) (fi := fi) (t := hdl (rnl mm nd a (gs0 f)).1) (P := P) (rs := rs) (b := b) (bf := bf) (la := nI (mxl (rnl mm nd a (gs0 f)).1)) (rem := rem) (I := I) (L := L) (Q := Q) (D := D) hS hR hB hN hl hP hrs hbf hfi hs hn rfl t46 (fun x => ⟨fun k => if k = fi then x else fr k, fun k hk => by
            by_cases z : k = fi
            · rw [z, pt_s]
              exact congrArg nI (if_pos rfl).symm
            · rw [pt_f z, h46 k hk]
              exact congrArg nI (if_neg z).symm, by rw [arL_up hfi hmin, e46]⟩) (by omega) (fun i J D1 Q' ir hr js jn j47 hD1 hq' => ?_) (fun J D' a1 a2 a3 => hq J D' a1 a2 (a3.al hN (by omega))) hD p 0 D I x (by omega) GaF.rf h47 GaO.z
          · rw [show nI 0 = 0 from rfl] at q
            exact q _
          · have i8 : i < p := (hN.lt i).mpr (Or.inr ir)
            have sm : gsm (rem.map mm) = mm i + gsm ((rem.erase i).map mm) := sml_pm (mm := mm) (List.perm_cons_erase ir)
            exact ih (k + 1) (a ++ [i]) (rem.erase i) J (P ||| 2 ^ i) (rs - mm i) D1 (nI i) _ Q' (by omega) (by rw [List.length_append, hl]; rfl) (hN.up p8 (by omega) (fun j hj => (hB.2.2.2 j hj).2.1) ir hr) (hP.o (by omega)).2 (by omega) (Or.inr ⟨a, i, rfl, rfl, rfl⟩) js jn j47 hD1 hq'
        · have g3' : (nI B < nI D) = False := eq_false (nI_nlt (by omega) (by omega))
          simp only [E23_103, E23_104, E23_107, E23_108, E23_111, E23_112, E23_115, pk40 hS, pk47 hS, pl47 hS, pa47 hS, pi47 hS, pr40_6 hR, rfs, rfn, cs0, csi, csl, csr, csn, kti, ktl, ktr, ktn, ktv, ktf, true_and, and_true, and_self, ↓reduceIte, Nat.reduceAdd, Nat.reduceSub, Nat.reduceMul, Nat.reduceLT, Nat.reduceLeDiff, Nat.reduceEqDiff, true_or, or_true, false_or, or_false, not_true_eq_false, not_false_eq_true, reduceCtorEq, cmp_lt, cmp_gt, cmp_eq, Int32.reduceAdd, Int32.reduceSub, Int32.reduceMul, Int32.reduceLT, Int32.reduceToNatClampNeg, eq_self, ne_eq, Int64.reduceAdd, Int64.reduceSub, Int64.reduceMul, Int64.reduceLT, hf, i3, i4, h47, g3']
          refine none a rem I D Q hN h47 (fun r hfb z => ?_) hq
          obtain ⟨d1, d2, d3, d4⟩ := hN.vd hfb.1
          have d1' : ∀ x, x ∈ r → ¬ x ∈ a.reverse := fun x hx hy => d1 x hx (List.mem_reverse.mp hy)
          have w := bnd_w hN.st (by omega) d1' d2 d3
          have el : lst mm nd f (a ++ r) = mxl (rnl mm nd r (rnl mm nd a (gs0 f))).1 := by unfold lst; rw [rnl_ap]
          have pr : rem.Perm r := by
            have := hN.pm.trans hfb.1.1.symm
            exact (List.perm_append_left_iff a).mp this
          have hb := hX (lst mm nd f (a ++ r)) (by
            rw [el, hrs, sml_pm pr]
            exact w) (fun i hi ia ri => by
            rw [el]
            have ir : i ∈ r := by
              rcases List.mem_append.mp ((vdr_lt hfb.1).mpr hi) with y | y
              · exact absurd y ia
              · exact y
            exact bnd_c (ch := ch) hN.st (by omega) d1' d2 d3 d4 (fun j hj => (hC j hj).2) hi ir (ri.elim Or.inl (fun y => Or.inr (List.mem_reverse.mpr y))))
          omega
      · have g2' : (nI (mxl (rnl mm nd a (gs0 f)).1) < nI D) = False := eq_false (nI_nlt (by omega) (by omega))
        simp only [E23_70, E23_72, E23_73, E23_76, E23_78, E23_79, E23_81, E23_83, E23_84, E23_87, E23_88, E23_91, E23_92, E23_115, pk40 hS, pk46 hS, pl46 hS, pa46 hS, pi46 hS, pk47 hS, pl47 hS, pa47 hS, pi47 hS, pr40_5 hR, pr40_6 hR, rfs, rfn, cs0, csi, csl, csr, csn, kti, ktl, ktr, ktn, ktv, ktf, true_and, and_true, and_self, ↓reduceIte, Nat.reduceAdd, Nat.reduceSub, Nat.reduceMul, Nat.reduceLT, Nat.reduceLeDiff, Nat.reduceEqDiff, true_or, or_true, false_or, or_false, not_true_eq_false, not_false_eq_true, reduceCtorEq, cmp_lt, cmp_gt, cmp_eq, Int32.reduceAdd, Int32.reduceSub, Int32.reduceMul, Int32.reduceLT, Int32.reduceToNatClampNeg, eq_self, ne_eq, Int64.reduceAdd, Int64.reduceSub, Int64.reduceMul, Int64.reduceLT, hf, i3, i4, i7, e7, t46, h47, g2']
        refine none a rem I D Q hN h47 (fun r hfb z => ?_) hq
        have := fb_la (by omega) hN hfb.1
        omega
    · have g' : (nI k < nI p) = False := eq_false (nI_nlt (by omega) (by omega))
      simp only [E23_4, E23_6, E23_7, E23_8, E23_11, pk40 hS, rfs, rfn, cs0, csi, csl, csr, csn, kti, ktl, ktr, ktn, ktv, ktf, true_and, and_true, and_self, ↓reduceIte, Nat.reduceAdd, Nat.reduceSub, Nat.reduceMul, Nat.reduceLT, Nat.reduceLeDiff, Nat.reduceEqDiff, true_or, or_true, false_or, or_false, not_true_eq_false, not_false_eq_true, reduceCtorEq, cmp_lt, cmp_gt, cmp_eq, Int32.reduceAdd, Int32.reduceSub, Int32.reduceMul, Int32.reduceLT, Int32.reduceToNatClampNeg, eq_self, ne_eq, Int64.reduceAdd, Int64.reduceSub, Int64.reduceMul, Int64.reduceLT, hp, g']
      exact stop _ a rem I k D _ _ _ _ _ _ _ _ Q (by omega) hN hf hn h47 hD hq
/-- the PIECES of the class's Smithy -/
def PcR (mm nd : Nat → Nat) (p : Nat) (I : mI) : Prop := p ≤ 8 ∧ I 5 9 = nI p ∧ ∀ i, i < p → I 10 i = nI (mm i) ∧ I 11 i = (if nd i = 0 then -1 else nI (nd i - 1)) ∧ 1 ≤ mm i ∧ mm i ≤ 200 ∧ nd i ≤ i
theorem seaE_lp {Q : mQ} (hS : Pm S) (hR : Pr R) (hp8 : p ≤ 8) (f1 : 1 ≤ f) (f3 : f ≤ 3) (hp : I 40 8 = nI p) (hf : I 40 9 = nI f) (hm : ∀ i, i < p → 1 ≤ mm i ∧ mm i ≤ 200 ∧ nd i ≤ i) (h41 : ∀ i, i < p → I 41 i = nI (mm i) ∧ I 42 i = (if nd i = 0 then -1 else nI (nd i - 1))) (h46 : ∀ k, k < 3 → I 46 k = 0) (hq : ∀ J D', (∀ c, c < 40 ∨ 52 < c → J c = I c) → (∀ k, ¬ k = f → J 47 k = I 47 k) → (∀ c, 49 ≤ c → c ≤ 52 → ¬ c = 49 + f → J c = I c) → J 47 f = nI D' → GaO mm nd p f [] (fun _ => True) (I (49 + f)) (J (49 + f)) 1000000 D' → Q .null S J L R) : ∀ (N i : Nat), i + N = p → Ev (d + 12) 21 61 [.ref 40, .ref 5, .int (nI f), .int (nI (gsm ((List.range i).map mm))), .int (nI i)] [] S I L R Q := by
  have i3 : inb (nI f) 4 = True := inb_nI (by omega) (by decide)
  have i4 : (nI f).toNatClampNeg = f := nI_clamp (by omega)
  intro N
  induction N with
  | zero =>
    intro i hi
    obtain rfl : i = p := by omega
    have e : (nI i < nI i) = False := eq_false (nI_nlt (Nat.le_refl _) (by omega))
    rw [E21_61]
    simp only [E21_0, E21_1, E21_3, E21_3n, E21_4, E21_7, E21_10, E21_13, E21_14, E21_15, E21_18, E21_18n, E21_19, E21_22, E21_23, E21_24, E21_27, E21_28, E21_30, E21_33, E21_33n, E21_34, E21_37, E21_38, E21_39, E21_42, E21_43, E21_45, E21_48, E21_49, E21_52, E21_53, E21_56, E21_57, E21_58, E21_59, E21_63, E21_64, E21_67, E21_70, E21_71, E21_72, E21_75, E21_77, E21_78, E21_79, E21_80, E21_83, E21_86, E21_87, E21_90, E21_91, E21_94, E21_95, E21_97, E21_98, E21_99, E21_100, E21_101, E21_102, E21_103, E21_104, E21_107, pk40 hS, rfs, rfn, cs0, csi, csl, csr, csn, kti, ktl, ktr, ktn, ktv, ktf, true_and, and_true, and_self, ↓reduceIte, Nat.reduceAdd, Nat.reduceSub, Nat.reduceMul, Nat.reduceLT, Nat.reduceLeDiff, Nat.reduceEqDiff, true_or, or_true, false_or, or_false, not_true_eq_false, not_false_eq_true, reduceCtorEq, cmp_lt, cmp_gt, cmp_eq, Int32.reduceAdd, Int32.reduceSub, Int32.reduceMul, Int32.reduceLT, Int32.reduceToNatClampNeg, eq_self, ne_eq, Int64.reduceAdd, Int64.reduceSub, Int64.reduceMul, Int64.reduceLT, hp, e]
    refine meaE hS hR hp8 hp (fun j hj => ⟨(hm j hj).2.1, (hm j hj).2.2⟩) h41 (fun J ch hJ h43 hC => ?_)
    simp only [E21_0, E21_1, E21_3, E21_3n, E21_4, E21_7, E21_10, E21_13, E21_14, E21_15, E21_18, E21_18n, E21_19, E21_22, E21_23, E21_24, E21_27, E21_28, E21_30, E21_33, E21_33n, E21_34, E21_37, E21_38, E21_39, E21_42, E21_43, E21_45, E21_48, E21_49, E21_52, E21_53, E21_56, E21_57, E21_58, E21_59, E21_63, E21_64, E21_67, E21_70, E21_71, E21_72, E21_75, E21_77, E21_78, E21_79, E21_80, E21_83, E21_86, E21_87, E21_90, E21_91, E21_94, E21_95, E21_97, E21_98, E21_99, E21_100, E21_101, E21_102, E21_103, E21_104, E21_107, pk40 hS, pk47 hS, pl47 hS, pa47 hS, pi47 hS, pr40_6 hR, rfs, rfn, cs0, csi, csl, csr, csn, kti, ktl, ktr, ktn, ktv, ktf, true_and, and_true, and_self, ↓reduceIte, Nat.reduceAdd, Nat.reduceSub, Nat.reduceMul, Nat.reduceLT, Nat.reduceLeDiff, Nat.reduceEqDiff, true_or, or_true, false_or, or_false, not_true_eq_false, not_false_eq_true, reduceCtorEq, cmp_lt, cmp_gt, cmp_eq, Int32.reduceAdd, Int32.reduceSub, Int32.reduceMul, Int32.reduceLT, Int32.reduceToNatClampNeg, eq_self, ne_eq, Int64.reduceAdd, Int64.reduceSub, Int64.reduceMul, Int64.reduceLT, pt, i3, i4]
    have hB : GaB mm nd ch i f := ⟨hp8, f1, f3, fun j hj => ⟨(hm j hj).1, (hm j hj).2.1, (hm j hj).2.2, (hC j hj).1⟩⟩
    have j4 : ∀ c, ¬ c = 43 → ¬ c = 47 → put J 47 f 1000000 c = I c := fun c a b => (pt_n b).trans (hJ c a)
    have hs : GaS mm nd ch i f (put J 47 f 1000000) := by
      refine ⟨by rw [j4 40 (by decide) (by decide)]; exact hp, by rw [j4 40 (by decide) (by decide)]; exact hf, fun j hj => ?_⟩
      rw [j4 41 (by decide) (by decide), j4 42 (by decide) (by decide), pt_m (by decide)]
      exact ⟨(h41 j hj).1, (h41 j hj).2, h43 j hj⟩
    have hn : GaN mm f [] (rnl mm nd [] (gs0 f)) (put J 47 f 1000000) := by
      refine ⟨⟨fun _ => 0, fun k hk => ?_, ?_⟩, ?_, fun _ z => (by cases z)⟩
      · rw [j4 46 (by decide) (by decide)]
        exact h46 k (by omega)
      · have : ∀ k, arL (fun _ => 0) k = List.replicate k 0 := fun k => by
          induction k with
          | zero => rfl
          | succ k ih =>
            show ins 0 (arL (fun _ => 0) k) = 0 :: List.replicate k 0
            rw [ih]
            cases k <;> rfl
        exact this f
      · show mxl (List.replicate f 0) ≤ 1600
        rw [mx_0]
        exact Nat.zero_le _
    have k := plE (d := d) hS hR hB hC 8 0 [] (List.range i) (put J 47 f 1000000) 0 (gsm ((List.range i).map mm)) 1000000 (-1) (-1) (fun _ S I L R => Q .null S I L R) (by omega) rfl (Nod.mk' hp8 (by omega) (fun j hj => (hm j hj).2.1) (List.Perm.refl _) trivial) ⟨by decide, fun j _ => by rw [Nat.zero_testBit]; exact ⟨fun z => (by cases z), fun z => (by cases z)⟩⟩ rfl (Or.inl ⟨rfl, rfl, rfl⟩) hs hn pt_s (Nat.le_refl _) (fun J' D' a1 a2 a3 => hq J' D' (fun c hc => ?_) (fun k hk => ?_) (fun c c1 c2 c3 => ?_) a2 ?_)
    · rw [show nI 0 = 0 from rfl] at k
      exact k
    · rw [a1.1 c (by omega) (by omega) (by omega) (by omega)]
      exact j4 c (by omega) (by omega)
    · rw [a1.2.1 k hk, pt_f hk, hJ 47 (by decide)]
    · rw [a1.1 c (by omega) (by omega) (by omega) c3]
      exact j4 c (by omega) (by omega)
    · rw [j4 (49 + f) (by omega) (by omega)] at a3
      exact a3
  | succ N ih =>
    intro i hi
    have e1 : (nI i < nI p) = True := eq_true (nI_lt (by omega) (by omega))
    have e3 : inb (nI i) 8 = True := inb_nI (by omega) (by decide)
    have e4 : (nI i).toNatClampNeg = i := nI_clamp (by omega)
    have es : nI (gsm ((List.range i).map mm)) + nI (mm i) = nI (gsm ((List.range (i + 1)).map mm)) := by
      rw [nI_add, List.range_succ, List.map_append]
      have ap : ∀ (l m : List Nat), gsm (l ++ m) = gsm l + gsm m := fun l m => by
        induction l with
        | nil => exact (Nat.zero_add _).symm
        | cons x l ih =>
          show x + gsm (l ++ m) = x + gsm l + gsm m
          rw [ih, Nat.add_assoc]
      rw [ap]
      rfl
    rw [E21_61]
    simp only [E21_0, E21_1, E21_3, E21_3n, E21_4, E21_7, E21_10, E21_13, E21_14, E21_15, E21_18, E21_18n, E21_19, E21_22, E21_23, E21_24, E21_27, E21_28, E21_30, E21_33, E21_33n, E21_34, E21_37, E21_38, E21_39, E21_42, E21_43, E21_45, E21_48, E21_49, E21_52, E21_53, E21_56, E21_57, E21_58, E21_59, E21_63, E21_64, E21_67, E21_70, E21_71, E21_72, E21_75, E21_77, E21_78, E21_79, E21_80, E21_83, E21_86, E21_87, E21_90, E21_91, E21_94, E21_95, E21_97, E21_98, E21_99, E21_100, E21_101, E21_102, E21_103, E21_104, E21_107, pk40 hS, pk41 hS, pl41 hS, pa41 hS, pi41 hS, pr40_0 hR, rfs, rfn, cs0, csi, csl, csr, csn, kti, ktl, ktr, ktn, ktv, ktf, true_and, and_true, and_self, ↓reduceIte, Nat.reduceAdd, Nat.reduceSub, Nat.reduceMul, Nat.reduceLT, Nat.reduceLeDiff, Nat.reduceEqDiff, true_or, or_true, false_or, or_false, not_true_eq_false, not_false_eq_true, reduceCtorEq, cmp_lt, cmp_gt, cmp_eq, Int32.reduceAdd, Int32.reduceSub, Int32.reduceMul, Int32.reduceLT, Int32.reduceToNatClampNeg, eq_self, ne_eq, Int64.reduceAdd, Int64.reduceSub, Int64.reduceMul, Int64.reduceLT, hp, e1, e3, e4, (h41 i (by omega)).1, es, nI_1]
    exact ih (i + 1) (by omega)
theorem seaE {Q : mQ} (hS : Pm S) (hR : Pr R) (f1 : 1 ≤ f) (f3 : f ≤ 3) (h : PcR mm nd p I) (hq : ∀ J D', (∀ c, c < 40 ∨ 52 < c → J c = I c) → (∀ k, ¬ k = f → J 47 k = I 47 k) → (∀ c, 49 ≤ c → c ≤ 52 → ¬ c = 49 + f → J c = I c) → J 47 f = nI D' → GaO mm nd p f [] (fun _ => True) (I (49 + f)) (J (49 + f)) 1000000 D' → Q .null S J L R) : EvM (d + 12) 21 [.ref 40, .ref 5, .int (nI f)] S I L R Q := by
  obtain ⟨hp8, hp, hm⟩ := h
  have c8 : ∀ (J : mI) (a b : Nat), va_up J b (va_cpy (J a) (J b) 0 0 8) = cp8 J a b := fun _ _ _ => rfl
  have fl := fun I Q => fillI (d := d + 10) (v := 0) (I := I) (L := L) (R := R) (Q := Q) (of_eq_true (pk46 hS)) (pl46 hS) (by decide)
  have em : (if nI p < (8 : Int32) then nI p else 8) = nI p := by
    by_cases g : p < 8
    · have e : nI p < (8 : Int32) := nI_lt (a := p) (b := 8) g (by decide)
      rw [if_pos e]
    · obtain rfl : p = 8 := by omega
      rfl
  have em2 : (if (8 : Int32) < nI p then (8 : Int32) else nI p) = nI p := if_neg (nI_nlt (a := 8) (b := p) hp8 (by decide))
  simp only [M21, E21_0, E21_1, E21_3, E21_3n, E21_4, E21_7, E21_10, E21_13, E21_14, E21_15, E21_18, E21_18n, E21_19, E21_22, E21_23, E21_24, E21_27, E21_28, E21_30, E21_33, E21_33n, E21_34, E21_37, E21_38, E21_39, E21_42, E21_43, E21_45, E21_48, E21_49, E21_52, E21_53, E21_56, E21_57, E21_58, E21_59, E21_63, E21_64, E21_67, E21_70, E21_71, E21_72, E21_75, E21_77, E21_78, E21_79, E21_80, E21_83, E21_86, E21_87, E21_90, E21_91, E21_94, E21_95, E21_97, E21_98, E21_99, E21_100, E21_101, E21_102, E21_103, E21_104, E21_107, pk5 hS, pk10 hS, pl10 hS, pa10 hS, pi10 hS, pk11 hS, pl11 hS, pa11 hS, pi11 hS, pk40 hS, pk41 hS, pl41 hS, pa41 hS, pi41 hS, pk42 hS, pl42 hS, pa42 hS, pi42 hS, pk46 hS, pl46 hS, pa46 hS, pi46 hS, pr5_7 hR, pr5_8 hR, pr40_0 hR, pr40_1 hR, pr40_5 hR, rfs, rfn, cs0, csi, csl, csr, csn, kti, ktl, ktr, ktn, ktv, ktf, true_and, and_true, and_self, ↓reduceIte, Nat.reduceAdd, Nat.reduceSub, Nat.reduceMul, Nat.reduceLT, Nat.reduceLeDiff, Nat.reduceEqDiff, true_or, or_true, false_or, or_false, not_true_eq_false, not_false_eq_true, reduceCtorEq, cmp_lt, cmp_gt, cmp_eq, Int32.reduceAdd, Int32.reduceSub, Int32.reduceMul, Int32.reduceLT, Int32.reduceToNatClampNeg, eq_self, ne_eq, Int64.reduceAdd, Int64.reduceSub, Int64.reduceMul, Int64.reduceLT, pt, c8, fl, hp, em, em2, show (8 : Int32).toNatClampNeg = 8 from rfl]
  generalize eM : filF (cp8 (cp8 (put (put I 40 8 (nI p)) 40 9 (nI f)) 10 41) 11 42) 46 3 0 = M
  have m0 : ∀ c, ¬ c = 40 → ¬ c = 41 → ¬ c = 42 → ¬ c = 46 → M c = I c := fun c h0 h1 h2 h6 => by
    rw [← eM]
    unfold filF cp8
    rw [uu_n _ _ h6, uu_n _ _ h2, uu_n _ _ h1, pt_n h0, pt_n h0]
  have h40 : ∀ k, M 40 k = put (put I 40 8 (nI p)) 40 9 (nI f) 40 k := fun k => by
    rw [← eM]
    unfold filF cp8
    rw [uu_n _ _ (by decide), uu_n _ _ (by decide), uu_n _ _ (by decide)]
  have q := fun i => seaE_lp (d := d) (I := M) (L := L) (Q := Q) (mm := mm) (nd := nd) hS hR hp8 f1 f3 (by rw [h40, pt_f (by decide), pt_s]) (by rw [h40, pt_s]) (fun i hi => (hm i hi).2.2) (fun i hi => ⟨?_, ?_⟩) (fun k hk => ?_) (fun J D' a1 a2 a3 a4 a5 => hq J D' (fun c hc => (a1 c hc).trans (m0 c (by omega) (by omega) (by omega) (by omega))) (fun k hk => (a2 k hk).trans (by rw [m0 47 (by decide) (by decide) (by decide) (by decide)])) (fun c c1 c2 c3 => (a3 c c1 c2 c3).trans (m0 c (by omega) (by omega) (by omega) (by omega))) a4 (by rw [m0 (49 + f) (by omega) (by omega) (by omega) (by omega)] at a5; exact a5)) p 0 i
  · have k := q (by omega)
    rw [show nI (gsm ((List.range 0).map mm)) = 0 from rfl, show nI 0 = 0 from rfl] at k
    exact k
  · rw [← eM]
    unfold filF cp8
    rw [uu_n _ _ (by decide), uu_n _ _ (by decide), uu_s]
    unfold va_cpy
    rw [if_pos ⟨Nat.zero_le i, by omega⟩, show 0 + (i - 0) = i by omega, pt_n (by decide), pt_n (by decide)]
    exact (hm i hi).1
  · rw [← eM]
    unfold filF cp8
    rw [uu_n _ _ (by decide), uu_s]
    unfold va_cpy
    rw [if_pos ⟨Nat.zero_le i, by omega⟩, show 0 + (i - 0) = i by omega, uu_n _ _ (by decide), pt_n (by decide), pt_n (by decide)]
    exact (hm i hi).2.1
  · rw [← eM]
    unfold filF
    rw [uu_s, if_pos hk]
end GF
