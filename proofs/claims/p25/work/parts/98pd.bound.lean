/-! group G (p25): the class's Gate exactly: the bound, the chains -/
section GD
variable {d p f n t : Nat} {S : mS} {I : mI} {L : mL} {R : mR} {Q : mQ} {mm nd ch fr : Nat → Nat} {a : List Nat} {s : gSt}
theorem bo2E {P rs W : Nat} {x3 x4 : Int32} (hS : Pm S) (hR : Pr R) (hB : GaB mm nd ch p f) (h : GaS mm nd ch p f I) (hN : GaN mm f a s I) (hP : Msk P a) (ht : t ≤ 1600) (hm : ∀ c, c ∈ a → s.2 c + mm c ≤ 1600) (hq : ∀ B, B ≤ 40000 → (∀ X, W ≤ X → (∀ i, i < p → ¬ i ∈ a → Rdy nd a i → mx2 t (ned mm nd s.2 i) + ch i ≤ X) → B ≤ X) → Q (.int (nI B)) S I L R) : ∀ (N i B : Nat), i + N = p → B ≤ 40000 → (∀ X, W ≤ X → (∀ i, i < p → ¬ i ∈ a → Rdy nd a i → mx2 t (ned mm nd s.2 i) + ch i ≤ X) → B ≤ X) → Ev (d + 2) 24 71 [.ref 40, .int (nI P), .int x3, .int (nI t), .int x4, .int (nI B), .int (nI i)] [] S I L R Q := by
  have p8 := hB.1
  have hp := h.1
  intro N
  induction N with
  | zero =>
    intro i B hi hb hx
    obtain rfl : i = p := by omega
    have e : (nI i < nI i) = False := eq_false (nI_nlt (Nat.le_refl _) (by omega))
    rw [E24_71]
    simp only [E24_0, E24_1, E24_3, E24_4, E24_8, E24_9, E24_12, E24_15, E24_17, E24_18, E24_21, E24_23, E24_24, E24_27, E24_29, E24_30, E24_31, E24_33, E24_36, E24_39, E24_40, E24_43, E24_44, E24_47, E24_49, E24_52, E24_54, E24_55, E24_58, E24_59, E24_60, E24_61, E24_62, E24_65, E24_66, E24_68, E24_69, E24_73, E24_74, E24_77, E24_80, E24_81, E24_83, E24_84, E24_85, E24_86, E24_89, E24_90, E24_92, E24_93, E24_96, E24_99, E24_101, E24_102, E24_104, E24_105, E24_108, E24_109, E24_112, E24_114, E24_115, E24_116, E24_119, E24_121, E24_124, E24_127, E24_129, pk40 hS, rfs, rfn, cs0, csi, csl, csr, csn, kti, ktl, ktr, ktn, ktv, ktf, true_and, and_true, and_self, ↓reduceIte, Nat.reduceAdd, Nat.reduceSub, Nat.reduceMul, Nat.reduceLT, Nat.reduceLeDiff, Nat.reduceEqDiff, true_or, or_true, false_or, or_false, not_true_eq_false, not_false_eq_true, reduceCtorEq, cmp_lt, cmp_gt, cmp_eq, Int32.reduceAdd, Int32.reduceSub, Int32.reduceMul, Int32.reduceLT, Int32.reduceToNatClampNeg, eq_self, ne_eq, Int64.reduceAdd, Int64.reduceSub, Int64.reduceMul, Int64.reduceLT, hp, e]
    exact hq B hb hx
  | succ N ih =>
    intro i B hi hb hx
    have e1 : (nI i < nI p) = True := eq_true (nI_lt (by omega) (by omega))
    have e3 : inb (nI i) 8 = True := inb_nI (by omega) (by decide)
    have e4 : (nI i).toNatClampNeg = i := nI_clamp (by omega)
    have k1 := fun Q => rdy (d := d) (i := i) (pl := nI P) (I := I) (L := L) (Q := Q) hS hR (by omega)
    rw [E24_71]
    by_cases g : (nI P >>> (nI i &&& 31)) &&& 1 = 0
    · have gi := (hP.b (show i < 8 by omega)).mp g
      cases hb2 : rdB I i (nI P) with
      | false =>
        simp only [E24_0, E24_1, E24_3, E24_4, E24_8, E24_9, E24_12, E24_15, E24_17, E24_18, E24_21, E24_23, E24_24, E24_27, E24_29, E24_30, E24_31, E24_33, E24_36, E24_39, E24_40, E24_43, E24_44, E24_47, E24_49, E24_52, E24_54, E24_55, E24_58, E24_59, E24_60, E24_61, E24_62, E24_65, E24_66, E24_68, E24_69, E24_73, E24_74, E24_77, E24_80, E24_81, E24_83, E24_84, E24_85, E24_86, E24_89, E24_90, E24_92, E24_93, E24_96, E24_99, E24_101, E24_102, E24_104, E24_105, E24_108, E24_109, E24_112, E24_114, E24_115, E24_116, E24_119, E24_121, E24_124, E24_127, E24_129, pk40 hS, rfs, rfn, cs0, csi, csl, csr, csn, kti, ktl, ktr, ktn, ktv, ktf, true_and, and_true, and_self, ↓reduceIte, Nat.reduceAdd, Nat.reduceSub, Nat.reduceMul, Nat.reduceLT, Nat.reduceLeDiff, Nat.reduceEqDiff, true_or, or_true, false_or, or_false, not_true_eq_false, not_false_eq_true, reduceCtorEq, cmp_lt, cmp_gt, cmp_eq, Int32.reduceAdd, Int32.reduceSub, Int32.reduceMul, Int32.reduceLT, Int32.reduceToNatClampNeg, eq_self, ne_eq, Int64.reduceAdd, Int64.reduceSub, Int64.reduceMul, Int64.reduceLT, hp, e1, g, k1, hb2, bI_f, nI_1]
        exact ih (i + 1) B (by omega) hb hx
      | true =>
        have hr := (rdBE hB h hP (by omega)).mp hb2
        obtain ⟨_, _, h43⟩ := h.2.2 i (by omega)
        obtain ⟨_, _, _, c16⟩ := hB.2.2.2 i (by omega)
        have en : mx2 t (ned mm nd s.2 i) ≤ 1600 := by
          refine mx2_le ht ?_
          unfold ned
          by_cases z : nd i = 0
          · rw [if_pos z]; exact Nat.zero_le _
          · rw [if_neg z]; exact hm _ (hr.resolve_left z)
        simp only [E24_0, E24_1, E24_3, E24_4, E24_8, E24_9, E24_12, E24_15, E24_17, E24_18, E24_21, E24_23, E24_24, E24_27, E24_29, E24_30, E24_31, E24_33, E24_36, E24_39, E24_40, E24_43, E24_44, E24_47, E24_49, E24_52, E24_54, E24_55, E24_58, E24_59, E24_60, E24_61, E24_62, E24_65, E24_66, E24_68, E24_69, E24_73, E24_74, E24_77, E24_80, E24_81, E24_83, E24_84, E24_85, E24_86, E24_89, E24_90, E24_92, E24_93, E24_96, E24_99, E24_101, E24_102, E24_104, E24_105, E24_108, E24_109, E24_112, E24_114, E24_115, E24_116, E24_119, E24_121, E24_124, E24_127, E24_129, pk40 hS, rfs, rfn, cs0, csi, csl, csr, csn, kti, ktl, ktr, ktn, ktv, ktf, true_and, and_true, and_self, ↓reduceIte, Nat.reduceAdd, Nat.reduceSub, Nat.reduceMul, Nat.reduceLT, Nat.reduceLeDiff, Nat.reduceEqDiff, true_or, or_true, false_or, or_false, not_true_eq_false, not_false_eq_true, reduceCtorEq, cmp_lt, cmp_gt, cmp_eq, Int32.reduceAdd, Int32.reduceSub, Int32.reduceMul, Int32.reduceLT, Int32.reduceToNatClampNeg, eq_self, ne_eq, Int64.reduceAdd, Int64.reduceSub, Int64.reduceMul, Int64.reduceLT, n1_0, hp, e1, g, k1, hb2, bI_t]
        refine earE hS hR hB h hN (by omega) hr ht hm ?_
        have em : (if nI B < nI (mx2 t (ned mm nd s.2 i)) + I 43 i then nI (mx2 t (ned mm nd s.2 i)) + I 43 i else nI B) = nI (mx2 B (mx2 t (ned mm nd s.2 i) + ch i)) := by
          rw [h43, nI_add]
          exact mx2_nI (by omega) (by omega)
        simp only [E24_0, E24_1, E24_3, E24_4, E24_8, E24_9, E24_12, E24_15, E24_17, E24_18, E24_21, E24_23, E24_24, E24_27, E24_29, E24_30, E24_31, E24_33, E24_36, E24_39, E24_40, E24_43, E24_44, E24_47, E24_49, E24_52, E24_54, E24_55, E24_58, E24_59, E24_60, E24_61, E24_62, E24_65, E24_66, E24_68, E24_69, E24_73, E24_74, E24_77, E24_80, E24_81, E24_83, E24_84, E24_85, E24_86, E24_89, E24_90, E24_92, E24_93, E24_96, E24_99, E24_101, E24_102, E24_104, E24_105, E24_108, E24_109, E24_112, E24_114, E24_115, E24_116, E24_119, E24_121, E24_124, E24_127, E24_129, pk40 hS, pk43 hS, pl43 hS, pa43 hS, pi43 hS, pr40_2 hR, rfs, rfn, cs0, csi, csl, csr, csn, kti, ktl, ktr, ktn, ktv, ktf, true_and, and_true, and_self, ↓reduceIte, Nat.reduceAdd, Nat.reduceSub, Nat.reduceMul, Nat.reduceLT, Nat.reduceLeDiff, Nat.reduceEqDiff, true_or, or_true, false_or, or_false, not_true_eq_false, not_false_eq_true, reduceCtorEq, cmp_lt, cmp_gt, cmp_eq, Int32.reduceAdd, Int32.reduceSub, Int32.reduceMul, Int32.reduceLT, Int32.reduceToNatClampNeg, eq_self, ne_eq, Int64.reduceAdd, Int64.reduceSub, Int64.reduceMul, Int64.reduceLT, e3, e4, em, nI_1]
        refine ih (i + 1) _ (by omega) (mx2_le hb (by omega)) (fun X h1 h2 => mx2_le (hx X h1 h2) (h2 i (by omega) gi hr))
    · simp only [E24_0, E24_1, E24_3, E24_4, E24_8, E24_9, E24_12, E24_15, E24_17, E24_18, E24_21, E24_23, E24_24, E24_27, E24_29, E24_30, E24_31, E24_33, E24_36, E24_39, E24_40, E24_43, E24_44, E24_47, E24_49, E24_52, E24_54, E24_55, E24_58, E24_59, E24_60, E24_61, E24_62, E24_65, E24_66, E24_68, E24_69, E24_73, E24_74, E24_77, E24_80, E24_81, E24_83, E24_84, E24_85, E24_86, E24_89, E24_90, E24_92, E24_93, E24_96, E24_99, E24_101, E24_102, E24_104, E24_105, E24_108, E24_109, E24_112, E24_114, E24_115, E24_116, E24_119, E24_121, E24_124, E24_127, E24_129, pk40 hS, rfs, rfn, cs0, csi, csl, csr, csn, kti, ktl, ktr, ktn, ktv, ktf, true_and, and_true, and_self, ↓reduceIte, Nat.reduceAdd, Nat.reduceSub, Nat.reduceMul, Nat.reduceLT, Nat.reduceLeDiff, Nat.reduceEqDiff, true_or, or_true, false_or, or_false, not_true_eq_false, not_false_eq_true, reduceCtorEq, cmp_lt, cmp_gt, cmp_eq, Int32.reduceAdd, Int32.reduceSub, Int32.reduceMul, Int32.reduceLT, Int32.reduceToNatClampNeg, eq_self, ne_eq, Int64.reduceAdd, Int64.reduceSub, Int64.reduceMul, Int64.reduceLT, hp, e1, g, nI_1]
      exact ih (i + 1) B (by omega) hb hx
theorem bo1E {P rs : Nat} (hS : Pm S) (hR : Pr R) (hB : GaB mm nd ch p f) (h : GaS mm nd ch p f I) (hN : GaN mm f a s I) (hP : Msk P a) (ht : t ≤ 1600) (hm : ∀ c, c ∈ a → s.2 c + mm c ≤ 1600) (hrs : rs ≤ 1600) (h46 : ∀ k, k < f → I 46 k = nI (fr k)) (hb : mxl (arL fr f) ≤ 1600) (hq : ∀ B, B ≤ 40000 → (∀ X, (rs + gsm (arL fr f) + f - 1) / f ≤ X → (∀ i, i < p → ¬ i ∈ a → Rdy nd a i → mx2 t (ned mm nd s.2 i) + ch i ≤ X) → B ≤ X) → Q (.int (nI B)) S I L R) : ∀ (N i : Nat) (x6 : Value), i + N = f → Ev (d + 2) 24 6 [.ref 40, .int (nI P), .int (nI rs), .int (nI t), .int (nI (rs + gsm (arL fr i))), .int (nI i), x6] [] S I L R Q := by
  have f1 := hB.2.1
  have f3 := hB.2.2.1
  have hf := h.2.1
  have sb : ∀ k, k ≤ f → gsm (arL fr k) ≤ 4800 := fun k hk => by
    have a1 := sml_mx (arL fr k)
    have a2 := Nat.le_trans (ar_mono (fr := fr) hk) hb
    rw [ar_len] at a1
    have a3 := Nat.mul_le_mul (show k ≤ 3 by omega) a2
    omega
  intro N
  induction N with
  | zero =>
    intro i x6 hi
    obtain rfl : i = f := by omega
    have e : (nI i < nI i) = False := eq_false (nI_nlt (Nat.le_refl _) (by omega))
    have c1 : (nI i < 1) = False := eq_false (nI_nlt (a := i) (b := 1) f1 (by omega))
    have c2 : (nI i = 0) = False := eq_false (nI_ne0 (by omega) (by omega))
    have s1 := sb i (Nat.le_refl i)
    have ew : (nI (rs + gsm (arL fr i)) + nI i - 1) / nI i = nI ((rs + gsm (arL fr i) + i - 1) / i) := by
      rw [nI_add, show rs + gsm (arL fr i) + i = (rs + gsm (arL fr i) + i - 1) + 1 by omega, nI_m1, Nat.add_sub_cancel]
      exact pk_div (by omega) (by omega) (by omega)
    have bw : (rs + gsm (arL fr i) + i - 1) / i ≤ 40000 := Nat.le_trans (Nat.div_le_self _ _) (by omega)
    rw [E24_6]
    simp only [E24_0, E24_1, E24_3, E24_4, E24_8, E24_9, E24_12, E24_15, E24_17, E24_18, E24_21, E24_23, E24_24, E24_27, E24_29, E24_30, E24_31, E24_33, E24_36, E24_39, E24_40, E24_43, E24_44, E24_47, E24_49, E24_52, E24_54, E24_55, E24_58, E24_59, E24_60, E24_61, E24_62, E24_65, E24_66, E24_68, E24_69, E24_73, E24_74, E24_77, E24_80, E24_81, E24_83, E24_84, E24_85, E24_86, E24_89, E24_90, E24_92, E24_93, E24_96, E24_99, E24_101, E24_102, E24_104, E24_105, E24_108, E24_109, E24_112, E24_114, E24_115, E24_116, E24_119, E24_121, E24_124, E24_127, E24_129, pk40 hS, rfs, rfn, cs0, csi, csl, csr, csn, kti, ktl, ktr, ktn, ktv, ktf, true_and, and_true, and_self, ↓reduceIte, Nat.reduceAdd, Nat.reduceSub, Nat.reduceMul, Nat.reduceLT, Nat.reduceLeDiff, Nat.reduceEqDiff, true_or, or_true, false_or, or_false, not_true_eq_false, not_false_eq_true, reduceCtorEq, cmp_lt, cmp_gt, cmp_eq, Int32.reduceAdd, Int32.reduceSub, Int32.reduceMul, Int32.reduceLT, Int32.reduceToNatClampNeg, eq_self, ne_eq, Int64.reduceAdd, Int64.reduceSub, Int64.reduceMul, Int64.reduceLT, hf, e, c1, c2, ew]
    have k := fun B b1 b2 => bo2E (d := d) (x3 := nI rs) (x4 := nI (rs + gsm (arL fr i))) (W := (rs + gsm (arL fr i) + i - 1) / i) (rs := rs) hS hR hB h hN hP ht hm hq p 0 B (by omega) b1 b2
    rw [show nI 0 = 0 from rfl] at k
    exact k _ bw (fun X h1 _ => h1)
  | succ N ih =>
    intro i x6 hi
    have e1 : (nI i < (3 : Int32)) = True := eq_true (nI_lt (a := i) (b := 3) (by omega) (by decide))
    have e2 : (nI i < nI f) = True := eq_true (nI_lt (by omega) (by omega))
    have e3 : inb (nI i) 3 = True := inb_nI (by omega) (by decide)
    have e4 : (nI i).toNatClampNeg = i := nI_clamp (by omega)
    have es : nI (rs + gsm (arL fr i)) + nI (fr i) = nI (rs + gsm (arL fr (i + 1))) := by
      rw [nI_add]
      have : gsm (arL fr (i + 1)) = fr i + gsm (arL fr i) := sml_ins
      rw [this, show rs + gsm (arL fr i) + fr i = rs + (fr i + gsm (arL fr i)) by omega]
    rw [E24_6]
    simp only [E24_0, E24_1, E24_3, E24_4, E24_8, E24_9, E24_12, E24_15, E24_17, E24_18, E24_21, E24_23, E24_24, E24_27, E24_29, E24_30, E24_31, E24_33, E24_36, E24_40, E24_43, E24_44, E24_47, E24_49, E24_52, E24_54, E24_55, E24_58, E24_59, E24_60, E24_61, E24_62, E24_65, E24_66, E24_68, E24_69, E24_73, E24_74, E24_77, E24_80, E24_81, E24_83, E24_84, E24_85, E24_86, E24_89, E24_90, E24_92, E24_93, E24_96, E24_99, E24_101, E24_102, E24_104, E24_105, E24_108, E24_109, E24_112, E24_114, E24_115, E24_116, E24_119, E24_121, E24_124, E24_127, E24_129, pk40 hS, pk46 hS, pl46 hS, pa46 hS, pi46 hS, pr40_5 hR, rfs, rfn, cs0, csi, csl, csr, csn, kti, ktl, ktr, ktn, ktv, ktf, true_and, and_true, and_self, ↓reduceIte, Nat.reduceAdd, Nat.reduceSub, Nat.reduceMul, Nat.reduceLT, Nat.reduceLeDiff, Nat.reduceEqDiff, true_or, or_true, false_or, or_false, not_true_eq_false, not_false_eq_true, reduceCtorEq, cmp_lt, cmp_gt, cmp_eq, Int32.reduceAdd, Int32.reduceSub, Int32.reduceMul, Int32.reduceLT, Int32.reduceToNatClampNeg, eq_self, ne_eq, Int64.reduceAdd, Int64.reduceSub, Int64.reduceMul, Int64.reduceLT, hf, e1, e2, e3, e4, h46 i (by omega), es, nI_1]
    exact ih (i + 1) _ (by omega)
theorem bndE {P rs : Nat} (hS : Pm S) (hR : Pr R) (hB : GaB mm nd ch p f) (h : GaS mm nd ch p f I) (hN : GaN mm f a s I) (hP : Msk P a) (ht : t ≤ 1600) (hm : ∀ c, c ∈ a → s.2 c + mm c ≤ 1600) (hrs : rs ≤ 1600) (hq : ∀ B, B ≤ 40000 → (∀ X, (rs + gsm s.1 + f - 1) / f ≤ X → (∀ i, i < p → ¬ i ∈ a → Rdy nd a i → mx2 t (ned mm nd s.2 i) + ch i ≤ X) → B ≤ X) → Q (.int (nI B)) S I L R) : EvM (d + 2) 24 [.ref 40, .int (nI P), .int (nI rs), .int (nI t)] S I L R Q := by
  obtain ⟨⟨fr, h46, e46⟩, hb, _⟩ := id hN
  rw [← e46] at hb hq
  have k := bo1E (d := d) hS hR hB h hN hP ht hm hrs h46 hb hq f 0 nv (by omega)
  rw [show rs + gsm (arL fr 0) = rs from rfl, show nI 0 = 0 from rfl] at k
  simp only [M24, E24_0, E24_1, E24_3, E24_4, E24_8, E24_9, E24_12, E24_15, E24_17, E24_18, E24_21, E24_23, E24_24, E24_27, E24_29, E24_30, E24_31, E24_33, E24_36, E24_39, E24_40, E24_43, E24_44, E24_47, E24_49, E24_52, E24_54, E24_55, E24_58, E24_59, E24_60, E24_61, E24_62, E24_65, E24_66, E24_68, E24_69, E24_73, E24_74, E24_77, E24_80, E24_81, E24_83, E24_84, E24_85, E24_86, E24_89, E24_90, E24_92, E24_93, E24_96, E24_99, E24_101, E24_102, E24_104, E24_105, E24_108, E24_109, E24_112, E24_114, E24_115, E24_116, E24_119, E24_121, E24_124, E24_127, E24_129, rfs, rfn, cs0, csi, csl, csr, csn, kti, ktl, ktr, ktn, ktv, ktf, true_and, and_true, and_self, ↓reduceIte, Nat.reduceAdd, Nat.reduceSub, Nat.reduceMul, Nat.reduceLT, Nat.reduceLeDiff, Nat.reduceEqDiff, true_or, or_true, false_or, or_false, not_true_eq_false, not_false_eq_true, reduceCtorEq, cmp_lt, cmp_gt, cmp_eq, Int32.reduceAdd, Int32.reduceSub, Int32.reduceMul, Int32.reduceLT, Int32.reduceToNatClampNeg, eq_self, ne_eq, Int64.reduceAdd, Int64.reduceSub, Int64.reduceMul, Int64.reduceLT]
  exact k
/-- the chains -/
def Chn (mm nd ch : Nat → Nat) (p : Nat) : Prop := ∀ i, i < p → ch i ≤ 1600 ∧ (ch i = mm i ∨ ∃ j, i < j ∧ j < p ∧ nd j = i + 1 ∧ ch i = mm i + ch j)
theorem meaE_lp (hS : Pm S) (hR : Pr R) (hp8 : p ≤ 8) (hm : ∀ i, i < p → mm i ≤ 200 ∧ nd i ≤ i) (h41 : ∀ i, i < p → I 41 i = nI (mm i) ∧ I 42 i = (if nd i = 0 then -1 else nI (nd i - 1))) (hq : ∀ J ch, (∀ a, ¬ a = 43 → J a = I a) → (∀ i, i < p → J 43 i = nI (ch i)) → Chn mm nd ch p → Q .null S J L R) : ∀ (n : Nat) (J : mI) (x : Value) (ch : Nat → Nat), n ≤ p → (∀ a, ¬ a = 43 → J a = I a) → (∀ i, i < p → J 43 i = nI (ch i)) → (∀ i, n ≤ i → i < p → ch i ≤ 200 * (p - i) ∧ (ch i = mm i ∨ ∃ j, i < j ∧ j < p ∧ nd j = i + 1 ∧ ch i = mm i + ch j)) → (∀ i, i < n → ch i = 0 ∨ ∃ j, n ≤ j ∧ j < p ∧ nd j = i + 1 ∧ ch i = ch j) → Ev (d + 1) 22 15 [.ref 40, .int (nI n - 1), x] [] S J L R Q := by
  intro n
  induction n with
  | zero =>
    intro J x ch hn hJ h43 h1 _
    have e : (nI 0 - 1 < 0) = True := eq_true (by decide)
    rw [E22_15]
    simp only [E22_0, E22_1, E22_4, E22_5, E22_8, E22_9, E22_12, E22_13, E22_14, E22_16, E22_19, E22_20, E22_23, E22_24, E22_25, E22_26, E22_27, E22_30, E22_31, E22_32, E22_33, E22_34, E22_35, E22_38, E22_39, E22_40, E22_41, E22_42, E22_45, E22_46, E22_47, E22_50, E22_51, E22_54, E22_55, E22_56, E22_59, E22_60, E22_61, E22_62, E22_65, E22_66, E22_67, E22_70, E22_71, E22_74, E22_77, pk40 hS, rfs, rfn, cs0, csi, csl, csr, csn, kti, ktl, ktr, ktn, ktv, ktf, true_and, and_true, and_self, ↓reduceIte, Nat.reduceAdd, Nat.reduceSub, Nat.reduceMul, Nat.reduceLT, Nat.reduceLeDiff, Nat.reduceEqDiff, true_or, or_true, false_or, or_false, not_true_eq_false, not_false_eq_true, reduceCtorEq, cmp_lt, cmp_gt, cmp_eq, Int32.reduceAdd, Int32.reduceSub, Int32.reduceMul, Int32.reduceLT, Int32.reduceToNatClampNeg, eq_self, ne_eq, Int64.reduceAdd, Int64.reduceSub, Int64.reduceMul, Int64.reduceLT, e]
    refine hq J ch hJ h43 (fun i hi => ⟨?_, (h1 i (Nat.zero_le i) hi).2⟩)
    have := (h1 i (Nat.zero_le i) hi).1
    omega
  | succ n ih =>
    intro J x ch hn hJ h43 h1 h2
    have e1 : (nI n < 0) = False := eq_false (nI_pos (by omega))
    have e3 : inb (nI n) 8 = True := inb_nI (by omega) (by decide)
    have e4 : (nI n).toNatClampNeg = n := nI_clamp (by omega)
    obtain ⟨m1, m2⟩ := hm n (by omega)
    obtain ⟨q1, q2⟩ := h41 n (by omega)
    have j41 : J 41 n = nI (mm n) := by rw [hJ 41 (by decide)]; exact q1
    have j42 : J 42 n = (if nd n = 0 then -1 else nI (nd n - 1)) := by rw [hJ 42 (by decide)]; exact q2
    have jn := h43 n (by omega)
    have cn : ch n ≤ 200 * (p - (n + 1)) ∧ (ch n = 0 ∨ ∃ j, n + 1 ≤ j ∧ j < p ∧ nd j = n + 1 ∧ ch n = ch j) := by
      refine ⟨?_, h2 n (by omega)⟩
      rcases h2 n (by omega) with e | ⟨j, j1, j2, _, e⟩
      · omega
      · have := (h1 j j1 j2).1
        omega
    have en : nI (ch n) + nI (mm n) = nI (ch n + mm n) := nI_add _ _
    have don : ch n + mm n ≤ 200 * (p - n) ∧ (ch n + mm n = mm n ∨ ∃ j, n < j ∧ j < p ∧ nd j = n + 1 ∧ ch n + mm n = mm n + ch j) := by
      refine ⟨by omega, ?_⟩
      rcases cn.2 with e | ⟨j, j1, j2, j3, e⟩
      · exact Or.inl (by omega)
      · exact Or.inr ⟨j, by omega, j2, j3, by omega⟩
    rw [nI_m1, E22_15]
    by_cases g : nd n = 0
    · have g1 : ((-1 : Int32) < 0) = True := eq_true (by decide)
      rw [if_pos g] at j42
      simp only [E22_0, E22_1, E22_4, E22_5, E22_8, E22_9, E22_12, E22_13, E22_14, E22_16, E22_19, E22_20, E22_23, E22_24, E22_25, E22_26, E22_27, E22_30, E22_31, E22_32, E22_33, E22_34, E22_35, E22_38, E22_39, E22_40, E22_41, E22_42, E22_45, E22_46, E22_47, E22_50, E22_51, E22_54, E22_55, E22_56, E22_59, E22_60, E22_61, E22_62, E22_65, E22_66, E22_67, E22_70, E22_71, E22_74, E22_77, pk40 hS, pk41 hS, pl41 hS, pa41 hS, pi41 hS, pk42 hS, pl42 hS, pa42 hS, pi42 hS, pk43 hS, pl43 hS, pa43 hS, pi43 hS, pr40_0 hR, pr40_1 hR, pr40_2 hR, rfs, rfn, cs0, csi, csl, csr, csn, kti, ktl, ktr, ktn, ktv, ktf, true_and, and_true, and_self, ↓reduceIte, Nat.reduceAdd, Nat.reduceSub, Nat.reduceMul, Nat.reduceLT, Nat.reduceLeDiff, Nat.reduceEqDiff, true_or, or_true, false_or, or_false, not_true_eq_false, not_false_eq_true, reduceCtorEq, cmp_lt, cmp_gt, cmp_eq, Int32.reduceAdd, Int32.reduceSub, Int32.reduceMul, Int32.reduceLT, Int32.reduceToNatClampNeg, eq_self, ne_eq, Int64.reduceAdd, Int64.reduceSub, Int64.reduceMul, Int64.reduceLT, pt, pt_m, e1, e3, e4, j41, j42, jn, en, g1, nI_a1]
      refine ih _ _ (fun k => if k = n then ch n + mm n else ch k) (by omega) (fun a ha => (pt_n ha).trans (hJ a ha)) (fun i hi => ?_) (fun i i1 i2 => ?_) (fun i hi => ?_)
      · by_cases z : i = n
        · rw [if_pos z, z, pt_s]
        · rw [if_neg z, pt_f z]; exact h43 i hi
      · by_cases z : i = n
        · subst z
          rw [if_pos rfl]
          refine ⟨don.1, ?_⟩
          rcases don.2 with e | ⟨j, j1, j2, j3, e⟩
          · exact Or.inl e
          · exact Or.inr ⟨j, j1, j2, j3, by rw [if_neg (by omega)]; exact e⟩
        · rw [if_neg z]
          obtain ⟨a1, a2⟩ := h1 i (by omega) i2
          refine ⟨a1, ?_⟩
          rcases a2 with e | ⟨j, j1, j2, j3, e⟩
          · exact Or.inl e
          · exact Or.inr ⟨j, j1, j2, j3, by rw [if_neg (by omega)]; exact e⟩
      · rw [if_neg (by omega)]
        rcases h2 i (by omega) with e | ⟨j, j1, j2, j3, e⟩
        · exact Or.inl e
        · exact Or.inr ⟨j, by omega, j2, j3, by rw [if_neg (by omega)]; exact e⟩
    · have g1 : (nI (nd n - 1) < 0) = False := eq_false (nI_pos (by omega))
      have g2 : (nI (nd n - 1) < nI n) = True := eq_true (nI_lt (by omega) (by omega))
      have e5 : inb (nI (nd n - 1)) 8 = True := inb_nI (by omega) (by decide)
      have e6 : (nI (nd n - 1)).toNatClampNeg = nd n - 1 := nI_clamp (by omega)
      rw [if_neg g] at j42
      have jf := h43 (nd n - 1) (by omega)
      have bf : ch (nd n - 1) ≤ 1600 := by
        rcases h2 (nd n - 1) (by omega) with e | ⟨j, j1, j2, _, e⟩
        · omega
        · have := (h1 j j1 j2).1
          omega
      have s1 : put J 43 n (nI (ch n + mm n)) 43 (nd n - 1) = nI (ch (nd n - 1)) := (pt_f (by omega)).trans jf
      have s2 : put J 43 n (nI (ch n + mm n)) 43 n = nI (ch n + mm n) := pt_s
      have em : (if nI (ch (nd n - 1)) < nI (ch n + mm n) then nI (ch n + mm n) else nI (ch (nd n - 1))) = nI (mx2 (ch (nd n - 1)) (ch n + mm n)) := mx2_nI (by omega) (by omega)
      simp only [E22_0, E22_1, E22_4, E22_5, E22_8, E22_9, E22_12, E22_13, E22_14, E22_16, E22_19, E22_20, E22_23, E22_24, E22_25, E22_26, E22_27, E22_30, E22_31, E22_32, E22_33, E22_34, E22_35, E22_38, E22_39, E22_40, E22_41, E22_42, E22_45, E22_46, E22_47, E22_50, E22_51, E22_54, E22_55, E22_56, E22_59, E22_60, E22_61, E22_62, E22_65, E22_66, E22_67, E22_70, E22_71, E22_74, E22_77, pk40 hS, pk41 hS, pl41 hS, pa41 hS, pi41 hS, pk42 hS, pl42 hS, pa42 hS, pi42 hS, pk43 hS, pl43 hS, pa43 hS, pi43 hS, pr40_0 hR, pr40_1 hR, pr40_2 hR, rfs, rfn, cs0, csi, csl, csr, csn, kti, ktl, ktr, ktn, ktv, ktf, true_and, and_true, and_self, ↓reduceIte, Nat.reduceAdd, Nat.reduceSub, Nat.reduceMul, Nat.reduceLT, Nat.reduceLeDiff, Nat.reduceEqDiff, true_or, or_true, false_or, or_false, not_true_eq_false, not_false_eq_true, reduceCtorEq, cmp_lt, cmp_gt, cmp_eq, Int32.reduceAdd, Int32.reduceSub, Int32.reduceMul, Int32.reduceLT, Int32.reduceToNatClampNeg, eq_self, ne_eq, Int64.reduceAdd, Int64.reduceSub, Int64.reduceMul, Int64.reduceLT, pt, pt_m, e1, e3, e4, e5, e6, j41, j42, jn, en, g1, g2, s1, s2, em, nI_a1]
      refine ih _ _ (fun k => if k = n then ch n + mm n else if k = nd n - 1 then mx2 (ch (nd n - 1)) (ch n + mm n) else ch k) (by omega) (fun a ha => (pt_n ha).trans ((pt_n ha).trans (hJ a ha))) (fun i hi => ?_) (fun i i1 i2 => ?_) (fun i hi => ?_)
      · by_cases z : i = n
        · rw [if_pos z, z, pt_f (by omega), pt_s]
        · rw [if_neg z]
          by_cases y : i = nd n - 1
          · rw [if_pos y, y, pt_s]
          · rw [if_neg y, pt_f y, pt_f z]; exact h43 i hi
      · by_cases z : i = n
        · subst z
          rw [if_pos rfl]
          refine ⟨don.1, ?_⟩
          rcases don.2 with e | ⟨j, j1, j2, j3, e⟩
          · exact Or.inl e
          · exact Or.inr ⟨j, j1, j2, j3, by rw [if_neg (by omega), if_neg (by omega)]; exact e⟩
        · rw [if_neg z, if_neg (by omega)]
          obtain ⟨a1, a2⟩ := h1 i (by omega) i2
          refine ⟨a1, ?_⟩
          rcases a2 with e | ⟨j, j1, j2, j3, e⟩
          · exact Or.inl e
          · exact Or.inr ⟨j, j1, j2, j3, by rw [if_neg (by omega), if_neg (by omega)]; exact e⟩
      · rw [if_neg (by omega)]
        by_cases y : i = nd n - 1
        · rw [if_pos y]
          have hy := h2 i (by omega)
          rw [y] at hy
          unfold mx2
          by_cases l : ch (nd n - 1) < ch n + mm n
          · rw [if_pos l]
            exact Or.inr ⟨n, Nat.le_refl n, by omega, by clear don cn hy; omega, by rw [if_pos rfl]⟩
          · rw [if_neg l]
            rcases hy with e | ⟨j, j1, j2, j3, e⟩
            · exact Or.inl e
            · exact Or.inr ⟨j, by omega, j2, by omega, by rw [if_neg (by omega), if_neg (by omega)]; exact e⟩
        · rw [if_neg y]
          rcases h2 i (by omega) with e | ⟨j, j1, j2, j3, e⟩
          · exact Or.inl e
          · exact Or.inr ⟨j, by omega, j2, j3, by rw [if_neg (by omega), if_neg (by omega)]; exact e⟩
theorem meaE (hS : Pm S) (hR : Pr R) (hp8 : p ≤ 8) (hp : I 40 8 = nI p) (hm : ∀ i, i < p → mm i ≤ 200 ∧ nd i ≤ i) (h41 : ∀ i, i < p → I 41 i = nI (mm i) ∧ I 42 i = (if nd i = 0 then -1 else nI (nd i - 1))) (hq : ∀ J ch, (∀ a, ¬ a = 43 → J a = I a) → (∀ i, i < p → J 43 i = nI (ch i)) → Chn mm nd ch p → Q .null S J L R) : EvM (d + 2) 22 [.ref 40] S I L R Q := by
  have fl := fun Q => fillI (d := d) (v := 0) (I := I) (L := L) (R := R) (Q := Q) (of_eq_true (pk43 hS)) (pl43 hS) (by decide)
  have e : filF I 43 8 0 40 8 = nI p := by
    unfold filF
    rw [uu_n _ _ (by decide)]
    exact hp
  have f43 : ∀ a, ¬ a = 43 → filF I 43 8 0 a = I a := fun a ha => by
    unfold filF
    rw [uu_n _ _ ha]
  simp only [M22, E22_0, E22_1, E22_4, E22_5, E22_8, E22_9, E22_12, E22_13, E22_14, E22_16, E22_19, E22_20, E22_23, E22_24, E22_25, E22_26, E22_27, E22_30, E22_31, E22_32, E22_33, E22_34, E22_35, E22_38, E22_39, E22_40, E22_41, E22_42, E22_45, E22_46, E22_47, E22_50, E22_51, E22_54, E22_55, E22_56, E22_59, E22_60, E22_61, E22_62, E22_65, E22_66, E22_67, E22_70, E22_71, E22_74, E22_77, pk40 hS, pr40_2 hR, rfs, rfn, cs0, csi, csl, csr, csn, kti, ktl, ktr, ktn, ktv, ktf, true_and, and_true, and_self, ↓reduceIte, Nat.reduceAdd, Nat.reduceSub, Nat.reduceMul, Nat.reduceLT, Nat.reduceLeDiff, Nat.reduceEqDiff, true_or, or_true, false_or, or_false, not_true_eq_false, not_false_eq_true, reduceCtorEq, cmp_lt, cmp_gt, cmp_eq, Int32.reduceAdd, Int32.reduceSub, Int32.reduceMul, Int32.reduceLT, Int32.reduceToNatClampNeg, eq_self, ne_eq, Int64.reduceAdd, Int64.reduceSub, Int64.reduceMul, Int64.reduceLT, fl, e]
  refine meaE_lp (d := d + 1) (I := filF I 43 8 0) hS hR hp8 hm (fun i hi => by rw [f43 41 (by decide), f43 42 (by decide)]; exact h41 i hi) (fun J ch a b c => hq J ch (fun x hx => (a x hx).trans (f43 x hx)) b c) p _ nv (fun _ => 0) (Nat.le_refl p) (fun _ _ => rfl) (fun i hi => ?_) (fun i i1 i2 => absurd i1 (by omega)) (fun i _ => Or.inl rfl)
  unfold filF
  rw [uu_s, if_pos (show i < 8 by omega)]
  rfl
end GD
