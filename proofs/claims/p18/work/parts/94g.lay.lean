/-! the class's Planner: CELLS chosen, path trimmed, rows chosen: with content -/
section GK
variable {d P c n N B z th : Nat} {w : Nat → Nat} {nu : Int32} {A A2 : Nat → Nat} {S : mS} {I : mI} {L : mL} {R : mR} {Q : mQ}
theorem PlV.ph {L' : mL} (h : PlV w c N n P I L) (f : ∀ b, b ≤ pL1 P c + 33 → L' b = L b) : PlV w c N n P I L' := by
  have e : pL1 P c = P + 11 + 3 * c := rfl
  refine PlV.mk (h.1.1.mono (fun a a1 a2 => f a (by omega))) (h.1.2.mono (fun a a1 a2 => f a (by omega))) (fun q hq => ?_)
  have z := lvO_le q hq
  exact LvJ.mono (h.g hq) rfl (fun b b1 b2 => f b (by omega))
/-- what the forge works on may have changed, too -/
theorem PlV.fw {L' : mL} (h : PlV w c N n P I L) (f : ∀ b, b ≤ pL1 P c + 33 → ¬ b = P + 3 + 5 + 3 * c → ¬ b = P + 3 + 6 + 3 * c → ¬ b = P + 3 + 7 + 3 * c → L' b = L b) : PlV w c N n P I L' := by
  have e : pL1 P c = P + 11 + 3 * c := rfl
  refine PlV.mk (h.1.1.mono (fun a a1 a2 => f a (by omega) (by omega) (by omega) (by omega))) (h.1.2.mono (fun a a1 a2 => f a (by omega) (by omega) (by omega) (by omega))) (fun q hq => ?_)
  have z := lvO_le q hq
  exact LvJ.mono (h.g hq) rfl (fun b b1 b2 => f b (by omega) (by omega) (by omega) (by omega))
theorem PlV.pi {J : mI} (h : PlV w c N n P I L) (f : ∀ b, ¬ b = P → ¬ b = P + 1 → ¬ b = P + 2 → J b = I b) : PlV w c N n P J L := by
  have e : pL1 P c = P + 11 + 3 * c := rfl
  refine PlV.mk h.1.1 ?_ (fun q hq => ?_)
  · rw [f _ (by omega) (by omega) (by omega)]
    exact h.1.2
  · exact LvJ.mono (h.g hq) (f _ (by omega) (by omega) (by omega)) (fun _ _ _ => rfl)
/-- while a PLAN is laid: nothing but planCell, planRow, levels, path has changed -/
def PfL (P c : Nat) (I J : mI) (L L' : mL) : Prop := (∀ a, (a ≤ P ∨ P + 54 + 3 * c ≤ a) → J a = I a) ∧ ∀ a, (a ≤ P ∨ P + 54 + 3 * c ≤ a) → L' a = L a
theorem PfL.rf : PfL P c I I L L := ⟨fun _ _ => rfl, fun _ _ => rfl⟩
theorem PfL.tr {J K : mI} {L' L'' : mL} (h : PfL P c I J L L') (k : PfL P c J K L' L'') : PfL P c I K L L'' := ⟨fun a q => (k.1 a q).trans (h.1 a q), fun a q => (k.2 a q).trans (h.2 a q)⟩
theorem PfV.l {J : mI} {L' : mL} (h : PfV P c I J L L') : PfL P c I J L L' := ⟨fun a q => h.1 a (by omega), h.2⟩
/-- all that stands while CELLS are chosen -/
def CcS (w : Nat → Nat) (c N n P : Nat) (nu : Int32) (B t H : Nat) (J : mI) (L : mL) (kb : Nat) : Prop := PlI J P c n w ∧ PlV w c N n P J L ∧ J (P + 3) 6 = nu ∧ LvK false w c N 6 n J L (pL1 P c + 10) (pL1 P c + 11) nu B t kb ∧ J P 9 = nI H
/-- path: rows behind k HEATS -/
def PaR (n P c : Nat) (L : mL) (k : Nat) (f : Nat → Prop) : Prop := ∀ x, x < 64 * n → (gb (L (pL1 P c + 34 + 1 + k)) x = true ↔ f x)
theorem ccK_in {i r t H : Nat} {bar : Int32} {pc : Nat → Nat} (hP : PlS S R P c n) (hW : WN w c N) (hc : c ≤ 5) (hn : n < 2 ^ 24) (hN : N ≤ 64 * n) (hB : B < 2 ^ 24) (hi : i < H) (hH : H ≤ 6) (hr : LvD false w c nu B t H r) (hrN : r < N) (hpc : ∀ k, k < i → pc k < c) (hx : ∃ x, Wy w c nu B r t H pc i x) (hq : ∀ (J : mI) (L' : mL) (p kb : Nat) (x4 x5 : Value), CcS w c N n P nu B t H J L' kb → PfL P c I J L L' → (∀ k, ¬ k = i → J (P + 1) k = I (P + 1) k) → (∀ k, k ≤ i → L' (pL1 P c + 34 + 1 + k) = L (pL1 P c + 34 + 1 + k)) → p < c → J (P + 1) i = nI p → ¬ noC w c nu B r t H pc i p → (∀ p', p' < p → noC w c nu B r t H pc i p') → PaR n P c L' (i + 1) (fun x => (∃ v, Wy w c nu B r t H pc i v ∧ ld w c nu B p v x) ∧ LvD false w c nu B t (H - (i + 1)) x) → Ev (d + 5) 42 115 [.ref P, .int bar, .int (nI B), .int (nI i), x4, x5] [] S J L' R Q) : ∀ (q j : Nat) (J : mI) (L1 : mL) (b : Bool) (kb : Nat), j + q = c → CcS w c N n P nu B t H J L1 kb → PfL P c I J L L1 → (∀ k, ¬ k = i → J (P + 1) k = I (P + 1) k) → (∀ k, k ≤ i → L1 (pL1 P c + 34 + 1 + k) = L (pL1 P c + 34 + 1 + k)) → PaR n P c L1 i (Wy w c nu B r t H pc i) → ((b = false ∧ ∀ p, p < j → noC w c nu B r t H pc i p) ∨ (b = true ∧ 1 ≤ j ∧ J (P + 1) i = nI (j - 1) ∧ ¬ noC w c nu B r t H pc i (j - 1) ∧ (∀ p, p < j - 1 → noC w c nu B r t H pc i p) ∧ PaR n P c L1 (i + 1) (fun x => (∃ v, Wy w c nu B r t H pc i v ∧ ld w c nu B (j - 1) v x) ∧ LvD false w c nu B t (H - (i + 1)) x))) → Ev (d + 5) 42 32 [.ref P, .int bar, .int (nI B), .int (nI i), .int (bI b), .int (nI j)] [] S J L1 R Q := by
  have hP' := hP
  obtain ⟨⟨o0, ⟨p1, p2⟩, -⟩, ⟨r0, r1, r2, r3, r4, r5, r6, r7, r8⟩, hF, ⟨v1, v2, v3, v4⟩, mt, lw⟩ := hP'
  have e : pL1 P c = P + 11 + 3 * c := rfl
  have oF := hF.1.1
  have RR := matR mt
  have a0 := mt.2 i (by omega)
  have a1 := mt.2 (i + 1) (by omega)
  have j0 : inb (nI i) 7 = True := inb_nI (by omega) (by omega)
  have j1 : inb (nI (i + 1)) 7 = True := inb_nI (by omega) (by omega)
  have j2 : inb (nI i) 6 = True := inb_nI (by omega) (by omega)
  have k0 : (nI i).toNatClampNeg = i := nI_clamp (by omega)
  have k1 : (nI (i + 1)).toNatClampNeg = i + 1 := nI_clamp (by omega)
  have eh : nI H - nI i - 1 = nI (H - (i + 1)) := by
    rw [pk_sub (by omega)]
    obtain ⟨y, hy⟩ : ∃ y, H - i = y + 1 := ⟨H - i - 1, by omega⟩
    rw [hy, nI_m1]
    congr 1
    omega
  intro q
  induction q with
  | zero =>
    intro j J L1 b kb hj hC fr f1 f2 hpa inv
    obtain rfl : j = c := by omega
    have e0 : (nI j < nI j) = False := eq_false (nI_nlt (Nat.le_refl _) (by omega))
    have i0 := hC.1.1.1
    rcases inv with ⟨_, b2⟩ | ⟨rfl, b2, b3, b4, b5, b6⟩
    · obtain ⟨p, p1, p2⟩ := Wy_on hr hi hx
      exact absurd (b2 p p1) p2
    · rw [E42_32]
      simp only [E42_34, E42_35, E42_38, E42_41, rfs, rfn, cs0, csi, csl, csr, csn, kti, ktl, ktr, ktn, ktv, ktf, true_and, and_true, and_self, ↓reduceIte, Nat.reduceAdd, Nat.reduceSub, Nat.reduceMul, Nat.reduceLT, Nat.reduceLeDiff, Nat.reduceEqDiff, true_or, or_true, false_or, or_false, not_true_eq_false, not_false_eq_true, reduceCtorEq, cmp_lt, cmp_gt, cmp_eq, Int32.reduceAdd, Int32.reduceSub, Int32.reduceMul, Int32.reduceLT, Int32.reduceToNatClampNeg, eq_self, ne_eq, Int64.reduceAdd, Int64.reduceSub, Int64.reduceMul, Int64.reduceLT, o0, oF, r0, i0, e0]
      exact hq _ _ _ kb _ _ hC fr f1 f2 (by omega) b3 b4 b5 b6
  | succ q ih =>
    intro j J L1 b kb hj hC fr f1 f2 hpa inv
    have e1 : (nI j < nI c) = True := eq_true (nI_lt (by omega) (by omega))
    have i0 := hC.1.1.1
    rw [E42_32]
    rcases inv with ⟨rfl, b2⟩ | ⟨rfl, b2, b3, b4, b5, b6⟩
    · obtain ⟨hJ, hV, hnu, K, h9⟩ := hC
      simp only [E42_0, E42_1, E42_4, E42_5, E42_6, E42_7, E42_10, E42_11, E42_13, E42_14, E42_17, E42_20, E42_21, E42_23, E42_26, E42_27, E42_29, E42_30, E42_34, E42_35, E42_38, E42_41, E42_44, E42_46, E42_49, E42_50, E42_53, E42_54, E42_57, E42_58, E42_59, E42_61, E42_62, E42_63, E42_66, E42_67, E42_68, E42_69, E42_70, E42_73, E42_74, E42_77, E42_78, E42_79, E42_80, E42_81, E42_82, E42_85, E42_86, E42_89, E42_90, E42_91, E42_92, E42_93, E42_96, E42_99, E42_101, E42_102, E42_105, E42_106, E42_108, E42_109, E42_112, E42_118, E42_121, rfs, rfn, cs0, csi, csl, csr, csn, kti, ktl, ktr, ktn, ktv, ktf, true_and, and_true, and_self, ↓reduceIte, Nat.reduceAdd, Nat.reduceSub, Nat.reduceMul, Nat.reduceLT, Nat.reduceLeDiff, Nat.reduceEqDiff, true_or, or_true, false_or, or_false, not_true_eq_false, not_false_eq_true, reduceCtorEq, cmp_lt, cmp_gt, cmp_eq, Int32.reduceAdd, Int32.reduceSub, Int32.reduceMul, Int32.reduceLT, Int32.reduceToNatClampNeg, eq_self, ne_eq, Int64.reduceAdd, Int64.reduceSub, Int64.reduceMul, Int64.reduceLT, o0, oF, r0, r5, i0, e1, bI_f, RR, mt.1.2, nI_1, j0, j1, k0, k1, a0.1, a1.1]
      refine folA (d := d + 1) (N := N) (P := Wy w c nu B r t H pc i) hF hJ.1 hW.1 hc (by omega) hn a0.2 a1.2 (by omega) (by omega) (by omega) hN (hW.2.2.1 j (by omega)) hB hV.1.1 (hnu ▸ hV.1.2) (fun k hk => Wy_lt hW hrN i hpc k hk) hpa (fun L2 g1 g2 => ?_)
      have hV2 : PlV w c N n P J L2 := hV.fw (fun b x1 x2 x3 x4 => g1 b (by omega) x2 x3)
      have K2 : LvK false w c N 6 n J L2 (pL1 P c + 10) (pL1 P c + 11) nu B t kb := K.mono rfl (fun b x y => g1 b (by omega) (by omega) (by omega))
      simp only [E42_0, E42_1, E42_4, E42_5, E42_6, E42_7, E42_10, E42_11, E42_13, E42_14, E42_17, E42_20, E42_21, E42_23, E42_26, E42_27, E42_29, E42_30, E42_34, E42_35, E42_38, E42_41, E42_44, E42_46, E42_49, E42_50, E42_53, E42_54, E42_57, E42_58, E42_59, E42_61, E42_62, E42_63, E42_66, E42_67, E42_68, E42_69, E42_70, E42_73, E42_74, E42_77, E42_78, E42_79, E42_80, E42_81, E42_82, E42_85, E42_86, E42_89, E42_90, E42_91, E42_92, E42_93, E42_96, E42_99, E42_101, E42_102, E42_105, E42_106, E42_108, E42_109, E42_112, E42_118, E42_121, rfs, rfn, cs0, csi, csl, csr, csn, kti, ktl, ktr, ktn, ktv, ktf, true_and, and_true, and_self, ↓reduceIte, Nat.reduceAdd, Nat.reduceSub, Nat.reduceMul, Nat.reduceLT, Nat.reduceLeDiff, Nat.reduceEqDiff, true_or, or_true, false_or, or_false, not_true_eq_false, not_false_eq_true, reduceCtorEq, cmp_lt, cmp_gt, cmp_eq, Int32.reduceAdd, Int32.reduceSub, Int32.reduceMul, Int32.reduceLT, Int32.reduceToNatClampNeg, eq_self, ne_eq, Int64.reduceAdd, Int64.reduceSub, Int64.reduceMul, Int64.reduceLT, o0, r2, r5, RR, mt.1.2, nI_1, j1, k1, a1.1, v2.1.1, h9, eh]
      refine atV (d := d) (m := 6) (N := N) v2 hF hJ.1 hW hc hn hN hB (by omega) (by omega) (by omega) (by omega) (by omega) hV2.1.1 (hnu ▸ hV2.1.2) K2 (fun J3 L3 kb' fV fG hk K3 => ?_)
      obtain ⟨hV3, f3⟩ := hV2.one (q := 1) (by decide) fV fG (K3.j hB)
      have hJ3 := hJ.one fV (Or.inl (by omega))
      try simp only [E42_0, E42_1, E42_4, E42_5, E42_6, E42_7, E42_10, E42_11, E42_13, E42_14, E42_17, E42_20, E42_21, E42_23, E42_26, E42_27, E42_29, E42_30, E42_34, E42_35, E42_38, E42_41, E42_44, E42_46, E42_49, E42_50, E42_53, E42_54, E42_57, E42_58, E42_59, E42_61, E42_62, E42_63, E42_66, E42_67, E42_68, E42_69, E42_70, E42_73, E42_74, E42_77, E42_78, E42_79, E42_80, E42_81, E42_82, E42_85, E42_86, E42_89, E42_90, E42_91, E42_92, E42_93, E42_96, E42_99, E42_101, E42_102, E42_105, E42_106, E42_108, E42_109, E42_112, E42_118, E42_121, rfs, rfn, cs0, csi, csl, csr, csn, kti, ktl, ktr, ktn, ktv, ktf, true_and, and_true, and_self, ↓reduceIte, Nat.reduceAdd, Nat.reduceSub, Nat.reduceMul, Nat.reduceLT, Nat.reduceLeDiff, Nat.reduceEqDiff, true_or, or_true, false_or, or_false, not_true_eq_false, not_false_eq_true, reduceCtorEq, cmp_lt, cmp_gt, cmp_eq, Int32.reduceAdd, Int32.reduceSub, Int32.reduceMul, Int32.reduceLT, Int32.reduceToNatClampNeg, eq_self, ne_eq, Int64.reduceAdd, Int64.reduceSub, Int64.reduceMul, Int64.reduceLT]
      have c3 : ∀ x, x < 64 * n → (gb (L3 (pL1 P c + 34 + 1 + (i + 1))) x = true ↔ ∃ v, Wy w c nu B r t H pc i v ∧ ld w c nu B j v x) := fun x hx => by
        rw [fG _ (by omega) (by omega) (by omega) (by omega)]
        exact g2 x hx
      have mx : ∀ x, x < 64 * n → (gb (fun k => if k < n then L3 (pL1 P c + 34 + 1 + (i + 1)) k &&& L3 (pL1 P c + 11 + 1 + (H - (i + 1))) k else L3 (pL1 P c + 34 + 1 + (i + 1)) k) x = true ↔ (∃ v, Wy w c nu B r t H pc i v ∧ ld w c nu B j v x) ∧ LvD false w c nu B t (H - (i + 1)) x) := fun x hx => by
        rw [gb_and hx, c3 x hx, K3.2.2 _ hk x hx]
      have nx : ∀ (b : Bool), ((b = false ∧ ∀ p, p < j + 1 → noC w c nu B r t H pc i p) ∨ (b = true ∧ ¬ noC w c nu B r t H pc i j)) → Ev (d + 5) 42 32 [.ref P, .int bar, .int (nI B), .int (nI i), .int (bI b), .int (nI (j + 1))] [] S (put J3 (P + 1) i (nI j)) (va_up L3 (pL1 P c + 34 + 1 + (i + 1)) (fun k => if k < n then L3 (pL1 P c + 34 + 1 + (i + 1)) k &&& L3 (pL1 P c + 11 + 1 + (H - (i + 1))) k else L3 (pL1 P c + 34 + 1 + (i + 1)) k)) R Q := fun b hb => by
        refine ih (j + 1) _ _ b kb' (by omega) ⟨⟨hJ3.1.mono ?_ ?_ ?_, fun k hk => ?_⟩, (hV3.ph (fun b hb => uu_n _ _ (by omega))).pi (fun b _ x _ => pt_n x), ?_, K3.mono (pt_n (by omega)) (fun b x y => uu_n _ _ (by omega)), ?_⟩ (fr.tr ⟨fun a ha => ?_, fun a ha => ?_⟩) (fun k hk => ?_) (fun k hk => ?_) (fun x hx => ?_) ?_
        · rw [pt_n (by omega)]
        · rw [pt_n (by omega)]
        · rw [pt_n (by omega)]
        · by_cases y : k = i
          · rw [y, pt_s]; exact ⟨j, by omega, rfl⟩
          · rw [pt_f y]; exact hJ3.2 k hk
        · rw [pt_n (by omega), fV _ (by omega)]; exact hnu
        · rw [pt_n (by omega), fV _ (by omega)]; exact h9
        · rw [pt_n (by omega)]; exact fV a (by omega)
        · rw [uu_n _ _ (by omega), fG a (by omega) (by omega) (by omega) (by omega)]
          exact g1 a (by omega) (by omega) (by omega)
        · rw [pt_f hk, fV _ (by omega)]; exact f1 k hk
        · rw [uu_n _ _ (by omega), fG _ (by omega) (by omega) (by omega) (by omega), g1 _ (by omega) (by omega) (by omega)]
          exact f2 k hk
        · rw [uu_n _ _ (by omega), fG _ (by omega) (by omega) (by omega) (by omega), g1 _ (by omega) (by omega) (by omega)]
          exact hpa x hx
        · rcases hb with ⟨b1, b3⟩ | ⟨b1, b3⟩
          · exact Or.inl ⟨b1, b3⟩
          · refine Or.inr ⟨b1, by omega, by rw [pt_s]; rfl, b3, b2, fun x hx => ?_⟩
            rw [uu_s]
            exact mx x hx
      have wt : (∃ k, k < 64 * n ∧ gb (L3 (pL1 P c + 34 + 1 + (i + 1))) k = true ∧ gb (L3 (pL1 P c + 11 + 1 + (H - (i + 1)))) k = true) ↔ ¬ noC w c nu B r t H pc i j := by
        constructor
        · rintro ⟨k, x1, x2, x3⟩ y
          obtain ⟨v, y1, y2⟩ := (c3 k x1).mp x2
          exact y v k y1 y2 ((K3.2.2 _ hk k x1).mp x3)
        · intro y
          refine Classical.byContradiction (fun q => y (fun v x y1 y2 y3 => q ?_))
          have hv := (ld_lt hW (by omega) y2).1 (Wy_lt hW hrN i hpc v y1)
          exact ⟨x, by omega, (c3 x (by omega)).mpr ⟨v, y1, y2⟩, (K3.2.2 _ hk x (by omega)).mpr y3⟩
      refine keepA (d := d + 3) a1.2.1 a1.2.2 (v2.2.1.2 (H - (i + 1)) (by omega)).2.1 (v2.2.1.2 (H - (i + 1)) (by omega)).2.2 (by omega) hn (fun x => ?_) (fun x => ?_)
      · simp only [E42_0, E42_1, E42_4, E42_5, E42_6, E42_7, E42_10, E42_11, E42_13, E42_14, E42_17, E42_20, E42_21, E42_23, E42_26, E42_27, E42_29, E42_30, E42_34, E42_35, E42_38, E42_41, E42_44, E42_46, E42_49, E42_50, E42_53, E42_54, E42_57, E42_58, E42_59, E42_61, E42_62, E42_63, E42_66, E42_67, E42_68, E42_69, E42_70, E42_73, E42_74, E42_77, E42_78, E42_79, E42_80, E42_81, E42_82, E42_85, E42_86, E42_89, E42_90, E42_91, E42_92, E42_93, E42_96, E42_99, E42_101, E42_102, E42_105, E42_106, E42_108, E42_109, E42_112, E42_118, E42_121, rfs, rfn, cs0, csi, csl, csr, csn, kti, ktl, ktr, ktn, ktv, ktf, true_and, and_true, and_self, ↓reduceIte, Nat.reduceAdd, Nat.reduceSub, Nat.reduceMul, Nat.reduceLT, Nat.reduceLeDiff, Nat.reduceEqDiff, true_or, or_true, false_or, or_false, not_true_eq_false, not_false_eq_true, reduceCtorEq, cmp_lt, cmp_gt, cmp_eq, Int32.reduceAdd, Int32.reduceSub, Int32.reduceMul, Int32.reduceLT, Int32.reduceToNatClampNeg, eq_self, ne_eq, Int64.reduceAdd, Int64.reduceSub, Int64.reduceMul, Int64.reduceLT, o0, r7, p1, p2, j2, k0, pt, nI_1]
        exact nx true (Or.inr ⟨rfl, wt.mp x⟩)
      · simp only [E42_0, E42_1, E42_4, E42_5, E42_6, E42_7, E42_10, E42_11, E42_13, E42_14, E42_17, E42_20, E42_21, E42_23, E42_26, E42_27, E42_29, E42_30, E42_34, E42_35, E42_38, E42_41, E42_44, E42_46, E42_49, E42_50, E42_53, E42_54, E42_57, E42_58, E42_59, E42_61, E42_62, E42_63, E42_66, E42_67, E42_68, E42_69, E42_70, E42_73, E42_74, E42_77, E42_78, E42_79, E42_80, E42_81, E42_82, E42_85, E42_86, E42_89, E42_90, E42_91, E42_92, E42_93, E42_96, E42_99, E42_101, E42_102, E42_105, E42_106, E42_108, E42_109, E42_112, E42_118, E42_121, rfs, rfn, cs0, csi, csl, csr, csn, kti, ktl, ktr, ktn, ktv, ktf, true_and, and_true, and_self, ↓reduceIte, Nat.reduceAdd, Nat.reduceSub, Nat.reduceMul, Nat.reduceLT, Nat.reduceLeDiff, Nat.reduceEqDiff, true_or, or_true, false_or, or_false, not_true_eq_false, not_false_eq_true, reduceCtorEq, cmp_lt, cmp_gt, cmp_eq, Int32.reduceAdd, Int32.reduceSub, Int32.reduceMul, Int32.reduceLT, Int32.reduceToNatClampNeg, eq_self, ne_eq, Int64.reduceAdd, Int64.reduceSub, Int64.reduceMul, Int64.reduceLT, o0, r7, p1, p2, j2, k0, pt, nI_1]
        refine nx false (Or.inl ⟨rfl, fun p hp => ?_⟩)
        by_cases y : p = j
        · rw [y]
          exact Classical.byContradiction (fun q => x (wt.mpr q))
        · exact b2 p (by omega)
    · simp only [E42_34, E42_35, E42_38, E42_41, E42_44, E42_46, rfs, rfn, cs0, csi, csl, csr, csn, kti, ktl, ktr, ktn, ktv, ktf, true_and, and_true, and_self, ↓reduceIte, Nat.reduceAdd, Nat.reduceSub, Nat.reduceMul, Nat.reduceLT, Nat.reduceLeDiff, Nat.reduceEqDiff, true_or, or_true, false_or, or_false, not_true_eq_false, not_false_eq_true, reduceCtorEq, cmp_lt, cmp_gt, cmp_eq, Int32.reduceAdd, Int32.reduceSub, Int32.reduceMul, Int32.reduceLT, Int32.reduceToNatClampNeg, eq_self, ne_eq, Int64.reduceAdd, Int64.reduceSub, Int64.reduceMul, Int64.reduceLT, o0, oF, r0, i0, e1, bI_t, n1_0]
      exact hq _ _ _ kb _ _ hC fr f1 f2 (by omega) b3 b4 b5 b6
/-- CELLS chosen up to i -/
def CcP (w : Nat → Nat) (c n P : Nat) (nu : Int32) (B r t H i : Nat) (pc : Nat → Nat) (J : mI) (L : mL) : Prop := (∀ k, k < i → J (P + 1) k = nI (pc k) ∧ pc k < c ∧ ¬ noC w c nu B r t H pc k (pc k) ∧ ∀ p, p < pc k → noC w c nu B r t H pc k p) ∧ (∀ k, k ≤ i → PaR n P c L k (Wy w c nu B r t H pc k)) ∧ ∃ x, Wy w c nu B r t H pc i x
theorem ccK_lp {r t H : Nat} {bar : Int32} (hP : PlS S R P c n) (hW : WN w c N) (hc : c ≤ 5) (hn : n < 2 ^ 24) (hN : N ≤ 64 * n) (hB : B < 2 ^ 24) (hH : H ≤ 6) (hr : LvD false w c nu B t H r) (hrN : r < N) (hq : ∀ J L' kb pc, CcS w c N n P nu B t H J L' kb → PfL P c I J L L' → CcP w c n P nu B r t H H pc J L' → Q .null S J L' R) : ∀ (q i : Nat) (J : mI) (L1 : mL) (x4 x5 : Value) (kb : Nat) (pc : Nat → Nat), i + q = H → CcS w c N n P nu B t H J L1 kb → PfL P c I J L L1 → CcP w c n P nu B r t H i pc J L1 → Ev (d + 5) 42 12 [.ref P, .int bar, .int (nI B), .int (nI i), x4, x5] [] S J L1 R Q := by
  have o0 := hP.1.1
  intro q
  induction q with
  | zero =>
    intro i J L1 x4 x5 kb pc hi hC fr hp
    obtain rfl : i = H := by omega
    have h9 := hC.2.2.2.2
    have g1 : (nI i < nI i) = False := eq_false (nI_nlt (Nat.le_refl _) (by omega))
    rw [E42_12]
    simp only [E42_13, E42_14, E42_17, E42_121, rfs, rfn, cs0, csi, csl, csr, csn, kti, ktl, ktr, ktn, ktv, ktf, true_and, and_true, and_self, ↓reduceIte, Nat.reduceAdd, Nat.reduceSub, Nat.reduceMul, Nat.reduceLT, Nat.reduceLeDiff, Nat.reduceEqDiff, true_or, or_true, false_or, or_false, not_true_eq_false, not_false_eq_true, reduceCtorEq, cmp_lt, cmp_gt, cmp_eq, Int32.reduceAdd, Int32.reduceSub, Int32.reduceMul, Int32.reduceLT, Int32.reduceToNatClampNeg, eq_self, ne_eq, Int64.reduceAdd, Int64.reduceSub, Int64.reduceMul, Int64.reduceLT, o0, h9, g1]
    exact hq _ _ kb pc hC fr hp
  | succ q ih =>
    intro i J L1 x4 x5 kb pc hi hC fr hp
    have h9 := hC.2.2.2.2
    have g1 : (nI i < nI H) = True := eq_true (nI_lt (by omega) (by omega))
    have e1 : (nI i < (6 : Int32)) = True := eq_true (nI_lt (a := i) (b := 6) (by omega) (by decide))
    obtain ⟨p1, p2, p3⟩ := hp
    rw [E42_12]
    simp only [E42_13, E42_14, E42_17, E42_20, E42_21, E42_23, E42_26, E42_27, E42_29, E42_30, rfs, rfn, cs0, csi, csl, csr, csn, kti, ktl, ktr, ktn, ktv, ktf, true_and, and_true, and_self, ↓reduceIte, Nat.reduceAdd, Nat.reduceSub, Nat.reduceMul, Nat.reduceLT, Nat.reduceLeDiff, Nat.reduceEqDiff, true_or, or_true, false_or, or_false, not_true_eq_false, not_false_eq_true, reduceCtorEq, cmp_lt, cmp_gt, cmp_eq, Int32.reduceAdd, Int32.reduceSub, Int32.reduceMul, Int32.reduceLT, Int32.reduceToNatClampNeg, eq_self, ne_eq, Int64.reduceAdd, Int64.reduceSub, Int64.reduceMul, Int64.reduceLT, o0, h9, g1, e1]
    have k := ccK_in (d := d) (i := i) (bar := bar) (w := w) (I := J) (L := L1) (Q := Q) (pc := pc) hP hW hc hn hN hB (show i < H by omega) hH hr hrN (fun k hk => (p1 k hk).2.1) p3 (fun J' L' p kb' x4 x5 hC' fr' f1 f2 y1 y2 y3 y4 y5 => by
      have cg : ∀ k, k < i → pc k = va_up pc i p k := fun k hk => (uu_n _ _ (by omega)).symm
      have ss : va_up pc i p i = p := uu_s _ _ _
      simp only [E42_115, E42_118, rfs, rfn, cs0, csi, csl, csr, csn, kti, ktl, ktr, ktn, ktv, ktf, true_and, and_true, and_self, ↓reduceIte, Nat.reduceAdd, Nat.reduceSub, Nat.reduceMul, Nat.reduceLT, Nat.reduceLeDiff, Nat.reduceEqDiff, true_or, or_true, false_or, or_false, not_true_eq_false, not_false_eq_true, reduceCtorEq, cmp_lt, cmp_gt, cmp_eq, Int32.reduceAdd, Int32.reduceSub, Int32.reduceMul, Int32.reduceLT, Int32.reduceToNatClampNeg, eq_self, ne_eq, Int64.reduceAdd, Int64.reduceSub, Int64.reduceMul, Int64.reduceLT, nI_1]
      refine ih (i + 1) J' L' _ _ kb' (va_up pc i p) (by omega) hC' (fr.tr fr') ⟨fun k hk => ?_, fun k hk x hx => ?_, ?_⟩
      · by_cases g : k = i
        · rw [g, ss]
          exact ⟨y2, y1, fun q => y3 ((noC_cg cg).mpr q), fun p' h' => (noC_cg cg).mp (y4 p' h')⟩
        · obtain ⟨z1, z2, z3, z4⟩ := p1 k (by omega)
          have cg' : ∀ l, l < k → pc l = va_up pc i p l := fun l hl => cg l (by omega)
          rw [← cg k (by omega)]
          exact ⟨by rw [f1 k g]; exact z1, z2, fun q => z3 ((noC_cg cg').mpr q), fun p' h' => (noC_cg cg').mp (z4 p' h')⟩
      · by_cases g : k = i + 1
        · rw [g, y5 x hx]
          constructor
          · rintro ⟨⟨v, v1, v2⟩, v3⟩
            exact ⟨⟨v, (Wy_cg i v cg).mp v1, by rw [ss]; exact v2⟩, v3⟩
          · rintro ⟨⟨v, v1, v2⟩, v3⟩
            rw [ss] at v2
            exact ⟨⟨v, (Wy_cg i v cg).mpr v1, v2⟩, v3⟩
        · rw [f2 k (by omega), p2 k (by omega) x hx]
          exact Wy_cg k x (fun l hl => cg l (by omega))
      · refine Classical.byContradiction (fun q => y3 (fun v x v1 v2 v3 => q ⟨x, ⟨v, (Wy_cg i v cg).mp v1, by rw [ss]; exact v2⟩, v3⟩))) c 0 J L1 false kb (by omega) hC PfL.rf (fun _ _ => rfl) (fun _ _ => rfl) (p2 i (Nat.le_refl _)) (Or.inl ⟨rfl, fun p h => absurd h (by omega)⟩)
    rw [show nI 0 = 0 from rfl, bI_f] at k
    exact k
theorem ccK {r t H kb : Nat} (hP : PlS S R P c n) (hW : WN w c N) (hc : c ≤ 5) (hn : n < 2 ^ 24) (hN : N ≤ 64 * n) (hB : B < 2 ^ 24) (hH : H ≤ 6) (hr : LvD false w c nu B t H r) (hrN : r < N) (hC : CcS w c N n P nu B t H I L kb) (hq : ∀ J L' kb pc, CcS w c N n P nu B t H J L' kb → PfL P c I J L L' → CcP w c n P nu B r t H H pc J L' → Q .null S J L' R) : EvM (d + 5) 42 [.ref P, .int (nI r), .int (nI B)] S I L R Q := by
  have hP' := hP
  obtain ⟨⟨o0, ⟨p1, p2⟩, -⟩, ⟨r0, r1, r2, r3, r4, r5, r6, r7, r8⟩, hF, ⟨v1, v2, v3, v4⟩, mt, lw⟩ := hP'
  have e : pL1 P c = P + 11 + 3 * c := rfl
  have RR := matR mt
  have a0 := mt.2 0 (by omega)
  have i0 : inb 0 7 = True := inb_nI (j := 0) (by omega) (by omega)
  simp only [M42, E42_0, E42_1, E42_4, E42_5, E42_6, E42_7, E42_10, E42_11, E42_13, E42_14, E42_17, E42_20, E42_21, E42_23, E42_26, E42_27, E42_29, E42_30, E42_34, E42_35, E42_38, E42_41, E42_44, E42_46, E42_49, E42_50, E42_53, E42_54, E42_57, E42_58, E42_59, E42_61, E42_62, E42_63, E42_66, E42_67, E42_68, E42_69, E42_70, E42_73, E42_74, E42_77, E42_78, E42_79, E42_80, E42_81, E42_82, E42_85, E42_86, E42_89, E42_90, E42_91, E42_92, E42_93, E42_96, E42_99, E42_101, E42_102, E42_105, E42_106, E42_108, E42_109, E42_112, E42_115, E42_118, E42_121, rfs, rfn, cs0, csi, csl, csr, csn, kti, ktl, ktr, ktn, ktv, ktf, true_and, and_true, and_self, ↓reduceIte, Nat.reduceAdd, Nat.reduceSub, Nat.reduceMul, Nat.reduceLT, Nat.reduceLeDiff, Nat.reduceEqDiff, true_or, or_true, false_or, or_false, not_true_eq_false, not_false_eq_true, reduceCtorEq, cmp_lt, cmp_gt, cmp_eq, Int32.reduceAdd, Int32.reduceSub, Int32.reduceMul, Int32.reduceLT, Int32.reduceToNatClampNeg, eq_self, ne_eq, Int64.reduceAdd, Int64.reduceSub, Int64.reduceMul, Int64.reduceLT, o0, r5, RR, mt.1.2, i0, show (0 : Int32).toNatClampNeg = 0 from rfl, a0.1]
  rw [setO' (n := n) (r := r) a0.2 hn (by omega)]
  try simp only [E42_0, E42_1, E42_4, E42_5, E42_6, E42_7, E42_10, E42_11, E42_13, E42_14, E42_17, E42_20, E42_21, E42_23, E42_26, E42_27, E42_29, E42_30, E42_34, E42_35, E42_38, E42_41, E42_44, E42_46, E42_49, E42_50, E42_53, E42_54, E42_57, E42_58, E42_59, E42_61, E42_62, E42_63, E42_66, E42_67, E42_68, E42_69, E42_70, E42_73, E42_74, E42_77, E42_78, E42_79, E42_80, E42_81, E42_82, E42_85, E42_86, E42_89, E42_90, E42_91, E42_92, E42_93, E42_96, E42_99, E42_101, E42_102, E42_105, E42_106, E42_108, E42_109, E42_112, E42_115, E42_118, E42_121, rfs, rfn, cs0, csi, csl, csr, csn, kti, ktl, ktr, ktn, ktv, ktf, true_and, and_true, and_self, ↓reduceIte, Nat.reduceAdd, Nat.reduceSub, Nat.reduceMul, Nat.reduceLT, Nat.reduceLeDiff, Nat.reduceEqDiff, true_or, or_true, false_or, or_false, not_true_eq_false, not_false_eq_true, reduceCtorEq, cmp_lt, cmp_gt, cmp_eq, Int32.reduceAdd, Int32.reduceSub, Int32.reduceMul, Int32.reduceLT, Int32.reduceToNatClampNeg, eq_self, ne_eq, Int64.reduceAdd, Int64.reduceSub, Int64.reduceMul, Int64.reduceLT]
  obtain ⟨hJ, hV, hnu, K, h9⟩ := hC
  have k := fun x4 x5 => ccK_lp (d := d) (bar := nI r) (w := w) (I := I) (L := L) (Q := Q) hP hW hc hn hN hB hH hr hrN hq H 0 I (va_up L (pL1 P c + 34 + 1 + 0) (sO n r (L (pL1 P c + 34 + 1 + 0)))) x4 x5 kb (fun _ => 0) (by omega) ⟨hJ, hV.ph (fun b hb => uu_n _ _ (by omega)), hnu, K.mono rfl (fun b x y => uu_n _ _ (by omega)), h9⟩ ⟨fun _ _ => rfl, fun a ha => uu_n _ _ (by omega)⟩ ⟨fun k hk => absurd hk (by omega), fun k hk x hx => by
    obtain rfl : k = 0 := by omega
    rw [uu_s]
    exact sO_gb (by omega) hx, r, rfl⟩
  rw [show nI 0 = 0 from rfl] at k
  exact k _ _
/-- the path trimmed down to k -/
theorem tpK_lp {r t H : Nat} {pc : Nat → Nat} (hP : PlS S R P c n) (hI : PlI I P c n w) (hW : WN w c N) (hc : c ≤ 5) (hn : n < 2 ^ 24) (hN : N ≤ 64 * n) (hB : B < 2 ^ 24) (hH : H ≤ 6) (hrN : r < N) (hnu : I (P + 3) 6 = nu) (hpc : ∀ k, k < H → I (P + 1) k = nI (pc k) ∧ pc k < c) (hq : ∀ L', PlV w c N n P I L' → PfL P c I I L L' → (∀ k, 1 ≤ k → k ≤ H → PaR n P c L' k (Gy w c nu B r t H pc (H - k))) → Q .null S I L' R) : ∀ (k : Nat) (L1 : mL), k < H → PlV w c N n P I L1 → PfL P c I I L L1 → (∀ j, j ≤ k → PaR n P c L1 j (Wy w c nu B r t H pc j)) → (∀ j, k < j → j ≤ H → PaR n P c L1 j (Gy w c nu B r t H pc (H - j))) → Ev (d + 4) 43 12 [.ref P, .int (nI B), .int (nI k)] [] S I L1 R Q := by
  have hP' := hP
  obtain ⟨⟨o0, ⟨p1, p2⟩, -⟩, ⟨r0, r1, r2, r3, r4, r5, r6, r7, r8⟩, hF, ⟨v1, v2, v3, v4⟩, mt, lw⟩ := hP'
  have e : pL1 P c = P + 11 + 3 * c := rfl
  have oF := hF.1.1
  have pI : okI S (P + 1) := ⟨p1.1, Or.inl p1.2⟩
  have RR := matR mt
  intro k
  induction k with
  | zero =>
    intro L1 hk hV fr h1 h2
    have e : ((0 : Int32) < nI 0) = False := eq_false (by decide)
    rw [E43_12]
    simp only [E43_13, E43_62, rfs, rfn, cs0, csi, csl, csr, csn, kti, ktl, ktr, ktn, ktv, ktf, true_and, and_true, and_self, ↓reduceIte, Nat.reduceAdd, Nat.reduceSub, Nat.reduceMul, Nat.reduceLT, Nat.reduceLeDiff, Nat.reduceEqDiff, true_or, or_true, false_or, or_false, not_true_eq_false, not_false_eq_true, reduceCtorEq, cmp_lt, cmp_gt, cmp_eq, Int32.reduceAdd, Int32.reduceSub, Int32.reduceMul, Int32.reduceLT, Int32.reduceToNatClampNeg, eq_self, ne_eq, Int64.reduceAdd, Int64.reduceSub, Int64.reduceMul, Int64.reduceLT, e]
    exact hq _ hV fr (fun k k1 k2 => h2 k (by omega) k2)
  | succ k ih =>
    intro L1 hk hV fr h1 h2
    have e0 : ((0 : Int32) < nI (k + 1)) = True := eq_true (nI_lt (a := 0) (b := k + 1) (by omega) (by omega))
    have a1 := mt.2 (k + 1) (by omega)
    have a2 := mt.2 (k + 1 + 1) (by omega)
    have j1 : inb (nI (k + 1)) 7 = True := inb_nI (by omega) (by omega)
    have j2 : inb (nI (k + 1 + 1)) 7 = True := inb_nI (by omega) (by omega)
    have j3 : inb (nI (k + 1)) 6 = True := inb_nI (by omega) (by omega)
    have k1 : (nI (k + 1)).toNatClampNeg = k + 1 := nI_clamp (by omega)
    have k2 : (nI (k + 1 + 1)).toNatClampNeg = k + 1 + 1 := nI_clamp (by omega)
    obtain ⟨hq2, hq1⟩ := hpc (k + 1) hk
    rw [E43_12]
    simp only [E43_0, E43_1, E43_4, E43_6, E43_9, E43_10, E43_11, E43_13, E43_16, E43_17, E43_20, E43_21, E43_24, E43_25, E43_26, E43_27, E43_28, E43_29, E43_32, E43_33, E43_34, E43_35, E43_36, E43_39, E43_42, E43_43, E43_46, E43_47, E43_48, E43_49, E43_52, E43_55, E43_56, E43_59, E43_62, rfs, rfn, cs0, csi, csl, csr, csn, kti, ktl, ktr, ktn, ktv, ktf, true_and, and_true, and_self, ↓reduceIte, Nat.reduceAdd, Nat.reduceSub, Nat.reduceMul, Nat.reduceLT, Nat.reduceLeDiff, Nat.reduceEqDiff, true_or, or_true, false_or, or_false, not_true_eq_false, not_false_eq_true, reduceCtorEq, cmp_lt, cmp_gt, cmp_eq, Int32.reduceAdd, Int32.reduceSub, Int32.reduceMul, Int32.reduceLT, Int32.reduceToNatClampNeg, eq_self, ne_eq, Int64.reduceAdd, Int64.reduceSub, Int64.reduceMul, Int64.reduceLT, o0, oF, r0, r5, r6, r7, RR, mt.1.2, pI, p2, e0, nI_1, j1, j2, j3, k1, k2, a2.1, hq2]
    refine trA (d := d) (N := N) (P := Gy w c nu B r t H pc (H - (k + 1 + 1))) hF hI.1 hW hc hq1 hn a2.2 lw (by omega) (by omega) hN hB hV.1.1 (hnu ▸ hV.1.2) (fun x hx => Wy_lt hW hrN _ (fun l hl => (hpc l (by omega)).2) x (Gy_w hx)) (h2 (k + 1 + 1) (by omega) (by omega)) (fun L2 g1 g2 => ?_)
    simp only [E43_0, E43_1, E43_4, E43_6, E43_9, E43_10, E43_11, E43_13, E43_16, E43_17, E43_20, E43_21, E43_24, E43_25, E43_26, E43_27, E43_28, E43_29, E43_32, E43_33, E43_34, E43_35, E43_36, E43_39, E43_42, E43_43, E43_46, E43_47, E43_48, E43_49, E43_52, E43_55, E43_56, E43_59, E43_62, rfs, rfn, cs0, csi, csl, csr, csn, kti, ktl, ktr, ktn, ktv, ktf, true_and, and_true, and_self, ↓reduceIte, Nat.reduceAdd, Nat.reduceSub, Nat.reduceMul, Nat.reduceLT, Nat.reduceLeDiff, Nat.reduceEqDiff, true_or, or_true, false_or, or_false, not_true_eq_false, not_false_eq_true, reduceCtorEq, cmp_lt, cmp_gt, cmp_eq, Int32.reduceAdd, Int32.reduceSub, Int32.reduceMul, Int32.reduceLT, Int32.reduceToNatClampNeg, eq_self, ne_eq, Int64.reduceAdd, Int64.reduceSub, Int64.reduceMul, Int64.reduceLT, o0, r5, r6, RR, mt.1.2, j1, k1, a1.1]
    have fin : Ev (d + 4) 43 12 [.ref P, .int (nI B), .int (nI k)] [] S I (va_up L2 (pL1 P c + 34 + 1 + (k + 1)) (fun j => if j < n then L2 (pL1 P c + 34 + 1 + (k + 1)) j &&& L2 (pL1 P c + 42) j else L2 (pL1 P c + 34 + 1 + (k + 1)) j)) R Q := by
      refine ih _ (by omega) ((hV.fw (fun b x1 x2 x3 x4 => g1 b (by omega) x2 x3 x4)).ph (fun b hb => uu_n _ _ (by omega))) (fr.tr ⟨fun _ _ => rfl, fun a ha => ?_⟩) (fun j hj x hx => ?_) (fun j hj hjH x hx => ?_)
      · rw [uu_n _ _ (by omega), g1 a (by omega) (by omega) (by omega) (by omega)]
      · rw [uu_n _ _ (by omega), g1 _ (by omega) (by omega) (by omega) (by omega)]
        exact h1 j (by omega) x hx
      · by_cases y : j = k + 1
        · subst y
          rw [uu_s, gb_and hx, g2 x hx, g1 _ (by omega) (by omega) (by omega) (by omega), h1 _ (Nat.le_refl _) x hx]
          obtain ⟨m, hm⟩ : ∃ m, H - (k + 1) = m + 1 := ⟨H - (k + 1) - 1, by omega⟩
          rw [hm, show H - (k + 1 + 1) = m by omega]
          have eG : Gy w c nu B r t H pc (m + 1) x = (Wy w c nu B r t H pc (H - (m + 1)) x ∧ ∃ y, ld w c nu B (pc (H - (m + 1))) x y ∧ Gy w c nu B r t H pc m y) := rfl
          rw [eG, show H - (m + 1) = k + 1 by omega]
          exact and_congr_right (fun _ => ⟨fun ⟨v, x1, x2⟩ => ⟨v, x2, x1⟩, fun ⟨v, x1, x2⟩ => ⟨v, x2, x1⟩⟩)
        · rw [uu_n _ _ (by omega), g1 _ (by omega) (by omega) (by omega) (by omega)]
          exact h2 j (by omega) hjH x hx
    refine keepA (d := d + 2) a1.2.1 a1.2.2 lw.1 lw.2 (by omega) hn (fun x => ?_) (fun x => ?_)
    · simp only [E43_0, E43_1, E43_4, E43_6, E43_9, E43_10, E43_11, E43_13, E43_16, E43_17, E43_20, E43_21, E43_24, E43_25, E43_26, E43_27, E43_28, E43_29, E43_32, E43_33, E43_34, E43_35, E43_36, E43_39, E43_42, E43_43, E43_46, E43_47, E43_48, E43_49, E43_52, E43_55, E43_56, E43_59, E43_62, rfs, rfn, cs0, csi, csl, csr, csn, kti, ktl, ktr, ktn, ktv, ktf, true_and, and_true, and_self, ↓reduceIte, Nat.reduceAdd, Nat.reduceSub, Nat.reduceMul, Nat.reduceLT, Nat.reduceLeDiff, Nat.reduceEqDiff, true_or, or_true, false_or, or_false, not_true_eq_false, not_false_eq_true, reduceCtorEq, cmp_lt, cmp_gt, cmp_eq, Int32.reduceAdd, Int32.reduceSub, Int32.reduceMul, Int32.reduceLT, Int32.reduceToNatClampNeg, eq_self, ne_eq, Int64.reduceAdd, Int64.reduceSub, Int64.reduceMul, Int64.reduceLT, nI_a1, nI_m1]
      exact fin
    · simp only [E43_0, E43_1, E43_4, E43_6, E43_9, E43_10, E43_11, E43_13, E43_16, E43_17, E43_20, E43_21, E43_24, E43_25, E43_26, E43_27, E43_28, E43_29, E43_32, E43_33, E43_34, E43_35, E43_36, E43_39, E43_42, E43_43, E43_46, E43_47, E43_48, E43_49, E43_52, E43_55, E43_56, E43_59, E43_62, rfs, rfn, cs0, csi, csl, csr, csn, kti, ktl, ktr, ktn, ktv, ktf, true_and, and_true, and_self, ↓reduceIte, Nat.reduceAdd, Nat.reduceSub, Nat.reduceMul, Nat.reduceLT, Nat.reduceLeDiff, Nat.reduceEqDiff, true_or, or_true, false_or, or_false, not_true_eq_false, not_false_eq_true, reduceCtorEq, cmp_lt, cmp_gt, cmp_eq, Int32.reduceAdd, Int32.reduceSub, Int32.reduceMul, Int32.reduceLT, Int32.reduceToNatClampNeg, eq_self, ne_eq, Int64.reduceAdd, Int64.reduceSub, Int64.reduceMul, Int64.reduceLT, nI_a1, nI_m1]
      exact fin
theorem tpK {r t H : Nat} {pc : Nat → Nat} (hP : PlS S R P c n) (hI : PlI I P c n w) (hV : PlV w c N n P I L) (hW : WN w c N) (hc : c ≤ 5) (hn : n < 2 ^ 24) (hN : N ≤ 64 * n) (hB : B < 2 ^ 24) (hH : H ≤ 6) (hH1 : 1 ≤ H) (hrN : r < N) (hnu : I (P + 3) 6 = nu) (h9 : I P 9 = nI H) (hp : CcP w c n P nu B r t H H pc I L) (hq : ∀ L', PlV w c N n P I L' → PfL P c I I L L' → (∀ k, 1 ≤ k → k ≤ H → PaR n P c L' k (Gy w c nu B r t H pc (H - k))) → Q .null S I L' R) : EvM (d + 4) 43 [.ref P, .int (nI B)] S I L R Q := by
  have o0 := hP.1.1
  obtain ⟨p1, p2, -⟩ := hp
  have ek : (if (6 : Int32) < nI H then (6 : Int32) else nI H) - 1 = nI (H - 1) := by
    obtain ⟨y, hy⟩ : ∃ y, H = y + 1 := ⟨H - 1, by omega⟩
    rw [if_neg (show ¬ (6 : Int32) < nI H from nI_nlt (a := 6) (b := H) (by omega) (by omega)), hy, nI_m1]
    congr 1
  have ek2 : (if nI H < (6 : Int32) then nI H else (6 : Int32)) - 1 = nI (H - 1) := by
    obtain ⟨y, hy⟩ : ∃ y, H = y + 1 := ⟨H - 1, by omega⟩
    by_cases g : H < 6
    · rw [if_pos (show nI H < (6 : Int32) from nI_lt (a := H) (b := 6) g (by decide)), hy, nI_m1]
      congr 1
    · obtain rfl : H = 6 := by omega
      decide
  simp only [M43, E43_0, E43_1, E43_4, E43_6, E43_9, E43_10, E43_11, E43_13, E43_16, E43_17, E43_20, E43_21, E43_24, E43_25, E43_26, E43_27, E43_28, E43_29, E43_32, E43_33, E43_34, E43_35, E43_36, E43_39, E43_42, E43_43, E43_46, E43_47, E43_48, E43_49, E43_52, E43_55, E43_56, E43_59, E43_62, rfs, rfn, cs0, csi, csl, csr, csn, kti, ktl, ktr, ktn, ktv, ktf, true_and, and_true, and_self, ↓reduceIte, Nat.reduceAdd, Nat.reduceSub, Nat.reduceMul, Nat.reduceLT, Nat.reduceLeDiff, Nat.reduceEqDiff, true_or, or_true, false_or, or_false, not_true_eq_false, not_false_eq_true, reduceCtorEq, cmp_lt, cmp_gt, cmp_eq, Int32.reduceAdd, Int32.reduceSub, Int32.reduceMul, Int32.reduceLT, Int32.reduceToNatClampNeg, eq_self, ne_eq, Int64.reduceAdd, Int64.reduceSub, Int64.reduceMul, Int64.reduceLT, o0, h9, ek, ek2]
  refine tpK_lp (r := r) (t := t) hP hI hW hc hn hN hB hH hrN hnu (fun k hk => ⟨(p1 k hk).1, (p1 k hk).2.1⟩) hq (H - 1) L (by omega) hV PfL.rf (fun j hj => p2 j (by omega)) (fun j h1 h2 x hx => ?_)
  obtain rfl : j = H := by omega
  rw [p2 j (Nat.le_refl _) x hx, Nat.sub_self]
  exact Iff.rfl
end GK
