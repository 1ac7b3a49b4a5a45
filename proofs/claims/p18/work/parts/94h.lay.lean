/-! the class's Planner: rows chosen, the PLAN laid and told: with content -/
def PlA (w : Nat → Nat) (c N : Nat) (nu : Int32) (B r t : Nat) (v : Int32) (c1 r1 : Nat → Int32) : Prop := MinH w c nu B r t v ∧ ∀ H, H ≤ 6 → v = nI H → ∃ pc pr : Nat → Nat, (∀ i, i < H → c1 i = nI (pc i)) ∧ (∀ i, i < H → pr i < N ∧ r1 i = nI (pr i)) ∧ PlnS w c nu B r t H pc pr
def PpC (w : Nat → Nat) (c N P : Nat) (I : mI) (L : mL) : Prop := L P 10 = -1 ∨ ∃ r t h B, r < N ∧ t < N ∧ h < 2 ^ 10 ∧ B < 2 ^ 4 ∧ L P 10 = kyF (nI r) (nI t) (nI h) (nI B) ∧ PlA w c N (nI h) B r t (I P 9) (I (P + 1)) (I (P + 2))
theorem PpC.pf {w : Nat → Nat} {c N P : Nat} {I J : mI} {L L' : mL} (h : PpC w c N P I L) (f : PfV P c I J L L') : PpC w c N P J L' := by
  unfold PpC
  rw [f.1 P (by omega), f.2 P (by omega), f.1 (P + 1) (by omega), f.1 (P + 2) (by omega)]
  exact h
theorem PpC.pe {w : Nat → Nat} {c N P : Nat} {I J : mI} {L L' : mL} (h : PpC w c N P I L) (f : PfE P c I J L L') : PpC w c N P J L' := by
  unfold PpC
  rw [f.1.2 9 (by decide), f.2.2 10 (by decide), f.1.1 (P + 1) (by omega), f.1.1 (P + 2) (by omega)]
  exact h
theorem EvC.i {w : Nat → Nat} {c N P : Nat} {I J : mI} {L L' : mL} (h : EvC w c N P I L) (e1 : J P 11 = I P 11) (e2 : L' P 12 = L P 12) : EvC w c N P J L' := by
  unfold EvC
  rw [e1, e2]
  exact h
section HK
variable {d P c n N B z th : Nat} {w : Nat → Nat} {nu : Int32} {A A2 : Nat → Nat} {S : mS} {I : mI} {L : mL} {R : mR} {Q : mQ}
theorem Gy_on {r t H : Nat} {pc : Nat → Nat} (hx : ∃ x, Wy w c nu B r t H pc H x) : ∀ m, m ≤ H → ∃ x, Gy w c nu B r t H pc m x := by
  intro m
  induction m with
  | zero => exact fun _ => hx
  | succ m ih =>
    intro hm
    obtain ⟨y, hy⟩ := ih (by omega)
    have g := Gy_w hy
    obtain ⟨k, hk⟩ : ∃ k, H - m = k + 1 := ⟨H - m - 1, by omega⟩
    rw [hk] at g
    obtain ⟨⟨v, v1, v2⟩, -⟩ := g
    refine ⟨v, ?_, y, ?_, hy⟩
    · rw [show H - (m + 1) = k by omega]; exact v1
    · rw [show H - (m + 1) = k by omega]; exact v2
theorem crK_lp {r t H : Nat} {pc : Nat → Nat} (hP : PlS S R P c n) (hW : WN w c N) (hc : c ≤ 5) (hn : n < 2 ^ 24) (hN : N ≤ 64 * n) (hB : B < 2 ^ 24) (hH : H ≤ 6) (hrN : r < N) (hG : Gy w c nu B r t H pc H r) (hpc : ∀ k, k < H → I (P + 1) k = nI (pc k) ∧ pc k < c) (hq : ∀ (J : mI) (L' : mL) (pr : Nat → Nat), PlI J P c n w → PlV w c N n P J L' → PfL P c I J L L' → J (P + 1) = I (P + 1) → (∀ k, k < H → pr k < N ∧ J (P + 2) k = nI (pr k)) → (∀ i, i < H → (ld w c nu B (pc i) (if i = 0 then r else pr (i - 1)) (pr i) ∧ Gy w c nu B r t H pc (H - (i + 1)) (pr i)) ∧ ∀ y, y < pr i → ld w c nu B (pc i) (if i = 0 then r else pr (i - 1)) y → ¬ Gy w c nu B r t H pc (H - (i + 1)) y) → Q .null S J L' R) : ∀ (q i : Nat) (J : mI) (L1 : mL) (pr : Nat → Nat), i + q = H → PlI J P c n w → PlV w c N n P J L1 → J (P + 3) 6 = nu → J P 9 = nI H → PfL P c I J L L1 → J (P + 1) = I (P + 1) → (∀ k, 1 ≤ k → k ≤ H → PaR n P c L1 k (Gy w c nu B r t H pc (H - k))) → (∀ k, k < i → pr k < N ∧ J (P + 2) k = nI (pr k)) → (∀ i', i' < i → (ld w c nu B (pc i') (if i' = 0 then r else pr (i' - 1)) (pr i') ∧ Gy w c nu B r t H pc (H - (i' + 1)) (pr i')) ∧ ∀ y, y < pr i' → ld w c nu B (pc i') (if i' = 0 then r else pr (i' - 1)) y → ¬ Gy w c nu B r t H pc (H - (i' + 1)) y) → Ev (d + 4) 44 2 [.ref P, .int (nI r), .int (nI B), .int (nI i)] [] S J L1 R Q := by
  have hP' := hP
  obtain ⟨⟨o0, ⟨p1, p2⟩, ⟨s1, s2⟩⟩, ⟨r0, r1, r2, r3, r4, r5, r6, r7, r8⟩, hF, ⟨v1, v2, v3, v4⟩, mt, lw⟩ := hP'
  have e : pL1 P c = P + 11 + 3 * c := rfl
  have oF := hF.1.1
  have pI : okI S (P + 1) := ⟨p1.1, Or.inl p1.2⟩
  have sI : okI S (P + 2) := ⟨s1.1, Or.inl s1.2⟩
  have RR := matR mt
  have a0 := mt.2 0 (by omega)
  have i0 : inb 0 7 = True := inb_nI (j := 0) (by omega) (by omega)
  intro q
  induction q with
  | zero =>
    intro i J L1 pr hi hJ hV hnu h9 fr f1 hpa h1 h2
    obtain rfl : i = H := by omega
    have g1 : (nI i < nI i) = False := eq_false (nI_nlt (Nat.le_refl _) (by omega))
    rw [E44_2]
    simp only [E44_0, E44_1, E44_3, E44_4, E44_7, E44_10, E44_11, E44_13, E44_16, E44_17, E44_20, E44_21, E44_22, E44_23, E44_26, E44_27, E44_30, E44_31, E44_34, E44_35, E44_36, E44_37, E44_38, E44_41, E44_42, E44_45, E44_46, E44_49, E44_50, E44_51, E44_52, E44_55, E44_56, E44_57, E44_58, E44_59, E44_62, E44_65, E44_66, E44_69, E44_70, E44_73, E44_74, E44_75, E44_76, E44_77, E44_80, E44_81, E44_82, E44_85, E44_86, E44_87, E44_90, E44_93, E44_94, E44_97, E44_100, rfs, rfn, cs0, csi, csl, csr, csn, kti, ktl, ktr, ktn, ktv, ktf, true_and, and_true, and_self, ↓reduceIte, Nat.reduceAdd, Nat.reduceSub, Nat.reduceMul, Nat.reduceLT, Nat.reduceLeDiff, Nat.reduceEqDiff, true_or, or_true, false_or, or_false, not_true_eq_false, not_false_eq_true, reduceCtorEq, cmp_lt, cmp_gt, cmp_eq, Int32.reduceAdd, Int32.reduceSub, Int32.reduceMul, Int32.reduceLT, Int32.reduceToNatClampNeg, eq_self, ne_eq, Int64.reduceAdd, Int64.reduceSub, Int64.reduceMul, Int64.reduceLT, o0, h9, g1]
    exact hq _ _ pr hJ hV fr f1 h1 h2
  | succ q ih =>
    intro i J L1 pr hi hJ hV hnu h9 fr f1 hpa h1 h2
    have g1 : (nI i < nI H) = True := eq_true (nI_lt (by omega) (by omega))
    have e1 : (nI i < (6 : Int32)) = True := eq_true (nI_lt (a := i) (b := 6) (by omega) (by decide))
    have a1 := mt.2 (i + 1) (by omega)
    have j1 : inb (nI (i + 1)) 7 = True := inb_nI (by omega) (by omega)
    have j3 : inb (nI i) 6 = True := inb_nI (by omega) (by omega)
    have k0 : (nI i).toNatClampNeg = i := nI_clamp (by omega)
    have k1 : (nI (i + 1)).toNatClampNeg = i + 1 := nI_clamp (by omega)
    obtain ⟨hq2, hq1⟩ := hpc i (by omega)
    rw [← f1] at hq2
    obtain ⟨pv, hpv⟩ : ∃ pv, pv = if i = 0 then r else pr (i - 1) := ⟨_, rfl⟩
    have pvG : Gy w c nu B r t H pc (H - i) pv := by
      rw [hpv]
      by_cases z : i = 0
      · rw [if_pos z, z]; exact hG
      · rw [if_neg z]
        have := (h2 (i - 1) (by omega)).1.2
        rw [show i - 1 + 1 = i by omega] at this
        exact this
    have pvN : pv < N := Wy_lt hW hrN _ (fun l hl => (hpc l (by omega)).2) pv (Gy_w pvG)
    have go : EvM (d + 3) 11 [.ref (pL1 P c + 34 + 1 + 0), .int (nI pv)] S J L1 R (fun _ S I L R => Ev (d + 4) 44 41 [.ref P, .int (nI r), .int (nI B), .int (nI i)] [] S I L R Q) := by
      rw [setO' (n := n) (r := pv) a0.2 hn (by omega)]
      simp only [E44_0, E44_1, E44_3, E44_4, E44_7, E44_10, E44_11, E44_13, E44_16, E44_17, E44_20, E44_21, E44_22, E44_23, E44_26, E44_27, E44_30, E44_31, E44_34, E44_35, E44_36, E44_37, E44_38, E44_41, E44_42, E44_45, E44_46, E44_49, E44_50, E44_51, E44_52, E44_55, E44_56, E44_57, E44_58, E44_59, E44_62, E44_65, E44_66, E44_69, E44_70, E44_73, E44_74, E44_75, E44_76, E44_77, E44_80, E44_81, E44_82, E44_85, E44_86, E44_87, E44_90, E44_93, E44_94, E44_97, E44_100, rfs, rfn, cs0, csi, csl, csr, csn, kti, ktl, ktr, ktn, ktv, ktf, true_and, and_true, and_self, ↓reduceIte, Nat.reduceAdd, Nat.reduceSub, Nat.reduceMul, Nat.reduceLT, Nat.reduceLeDiff, Nat.reduceEqDiff, true_or, or_true, false_or, or_false, not_true_eq_false, not_false_eq_true, reduceCtorEq, cmp_lt, cmp_gt, cmp_eq, Int32.reduceAdd, Int32.reduceSub, Int32.reduceMul, Int32.reduceLT, Int32.reduceToNatClampNeg, eq_self, ne_eq, Int64.reduceAdd, Int64.reduceSub, Int64.reduceMul, Int64.reduceLT, o0, oF, r0, r5, r6, r7, RR, mt.1.2, pI, p2, i0, show (0 : Int32).toNatClampNeg = 0 from rfl, a0.1, j3, k0, hq2]
      have hV0 := hV.ph (L' := va_up L1 (pL1 P c + 34 + 1 + 0) (sO n pv (L1 (pL1 P c + 34 + 1 + 0)))) (fun b hb => uu_n _ _ (by omega))
      refine folA (d := d) (N := N) (P := fun x => x = pv) hF hJ.1 hW.1 hc hq1 hn a0.2 lw (by omega) (by omega) (by omega) hN (hW.2.2.1 _ hq1) hB hV0.1.1 (hnu ▸ hV0.1.2) (fun k hk => by rw [hk]; exact pvN) (fun x hx => by rw [uu_s]; exact sO_gb (by omega) hx) (fun L2 g1 g2 => ?_)
      simp only [E44_0, E44_1, E44_3, E44_4, E44_7, E44_10, E44_11, E44_13, E44_16, E44_17, E44_20, E44_21, E44_22, E44_23, E44_26, E44_27, E44_30, E44_31, E44_34, E44_35, E44_36, E44_37, E44_38, E44_41, E44_42, E44_45, E44_46, E44_49, E44_50, E44_51, E44_52, E44_55, E44_56, E44_57, E44_58, E44_59, E44_62, E44_65, E44_66, E44_69, E44_70, E44_73, E44_74, E44_75, E44_76, E44_77, E44_80, E44_81, E44_82, E44_85, E44_86, E44_87, E44_90, E44_93, E44_94, E44_97, E44_100, rfs, rfn, cs0, csi, csl, csr, csn, kti, ktl, ktr, ktn, ktv, ktf, true_and, and_true, and_self, ↓reduceIte, Nat.reduceAdd, Nat.reduceSub, Nat.reduceMul, Nat.reduceLT, Nat.reduceLeDiff, Nat.reduceEqDiff, true_or, or_true, false_or, or_false, not_true_eq_false, not_false_eq_true, reduceCtorEq, cmp_lt, cmp_gt, cmp_eq, Int32.reduceAdd, Int32.reduceSub, Int32.reduceMul, Int32.reduceLT, Int32.reduceToNatClampNeg, eq_self, ne_eq, Int64.reduceAdd, Int64.reduceSub, Int64.reduceMul, Int64.reduceLT, o0, r5, r6, RR, mt.1.2, nI_1, j1, k1, a1.1]
      have fr2 : ∀ b, ¬ b = pL1 P c + 42 → ¬ b = pL1 P c + 34 + 1 + 0 → ¬ b = P + 3 + 5 + 3 * c → ¬ b = P + 3 + 6 + 3 * c → L2 b = L1 b := fun b b1 b2 b3 b4 => by rw [g1 b b1 b3 b4, uu_n _ _ b2]
      have ex : ∃ y, ld w c nu B (pc i) pv y ∧ Gy w c nu B r t H pc (H - (i + 1)) y := by
        obtain ⟨m, hm⟩ : ∃ m, H - i = m + 1 := ⟨H - i - 1, by omega⟩
        rw [hm] at pvG
        obtain ⟨-, y, y1, y2⟩ := pvG
        rw [show H - (m + 1) = i by omega] at y1
        exact ⟨y, y1, by rw [show H - (i + 1) = m by omega]; exact y2⟩
      obtain ⟨y, ⟨y1, y2⟩, y3⟩ := least ex
      have yN : y < N := (ld_lt hW hq1 y1).1 pvN
      obtain ⟨L3, hL3⟩ : ∃ L3, L3 = va_up L2 (pL1 P c + 42) (fun k => if k < n then L2 (pL1 P c + 42) k &&& L2 (pL1 P c + 34 + 1 + (i + 1)) k else L2 (pL1 P c + 42) k) := ⟨_, rfl⟩
      have c3 : ∀ x, x < 64 * n → (gb (L3 (pL1 P c + 42)) x = true ↔ ld w c nu B (pc i) pv x ∧ Gy w c nu B r t H pc (H - (i + 1)) x) := fun x hx => by
        rw [hL3, uu_s, gb_and hx, g2 x hx, fr2 _ (by omega) (by omega) (by omega) (by omega), hpa (i + 1) (by omega) (by omega) x hx]
        exact and_congr_left (fun _ => ⟨fun ⟨v, x1, x2⟩ => by rw [← x1]; exact x2, fun z => ⟨pv, rfl, z⟩⟩)
      have nx : Ev (d + 4) 44 2 [.ref P, .int (nI r), .int (nI B), .int (nI (i + 1))] [] S (put J (P + 2) i (nI y)) L3 R Q := by
        have cg : ∀ k, k < i → va_up pr i y k = pr k := fun k hk => uu_n _ _ (by omega)
        have ss : va_up pr i y i = y := uu_s _ _ _
        have fr3 : ∀ b, ¬ b = pL1 P c + 42 → ¬ b = pL1 P c + 34 + 1 + 0 → ¬ b = P + 3 + 5 + 3 * c → ¬ b = P + 3 + 6 + 3 * c → L3 b = L1 b := fun b b1 b2 b3 b4 => by rw [hL3, uu_n _ _ b1, fr2 b b1 b2 b3 b4]
        refine ih (i + 1) _ L3 (va_up pr i y) (by omega) (hJ.one (l := P + 2) (fun b hb => pt_n hb) (Or.inr (Or.inr rfl))) ((hV.fw (fun b x1 x2 x3 _ => fr3 b (by omega) (by omega) x2 x3)).pi (fun b _ _ x => pt_n x)) ?_ ?_ (fr.tr ⟨fun a ha => pt_n (by omega), fun a ha => fr3 a (by omega) (by omega) (by omega) (by omega)⟩) ?_ (fun k k1 k2 x hx => ?_) (fun k hk => ?_) (fun k hk => ?_)
        · rw [pt_n (by omega)]; exact hnu
        · rw [pt_n (by omega)]; exact h9
        · rw [pt_n (by omega)]; exact f1
        · rw [fr3 _ (by omega) (by omega) (by omega) (by omega)]
          exact hpa k k1 k2 x hx
        · by_cases g : k = i
          · rw [g, ss, pt_s]
            exact ⟨yN, rfl⟩
          · rw [cg k (by omega), pt_f g]
            exact h1 k (by omega)
        · by_cases g : k = i
          · subst g
            have ep : (if k = 0 then r else va_up pr k y (k - 1)) = pv := by
              rw [hpv]
              by_cases z : k = 0
              · rw [if_pos z, if_pos z]
              · rw [if_neg z, if_neg z, cg (k - 1) (by omega)]
            rw [ss, ep]
            exact ⟨⟨y1, y2⟩, fun u hu x1 x2 => y3 u hu ⟨x1, x2⟩⟩
          · have ep : (if k = 0 then r else va_up pr i y (k - 1)) = if k = 0 then r else pr (k - 1) := by
              by_cases z : k = 0
              · rw [if_pos z, if_pos z]
              · rw [if_neg z, if_neg z, cg (k - 1) (by omega)]
            rw [cg k (by omega), ep]
            exact h2 k (by omega)
      have lo : ∀ Q : mQ, Q (.int (nI y)) S J L3 R → EvM (d + 3) 10 [.ref (pL1 P c + 42)] S J L3 R Q := fun Q hQ => loK (d := d + 1) lw hn (show y < 64 * n by omega) ((c3 y (by omega)).mpr ⟨y1, y2⟩) (fun u hu z => y3 u hu ((c3 u (by omega)).mp z)) hQ
      refine keepA (d := d + 2) lw.1 lw.2 a1.2.1 a1.2.2 (by omega) hn (fun _ => ?_) (fun _ => ?_)
      · rw [← hL3]
        simp only [E44_0, E44_1, E44_3, E44_4, E44_7, E44_10, E44_11, E44_13, E44_16, E44_17, E44_20, E44_21, E44_22, E44_23, E44_26, E44_27, E44_30, E44_31, E44_34, E44_35, E44_36, E44_37, E44_38, E44_41, E44_42, E44_45, E44_46, E44_49, E44_50, E44_51, E44_52, E44_55, E44_56, E44_57, E44_58, E44_59, E44_62, E44_65, E44_66, E44_69, E44_70, E44_73, E44_74, E44_75, E44_76, E44_77, E44_80, E44_81, E44_82, E44_85, E44_86, E44_87, E44_90, E44_93, E44_94, E44_97, E44_100, rfs, rfn, cs0, csi, csl, csr, csn, kti, ktl, ktr, ktn, ktv, ktf, true_and, and_true, and_self, ↓reduceIte, Nat.reduceAdd, Nat.reduceSub, Nat.reduceMul, Nat.reduceLT, Nat.reduceLeDiff, Nat.reduceEqDiff, true_or, or_true, false_or, or_false, not_true_eq_false, not_false_eq_true, reduceCtorEq, cmp_lt, cmp_gt, cmp_eq, Int32.reduceAdd, Int32.reduceSub, Int32.reduceMul, Int32.reduceLT, Int32.reduceToNatClampNeg, eq_self, ne_eq, Int64.reduceAdd, Int64.reduceSub, Int64.reduceMul, Int64.reduceLT, o0, r6, r8]
        refine lo _ ?_
        simp only [E44_0, E44_1, E44_3, E44_4, E44_7, E44_10, E44_11, E44_13, E44_16, E44_17, E44_20, E44_21, E44_22, E44_23, E44_26, E44_27, E44_30, E44_31, E44_34, E44_35, E44_36, E44_37, E44_38, E44_41, E44_42, E44_45, E44_46, E44_49, E44_50, E44_51, E44_52, E44_55, E44_56, E44_57, E44_58, E44_59, E44_62, E44_65, E44_66, E44_69, E44_70, E44_73, E44_74, E44_75, E44_76, E44_77, E44_80, E44_81, E44_82, E44_85, E44_86, E44_87, E44_90, E44_93, E44_94, E44_97, E44_100, rfs, rfn, cs0, csi, csl, csr, csn, kti, ktl, ktr, ktn, ktv, ktf, true_and, and_true, and_self, ↓reduceIte, Nat.reduceAdd, Nat.reduceSub, Nat.reduceMul, Nat.reduceLT, Nat.reduceLeDiff, Nat.reduceEqDiff, true_or, or_true, false_or, or_false, not_true_eq_false, not_false_eq_true, reduceCtorEq, cmp_lt, cmp_gt, cmp_eq, Int32.reduceAdd, Int32.reduceSub, Int32.reduceMul, Int32.reduceLT, Int32.reduceToNatClampNeg, eq_self, ne_eq, Int64.reduceAdd, Int64.reduceSub, Int64.reduceMul, Int64.reduceLT, s1, s2, j3, k0, pt, nI_1]
        exact nx
      · rw [← hL3]
        simp only [E44_0, E44_1, E44_3, E44_4, E44_7, E44_10, E44_11, E44_13, E44_16, E44_17, E44_20, E44_21, E44_22, E44_23, E44_26, E44_27, E44_30, E44_31, E44_34, E44_35, E44_36, E44_37, E44_38, E44_41, E44_42, E44_45, E44_46, E44_49, E44_50, E44_51, E44_52, E44_55, E44_56, E44_57, E44_58, E44_59, E44_62, E44_65, E44_66, E44_69, E44_70, E44_73, E44_74, E44_75, E44_76, E44_77, E44_80, E44_81, E44_82, E44_85, E44_86, E44_87, E44_90, E44_93, E44_94, E44_97, E44_100, rfs, rfn, cs0, csi, csl, csr, csn, kti, ktl, ktr, ktn, ktv, ktf, true_and, and_true, and_self, ↓reduceIte, Nat.reduceAdd, Nat.reduceSub, Nat.reduceMul, Nat.reduceLT, Nat.reduceLeDiff, Nat.reduceEqDiff, true_or, or_true, false_or, or_false, not_true_eq_false, not_false_eq_true, reduceCtorEq, cmp_lt, cmp_gt, cmp_eq, Int32.reduceAdd, Int32.reduceSub, Int32.reduceMul, Int32.reduceLT, Int32.reduceToNatClampNeg, eq_self, ne_eq, Int64.reduceAdd, Int64.reduceSub, Int64.reduceMul, Int64.reduceLT, o0, r6, r8]
        refine lo _ ?_
        simp only [E44_0, E44_1, E44_3, E44_4, E44_7, E44_10, E44_11, E44_13, E44_16, E44_17, E44_20, E44_21, E44_22, E44_23, E44_26, E44_27, E44_30, E44_31, E44_34, E44_35, E44_36, E44_37, E44_38, E44_41, E44_42, E44_45, E44_46, E44_49, E44_50, E44_51, E44_52, E44_55, E44_56, E44_57, E44_58, E44_59, E44_62, E44_65, E44_66, E44_69, E44_70, E44_73, E44_74, E44_75, E44_76, E44_77, E44_80, E44_81, E44_82, E44_85, E44_86, E44_87, E44_90, E44_93, E44_94, E44_97, E44_100, rfs, rfn, cs0, csi, csl, csr, csn, kti, ktl, ktr, ktn, ktv, ktf, true_and, and_true, and_self, ↓reduceIte, Nat.reduceAdd, Nat.reduceSub, Nat.reduceMul, Nat.reduceLT, Nat.reduceLeDiff, Nat.reduceEqDiff, true_or, or_true, false_or, or_false, not_true_eq_false, not_false_eq_true, reduceCtorEq, cmp_lt, cmp_gt, cmp_eq, Int32.reduceAdd, Int32.reduceSub, Int32.reduceMul, Int32.reduceLT, Int32.reduceToNatClampNeg, eq_self, ne_eq, Int64.reduceAdd, Int64.reduceSub, Int64.reduceMul, Int64.reduceLT, s1, s2, j3, k0, pt, nI_1]
        exact nx
    rw [E44_2]
    by_cases g2 : i = 0
    · have g3 : (nI i = 0) = True := eq_true (by rw [g2]; rfl)
      rw [hpv, if_pos g2] at go
      simp only [E44_0, E44_1, E44_3, E44_4, E44_7, E44_10, E44_11, E44_13, E44_16, E44_17, E44_20, E44_21, E44_22, E44_23, E44_26, E44_27, E44_30, E44_31, E44_34, E44_35, E44_36, E44_37, E44_38, E44_42, E44_45, E44_46, E44_49, E44_50, E44_51, E44_52, E44_55, E44_56, E44_57, E44_58, E44_59, E44_62, E44_65, E44_66, E44_69, E44_70, E44_73, E44_74, E44_75, E44_76, E44_77, E44_80, E44_81, E44_82, E44_85, E44_86, E44_87, E44_90, E44_93, E44_94, E44_97, E44_100, rfs, rfn, cs0, csi, csl, csr, csn, kti, ktl, ktr, ktn, ktv, ktf, true_and, and_true, and_self, ↓reduceIte, Nat.reduceAdd, Nat.reduceSub, Nat.reduceMul, Nat.reduceLT, Nat.reduceLeDiff, Nat.reduceEqDiff, true_or, or_true, false_or, or_false, not_true_eq_false, not_false_eq_true, reduceCtorEq, cmp_lt, cmp_gt, cmp_eq, Int32.reduceAdd, Int32.reduceSub, Int32.reduceMul, Int32.reduceLT, Int32.reduceToNatClampNeg, eq_self, ne_eq, Int64.reduceAdd, Int64.reduceSub, Int64.reduceMul, Int64.reduceLT, o0, r5, RR, mt.1.2, i0, show (0 : Int32).toNatClampNeg = 0 from rfl, a0.1, h9, g1, e1, g3]
      exact go
    · have g3 : (nI i = 0) = False := eq_false (fun z => by
        have := congrArg Int32.toNatClampNeg z
        rw [nI_clamp (by omega), show (0 : Int32).toNatClampNeg = 0 from rfl] at this
        omega)
      rw [hpv, if_neg g2] at go
      have ht := (h1 (i - 1) (by omega)).2
      have s3 : nI i - 1 = nI (i - 1) := pk_sub (b := 1) (by omega)
      have j4 : inb (nI (i - 1)) 6 = True := inb_nI (by omega) (by omega)
      have k4 : (nI (i - 1)).toNatClampNeg = i - 1 := nI_clamp (by omega)
      simp only [E44_0, E44_1, E44_3, E44_4, E44_7, E44_10, E44_11, E44_13, E44_16, E44_17, E44_20, E44_21, E44_22, E44_23, E44_26, E44_27, E44_30, E44_31, E44_34, E44_35, E44_36, E44_37, E44_38, E44_42, E44_45, E44_46, E44_49, E44_50, E44_51, E44_52, E44_55, E44_56, E44_57, E44_58, E44_59, E44_62, E44_65, E44_66, E44_69, E44_70, E44_73, E44_74, E44_75, E44_76, E44_77, E44_80, E44_81, E44_82, E44_85, E44_86, E44_87, E44_90, E44_93, E44_94, E44_97, E44_100, rfs, rfn, cs0, csi, csl, csr, csn, kti, ktl, ktr, ktn, ktv, ktf, true_and, and_true, and_self, ↓reduceIte, Nat.reduceAdd, Nat.reduceSub, Nat.reduceMul, Nat.reduceLT, Nat.reduceLeDiff, Nat.reduceEqDiff, true_or, or_true, false_or, or_false, not_true_eq_false, not_false_eq_true, reduceCtorEq, cmp_lt, cmp_gt, cmp_eq, Int32.reduceAdd, Int32.reduceSub, Int32.reduceMul, Int32.reduceLT, Int32.reduceToNatClampNeg, eq_self, ne_eq, Int64.reduceAdd, Int64.reduceSub, Int64.reduceMul, Int64.reduceLT, o0, r5, r8, RR, mt.1.2, i0, show (0 : Int32).toNatClampNeg = 0 from rfl, a0.1, h9, g1, e1, g3, s3, sI, s2, j4, k4, ht]
      exact go
theorem crK {r t H : Nat} {pc : Nat → Nat} (hP : PlS S R P c n) (hI : PlI I P c n w) (hV : PlV w c N n P I L) (hW : WN w c N) (hc : c ≤ 5) (hn : n < 2 ^ 24) (hN : N ≤ 64 * n) (hB : B < 2 ^ 24) (hH : H ≤ 6) (hrN : r < N) (hnu : I (P + 3) 6 = nu) (h9 : I P 9 = nI H) (hG : Gy w c nu B r t H pc H r) (hpc : ∀ k, k < H → I (P + 1) k = nI (pc k) ∧ pc k < c) (hpa : ∀ k, 1 ≤ k → k ≤ H → PaR n P c L k (Gy w c nu B r t H pc (H - k))) (hq : ∀ (J : mI) (L' : mL) (pr : Nat → Nat), PlI J P c n w → PlV w c N n P J L' → PfL P c I J L L' → J (P + 1) = I (P + 1) → (∀ k, k < H → pr k < N ∧ J (P + 2) k = nI (pr k)) → (∀ i, i < H → (ld w c nu B (pc i) (if i = 0 then r else pr (i - 1)) (pr i) ∧ Gy w c nu B r t H pc (H - (i + 1)) (pr i)) ∧ ∀ y, y < pr i → ld w c nu B (pc i) (if i = 0 then r else pr (i - 1)) y → ¬ Gy w c nu B r t H pc (H - (i + 1)) y) → Q .null S J L' R) : EvM (d + 4) 44 [.ref P, .int (nI r), .int (nI B)] S I L R Q := by
  have k := crK_lp (d := d) (w := w) (I := I) (L := L) (Q := Q) hP hW hc hn hN hB hH hrN hG hpc hq H 0 I L (fun _ => 0) (by omega) hI hV hnu h9 PfL.rf rfl hpa (fun k hk => absurd hk (by omega)) (fun k hk => absurd hk (by omega))
  rw [show nI 0 = 0 from rfl] at k
  simp only [M44, E44_0, E44_1, E44_3, E44_4, E44_7, E44_10, E44_11, E44_13, E44_16, E44_17, E44_20, E44_21, E44_22, E44_23, E44_26, E44_27, E44_30, E44_31, E44_34, E44_35, E44_36, E44_37, E44_38, E44_41, E44_42, E44_45, E44_46, E44_49, E44_50, E44_51, E44_52, E44_55, E44_56, E44_57, E44_58, E44_59, E44_62, E44_65, E44_66, E44_69, E44_70, E44_73, E44_74, E44_75, E44_76, E44_77, E44_80, E44_81, E44_82, E44_85, E44_86, E44_87, E44_90, E44_93, E44_94, E44_97, E44_100, rfs, rfn, cs0, csi, csl, csr, csn, kti, ktl, ktr, ktn, ktv, ktf, true_and, and_true, and_self, ↓reduceIte, Nat.reduceAdd, Nat.reduceSub, Nat.reduceMul, Nat.reduceLT, Nat.reduceLeDiff, Nat.reduceEqDiff, true_or, or_true, false_or, or_false, not_true_eq_false, not_false_eq_true, reduceCtorEq, cmp_lt, cmp_gt, cmp_eq, Int32.reduceAdd, Int32.reduceSub, Int32.reduceMul, Int32.reduceLT, Int32.reduceToNatClampNeg, eq_self, ne_eq, Int64.reduceAdd, Int64.reduceSub, Int64.reduceMul, Int64.reduceLT]
  exact k
/-- the PLAN laid -/
theorem lpK (hP : PlS S R P c n) (hI : PlI I P c n w) (hV : PlV w c N n P I L) (hW : WN w c N) (hc : c ≤ 5) (hn : n < 2 ^ 24) (hN : N ≤ 64 * n) (hN3 : N ≤ 2 ^ 16) (hz : SmS S R z) (hzP : z + 6 < P ∨ P + 54 + 3 * c ≤ z) (hK : StK I z c A A2 (nI th) B) (hth : th < 2 ^ 10) (hB4 : B < 2 ^ 4) (hr : rnum w A c < N) (ht : rnum w A2 c < N) (ha : irn w (rnum w A c) c = isum A c ∧ isum A c < 2 ^ 20) (ha2 : irn w (rnum w A2 c) c = isum A2 c ∧ isum A2 c < 2 ^ 20) (hC : EvC w c N P I L) (hD : PpC w c N P I L) (hq : ∀ J L', PlI J P c n w → PlV w c N n P J L' → ((∀ a, (a < P ∨ P + 54 + 3 * c ≤ a) → J a = I a) ∧ ∀ a, (a < P ∨ P + 54 + 3 * c ≤ a) → L' a = L a) → EvC w c N P J L' → PpC w c N P J L' → PlA w c N (nI th) B (rnum w A c) (rnum w A2 c) (J P 9) (J (P + 1)) (J (P + 2)) → Q .null S J L' R) : EvM (d + 6) 41 [.ref P, .ref z] S I L R Q := by
  have hP' := hP
  obtain ⟨⟨o0, -, -⟩, ⟨r0, r1, r2, r3, r4, -⟩, hF, -⟩ := hP'
  have e : pL1 P c = P + 11 + 3 * c := rfl
  have z1 := hz.2.1
  have z2 := hz.2.2.1
  have si2 : okI S (z + 2) := ⟨z2.1.1, Or.inl z2.1.2⟩
  have oF := hF.1.1
  have hB : B < 2 ^ 24 := by omega
  have z0 : (0 : Int32).toNatClampNeg = 0 := rfl
  obtain ⟨y0, b0, s0, n0, t0, -⟩ := id hK
  simp only [M41, E41_0, E41_1, E41_4, E41_4n, E41_5, E41_8, E41_11, E41_12, E41_13, E41_16, E41_16n, E41_17, E41_20, E41_23, E41_24, E41_24n, E41_25, E41_28, E41_29, E41_30, E41_32, E41_33, E41_34, E41_34n, E41_35, E41_38, E41_40, E41_43, E41_45, E41_47, E41_48, E41_51, E41_52, E41_55, E41_56, E41_57, E41_59, E41_62, E41_63, E41_63n, E41_64, E41_67, E41_68, E41_69, E41_72, E41_73, E41_76, E41_76n, E41_77, E41_77n, E41_78, E41_81, E41_84, E41_84n, E41_85, E41_85n, E41_86, E41_89, E41_92, E41_93, E41_96, E41_99, E41_100, E41_103, E41_106, E41_107, E41_108, E41_110, E41_113, E41_114, E41_116, E41_119, E41_120, E41_121, E41_123, E41_126, rfs, rfn, cs0, csi, csl, csr, csn, kti, ktl, ktr, ktn, ktv, ktf, true_and, and_true, and_self, ↓reduceIte, Nat.reduceAdd, Nat.reduceSub, Nat.reduceMul, Nat.reduceLT, Nat.reduceLeDiff, Nat.reduceEqDiff, true_or, or_true, false_or, or_false, not_true_eq_false, not_false_eq_true, reduceCtorEq, cmp_lt, cmp_gt, cmp_eq, Int32.reduceAdd, Int32.reduceSub, Int32.reduceMul, Int32.reduceLT, Int32.reduceToNatClampNeg, eq_self, ne_eq, Int64.reduceAdd, Int64.reduceSub, Int64.reduceMul, Int64.reduceLT, o0, oF, r0, sk0 hz, sr1 hz]
  refine nuK hF hI.1 hc (of_eq_true (si1 hz)) (sl1 hz) b0 ?_
  simp only [E41_0, E41_1, E41_4, E41_4n, E41_5, E41_8, E41_11, E41_12, E41_13, E41_16, E41_16n, E41_17, E41_20, E41_23, E41_24, E41_24n, E41_25, E41_28, E41_29, E41_30, E41_32, E41_33, E41_34, E41_34n, E41_35, E41_38, E41_40, E41_43, E41_45, E41_47, E41_48, E41_51, E41_52, E41_55, E41_56, E41_57, E41_59, E41_62, E41_63, E41_63n, E41_64, E41_67, E41_68, E41_69, E41_72, E41_73, E41_76, E41_76n, E41_77, E41_77n, E41_78, E41_81, E41_84, E41_84n, E41_85, E41_85n, E41_86, E41_89, E41_92, E41_93, E41_96, E41_99, E41_100, E41_103, E41_106, E41_107, E41_108, E41_110, E41_113, E41_114, E41_116, E41_119, E41_120, E41_121, E41_123, E41_126, rfs, rfn, cs0, csi, csl, csr, csn, kti, ktl, ktr, ktn, ktv, ktf, true_and, and_true, and_self, ↓reduceIte, Nat.reduceAdd, Nat.reduceSub, Nat.reduceMul, Nat.reduceLT, Nat.reduceLeDiff, Nat.reduceEqDiff, true_or, or_true, false_or, or_false, not_true_eq_false, not_false_eq_true, reduceCtorEq, cmp_lt, cmp_gt, cmp_eq, Int32.reduceAdd, Int32.reduceSub, Int32.reduceMul, Int32.reduceLT, Int32.reduceToNatClampNeg, eq_self, ne_eq, Int64.reduceAdd, Int64.reduceSub, Int64.reduceMul, Int64.reduceLT, o0, oF, r0, sk0 hz, z2.2.2]
  refine nuK hF hI.1 hc si2 z2.2.1 s0 ?_
  simp only [E41_0, E41_1, E41_4, E41_4n, E41_5, E41_8, E41_11, E41_12, E41_13, E41_16, E41_16n, E41_17, E41_20, E41_23, E41_24, E41_24n, E41_25, E41_28, E41_29, E41_30, E41_32, E41_33, E41_34, E41_34n, E41_35, E41_38, E41_40, E41_43, E41_45, E41_47, E41_48, E41_51, E41_52, E41_55, E41_56, E41_57, E41_59, E41_62, E41_63, E41_63n, E41_64, E41_67, E41_68, E41_69, E41_72, E41_73, E41_76, E41_76n, E41_77, E41_77n, E41_78, E41_81, E41_84, E41_84n, E41_85, E41_85n, E41_86, E41_89, E41_92, E41_93, E41_96, E41_99, E41_100, E41_103, E41_106, E41_107, E41_108, E41_110, E41_113, E41_114, E41_116, E41_119, E41_120, E41_121, E41_123, E41_126, rfs, rfn, cs0, csi, csl, csr, csn, kti, ktl, ktr, ktn, ktv, ktf, true_and, and_true, and_self, ↓reduceIte, Nat.reduceAdd, Nat.reduceSub, Nat.reduceMul, Nat.reduceLT, Nat.reduceLeDiff, Nat.reduceEqDiff, true_or, or_true, false_or, or_false, not_true_eq_false, not_false_eq_true, reduceCtorEq, cmp_lt, cmp_gt, cmp_eq, Int32.reduceAdd, Int32.reduceSub, Int32.reduceMul, Int32.reduceLT, Int32.reduceToNatClampNeg, eq_self, ne_eq, Int64.reduceAdd, Int64.reduceSub, Int64.reduceMul, Int64.reduceLT, o0, sk0 hz, sr4 hz, si3 hz, sl3 hz, ib0_5, z0, n0, t0]
  rw [kyA]
  by_cases gk : kyF (nI (rnum w A c)) (nI (rnum w A2 c)) (nI th) (nI B) = L P 10
  · simp only [E41_0, E41_1, E41_4, E41_4n, E41_5, E41_8, E41_11, E41_12, E41_13, E41_16, E41_16n, E41_17, E41_20, E41_23, E41_24, E41_24n, E41_25, E41_28, E41_29, E41_30, E41_32, E41_33, E41_34, E41_34n, E41_35, E41_38, E41_40, E41_43, E41_45, E41_47, E41_48, E41_51, E41_52, E41_55, E41_56, E41_57, E41_59, E41_62, E41_63, E41_63n, E41_64, E41_67, E41_68, E41_69, E41_72, E41_73, E41_76, E41_76n, E41_77, E41_77n, E41_78, E41_81, E41_84, E41_84n, E41_85, E41_85n, E41_86, E41_89, E41_92, E41_93, E41_96, E41_99, E41_100, E41_103, E41_106, E41_107, E41_108, E41_110, E41_113, E41_114, E41_116, E41_119, E41_120, E41_121, E41_123, E41_126, rfs, rfn, cs0, csi, csl, csr, csn, kti, ktl, ktr, ktn, ktv, ktf, true_and, and_true, and_self, ↓reduceIte, Nat.reduceAdd, Nat.reduceSub, Nat.reduceMul, Nat.reduceLT, Nat.reduceLeDiff, Nat.reduceEqDiff, true_or, or_true, false_or, or_false, not_true_eq_false, not_false_eq_true, reduceCtorEq, cmp_lt, cmp_gt, cmp_eq, Int32.reduceAdd, Int32.reduceSub, Int32.reduceMul, Int32.reduceLT, Int32.reduceToNatClampNeg, eq_self, ne_eq, Int64.reduceAdd, Int64.reduceSub, Int64.reduceMul, Int64.reduceLT, o0, gk]
    refine hq _ _ hI hV ⟨fun _ _ => rfl, fun _ _ => rfl⟩ hC hD ?_
    rcases hD with c1 | ⟨r', t', h', B', c1, c2, c3, c4, c5, c6⟩
    · rw [c1] at gk
      exact absurd gk (kyF_m (by omega) (by omega) hth hB4)
    · rw [c5] at gk
      obtain ⟨q0, q1, q2, q3⟩ := kyF_i (by omega) (by omega) hth hB4 (by omega) (by omega) c3 c4 gk
      rw [q0, q1, q2, q3]
      exact c6
  · have hV0 : PlV w c N n P I (va_up L P (va_up (L P) 10 (kyF (nI (rnum w A c)) (nI (rnum w A2 c)) (nI th) (nI B)))) := hV.lp
    have l10 : (va_up L P (va_up (L P) 10 (kyF (nI (rnum w A c)) (nI (rnum w A2 c)) (nI th) (nI B)))) P 10 = kyF (nI (rnum w A c)) (nI (rnum w A2 c)) (nI th) (nI B) := by rw [uu_s, uu_s]
    have l12 : (va_up L P (va_up (L P) 10 (kyF (nI (rnum w A c)) (nI (rnum w A2 c)) (nI th) (nI B)))) P 12 = L P 12 := by rw [uu_s, uu_n _ _ (by decide)]
    have lf : ∀ a, (a < P ∨ P + 54 + 3 * c ≤ a) → (va_up L P (va_up (L P) 10 (kyF (nI (rnum w A c)) (nI (rnum w A2 c)) (nI th) (nI B)))) a = L a := fun a ha => uu_n _ _ (by omega)
    simp only [E41_0, E41_1, E41_4, E41_4n, E41_5, E41_8, E41_11, E41_12, E41_13, E41_16, E41_16n, E41_17, E41_20, E41_23, E41_24, E41_24n, E41_25, E41_28, E41_29, E41_30, E41_32, E41_33, E41_34, E41_34n, E41_35, E41_38, E41_40, E41_43, E41_45, E41_47, E41_48, E41_51, E41_52, E41_55, E41_56, E41_57, E41_59, E41_62, E41_63, E41_63n, E41_64, E41_67, E41_68, E41_69, E41_72, E41_73, E41_76, E41_76n, E41_77, E41_77n, E41_78, E41_81, E41_84, E41_84n, E41_85, E41_85n, E41_86, E41_89, E41_92, E41_93, E41_96, E41_99, E41_100, E41_103, E41_106, E41_107, E41_108, E41_110, E41_113, E41_114, E41_116, E41_119, E41_120, E41_121, E41_123, E41_126, rfs, rfn, cs0, csi, csl, csr, csn, kti, ktl, ktr, ktn, ktv, ktf, true_and, and_true, and_self, ↓reduceIte, Nat.reduceAdd, Nat.reduceSub, Nat.reduceMul, Nat.reduceLT, Nat.reduceLeDiff, Nat.reduceEqDiff, true_or, or_true, false_or, or_false, not_true_eq_false, not_false_eq_true, reduceCtorEq, cmp_lt, cmp_gt, cmp_eq, Int32.reduceAdd, Int32.reduceSub, Int32.reduceMul, Int32.reduceLT, Int32.reduceToNatClampNeg, eq_self, ne_eq, Int64.reduceAdd, Int64.reduceSub, Int64.reduceMul, Int64.reduceLT, o0, gk]
    generalize va_up L P (va_up (L P) 10 (kyF (nI (rnum w A c)) (nI (rnum w A2 c)) (nI th) (nI B))) = L0 at *
    refine aaK (d := d + 1) hP hI hV0 hW hc hn hN (by omega) hz hzP hK hr ht (fun J L1 k1 k2 hJ hV1 g hnu K1 K2 => ?_)
    obtain ⟨y1, b1, s1, -⟩ := hK.pf hzP g
    simp only [E41_0, E41_1, E41_4, E41_4n, E41_5, E41_8, E41_11, E41_12, E41_13, E41_16, E41_16n, E41_17, E41_20, E41_23, E41_24, E41_24n, E41_25, E41_28, E41_29, E41_30, E41_32, E41_33, E41_34, E41_34n, E41_35, E41_38, E41_40, E41_43, E41_45, E41_47, E41_48, E41_51, E41_52, E41_55, E41_56, E41_57, E41_59, E41_62, E41_63, E41_63n, E41_64, E41_67, E41_68, E41_69, E41_72, E41_73, E41_76, E41_76n, E41_77, E41_77n, E41_78, E41_81, E41_84, E41_84n, E41_85, E41_85n, E41_86, E41_89, E41_92, E41_93, E41_96, E41_99, E41_100, E41_103, E41_106, E41_107, E41_108, E41_110, E41_113, E41_114, E41_116, E41_119, E41_120, E41_121, E41_123, E41_126, rfs, rfn, cs0, csi, csl, csr, csn, kti, ktl, ktr, ktn, ktv, ktf, true_and, and_true, and_self, ↓reduceIte, Nat.reduceAdd, Nat.reduceSub, Nat.reduceMul, Nat.reduceLT, Nat.reduceLeDiff, Nat.reduceEqDiff, true_or, or_true, false_or, or_false, not_true_eq_false, not_false_eq_true, reduceCtorEq, cmp_lt, cmp_gt, cmp_eq, Int32.reduceAdd, Int32.reduceSub, Int32.reduceMul, Int32.reduceLT, Int32.reduceToNatClampNeg, eq_self, ne_eq, Int64.reduceAdd, Int64.reduceSub, Int64.reduceMul, Int64.reduceLT, o0, r1, r2, sk0 hz, sr1 hz]
    rw [ioK hz.1 z1.1 z1.2.1 y1 hc b1]
    simp only [E41_0, E41_1, E41_4, E41_4n, E41_5, E41_8, E41_11, E41_12, E41_13, E41_16, E41_16n, E41_17, E41_20, E41_23, E41_24, E41_24n, E41_25, E41_28, E41_29, E41_30, E41_32, E41_33, E41_34, E41_34n, E41_35, E41_38, E41_40, E41_43, E41_45, E41_47, E41_48, E41_51, E41_52, E41_55, E41_56, E41_57, E41_59, E41_62, E41_63, E41_63n, E41_64, E41_67, E41_68, E41_69, E41_72, E41_73, E41_76, E41_76n, E41_77, E41_77n, E41_78, E41_81, E41_84, E41_84n, E41_85, E41_85n, E41_86, E41_89, E41_92, E41_93, E41_96, E41_99, E41_100, E41_103, E41_106, E41_107, E41_108, E41_110, E41_113, E41_114, E41_116, E41_119, E41_120, E41_121, E41_123, E41_126, rfs, rfn, cs0, csi, csl, csr, csn, kti, ktl, ktr, ktn, ktv, ktf, true_and, and_true, and_self, ↓reduceIte, Nat.reduceAdd, Nat.reduceSub, Nat.reduceMul, Nat.reduceLT, Nat.reduceLeDiff, Nat.reduceEqDiff, true_or, or_true, false_or, or_false, not_true_eq_false, not_false_eq_true, reduceCtorEq, cmp_lt, cmp_gt, cmp_eq, Int32.reduceAdd, Int32.reduceSub, Int32.reduceMul, Int32.reduceLT, Int32.reduceToNatClampNeg, eq_self, ne_eq, Int64.reduceAdd, Int64.reduceSub, Int64.reduceMul, Int64.reduceLT, sk0 hz, z2.2.2]
    rw [ioK hz.1 z2.1 z2.2.1 y1 hc s1]
    simp only [E41_0, E41_1, E41_4, E41_4n, E41_5, E41_8, E41_11, E41_12, E41_13, E41_16, E41_16n, E41_17, E41_20, E41_23, E41_24, E41_24n, E41_25, E41_28, E41_29, E41_30, E41_32, E41_33, E41_34, E41_34n, E41_35, E41_38, E41_40, E41_43, E41_45, E41_47, E41_48, E41_51, E41_52, E41_55, E41_56, E41_57, E41_59, E41_62, E41_63, E41_63n, E41_64, E41_67, E41_68, E41_69, E41_72, E41_73, E41_76, E41_76n, E41_77, E41_77n, E41_78, E41_81, E41_84, E41_84n, E41_85, E41_85n, E41_86, E41_89, E41_92, E41_93, E41_96, E41_99, E41_100, E41_103, E41_106, E41_107, E41_108, E41_110, E41_113, E41_114, E41_116, E41_119, E41_120, E41_121, E41_123, E41_126, rfs, rfn, cs0, csi, csl, csr, csn, kti, ktl, ktr, ktn, ktv, ktf, true_and, and_true, and_self, ↓reduceIte, Nat.reduceAdd, Nat.reduceSub, Nat.reduceMul, Nat.reduceLT, Nat.reduceLeDiff, Nat.reduceEqDiff, true_or, or_true, false_or, or_false, not_true_eq_false, not_false_eq_true, reduceCtorEq, cmp_lt, cmp_gt, cmp_eq, Int32.reduceAdd, Int32.reduceSub, Int32.reduceMul, Int32.reduceLT, Int32.reduceToNatClampNeg, eq_self, ne_eq, Int64.reduceAdd, Int64.reduceSub, Int64.reduceMul, Int64.reduceLT]
    refine feP (q1 := 0) (q2 := 1) rfl rfl (by decide) (by decide) hP hJ hV1 hW hc hn hN hB hnu K1 K2 (fun v J2 L2 k1' k2' hJ2 hV2 g2 hnu2 _ K2' hFe => ?_)
    have mh : MinH w c (nI th) B (rnum w A c) (rnum w A2 c) v := hFe.min hW.1 hW.2.1 (by
      rw [ha.1, ha2.1]
      exact losI ha.2 ha2.2)
    have g12 := g.tr g2
    have hJ3 := hJ2.pt (k := 9) (x := v)
    have hV3 := hV2.pt (k := 9) (x := v)
    have p9 : put J2 P 9 v P 9 = v := pt_s
    have fin : ∀ J4 L4, PlI J4 P c n w → PlV w c N n P J4 L4 → PfL P c (put J2 P 9 v) J4 L2 L4 → PlA w c N (nI th) B (rnum w A c) (rnum w A2 c) v (J4 (P + 1)) (J4 (P + 2)) → Q .null S J4 L4 R := fun J4 L4 x1 x2 x3 x4 => by
      have jP : J4 P = put J2 P 9 v P := x3.1 P (by omega)
      have lP : L4 P = L0 P := (x3.2 P (by omega)).trans (g12.2 P (by omega))
      have j9 : J4 P 9 = v := by rw [jP]; exact p9
      have j11 : J4 P 11 = I P 11 := by rw [jP, pt_f (by decide), g12.1 P (by omega)]
      refine hq J4 L4 x1 x2 ⟨fun a ha => ?_, fun a ha => ?_⟩ (hC.i j11 (by rw [lP]; exact l12)) (Or.inr ⟨_, _, th, B, hr, ht, hth, hB4, by rw [lP]; exact l10, by rw [j9]; exact x4⟩) (by rw [j9]; exact x4)
      · rw [x3.1 a (by omega), pt_n (by omega), g12.1 a (by omega)]
      · rw [x3.2 a (by omega), g12.2 a (by omega), lf a ha]
    by_cases gv : 0 < v
    · obtain ⟨H, hH, hv, hl, hno⟩ : ∃ H, H ≤ 6 ∧ v = nI H ∧ LvD true w c (nI th) B (rnum w A c) H (rnum w A2 c) ∧ ∀ h', h' < H → ¬ LvD true w c (nI th) B (rnum w A c) h' (rnum w A2 c) := by
        rcases mh with ⟨m1, _⟩ | m
        · rw [m1] at gv
          exact absurd gv (by decide)
        · exact m
      have hH1 : 1 ≤ H := by
        refine Nat.one_le_iff_ne_zero.mpr (fun z => ?_)
        rw [hv, z] at gv
        exact absurd gv (by decide)
      have hback : LvD false w c (nI th) B (rnum w A2 c) H (rnum w A c) := by
        have q := (LvD_meet (w := w) (c := c) (B := B) (r := rnum w A c) (t := rnum w A2 c) (nu := nI th) H 0).mpr (by rw [Nat.zero_add]; exact hl)
        obtain ⟨x, x1, x2⟩ := q
        have x1' : x = rnum w A c := x1
        rw [← x1']
        exact x2
      subst hv
      have hnu3 : put J2 P 9 (nI H) (P + 3) 6 = nI th := by rw [pt_n (by omega)]; exact hnu2
      simp only [E41_0, E41_1, E41_4, E41_4n, E41_5, E41_8, E41_11, E41_12, E41_13, E41_16, E41_16n, E41_17, E41_20, E41_23, E41_24, E41_24n, E41_25, E41_28, E41_29, E41_30, E41_32, E41_33, E41_34, E41_34n, E41_35, E41_38, E41_40, E41_43, E41_45, E41_47, E41_48, E41_51, E41_52, E41_55, E41_56, E41_57, E41_59, E41_62, E41_63, E41_63n, E41_64, E41_67, E41_68, E41_69, E41_72, E41_73, E41_76, E41_76n, E41_77, E41_77n, E41_78, E41_81, E41_84, E41_84n, E41_85, E41_85n, E41_86, E41_89, E41_92, E41_93, E41_96, E41_99, E41_100, E41_103, E41_106, E41_107, E41_108, E41_110, E41_113, E41_114, E41_116, E41_119, E41_120, E41_121, E41_123, E41_126, rfs, rfn, cs0, csi, csl, csr, csn, kti, ktl, ktr, ktn, ktv, ktf, true_and, and_true, and_self, ↓reduceIte, Nat.reduceAdd, Nat.reduceSub, Nat.reduceMul, Nat.reduceLT, Nat.reduceLeDiff, Nat.reduceEqDiff, true_or, or_true, false_or, or_false, not_true_eq_false, not_false_eq_true, reduceCtorEq, cmp_lt, cmp_gt, cmp_eq, Int32.reduceAdd, Int32.reduceSub, Int32.reduceMul, Int32.reduceLT, Int32.reduceToNatClampNeg, eq_self, ne_eq, Int64.reduceAdd, Int64.reduceSub, Int64.reduceMul, Int64.reduceLT, o0, pt, pt_s, gv]
      refine ccK (d := d) (t := rnum w A2 c) hP hW hc hn hN hB hH hback hr ⟨hJ3, hV3, hnu3, K2'.mono (pt_n (by omega)) (fun _ _ _ => rfl), p9⟩ (fun J4 L4 kb pc hC4 fr4 hp4 => ?_)
      obtain ⟨hJ4, hV4, hnu4, K4, h94⟩ := hC4
      simp only [E41_0, E41_1, E41_4, E41_4n, E41_5, E41_8, E41_11, E41_12, E41_13, E41_16, E41_16n, E41_17, E41_20, E41_23, E41_24, E41_24n, E41_25, E41_28, E41_29, E41_30, E41_32, E41_33, E41_34, E41_34n, E41_35, E41_38, E41_40, E41_43, E41_45, E41_47, E41_48, E41_51, E41_52, E41_55, E41_56, E41_57, E41_59, E41_62, E41_63, E41_63n, E41_64, E41_67, E41_68, E41_69, E41_72, E41_73, E41_76, E41_76n, E41_77, E41_77n, E41_78, E41_81, E41_84, E41_84n, E41_85, E41_85n, E41_86, E41_89, E41_92, E41_93, E41_96, E41_99, E41_100, E41_103, E41_106, E41_107, E41_108, E41_110, E41_113, E41_114, E41_116, E41_119, E41_120, E41_121, E41_123, E41_126, rfs, rfn, cs0, csi, csl, csr, csn, kti, ktl, ktr, ktn, ktv, ktf, true_and, and_true, and_self, ↓reduceIte, Nat.reduceAdd, Nat.reduceSub, Nat.reduceMul, Nat.reduceLT, Nat.reduceLeDiff, Nat.reduceEqDiff, true_or, or_true, false_or, or_false, not_true_eq_false, not_false_eq_true, reduceCtorEq, cmp_lt, cmp_gt, cmp_eq, Int32.reduceAdd, Int32.reduceSub, Int32.reduceMul, Int32.reduceLT, Int32.reduceToNatClampNeg, eq_self, ne_eq, Int64.reduceAdd, Int64.reduceSub, Int64.reduceMul, Int64.reduceLT, o0]
      refine tpK (d := d + 1) (r := rnum w A c) (t := rnum w A2 c) (pc := pc) hP hJ4 hV4 hW hc hn hN hB hH hH1 hr hnu4 h94 hp4 (fun L5 hV5 fr5 hpa5 => ?_)
      simp only [E41_0, E41_1, E41_4, E41_4n, E41_5, E41_8, E41_11, E41_12, E41_13, E41_16, E41_16n, E41_17, E41_20, E41_23, E41_24, E41_24n, E41_25, E41_28, E41_29, E41_30, E41_32, E41_33, E41_34, E41_34n, E41_35, E41_38, E41_40, E41_43, E41_45, E41_47, E41_48, E41_51, E41_52, E41_55, E41_56, E41_57, E41_59, E41_62, E41_63, E41_63n, E41_64, E41_67, E41_68, E41_69, E41_72, E41_73, E41_76, E41_76n, E41_77, E41_77n, E41_78, E41_81, E41_84, E41_84n, E41_85, E41_85n, E41_86, E41_89, E41_92, E41_93, E41_96, E41_99, E41_100, E41_103, E41_106, E41_107, E41_108, E41_110, E41_113, E41_114, E41_116, E41_119, E41_120, E41_121, E41_123, E41_126, rfs, rfn, cs0, csi, csl, csr, csn, kti, ktl, ktr, ktn, ktv, ktf, true_and, and_true, and_self, ↓reduceIte, Nat.reduceAdd, Nat.reduceSub, Nat.reduceMul, Nat.reduceLT, Nat.reduceLeDiff, Nat.reduceEqDiff, true_or, or_true, false_or, or_false, not_true_eq_false, not_false_eq_true, reduceCtorEq, cmp_lt, cmp_gt, cmp_eq, Int32.reduceAdd, Int32.reduceSub, Int32.reduceMul, Int32.reduceLT, Int32.reduceToNatClampNeg, eq_self, ne_eq, Int64.reduceAdd, Int64.reduceSub, Int64.reduceMul, Int64.reduceLT, o0]
      have hG : Gy w c (nI th) B (rnum w A c) (rnum w A2 c) H pc H (rnum w A c) := by
        obtain ⟨x, hx⟩ := Gy_on hp4.2.2 H (Nat.le_refl _)
        have := Gy_w hx
        rw [Nat.sub_self] at this
        have x0 : x = rnum w A c := this
        rw [← x0]
        rw [← x0] at hx
        exact hx
      refine crK (d := d + 1) (r := rnum w A c) (t := rnum w A2 c) (pc := pc) hP hJ4 hV5 hW hc hn hN hB hH hr hnu4 h94 hG (fun k hk => ⟨(hp4.1 k hk).1, (hp4.1 k hk).2.1⟩) hpa5 (fun J6 L6 pr hJ6 hV6 fr6 f61 hpr hps => ?_)
      try simp only [E41_0, E41_1, E41_4, E41_4n, E41_5, E41_8, E41_11, E41_12, E41_13, E41_16, E41_16n, E41_17, E41_20, E41_23, E41_24, E41_24n, E41_25, E41_28, E41_29, E41_30, E41_32, E41_33, E41_34, E41_34n, E41_35, E41_38, E41_40, E41_43, E41_45, E41_47, E41_48, E41_51, E41_52, E41_55, E41_56, E41_57, E41_59, E41_62, E41_63, E41_63n, E41_64, E41_67, E41_68, E41_69, E41_72, E41_73, E41_76, E41_76n, E41_77, E41_77n, E41_78, E41_81, E41_84, E41_84n, E41_85, E41_85n, E41_86, E41_89, E41_92, E41_93, E41_96, E41_99, E41_100, E41_103, E41_106, E41_107, E41_108, E41_110, E41_113, E41_114, E41_116, E41_119, E41_120, E41_121, E41_123, E41_126, rfs, rfn, cs0, csi, csl, csr, csn, kti, ktl, ktr, ktn, ktv, ktf, true_and, and_true, and_self, ↓reduceIte, Nat.reduceAdd, Nat.reduceSub, Nat.reduceMul, Nat.reduceLT, Nat.reduceLeDiff, Nat.reduceEqDiff, true_or, or_true, false_or, or_false, not_true_eq_false, not_false_eq_true, reduceCtorEq, cmp_lt, cmp_gt, cmp_eq, Int32.reduceAdd, Int32.reduceSub, Int32.reduceMul, Int32.reduceLT, Int32.reduceToNatClampNeg, eq_self, ne_eq, Int64.reduceAdd, Int64.reduceSub, Int64.reduceMul, Int64.reduceLT]
      refine fin J6 L6 hJ6 hV6 ((fr4.tr fr5).tr fr6) ⟨Or.inr ⟨H, hH, rfl, hl, hno⟩, fun H' hH' eH => ?_⟩
      obtain rfl : H = H' := (nI_eq (by omega) (by omega)).mp eH
      refine ⟨pc, pr, fun i hi => ?_, hpr, fun i hi => ?_, hps⟩
      · rw [f61]
        exact (hp4.1 i hi).1
      · exact ⟨(hp4.1 i hi).2.1, (hp4.1 i hi).2.2⟩
    · simp only [E41_0, E41_1, E41_4, E41_4n, E41_5, E41_8, E41_11, E41_12, E41_13, E41_16, E41_16n, E41_17, E41_20, E41_23, E41_24, E41_24n, E41_25, E41_28, E41_29, E41_30, E41_32, E41_33, E41_34, E41_34n, E41_35, E41_38, E41_40, E41_43, E41_45, E41_47, E41_48, E41_51, E41_52, E41_55, E41_56, E41_57, E41_59, E41_62, E41_63, E41_63n, E41_64, E41_67, E41_68, E41_69, E41_72, E41_73, E41_76, E41_76n, E41_77, E41_77n, E41_78, E41_81, E41_84, E41_84n, E41_85, E41_85n, E41_86, E41_89, E41_92, E41_93, E41_96, E41_99, E41_100, E41_103, E41_106, E41_107, E41_108, E41_110, E41_113, E41_114, E41_116, E41_119, E41_120, E41_121, E41_123, E41_126, rfs, rfn, cs0, csi, csl, csr, csn, kti, ktl, ktr, ktn, ktv, ktf, true_and, and_true, and_self, ↓reduceIte, Nat.reduceAdd, Nat.reduceSub, Nat.reduceMul, Nat.reduceLT, Nat.reduceLeDiff, Nat.reduceEqDiff, true_or, or_true, false_or, or_false, not_true_eq_false, not_false_eq_true, reduceCtorEq, cmp_lt, cmp_gt, cmp_eq, Int32.reduceAdd, Int32.reduceSub, Int32.reduceMul, Int32.reduceLT, Int32.reduceToNatClampNeg, eq_self, ne_eq, Int64.reduceAdd, Int64.reduceSub, Int64.reduceMul, Int64.reduceLT, o0, pt, pt_s, gv]
      refine fin _ _ hJ3 hV3 PfL.rf ⟨mh, fun H hH eH => ?_⟩
      have h0 : H = 0 := by
        refine Nat.eq_zero_of_not_pos (fun z => gv ?_)
        rw [eH]
        exact nI_lt (a := 0) z (by omega)
      subst h0
      exact ⟨fun _ => 0, fun _ => 0, fun i hi => absurd hi (by omega), fun i hi => absurd hi (by omega), fun i hi => absurd hi (by omega), fun i hi => absurd hi (by omega)⟩
end HK
