/-! class Reader: sums and parts -/
def RdK (I J : mI) : Prop := (∀ a, a < 14 ∨ 19 < a → J a = I a) ∧ J 14 10 = I 14 10 ∧ (Cl I → Cl J)
def decB (I : mI) : mI := put I 14 10 (I 14 10 - 1)
section RK
variable {I J K : mI} {w x : Int32} {k : Nat}
theorem RdK.rf : RdK I I := ⟨fun _ _ => rfl, rfl, id⟩
theorem RdK.tr (h : RdK I J) (g : RdK J K) : RdK I K := ⟨fun a q => (g.1 a q).trans (h.1 a q), g.2.1.trans h.2.1, fun c => g.2.2 (h.2.2 c)⟩
theorem RdK.pk (h : RdK I J) (h1 : ¬ 1 = k) (h2 : ¬ 10 = k) : RdK I (put J 14 k x) := ⟨fun a q => (pt_n (by omega)).trans (h.1 a q), (pt_f h2).trans h.2.1, fun c => by
  obtain ⟨n, g, e⟩ := h.2.2 c
  exact ⟨n, g, (pt_f h1).trans e⟩⟩
theorem RdK.ad (h : RdK I J) : RdK I (advF J) := h.pk (by decide) (by decide)
theorem RdK.fa (h : RdK I J) : RdK I (faiF J) := by
  unfold faiF
  split
  · exact h.pk (by decide) (by decide)
  · exact h
theorem RdK.ta (h : RdK I J) : RdK I (takF J w) := by
  unfold takF
  repeat' split
  all_goals first | exact h | exact h.ad | exact h.pk (by decide) (by decide)
theorem RdK.co (h : RdK I J) (g : J 14 1 < 416) : RdK I (put (put J 15 (J 14 1).toNatClampNeg w) 14 1 (J 14 1 + 1)) := by
  refine ⟨fun a q => ?_, ?_, fun c => ?_⟩
  · rw [pt_n (by omega), pt_n (by omega)]
    exact h.1 a q
  · rw [pt_f (by decide), pt_n (by decide)]
    exact h.2.1
  · obtain ⟨n, q, e⟩ := (h.2.2 c).lt g
    exact ⟨n + 1, by omega, by rw [pt_s, e, nI_1]⟩
theorem RdK.em (h : RdK I J) : RdK I (emiF J w) := by
  unfold emiF
  split
  · exact h.co (by assumption)
  · exact h
theorem RdK.nu (h : RdK I J) : RdK I (numF J w) := by
  unfold numF
  split
  · split
    · exact h.pk (by decide) (by decide)
    · rename_i q
      exact (h.co (Classical.byContradiction fun z => q (Or.inr (Or.inr z)))).ad
  · exact h
theorem ent_no (h : RdK I J) (hb : entB J w = false) : RdK I (entF J w) := by
  unfold entF
  split
  · split
    · rename_i q1 q2
      exact absurd (decide_eq_true (p := rokB J = true ∧ tok J = -100 - w ∧ J 14 10 < 8) ⟨q1, q2⟩) (by show ¬ entB J w = true; rw [hb]; decide)
    · exact h.pk (by decide) (by decide)
  · exact h
theorem ent_is (hb : entB J w = true) : entF J w = advF (put J 14 10 (J 14 10 + 1)) ∧ J 14 10 < 8 := by
  have g : rokB J = true ∧ tok J = -100 - w ∧ J 14 10 < 8 := of_decide_eq_true hb
  unfold entF
  rw [if_pos g.1, if_pos g.2]
  exact ⟨rfl, g.2.2⟩
theorem ent_cl (hb : entB J w = true) (hc : Cl J) : Cl (entF J w) := by
  rw [(ent_is hb).1]
  obtain ⟨n, g, e⟩ := hc
  exact ⟨n, g, by rw [show advF (put J 14 10 (J 14 10 + 1)) 14 1 = J 14 1 from (pt_f (by decide)).trans (pt_f (by decide))]; exact e⟩
theorem ent_br (hb : entB J w = true) : entF J w 14 10 = J 14 10 + 1 := by
  rw [(ent_is hb).1]
  exact (pt_f (by decide)).trans pt_s
theorem RdK.nest {s : mI → mI} (hs : ∀ I, RdK I (s I)) (h : RdK I J) (hb : entB J w = true) : RdK I (decB (s (entF J w))) := by
  have q := hs (entF J w)
  refine ⟨fun a g => ?_, ?_, fun c => ?_⟩
  · show put _ 14 10 _ a = _
    rw [pt_n (by omega), q.1 a g, (ent_is hb).1]
    show put (put J 14 10 _) 14 8 _ a = _
    rw [pt_n (by omega), pt_n (by omega)]
    exact h.1 a g
  · show put _ 14 10 _ 14 10 = _
    rw [pt_s, q.2.1, ent_br hb, h.2.1]
    exact Int32.add_sub_cancel _ _
  · obtain ⟨n, g, e⟩ := q.2.2 (ent_cl hb (h.2.2 c))
    exact ⟨n, g, (pt_f (by decide)).trans e⟩
end RK
def sumL (p : mI → mI) : Nat → mI → mI
  | 0, I => I
  | n + 1, I => if seeB I (-143) = true then sumL p n (emiF (p (advF I)) (-8)) else if seeB I (-145) = true then sumL p n (emiF (p (advF I)) (-9)) else I
def sumF (p : mI → mI) (I : mI) : mI := sumL p 400 (p I)
def partK (s : mI → mI) (K : mI) (w : Int32) : mI := if seeB K (-191) = true then (if entB K 91 = true then takF (decB (s (entF K 91))) (-193) else entF K 91) else if w = -5 ∨ w = -6 then (if entB (advF K) 40 = true then emiF (takF (decB (s (entF (advF K) 40))) (-141)) w else entF (advF K) 40) else if -1 < w then numF K 99 else if w < -4 then numF K 99 else emiF (advF K) w
def paJ (I : mI) : mI := if I 14 9 < 60 then I else faiF I
def paK (I : mI) : mI := put (paJ I) 14 9 (paJ I 14 9 + 1)
def partG (s : mI → mI) (I : mI) : mI := if paJ I 14 5 = -1 then partK s (paK I) (nowF (paK I) - -40) else paJ I
def partF : Nat → mI → mI
  | 0 => partG id
  | b + 1 => partG (sumF (partF b))
theorem sumL_k {p : mI → mI} (hp : ∀ I, RdK I (p I)) : ∀ (n : Nat) (I : mI), RdK I (sumL p n I)
  | 0, _ => RdK.rf
  | n + 1, I => by
    unfold sumL
    split
    · exact (((RdK.rf.ad).tr (hp _)).em).tr (sumL_k hp n _)
    · split
      · exact (((RdK.rf.ad).tr (hp _)).em).tr (sumL_k hp n _)
      · exact RdK.rf
theorem sumF_k {p : mI → mI} (hp : ∀ I, RdK I (p I)) (I : mI) : RdK I (sumF p I) := (hp I).tr (sumL_k hp _ _)
theorem partK_k {s : mI → mI} (hs : ∀ I, RdK I (s I)) (K : mI) (w : Int32) : RdK K (partK s K w) := by
  unfold partK
  split
  · split
    · exact (RdK.rf.nest hs (by assumption)).ta
    · exact ent_no RdK.rf (Bool.eq_false_iff.mpr (by assumption))
  · split
    · split
      · exact (RdK.rf.ad.nest hs (by assumption)).ta.em
      · exact ent_no RdK.rf.ad (Bool.eq_false_iff.mpr (by assumption))
    · split
      · exact RdK.rf.nu
      · split
        · exact RdK.rf.nu
        · exact RdK.rf.ad.em
theorem paJ_k (I : mI) : RdK I (paJ I) := by
  unfold paJ
  split
  · exact RdK.rf
  · exact RdK.rf.fa
theorem paK_k (I : mI) : RdK I (paK I) := (paJ_k I).pk (by decide) (by decide)
theorem partG_k {s : mI → mI} (hs : ∀ I, RdK I (s I)) (I : mI) : RdK I (partG s I) := by
  unfold partG
  split
  · exact (paK_k I).tr (partK_k hs _ _)
  · exact paJ_k I
theorem partF_k : ∀ (b : Nat) (I : mI), RdK I (partF b I)
  | 0, I => partG_k (fun _ => RdK.rf) I
  | b + 1, I => partG_k (sumF_k (partF_k b)) I
section RD
variable {D : Nat} {S : mS} {R : mR}
theorem sum_lp {p : mI → mI} {x : Int32} (hS : Pm S) (hR : Pr R) (hk : ∀ I, RdK I (p I)) (hp : ∀ (I : mI) (L : mL) (Q : mQ), Cl I → I 14 10 = x → EvM (D + 1) 58 [.ref 14] S I L R Q = Q .null S (p I) L R) : ∀ (n i : Nat) (y : Value) (I : mI) (L : mL) (Q : mQ), i + n = 400 → Cl I → I 14 10 = x → Ev (D + 2) 57 6 [.ref 14, .int (nI i), y] [] S I L R Q = Q .null S (sumL p n I) L R := by
  intro n
  induction n with
  | zero =>
    intro i y I L Q hi hc hx
    obtain rfl : i = 400 := by omega
    have e : (nI 400 < (400 : Int32)) = False := eq_false (by decide)
    rw [E57_6]
    simp only [E57_0, E57_1, E57_4, E57_5, E57_7, E57_10, E57_13, E57_14, E57_17, E57_20, E57_23, E57_24, E57_27, E57_30, E57_33, E57_34, E57_37, E57_40, E57_43, E57_45, E57_48, E57_50, E57_51, E57_52, E57_53, E57_56, E57_57, E57_58, E57_61, E57_62, E57_65, E57_66, E57_67, E57_70, E57_73, E57_76, pk14 hS, pk15 hS, pl15 hS, pa15 hS, pi15 hS, pk16 hS, pl16 hS, pa16 hS, pi16 hS, pk17 hS, pl17 hS, pa17 hS, pi17 hS, pk18 hS, pl18 hS, pa18 hS, pi18 hS, pk19 hS, pl19 hS, pa19 hS, pi19 hS, pr14_0 hR, pr14_2 hR, pr14_3 hR, pr14_6 hR, pr14_7 hR, rfs, rfn, cs0, csi, csl, csr, csn, kti, ktl, ktr, ktn, ktv, ktf, true_and, and_true, and_self, ↓reduceIte, Nat.reduceAdd, Nat.reduceSub, Nat.reduceMul, Nat.reduceLT, Nat.reduceLeDiff, Nat.reduceEqDiff, true_or, or_true, false_or, or_false, not_true_eq_false, not_false_eq_true, reduceCtorEq, cmp_lt, cmp_gt, cmp_eq, Int32.reduceAdd, Int32.reduceSub, Int32.reduceMul, Int32.reduceLT, Int32.reduceToNatClampNeg, eq_self, ne_eq, Int64.reduceAdd, Int64.reduceSub, Int64.reduceMul, Int64.reduceLT, n1_0, bI_t, bI_f, Bool.false_eq_true, pt, e]
    rfl
  | succ n ih =>
    intro i y I L Q hi hc hx
    have e1 : (nI i < (400 : Int32)) = True := eq_true (nI_lt (a := i) (b := 400) (by omega) (by decide))
    have ka := (RdK.rf (I := I)).ad
    have q := fun Q => hp (advF I) L Q (ka.2.2 hc) (ka.2.1.trans hx)
    have kp := ka.tr (hk (advF I))
    have m1 := fun Q => emi (Q := Q) (d := D) (L := L) (w := -8) hS hR (kp.2.2 hc)
    have m2 := fun Q => emi (Q := Q) (d := D) (L := L) (w := -9) hS hR (kp.2.2 hc)
    have ea : put I 14 8 (I 14 8 + 1) = advF I := rfl
    rw [E57_6]
    unfold sumL
    cases g1 : seeB I (-143) with
    | true =>
      simp only [E57_0, E57_1, E57_4, E57_5, E57_7, E57_10, E57_13, E57_14, E57_17, E57_20, E57_23, E57_24, E57_27, E57_30, E57_33, E57_34, E57_37, E57_40, E57_43, E57_45, E57_48, E57_50, E57_51, E57_52, E57_53, E57_56, E57_57, E57_58, E57_61, E57_62, E57_65, E57_66, E57_67, E57_70, E57_73, E57_76, pk14 hS, pk15 hS, pl15 hS, pa15 hS, pi15 hS, pk16 hS, pl16 hS, pa16 hS, pi16 hS, pk17 hS, pl17 hS, pa17 hS, pi17 hS, pk18 hS, pl18 hS, pa18 hS, pi18 hS, pk19 hS, pl19 hS, pa19 hS, pi19 hS, pr14_0 hR, pr14_2 hR, pr14_3 hR, pr14_6 hR, pr14_7 hR, rfs, rfn, cs0, csi, csl, csr, csn, kti, ktl, ktr, ktn, ktv, ktf, true_and, and_true, and_self, ↓reduceIte, Nat.reduceAdd, Nat.reduceSub, Nat.reduceMul, Nat.reduceLT, Nat.reduceLeDiff, Nat.reduceEqDiff, true_or, or_true, false_or, or_false, not_true_eq_false, not_false_eq_true, reduceCtorEq, cmp_lt, cmp_gt, cmp_eq, Int32.reduceAdd, Int32.reduceSub, Int32.reduceMul, Int32.reduceLT, Int32.reduceToNatClampNeg, eq_self, ne_eq, Int64.reduceAdd, Int64.reduceSub, Int64.reduceMul, Int64.reduceLT, n1_0, bI_t, bI_f, Bool.false_eq_true, pt, e1, see hS hR, g1, ea, q, m1, nI_1]
      exact ih (i + 1) _ _ _ _ (by omega) (kp.em.2.2 hc) (kp.em.2.1.trans hx)
    | false =>
      cases g2 : seeB I (-145) with
      | true =>
        simp only [E57_0, E57_1, E57_4, E57_5, E57_7, E57_10, E57_13, E57_14, E57_17, E57_20, E57_23, E57_24, E57_27, E57_30, E57_33, E57_34, E57_37, E57_40, E57_43, E57_45, E57_48, E57_50, E57_51, E57_52, E57_53, E57_56, E57_57, E57_58, E57_61, E57_62, E57_65, E57_66, E57_67, E57_70, E57_73, E57_76, pk14 hS, pk15 hS, pl15 hS, pa15 hS, pi15 hS, pk16 hS, pl16 hS, pa16 hS, pi16 hS, pk17 hS, pl17 hS, pa17 hS, pi17 hS, pk18 hS, pl18 hS, pa18 hS, pi18 hS, pk19 hS, pl19 hS, pa19 hS, pi19 hS, pr14_0 hR, pr14_2 hR, pr14_3 hR, pr14_6 hR, pr14_7 hR, rfs, rfn, cs0, csi, csl, csr, csn, kti, ktl, ktr, ktn, ktv, ktf, true_and, and_true, and_self, ↓reduceIte, Nat.reduceAdd, Nat.reduceSub, Nat.reduceMul, Nat.reduceLT, Nat.reduceLeDiff, Nat.reduceEqDiff, true_or, or_true, false_or, or_false, not_true_eq_false, not_false_eq_true, reduceCtorEq, cmp_lt, cmp_gt, cmp_eq, Int32.reduceAdd, Int32.reduceSub, Int32.reduceMul, Int32.reduceLT, Int32.reduceToNatClampNeg, eq_self, ne_eq, Int64.reduceAdd, Int64.reduceSub, Int64.reduceMul, Int64.reduceLT, n1_0, bI_t, bI_f, Bool.false_eq_true, pt, e1, see hS hR, g1, g2, ea, q, m2, nI_1]
        exact ih (i + 1) _ _ _ _ (by omega) (kp.em.2.2 hc) (kp.em.2.1.trans hx)
      | false => simp only [E57_0, E57_1, E57_4, E57_5, E57_7, E57_10, E57_13, E57_14, E57_17, E57_20, E57_23, E57_24, E57_27, E57_30, E57_33, E57_34, E57_37, E57_40, E57_43, E57_45, E57_48, E57_50, E57_51, E57_52, E57_53, E57_56, E57_57, E57_58, E57_61, E57_62, E57_65, E57_66, E57_67, E57_70, E57_73, E57_76, pk14 hS, pk15 hS, pl15 hS, pa15 hS, pi15 hS, pk16 hS, pl16 hS, pa16 hS, pi16 hS, pk17 hS, pl17 hS, pa17 hS, pi17 hS, pk18 hS, pl18 hS, pa18 hS, pi18 hS, pk19 hS, pl19 hS, pa19 hS, pi19 hS, pr14_0 hR, pr14_2 hR, pr14_3 hR, pr14_6 hR, pr14_7 hR, rfs, rfn, cs0, csi, csl, csr, csn, kti, ktl, ktr, ktn, ktv, ktf, true_and, and_true, and_self, ↓reduceIte, Nat.reduceAdd, Nat.reduceSub, Nat.reduceMul, Nat.reduceLT, Nat.reduceLeDiff, Nat.reduceEqDiff, true_or, or_true, false_or, or_false, not_true_eq_false, not_false_eq_true, reduceCtorEq, cmp_lt, cmp_gt, cmp_eq, Int32.reduceAdd, Int32.reduceSub, Int32.reduceMul, Int32.reduceLT, Int32.reduceToNatClampNeg, eq_self, ne_eq, Int64.reduceAdd, Int64.reduceSub, Int64.reduceMul, Int64.reduceLT, n1_0, bI_t, bI_f, Bool.false_eq_true, pt, e1, see hS hR, g1, g2]
theorem sum_of {p : mI → mI} {x : Int32} (hS : Pm S) (hR : Pr R) (hk : ∀ I, RdK I (p I)) (hp : ∀ (I : mI) (L : mL) (Q : mQ), Cl I → I 14 10 = x → EvM (D + 1) 58 [.ref 14] S I L R Q = Q .null S (p I) L R) {I : mI} {L : mL} {Q : mQ} (hc : Cl I) (hx : I 14 10 = x) : EvM (D + 2) 57 [.ref 14] S I L R Q = Q .null S (sumF p I) L R := by
  have k := sum_lp (D := D) hS hR hk hp 400 0 nv (p I) L Q (by omega) ((hk I).2.2 hc) ((hk I).2.1.trans hx)
  rw [show nI 0 = 0 from rfl] at k
  have q := fun Q => hp I L Q hc hx
  simp only [M57, E57_0, E57_1, E57_4, E57_5, E57_7, E57_10, E57_13, E57_14, E57_17, E57_20, E57_23, E57_24, E57_27, E57_30, E57_33, E57_34, E57_37, E57_40, E57_43, E57_45, E57_48, E57_50, E57_51, E57_52, E57_53, E57_56, E57_57, E57_58, E57_61, E57_62, E57_65, E57_66, E57_67, E57_70, E57_73, E57_76, pk14 hS, pk15 hS, pl15 hS, pa15 hS, pi15 hS, pk16 hS, pl16 hS, pa16 hS, pi16 hS, pk17 hS, pl17 hS, pa17 hS, pi17 hS, pk18 hS, pl18 hS, pa18 hS, pi18 hS, pk19 hS, pl19 hS, pa19 hS, pi19 hS, pr14_0 hR, pr14_2 hR, pr14_3 hR, pr14_6 hR, pr14_7 hR, rfs, rfn, cs0, csi, csl, csr, csn, kti, ktl, ktr, ktn, ktv, ktf, true_and, and_true, and_self, ↓reduceIte, Nat.reduceAdd, Nat.reduceSub, Nat.reduceMul, Nat.reduceLT, Nat.reduceLeDiff, Nat.reduceEqDiff, true_or, or_true, false_or, or_false, not_true_eq_false, not_false_eq_true, reduceCtorEq, cmp_lt, cmp_gt, cmp_eq, Int32.reduceAdd, Int32.reduceSub, Int32.reduceMul, Int32.reduceLT, Int32.reduceToNatClampNeg, eq_self, ne_eq, Int64.reduceAdd, Int64.reduceSub, Int64.reduceMul, Int64.reduceLT, n1_0, bI_t, bI_f, Bool.false_eq_true, pt, q]
  exact k
theorem par_k {s : mI → mI} {x : Int32} (hS : Pm S) (hR : Pr R) (hk : ∀ I, RdK I (s I)) (hs : x < 8 → ∀ (I : mI) (L : mL) (Q : mQ), Cl I → I 14 10 = x + 1 → EvM (D + 1) 57 [.ref 14] S I L R Q = Q .null S (s I) L R) {K : mI} {w : Int32} {L : mL} {Q : mQ} (hc : Cl K) (hx : K 14 10 = x) : Ev (D + 2) 58 40 [.ref 14, .int w] [] S K L R Q = Q .null S (partK s K w) L R := by
  have ea : put K 14 8 (K 14 8 + 1) = advF K := rfl
  have ed : ∀ J : mI, put J 14 10 (J 14 10 - 1) = decB J := fun _ => rfl
  have ka := (RdK.rf (I := K)).ad
  unfold partK
  cases g1 : seeB K (-191) with
  | true =>
    cases g2 : entB K 91 with
    | true =>
      have q := fun Q => hs (by rw [← hx]; exact (ent_is g2).2) (entF K 91) L Q (ent_cl g2 hc) (by rw [ent_br g2, hx])
      simp only [E58_0, E58_1, E58_4, E58_6, E58_9, E58_10, E58_13, E58_14, E58_17, E58_18, E58_21, E58_22, E58_23, E58_24, E58_27, E58_28, E58_29, E58_32, E58_33, E58_36, E58_38, E58_39, E58_40, E58_41, E58_44, E58_47, E58_50, E58_51, E58_53, E58_56, E58_59, E58_60, E58_63, E58_64, E58_65, E58_68, E58_69, E58_70, E58_73, E58_74, E58_77, E58_80, E58_83, E58_84, E58_86, E58_89, E58_90, E58_92, E58_95, E58_96, E58_97, E58_100, E58_101, E58_102, E58_105, E58_106, E58_108, E58_111, E58_114, E58_115, E58_118, E58_119, E58_120, E58_123, E58_124, E58_125, E58_128, E58_129, E58_132, E58_135, E58_136, E58_137, E58_140, E58_143, E58_144, E58_145, E58_148, E58_149, E58_151, E58_154, E58_155, E58_156, E58_159, E58_160, E58_161, E58_164, E58_165, E58_166, E58_169, E58_172, E58_173, E58_175, E58_178, pk14 hS, pk15 hS, pl15 hS, pa15 hS, pi15 hS, pk16 hS, pl16 hS, pa16 hS, pi16 hS, pk17 hS, pl17 hS, pa17 hS, pi17 hS, pk18 hS, pl18 hS, pa18 hS, pi18 hS, pk19 hS, pl19 hS, pa19 hS, pi19 hS, pr14_0 hR, pr14_2 hR, pr14_3 hR, pr14_6 hR, pr14_7 hR, rfs, rfn, cs0, csi, csl, csr, csn, kti, ktl, ktr, ktn, ktv, ktf, true_and, and_true, and_self, ↓reduceIte, Nat.reduceAdd, Nat.reduceSub, Nat.reduceMul, Nat.reduceLT, Nat.reduceLeDiff, Nat.reduceEqDiff, true_or, or_true, false_or, or_false, not_true_eq_false, not_false_eq_true, reduceCtorEq, cmp_lt, cmp_gt, cmp_eq, Int32.reduceAdd, Int32.reduceSub, Int32.reduceMul, Int32.reduceLT, Int32.reduceToNatClampNeg, eq_self, ne_eq, Int64.reduceAdd, Int64.reduceSub, Int64.reduceMul, Int64.reduceLT, n1_0, bI_t, bI_f, Bool.false_eq_true, pt, see hS hR, entR hS hR, tak hS hR, g1, g2, q, ed]
    | false => simp only [E58_0, E58_1, E58_4, E58_6, E58_9, E58_10, E58_13, E58_14, E58_17, E58_18, E58_21, E58_22, E58_23, E58_24, E58_27, E58_28, E58_29, E58_32, E58_33, E58_36, E58_38, E58_39, E58_40, E58_41, E58_44, E58_47, E58_50, E58_51, E58_53, E58_56, E58_59, E58_60, E58_63, E58_64, E58_65, E58_68, E58_69, E58_70, E58_73, E58_74, E58_77, E58_80, E58_83, E58_84, E58_86, E58_89, E58_90, E58_92, E58_95, E58_96, E58_97, E58_100, E58_101, E58_102, E58_105, E58_106, E58_108, E58_111, E58_114, E58_115, E58_118, E58_119, E58_120, E58_123, E58_124, E58_125, E58_128, E58_129, E58_132, E58_135, E58_136, E58_137, E58_140, E58_143, E58_144, E58_145, E58_148, E58_149, E58_151, E58_154, E58_155, E58_156, E58_159, E58_160, E58_161, E58_164, E58_165, E58_166, E58_169, E58_172, E58_173, E58_175, E58_178, pk14 hS, pk15 hS, pl15 hS, pa15 hS, pi15 hS, pk16 hS, pl16 hS, pa16 hS, pi16 hS, pk17 hS, pl17 hS, pa17 hS, pi17 hS, pk18 hS, pl18 hS, pa18 hS, pi18 hS, pk19 hS, pl19 hS, pa19 hS, pi19 hS, pr14_0 hR, pr14_2 hR, pr14_3 hR, pr14_6 hR, pr14_7 hR, rfs, rfn, cs0, csi, csl, csr, csn, kti, ktl, ktr, ktn, ktv, ktf, true_and, and_true, and_self, ↓reduceIte, Nat.reduceAdd, Nat.reduceSub, Nat.reduceMul, Nat.reduceLT, Nat.reduceLeDiff, Nat.reduceEqDiff, true_or, or_true, false_or, or_false, not_true_eq_false, not_false_eq_true, reduceCtorEq, cmp_lt, cmp_gt, cmp_eq, Int32.reduceAdd, Int32.reduceSub, Int32.reduceMul, Int32.reduceLT, Int32.reduceToNatClampNeg, eq_self, ne_eq, Int64.reduceAdd, Int64.reduceSub, Int64.reduceMul, Int64.reduceLT, n1_0, bI_t, bI_f, Bool.false_eq_true, pt, see hS hR, entR hS hR, g1, g2]
  | false =>
    by_cases h5 : w = -5 ∨ w = -6
    · have h6 : ∀ P P' : Prop, (if w = -5 then P else if w = -6 then P else P') = P := fun P P' => by
        rcases h5 with h | h
        · rw [if_pos h]
        · by_cases h' : w = -5
          · rw [if_pos h']
          · rw [if_neg h', if_pos h]
      rw [if_neg (by decide), if_pos h5]
      cases g2 : entB (advF K) 40 with
      | true =>
        have q := fun Q => hs (by rw [← hx, ← ka.2.1]; exact (ent_is g2).2) (entF (advF K) 40) L Q (ent_cl g2 (ka.2.2 hc)) (by rw [ent_br g2, ka.2.1, hx])
        have m1 := fun Q => emi (Q := Q) (d := D) (L := L) (w := w) hS hR ((ka.nest hk g2).ta (w := -141) |>.2.2 hc)
        simp only [E58_0, E58_1, E58_4, E58_6, E58_9, E58_10, E58_13, E58_14, E58_17, E58_18, E58_21, E58_22, E58_23, E58_24, E58_27, E58_28, E58_29, E58_32, E58_33, E58_36, E58_38, E58_39, E58_40, E58_41, E58_44, E58_47, E58_50, E58_51, E58_53, E58_56, E58_59, E58_60, E58_63, E58_64, E58_65, E58_68, E58_69, E58_70, E58_73, E58_74, E58_77, E58_80, E58_83, E58_84, E58_86, E58_89, E58_90, E58_92, E58_95, E58_96, E58_97, E58_100, E58_101, E58_102, E58_105, E58_106, E58_108, E58_111, E58_114, E58_115, E58_118, E58_119, E58_120, E58_123, E58_124, E58_125, E58_128, E58_129, E58_132, E58_135, E58_136, E58_137, E58_140, E58_143, E58_144, E58_145, E58_148, E58_149, E58_151, E58_154, E58_155, E58_156, E58_159, E58_160, E58_161, E58_164, E58_165, E58_166, E58_169, E58_172, E58_173, E58_175, E58_178, pk14 hS, pk15 hS, pl15 hS, pa15 hS, pi15 hS, pk16 hS, pl16 hS, pa16 hS, pi16 hS, pk17 hS, pl17 hS, pa17 hS, pi17 hS, pk18 hS, pl18 hS, pa18 hS, pi18 hS, pk19 hS, pl19 hS, pa19 hS, pi19 hS, pr14_0 hR, pr14_2 hR, pr14_3 hR, pr14_6 hR, pr14_7 hR, rfs, rfn, cs0, csi, csl, csr, csn, kti, ktl, ktr, ktn, ktv, ktf, true_and, and_true, and_self, ↓reduceIte, Nat.reduceAdd, Nat.reduceSub, Nat.reduceMul, Nat.reduceLT, Nat.reduceLeDiff, Nat.reduceEqDiff, true_or, or_true, false_or, or_false, not_true_eq_false, not_false_eq_true, reduceCtorEq, cmp_lt, cmp_gt, cmp_eq, Int32.reduceAdd, Int32.reduceSub, Int32.reduceMul, Int32.reduceLT, Int32.reduceToNatClampNeg, eq_self, ne_eq, Int64.reduceAdd, Int64.reduceSub, Int64.reduceMul, Int64.reduceLT, n1_0, bI_t, bI_f, Bool.false_eq_true, pt, see hS hR, g1, h6, ea, entR hS hR, tak hS hR, g2, q, ed, m1]
      | false => simp only [E58_0, E58_1, E58_4, E58_6, E58_9, E58_10, E58_13, E58_14, E58_17, E58_18, E58_21, E58_22, E58_23, E58_24, E58_27, E58_28, E58_29, E58_32, E58_33, E58_36, E58_38, E58_39, E58_40, E58_41, E58_44, E58_47, E58_50, E58_51, E58_53, E58_56, E58_59, E58_60, E58_63, E58_64, E58_65, E58_68, E58_69, E58_70, E58_73, E58_74, E58_77, E58_80, E58_83, E58_84, E58_86, E58_89, E58_90, E58_92, E58_95, E58_96, E58_97, E58_100, E58_101, E58_102, E58_105, E58_106, E58_108, E58_111, E58_114, E58_115, E58_118, E58_119, E58_120, E58_123, E58_124, E58_125, E58_128, E58_129, E58_132, E58_135, E58_136, E58_137, E58_140, E58_143, E58_144, E58_145, E58_148, E58_149, E58_151, E58_154, E58_155, E58_156, E58_159, E58_160, E58_161, E58_164, E58_165, E58_166, E58_169, E58_172, E58_173, E58_175, E58_178, pk14 hS, pk15 hS, pl15 hS, pa15 hS, pi15 hS, pk16 hS, pl16 hS, pa16 hS, pi16 hS, pk17 hS, pl17 hS, pa17 hS, pi17 hS, pk18 hS, pl18 hS, pa18 hS, pi18 hS, pk19 hS, pl19 hS, pa19 hS, pi19 hS, pr14_0 hR, pr14_2 hR, pr14_3 hR, pr14_6 hR, pr14_7 hR, rfs, rfn, cs0, csi, csl, csr, csn, kti, ktl, ktr, ktn, ktv, ktf, true_and, and_true, and_self, ↓reduceIte, Nat.reduceAdd, Nat.reduceSub, Nat.reduceMul, Nat.reduceLT, Nat.reduceLeDiff, Nat.reduceEqDiff, true_or, or_true, false_or, or_false, not_true_eq_false, not_false_eq_true, reduceCtorEq, cmp_lt, cmp_gt, cmp_eq, Int32.reduceAdd, Int32.reduceSub, Int32.reduceMul, Int32.reduceLT, Int32.reduceToNatClampNeg, eq_self, ne_eq, Int64.reduceAdd, Int64.reduceSub, Int64.reduceMul, Int64.reduceLT, n1_0, bI_t, bI_f, Bool.false_eq_true, pt, see hS hR, g1, h6, ea, entR hS hR, g2]
    · have n5 : (w = -5) = False := eq_false (fun h => h5 (Or.inl h))
      have n6 : (w = -6) = False := eq_false (fun h => h5 (Or.inr h))
      have m1 := fun Q => emi (Q := Q) (d := D) (L := L) (w := w) hS hR (ka.2.2 hc)
      by_cases h1 : -1 < w
      · simp only [E58_0, E58_1, E58_4, E58_6, E58_9, E58_10, E58_13, E58_14, E58_17, E58_18, E58_21, E58_22, E58_23, E58_24, E58_27, E58_28, E58_29, E58_32, E58_33, E58_36, E58_38, E58_39, E58_40, E58_41, E58_44, E58_47, E58_50, E58_51, E58_53, E58_56, E58_59, E58_60, E58_63, E58_64, E58_65, E58_68, E58_69, E58_70, E58_73, E58_74, E58_77, E58_80, E58_83, E58_84, E58_86, E58_89, E58_90, E58_92, E58_95, E58_96, E58_97, E58_100, E58_101, E58_102, E58_105, E58_106, E58_108, E58_111, E58_114, E58_115, E58_118, E58_119, E58_120, E58_123, E58_124, E58_125, E58_128, E58_129, E58_132, E58_135, E58_136, E58_137, E58_140, E58_143, E58_144, E58_145, E58_148, E58_149, E58_151, E58_154, E58_155, E58_156, E58_159, E58_160, E58_161, E58_164, E58_165, E58_166, E58_169, E58_172, E58_173, E58_175, E58_178, pk14 hS, pk15 hS, pl15 hS, pa15 hS, pi15 hS, pk16 hS, pl16 hS, pa16 hS, pi16 hS, pk17 hS, pl17 hS, pa17 hS, pi17 hS, pk18 hS, pl18 hS, pa18 hS, pi18 hS, pk19 hS, pl19 hS, pa19 hS, pi19 hS, pr14_0 hR, pr14_2 hR, pr14_3 hR, pr14_6 hR, pr14_7 hR, rfs, rfn, cs0, csi, csl, csr, csn, kti, ktl, ktr, ktn, ktv, ktf, true_and, and_true, and_self, ↓reduceIte, Nat.reduceAdd, Nat.reduceSub, Nat.reduceMul, Nat.reduceLT, Nat.reduceLeDiff, Nat.reduceEqDiff, true_or, or_true, false_or, or_false, not_true_eq_false, not_false_eq_true, reduceCtorEq, cmp_lt, cmp_gt, cmp_eq, Int32.reduceAdd, Int32.reduceSub, Int32.reduceMul, Int32.reduceLT, Int32.reduceToNatClampNeg, eq_self, ne_eq, Int64.reduceAdd, Int64.reduceSub, Int64.reduceMul, Int64.reduceLT, n1_0, bI_t, bI_f, Bool.false_eq_true, pt, see hS hR, g1, n5, n6, h1, num hS hR hc]
      · by_cases h4 : w < -4
        · simp only [E58_0, E58_1, E58_4, E58_6, E58_9, E58_10, E58_13, E58_14, E58_17, E58_18, E58_21, E58_22, E58_23, E58_24, E58_27, E58_28, E58_29, E58_32, E58_33, E58_36, E58_38, E58_39, E58_40, E58_41, E58_44, E58_47, E58_50, E58_51, E58_53, E58_56, E58_59, E58_60, E58_63, E58_64, E58_65, E58_68, E58_69, E58_70, E58_73, E58_74, E58_77, E58_80, E58_83, E58_84, E58_86, E58_89, E58_90, E58_92, E58_95, E58_96, E58_97, E58_100, E58_101, E58_102, E58_105, E58_106, E58_108, E58_111, E58_114, E58_115, E58_118, E58_119, E58_120, E58_123, E58_124, E58_125, E58_128, E58_129, E58_132, E58_135, E58_136, E58_137, E58_140, E58_143, E58_144, E58_145, E58_148, E58_149, E58_151, E58_154, E58_155, E58_156, E58_159, E58_160, E58_161, E58_164, E58_165, E58_166, E58_169, E58_172, E58_173, E58_175, E58_178, pk14 hS, pk15 hS, pl15 hS, pa15 hS, pi15 hS, pk16 hS, pl16 hS, pa16 hS, pi16 hS, pk17 hS, pl17 hS, pa17 hS, pi17 hS, pk18 hS, pl18 hS, pa18 hS, pi18 hS, pk19 hS, pl19 hS, pa19 hS, pi19 hS, pr14_0 hR, pr14_2 hR, pr14_3 hR, pr14_6 hR, pr14_7 hR, rfs, rfn, cs0, csi, csl, csr, csn, kti, ktl, ktr, ktn, ktv, ktf, true_and, and_true, and_self, ↓reduceIte, Nat.reduceAdd, Nat.reduceSub, Nat.reduceMul, Nat.reduceLT, Nat.reduceLeDiff, Nat.reduceEqDiff, true_or, or_true, false_or, or_false, not_true_eq_false, not_false_eq_true, reduceCtorEq, cmp_lt, cmp_gt, cmp_eq, Int32.reduceAdd, Int32.reduceSub, Int32.reduceMul, Int32.reduceLT, Int32.reduceToNatClampNeg, eq_self, ne_eq, Int64.reduceAdd, Int64.reduceSub, Int64.reduceMul, Int64.reduceLT, n1_0, bI_t, bI_f, Bool.false_eq_true, pt, see hS hR, g1, n5, n6, h1, h4, num hS hR hc]
        · simp only [E58_0, E58_1, E58_4, E58_6, E58_9, E58_10, E58_13, E58_14, E58_17, E58_18, E58_21, E58_22, E58_23, E58_24, E58_27, E58_28, E58_29, E58_32, E58_33, E58_36, E58_38, E58_39, E58_40, E58_41, E58_44, E58_47, E58_50, E58_51, E58_53, E58_56, E58_59, E58_60, E58_63, E58_64, E58_65, E58_68, E58_69, E58_70, E58_73, E58_74, E58_77, E58_80, E58_83, E58_84, E58_86, E58_89, E58_90, E58_92, E58_95, E58_96, E58_97, E58_100, E58_101, E58_102, E58_105, E58_106, E58_108, E58_111, E58_114, E58_115, E58_118, E58_119, E58_120, E58_123, E58_124, E58_125, E58_128, E58_129, E58_132, E58_135, E58_136, E58_137, E58_140, E58_143, E58_144, E58_145, E58_148, E58_149, E58_151, E58_154, E58_155, E58_156, E58_159, E58_160, E58_161, E58_164, E58_165, E58_166, E58_169, E58_172, E58_173, E58_175, E58_178, pk14 hS, pk15 hS, pl15 hS, pa15 hS, pi15 hS, pk16 hS, pl16 hS, pa16 hS, pi16 hS, pk17 hS, pl17 hS, pa17 hS, pi17 hS, pk18 hS, pl18 hS, pa18 hS, pi18 hS, pk19 hS, pl19 hS, pa19 hS, pi19 hS, pr14_0 hR, pr14_2 hR, pr14_3 hR, pr14_6 hR, pr14_7 hR, rfs, rfn, cs0, csi, csl, csr, csn, kti, ktl, ktr, ktn, ktv, ktf, true_and, and_true, and_self, ↓reduceIte, Nat.reduceAdd, Nat.reduceSub, Nat.reduceMul, Nat.reduceLT, Nat.reduceLeDiff, Nat.reduceEqDiff, true_or, or_true, false_or, or_false, not_true_eq_false, not_false_eq_true, reduceCtorEq, cmp_lt, cmp_gt, cmp_eq, Int32.reduceAdd, Int32.reduceSub, Int32.reduceMul, Int32.reduceLT, Int32.reduceToNatClampNeg, eq_self, ne_eq, Int64.reduceAdd, Int64.reduceSub, Int64.reduceMul, Int64.reduceLT, n1_0, bI_t, bI_f, Bool.false_eq_true, pt, see hS hR, g1, n5, n6, h1, h4, ea, m1]
theorem par_of {s : mI → mI} {x : Int32} (hS : Pm S) (hR : Pr R) (hk : ∀ I, RdK I (s I)) (hs : x < 8 → ∀ (I : mI) (L : mL) (Q : mQ), Cl I → I 14 10 = x + 1 → EvM (D + 1) 57 [.ref 14] S I L R Q = Q .null S (s I) L R) {I : mI} {L : mL} {Q : mQ} (hc : Cl I) (hx : I 14 10 = x) : EvM (D + 2) 58 [.ref 14] S I L R Q = Q .null S (partG s I) L R := by
  have go : ∀ J : mI, J = paJ I → Ev (D + 2) 58 13 [.ref 14, nv] [] S J L R Q = Q .null S (partG s I) L R := by
    intro J hJ
    unfold partG
    have k := par_k (D := D) (w := nowF (paK I) - -40) (L := L) (Q := Q) hS hR hk hs ((paK_k I).2.2 hc) ((paK_k I).2.1.trans hx)
    have ek : put J 14 9 (J 14 9 + 1) = paK I := by rw [hJ]; rfl
    by_cases g : J 14 5 = -1
    · rw [← hJ, if_pos g]
      simp only [E58_0, E58_1, E58_4, E58_6, E58_9, E58_10, E58_13, E58_14, E58_17, E58_18, E58_21, E58_22, E58_23, E58_24, E58_27, E58_28, E58_29, E58_32, E58_33, E58_36, E58_38, E58_39, E58_41, E58_44, E58_47, E58_50, E58_51, E58_53, E58_56, E58_59, E58_60, E58_63, E58_64, E58_65, E58_68, E58_69, E58_70, E58_73, E58_74, E58_77, E58_80, E58_83, E58_84, E58_86, E58_89, E58_90, E58_92, E58_95, E58_96, E58_97, E58_100, E58_101, E58_102, E58_105, E58_106, E58_108, E58_111, E58_114, E58_115, E58_118, E58_119, E58_120, E58_123, E58_124, E58_125, E58_128, E58_129, E58_132, E58_135, E58_136, E58_137, E58_140, E58_143, E58_144, E58_145, E58_148, E58_149, E58_151, E58_154, E58_155, E58_156, E58_159, E58_160, E58_161, E58_164, E58_165, E58_166, E58_169, E58_172, E58_173, E58_175, E58_178, pk14 hS, pk15 hS, pl15 hS, pa15 hS, pi15 hS, pk16 hS, pl16 hS, pa16 hS, pi16 hS, pk17 hS, pl17 hS, pa17 hS, pi17 hS, pk18 hS, pl18 hS, pa18 hS, pi18 hS, pk19 hS, pl19 hS, pa19 hS, pi19 hS, pr14_0 hR, pr14_2 hR, pr14_3 hR, pr14_6 hR, pr14_7 hR, rfs, rfn, cs0, csi, csl, csr, csn, kti, ktl, ktr, ktn, ktv, ktf, true_and, and_true, and_self, ↓reduceIte, Nat.reduceAdd, Nat.reduceSub, Nat.reduceMul, Nat.reduceLT, Nat.reduceLeDiff, Nat.reduceEqDiff, true_or, or_true, false_or, or_false, not_true_eq_false, not_false_eq_true, reduceCtorEq, cmp_lt, cmp_gt, cmp_eq, Int32.reduceAdd, Int32.reduceSub, Int32.reduceMul, Int32.reduceLT, Int32.reduceToNatClampNeg, eq_self, ne_eq, Int64.reduceAdd, Int64.reduceSub, Int64.reduceMul, Int64.reduceLT, n1_0, bI_t, bI_f, Bool.false_eq_true, pt, g, ek, now hS hR]
      exact k
    · rw [← hJ, if_neg g]
      simp only [E58_0, E58_1, E58_4, E58_6, E58_9, E58_10, E58_13, E58_14, E58_17, E58_18, E58_21, E58_22, E58_23, E58_24, E58_27, E58_28, E58_29, E58_32, E58_33, E58_36, E58_38, E58_39, E58_41, E58_44, E58_47, E58_50, E58_51, E58_53, E58_56, E58_59, E58_60, E58_63, E58_64, E58_65, E58_68, E58_69, E58_70, E58_73, E58_74, E58_77, E58_80, E58_83, E58_84, E58_86, E58_89, E58_90, E58_92, E58_95, E58_96, E58_97, E58_100, E58_101, E58_102, E58_105, E58_106, E58_108, E58_111, E58_114, E58_115, E58_118, E58_119, E58_120, E58_123, E58_124, E58_125, E58_128, E58_129, E58_132, E58_135, E58_136, E58_137, E58_140, E58_143, E58_144, E58_145, E58_148, E58_149, E58_151, E58_154, E58_155, E58_156, E58_159, E58_160, E58_161, E58_164, E58_165, E58_166, E58_169, E58_172, E58_173, E58_175, E58_178, pk14 hS, pk15 hS, pl15 hS, pa15 hS, pi15 hS, pk16 hS, pl16 hS, pa16 hS, pi16 hS, pk17 hS, pl17 hS, pa17 hS, pi17 hS, pk18 hS, pl18 hS, pa18 hS, pi18 hS, pk19 hS, pl19 hS, pa19 hS, pi19 hS, pr14_0 hR, pr14_2 hR, pr14_3 hR, pr14_6 hR, pr14_7 hR, rfs, rfn, cs0, csi, csl, csr, csn, kti, ktl, ktr, ktn, ktv, ktf, true_and, and_true, and_self, ↓reduceIte, Nat.reduceAdd, Nat.reduceSub, Nat.reduceMul, Nat.reduceLT, Nat.reduceLeDiff, Nat.reduceEqDiff, true_or, or_true, false_or, or_false, not_true_eq_false, not_false_eq_true, reduceCtorEq, cmp_lt, cmp_gt, cmp_eq, Int32.reduceAdd, Int32.reduceSub, Int32.reduceMul, Int32.reduceLT, Int32.reduceToNatClampNeg, eq_self, ne_eq, Int64.reduceAdd, Int64.reduceSub, Int64.reduceMul, Int64.reduceLT, n1_0, bI_t, bI_f, Bool.false_eq_true, pt, g]
  by_cases g : I 14 9 < 60
  · simp only [M58, E58_0, E58_1, E58_4, E58_6, E58_9, E58_10, E58_14, E58_17, E58_18, E58_21, E58_22, E58_23, E58_24, E58_27, E58_28, E58_29, E58_32, E58_33, E58_36, E58_38, E58_39, E58_40, E58_41, E58_44, E58_47, E58_50, E58_51, E58_53, E58_56, E58_59, E58_60, E58_63, E58_64, E58_65, E58_68, E58_69, E58_70, E58_73, E58_74, E58_77, E58_80, E58_83, E58_84, E58_86, E58_89, E58_90, E58_92, E58_95, E58_96, E58_97, E58_100, E58_101, E58_102, E58_105, E58_106, E58_108, E58_111, E58_114, E58_115, E58_118, E58_119, E58_120, E58_123, E58_124, E58_125, E58_128, E58_129, E58_132, E58_135, E58_136, E58_137, E58_140, E58_143, E58_144, E58_145, E58_148, E58_149, E58_151, E58_154, E58_155, E58_156, E58_159, E58_160, E58_161, E58_164, E58_165, E58_166, E58_169, E58_172, E58_173, E58_175, E58_178, pk14 hS, pk15 hS, pl15 hS, pa15 hS, pi15 hS, pk16 hS, pl16 hS, pa16 hS, pi16 hS, pk17 hS, pl17 hS, pa17 hS, pi17 hS, pk18 hS, pl18 hS, pa18 hS, pi18 hS, pk19 hS, pl19 hS, pa19 hS, pi19 hS, pr14_0 hR, pr14_2 hR, pr14_3 hR, pr14_6 hR, pr14_7 hR, rfs, rfn, cs0, csi, csl, csr, csn, kti, ktl, ktr, ktn, ktv, ktf, true_and, and_true, and_self, ↓reduceIte, Nat.reduceAdd, Nat.reduceSub, Nat.reduceMul, Nat.reduceLT, Nat.reduceLeDiff, Nat.reduceEqDiff, true_or, or_true, false_or, or_false, not_true_eq_false, not_false_eq_true, reduceCtorEq, cmp_lt, cmp_gt, cmp_eq, Int32.reduceAdd, Int32.reduceSub, Int32.reduceMul, Int32.reduceLT, Int32.reduceToNatClampNeg, eq_self, ne_eq, Int64.reduceAdd, Int64.reduceSub, Int64.reduceMul, Int64.reduceLT, n1_0, bI_t, bI_f, Bool.false_eq_true, pt, g]
    exact go I (by unfold paJ; rw [if_pos g])
  · simp only [M58, E58_0, E58_1, E58_4, E58_6, E58_9, E58_10, E58_14, E58_17, E58_18, E58_21, E58_22, E58_23, E58_24, E58_27, E58_28, E58_29, E58_32, E58_33, E58_36, E58_38, E58_39, E58_40, E58_41, E58_44, E58_47, E58_50, E58_51, E58_53, E58_56, E58_59, E58_60, E58_63, E58_64, E58_65, E58_68, E58_69, E58_70, E58_73, E58_74, E58_77, E58_80, E58_83, E58_84, E58_86, E58_89, E58_90, E58_92, E58_95, E58_96, E58_97, E58_100, E58_101, E58_102, E58_105, E58_106, E58_108, E58_111, E58_114, E58_115, E58_118, E58_119, E58_120, E58_123, E58_124, E58_125, E58_128, E58_129, E58_132, E58_135, E58_136, E58_137, E58_140, E58_143, E58_144, E58_145, E58_148, E58_149, E58_151, E58_154, E58_155, E58_156, E58_159, E58_160, E58_161, E58_164, E58_165, E58_166, E58_169, E58_172, E58_173, E58_175, E58_178, pk14 hS, pk15 hS, pl15 hS, pa15 hS, pi15 hS, pk16 hS, pl16 hS, pa16 hS, pi16 hS, pk17 hS, pl17 hS, pa17 hS, pi17 hS, pk18 hS, pl18 hS, pa18 hS, pi18 hS, pk19 hS, pl19 hS, pa19 hS, pi19 hS, pr14_0 hR, pr14_2 hR, pr14_3 hR, pr14_6 hR, pr14_7 hR, rfs, rfn, cs0, csi, csl, csr, csn, kti, ktl, ktr, ktn, ktv, ktf, true_and, and_true, and_self, ↓reduceIte, Nat.reduceAdd, Nat.reduceSub, Nat.reduceMul, Nat.reduceLT, Nat.reduceLeDiff, Nat.reduceEqDiff, true_or, or_true, false_or, or_false, not_true_eq_false, not_false_eq_true, reduceCtorEq, cmp_lt, cmp_gt, cmp_eq, Int32.reduceAdd, Int32.reduceSub, Int32.reduceMul, Int32.reduceLT, Int32.reduceToNatClampNeg, eq_self, ne_eq, Int64.reduceAdd, Int64.reduceSub, Int64.reduceMul, Int64.reduceLT, n1_0, bI_t, bI_f, Bool.false_eq_true, pt, g, fai hS hR]
    exact go _ (by unfold paJ; rw [if_neg g])
/-- readPart, b brackets more may be opened -/
theorem par (hS : Pm S) (hR : Pr R) : ∀ (b : Nat) (I : mI) (L : mL) (Q : mQ), b ≤ 8 → Cl I → I 14 10 = nI (8 - b) → EvM (D + 2 * b + 2) 58 [.ref 14] S I L R Q = Q .null S (partF b I) L R
  | 0, I, L, Q, _, hc, hx => par_of (D := D) hS hR (fun _ => RdK.rf) (fun lt => absurd lt (by decide)) hc hx
  | b + 1, I, L, Q, hb, hc, hx => by
    have k := par_of (D := D + 2 * b + 2) (I := I) (L := L) (Q := Q) hS hR (sumF_k (partF_k b)) (fun _ J L Q hc hx => sum_of (D := D + 2 * b + 1) hS hR (partF_k b) (fun J L Q hc hx => par hS hR b J L Q (by omega) hc (by rw [hx, nI_1, show 8 - (b + 1) + 1 = 8 - b by omega])) hc hx) hc hx
    rw [show D + 2 * (b + 1) + 2 = D + 2 * b + 2 + 2 by omega]
    exact k
/-- readSum -/
theorem sum {b : Nat} {I : mI} {L : mL} {Q : mQ} (hS : Pm S) (hR : Pr R) (hb : b ≤ 8) (hc : Cl I) (hx : I 14 10 = nI (8 - b)) : EvM (D + 2 * b + 3) 57 [.ref 14] S I L R Q = Q .null S (sumF (partF b) I) L R := sum_of (D := D + 2 * b + 1) hS hR (partF_k b) (fun J L Q hc hx => par hS hR b J L Q hb hc hx) hc hx
end RD
