/-! the reference: findPlan -/
theorem Rn_lt {c : Nat} {nu : Int32} {B v p u : Nat} (hc : c = 3 ∨ c = 4 ∨ c = 5) (hp : p < c) (hv : v < 59049) (h : Rn (wt c) c nu B v p u) : u < 59049 :=
  Xs_lt (fun k z => by
    obtain ⟨_, (⟨_, z⟩ | ⟨_, z⟩)⟩ := z <;> omega) (mvN hc p hp) B u h
/-- what stands when the CELLS of h HEATS are chosen -/
def ChW (c : Nat) (nu : Int32) (B : Nat) (ow tg pc : Nat → Nat) (f h : Nat) : Prop := (∀ u k, u < 59049 → (ow u).testBit k = true → k ≤ h ∧ (tg u).testBit k = true) ∧ (∃ v, v < 59049 ∧ (ow v).testBit h = true) ∧ (∀ k, k < h → ∀ u, u < 59049 → (ow u).testBit (k + 1) = true → ∃ v, v < 59049 ∧ (ow v).testBit k = true ∧ Rn (wt c) c nu B v (pc k) u) ∧ (∀ u, u < 59049 → (ow u).testBit 0 = true → u = f) ∧ ∀ k, k < h → pc k < c
def FrP (I J : mI) : Prop := (∀ b, (b < 72 ∨ 80 < b) → ¬ b = 54 → J b = I b) ∧ (∀ k, ¬ k = 56 → ¬ k = 58 → ¬ k = 59 → ¬ k = 60 → J 54 k = I 54 k)
theorem FrP.rf {I : mI} : FrP I I := ⟨fun _ _ _ => rfl, fun _ _ _ _ _ => rfl⟩
theorem FrP.tr {I J K : mI} (h : FrP I J) (h2 : FrP J K) : FrP I K := ⟨fun b h1 h3 => (h2.1 b h1 h3).trans (h.1 b h1 h3), fun k h1 h3 h4 h5 => (h2.2 k h1 h3 h4 h5).trans (h.2 k h1 h3 h4 h5)⟩
theorem FrP.pa {I J : mI} {a k : Nat} {x : Int32} (h : FrP I J) (ha : 72 ≤ a ∧ a ≤ 80) : FrP I (put J a k x) := ⟨fun b b1 b2 => by rw [pt_n (by omega)]; exact h.1 b b1 b2, fun j j1 j2 j3 j4 => by rw [pt_m (by omega)]; exact h.2 j j1 j2 j3 j4⟩
theorem FrP.p4 {I J : mI} {k : Nat} {x : Int32} (h : FrP I J) (hk : k = 56 ∨ k = 58 ∨ k = 59 ∨ k = 60) : FrP I (put J 54 k x) := ⟨fun b b1 b2 => by rw [pt_n b2]; exact h.1 b b1 b2, fun j j1 j2 j3 j4 => by rw [pt_f (by omega)]; exact h.2 j j1 j2 j3 j4⟩
theorem FrL.f {I J : mI} (h : FrL I J) : FrP I J := ⟨fun b b1 b2 => h.1 b b2 (by omega) (by omega) (by omega), fun k k1 k2 _ _ => h.2 k k1 k2⟩
theorem FrT.f {I J : mI} (h : FrT I J) : FrP I J := ⟨fun b b1 b2 => h.1 b (by omega) (by omega) (by omega) b2 (by omega) (by omega), fun k k1 k2 _ _ => h.2 k k1 k2⟩
theorem FrC.f {I J : mI} (h : FrC I J) : FrP I J := ⟨fun b b1 b2 => h.1 b (by omega) (by omega) b2 (by omega) (by omega), fun k k1 k2 _ _ => h.2 k k1 k2⟩
theorem FrA.f {a : Nat} {I J : mI} (h : FrA a I J) (ha : 72 ≤ a ∧ a ≤ 80) : FrP I J := ⟨fun b b1 b2 => h.1 b (by omega) b2 (by omega) (by omega), fun k k1 k2 _ _ => h.2 k k1 k2⟩
section FP
variable {d c B st h H t f : Nat} {nu : Int32} {tg : Nat → Nat} {lev : Nat → Nat} {S : mS} {L : mL} {R : mR} {Q : mQ}
theorem cc_lp {x1 x2 : Int32} (hS : Pm S) (hR : Pr R) (hc : c = 3 ∨ c = 4 ∨ c = 5) (hB : B < 2 ^ 24) (hH : H < 7) (hF : TgF c nu B lev tg H t 0) : ∀ (q h : Nat) (ow pc : Nat → Nat) (I : mI) (st : Nat) (y4 y5 : Value), h + q = H → st + 354294 * q < 2 ^ 32 → PnS I c nu B st → I 54 60 = nI H → BmP I 75 ow → BmP I 74 tg → ChW c nu B ow tg pc f h → (∀ k, k < h → I 79 k = nI (pc k)) → (∀ J st' ow' pc' y4 y5, PnS J c nu B st' → st' ≤ st + 354294 * q → BmP J 75 ow' → FrC I J → ChW c nu B ow' tg pc' f H → (∀ k, k < H → J 79 k = nI (pc' k)) → Ev (d + 7) 218 94 [.ref 54, .int x1, .int x2, .int (nI H), y4, y5] [] S J L R Q) → Ev (d + 7) 218 75 [.ref 54, .int x1, .int x2, .int (nI h), y4, y5] [] S I L R Q := by
  intro q
  induction q with
  | zero =>
    intro h ow pc I st y4 y5 h1 h2 hP e60 hO hT hW e79 hq
    obtain rfl : h = H := by omega
    have e0 : (nI h < nI h) = False := eq_false (nI_nlt (Nat.le_refl h) (by omega))
    rw [E218_75]
    simp only [E218_76, E218_77, E218_80, pk54 hS, rfs, rfn, cs0, csi, csl, csr, csn, kti, ktl, ktr, ktn, ktv, ktf, true_and, and_true, and_self, ↓reduceIte, Nat.reduceAdd, Nat.reduceSub, Nat.reduceMul, Nat.reduceLT, Nat.reduceLeDiff, Nat.reduceEqDiff, true_or, or_true, false_or, or_false, not_true_eq_false, not_false_eq_true, reduceCtorEq, cmp_lt, cmp_gt, cmp_eq, Int32.reduceAdd, Int32.reduceSub, Int32.reduceMul, Int32.reduceLT, Int32.reduceToNatClampNeg, eq_self, ne_eq, Int64.reduceAdd, Int64.reduceSub, Int64.reduceMul, Int64.reduceLT, e60, e0]
    exact hq I st ow pc _ _ hP (by omega) hO ⟨fun _ _ _ _ _ _ => rfl, fun _ _ _ => rfl⟩ hW e79
  | succ q ih =>
    intro h ow pc I st y4 y5 h1 h2 hP e60 hO hT hW e79 hq
    have e9 : 354294 * (q + 1) = 354294 * q + 354294 := Nat.mul_succ _ _
    rw [e9] at h2 hq
    have b5 : st + 354294 < 2 ^ 32 := Nat.lt_of_le_of_lt (by omega) h2
    have e1 : (nI h < nI H) = True := eq_true (nI_lt (by omega) (by omega))
    obtain ⟨w1, ⟨v0, w2, w3⟩, w4, w5, w6⟩ := hW
    have hex : ∃ p', p' < c ∧ ∃ v', v' < 59049 ∧ (ow v').testBit h = true ∧ ∃ u, Rn (wt c) c nu B v' p' u ∧ (tg u).testBit (h + 1) = true := by
      rcases (hF v0 h w2).mp (w1 v0 h w2 w3).2 with ⟨z, _⟩ | ⟨_, _, _, p, z1, z2⟩
      · omega
      · exact ⟨p, z1, v0, w2, w3, z2⟩
    rw [E218_75]
    simp only [E218_76, E218_77, E218_80, E218_83, E218_84, E218_85, pk54 hS, rfs, rfn, cs0, csi, csl, csr, csn, kti, ktl, ktr, ktn, ktv, ktf, true_and, and_true, and_self, ↓reduceIte, Nat.reduceAdd, Nat.reduceSub, Nat.reduceMul, Nat.reduceLT, Nat.reduceLeDiff, Nat.reduceEqDiff, true_or, or_true, false_or, or_false, not_true_eq_false, not_false_eq_true, reduceCtorEq, cmp_lt, cmp_gt, cmp_eq, Int32.reduceAdd, Int32.reduceSub, Int32.reduceMul, Int32.reduceLT, Int32.reduceToNatClampNeg, eq_self, ne_eq, Int64.reduceAdd, Int64.reduceSub, Int64.reduceMul, Int64.reduceLT, e60, e1]
    refine chc (d := d) (h := h) (ow := ow) (tg := tg) hS hR hc hB (by omega) b5 hP hO hT hex (fun J st' p ow' k1 k2 k3 k4 k5 k6 k7 k8 k9 => ?_)
    simp only [E218_88, E218_91, rfs, rfn, cs0, csi, csl, csr, csn, kti, ktl, ktr, ktn, ktv, ktf, true_and, and_true, and_self, ↓reduceIte, Nat.reduceAdd, Nat.reduceSub, Nat.reduceMul, Nat.reduceLT, Nat.reduceLeDiff, Nat.reduceEqDiff, true_or, or_true, false_or, or_false, not_true_eq_false, not_false_eq_true, reduceCtorEq, cmp_lt, cmp_gt, cmp_eq, Int32.reduceAdd, Int32.reduceSub, Int32.reduceMul, Int32.reduceLT, Int32.reduceToNatClampNeg, eq_self, ne_eq, Int64.reduceAdd, Int64.reduceSub, Int64.reduceMul, Int64.reduceLT, nI_1]
    have J60 : J 54 60 = nI H := by rw [k5.2 60 (by decide) (by decide)]; exact e60
    refine ih (h + 1) ow' (va_up pc h p) J st' _ _ (by omega) (by omega) k1 J60 k4 (hT.cg (k5.1 74 (by decide) (by decide) (by decide) (by decide) (by decide))) ⟨fun u k hu z => ?_, ?_, fun k hk u hu z => ?_, fun u hu z => ?_, fun k hk => ?_⟩ (fun k hk => ?_) (fun J2 st2 ow2 pc2 y4 y5 g1 g2 g3 g4 g5 g6 => hq J2 st2 ow2 pc2 y4 y5 g1 (by omega) g3 ⟨fun b b1 b2 b3 b4 b5 => (g4.1 b b1 b2 b3 b4 b5).trans (k5.1 b b1 b2 b3 b4 b5), fun k m1 m2 => (g4.2 k m1 m2).trans (k5.2 k m1 m2)⟩ g5 g6)
    · rcases (k9 u k).mp z with z | ⟨rfl, z, _⟩
      · exact ⟨by have := (w1 u k hu z).1; omega, (w1 u k hu z).2⟩
      · exact ⟨Nat.le_refl _, z⟩
    · obtain ⟨v', m1, m2, u, m3, m4⟩ := k8
      exact ⟨u, Rn_lt hc k3 m1 m3, (k9 u (h + 1)).mpr (Or.inr ⟨rfl, m4, v', m1, m2, m3⟩)⟩
    · by_cases y : k = h
      · subst y
        rcases (k9 u (k + 1)).mp z with z | ⟨_, _, v', m1, m2, m3⟩
        · have := (w1 u (k + 1) hu z).1
          omega
        · exact ⟨v', m1, (k9 v' k).mpr (Or.inl m2), by rw [uu_s]; exact m3⟩
      · rcases (k9 u (k + 1)).mp z with z | ⟨z, _⟩
        · obtain ⟨v', m1, m2, m3⟩ := w4 k (by omega) u hu z
          exact ⟨v', m1, (k9 v' k).mpr (Or.inl m2), by rw [uu_n _ _ y]; exact m3⟩
        · omega
    · rcases (k9 u 0).mp z with z | ⟨z, _⟩
      · exact w5 u hu z
      · omega
    · by_cases y : k = h
      · rw [y, uu_s]; exact k3
      · rw [uu_n _ _ y]; exact w6 k (by omega)
    · by_cases y : k = h
      · rw [y, uu_s]; exact k6
      · rw [uu_n _ _ y, k7 k y]; exact e79 k (by omega)
/-- a way back from the SHAPE to the BAR -/
theorem tg_way (hF : TgF c nu B lev tg H t 0) (ht : t < 59049) (hl : ∀ u k, (lev u).testBit k = true ↔ k ≤ H ∧ Lev (wt c) c nu B f k u) (hf : f < 59049) (hc : c = 3 ∨ c = 4 ∨ c = 5) (hLt : Lev (wt c) c nu B f H t) : ∀ k, k ≤ H → ∃ v, Lev (wt c) c nu B f (H - k) v ∧ (tg v).testBit (H - k) = true := by
  intro k
  induction k with
  | zero => intro _; exact ⟨t, hLt, (hF t H ht).mpr (Or.inl ⟨rfl, rfl⟩)⟩
  | succ k ih =>
    intro hk
    obtain ⟨v, v1, v2⟩ := ih (by omega)
    have e : H - k = H - (k + 1) + 1 := by omega
    rw [e] at v1 v2
    obtain ⟨p, p1, v', p2, p3⟩ := v1
    have hv' := Lev_lt (mvN hc) hf (H - (k + 1)) v' p2
    exact ⟨v', p2, (hF v' (H - (k + 1)) hv').mpr (Or.inr ⟨Nat.zero_le _, by omega, (hl v' _).mpr ⟨by omega, p2⟩, p, p1, v, p3, v2⟩)⟩
theorem gl_way {ow gl pc : Nat → Nat} (hT : TgF c nu B lev tg H t 0) (hF : GlF c nu B ow gl pc H t 0) (hW : ChW c nu B ow tg pc f H) (hc : c = 3 ∨ c = 4 ∨ c = 5) : ∀ k, k ≤ H → ∃ v, v < 59049 ∧ (ow v).testBit (H - k) = true ∧ (gl v).testBit (H - k) = true := by
  obtain ⟨w1, ⟨v0, w2, w3⟩, w4, w5, w6⟩ := hW
  intro k
  induction k with
  | zero =>
    intro _
    have : v0 = t := by
      rcases (hT v0 H w2).mp (w1 v0 H w2 w3).2 with z | ⟨_, z, _⟩
      · exact z.2
      · omega
    exact ⟨v0, w2, w3, (hF v0 H w2).mpr (Or.inl ⟨rfl, this⟩)⟩
  | succ k ih =>
    intro hk
    obtain ⟨v, v1, v2, v3⟩ := ih (by omega)
    have e : H - k = H - (k + 1) + 1 := by omega
    rw [e] at v2 v3
    obtain ⟨v', m1, m2, m3⟩ := w4 (H - (k + 1)) (by omega) v v1 v2
    exact ⟨v', m1, m2, (hF v' _ m1).mpr (Or.inr ⟨Nat.zero_le _, by omega, m2, v, m3, v3⟩)⟩
def PlN (I : mI) : Prop := (I 54 60 = -1 ∨ ∃ h, h ≤ 6 ∧ I 54 60 = nI h) ∧ ∃ c, I 56 0 = nI c ∧ 3 ≤ c ∧ c ≤ 5 ∧ Wt I c
theorem c345 {c : Nat} (h1 : 3 ≤ c) (h2 : c ≤ 5) : c = 3 ∨ c = 4 ∨ c = 5 := by omega
/-- findPlan -/
theorem fpl {I : mI} (hS : Pm S) (hR : Pr R) (hr : Rw (I 56)) (hp : PlM I) (hs : Rst I 59049 st) (hst : st + 6023004 < 2 ^ 32) (hq : ∀ J st', Rst J 59049 st' → st' ≤ st + 6023004 → FrP I J → PlN J → Q .null S J L R) : EvM (d + 8) 218 [.ref 54] S I L R Q := by
  by_cases e60 : I 54 60 = -2
  case neg =>
    simp only [M218, E218_0, E218_1, E218_4, E218_6, E218_9, pk54 hS, rfs, rfn, cs0, csi, csl, csr, csn, kti, ktl, ktr, ktn, ktv, ktf, true_and, and_true, and_self, ↓reduceIte, Nat.reduceAdd, Nat.reduceSub, Nat.reduceMul, Nat.reduceLT, Nat.reduceLeDiff, Nat.reduceEqDiff, true_or, or_true, false_or, or_false, not_true_eq_false, not_false_eq_true, reduceCtorEq, cmp_lt, cmp_gt, cmp_eq, Int32.reduceAdd, Int32.reduceSub, Int32.reduceMul, Int32.reduceLT, Int32.reduceToNatClampNeg, eq_self, ne_eq, Int64.reduceAdd, Int64.reduceSub, Int64.reduceMul, Int64.reduceLT, e60]
    rcases hp with hp | ⟨hp, c, c1, c2, c3, c4⟩
    · exact absurd hp e60
    · exact hq I st hs (by omega) FrP.rf ⟨hp, c, c1, c2, c3, c4⟩
  obtain ⟨c, c3, c5, e0⟩ := hr.1
  have hc := c345 c3 c5
  obtain ⟨B, B4, e10⟩ := hr.2.1.2.1
  have z10 : inb 10 8060 = True := inb_nI (j := 10) (by decide) (by decide)
  have c10 : Int32.toNatClampNeg 10 = 10 := rfl
  simp only [M218, E218_0, E218_1, E218_4, E218_6, E218_10, E218_11, pk54 hS, rfs, rfn, cs0, csi, csl, csr, csn, kti, ktl, ktr, ktn, ktv, ktf, true_and, and_true, and_self, ↓reduceIte, Nat.reduceAdd, Nat.reduceSub, Nat.reduceMul, Nat.reduceLT, Nat.reduceLeDiff, Nat.reduceEqDiff, true_or, or_true, false_or, or_false, not_true_eq_false, not_false_eq_true, reduceCtorEq, cmp_lt, cmp_gt, cmp_eq, Int32.reduceAdd, Int32.reduceSub, Int32.reduceMul, Int32.reduceLT, Int32.reduceToNatClampNeg, eq_self, ne_eq, Int64.reduceAdd, Int64.reduceSub, Int64.reduceMul, Int64.reduceLT, e60]
  refine fwt (d := d + 6) hS hR hc e0 (fun I1 a1 a2 => ?_)
  have i6 : I1 56 = I 56 := a1 56 (by decide)
  simp only [E218_14, E218_15, E218_16, E218_19, E218_20, E218_22, pk54 hS, rfs, rfn, cs0, csi, csl, csr, csn, kti, ktl, ktr, ktn, ktv, ktf, true_and, and_true, and_self, ↓reduceIte, Nat.reduceAdd, Nat.reduceSub, Nat.reduceMul, Nat.reduceLT, Nat.reduceLeDiff, Nat.reduceEqDiff, true_or, or_true, false_or, or_false, not_true_eq_false, not_false_eq_true, reduceCtorEq, cmp_lt, cmp_gt, cmp_eq, Int32.reduceAdd, Int32.reduceSub, Int32.reduceMul, Int32.reduceLT, Int32.reduceToNatClampNeg, eq_self, ne_eq, Int64.reduceAdd, Int64.reduceSub, Int64.reduceMul, Int64.reduceLT, pt]
  have F1 : FrP I (put I1 54 59 (-1)) := ⟨fun b b1 b2 => by rw [pt_n b2, a1 b (by omega)], fun k k1 k2 k3 k4 => by rw [pt_f k3, a1 54 (by decide)]⟩
  have s77 : put I1 54 59 (-1) 77 = I 77 := by rw [pt_n (by decide), a1 77 (by decide)]
  have s56 : put I1 54 59 (-1) 54 56 = I 54 56 := by rw [pt_f (by decide), a1 54 (by decide)]
  have s6 : put I1 54 59 (-1) 56 = I 56 := by rw [pt_n (by decide), i6]
  have s2 : Wt (put I1 54 59 (-1)) c := fun i hi => by rw [pt_n (by decide)]; exact a2 i hi
  generalize put I1 54 59 (-1) = I2 at *
  have hP0 : PnS I2 c (I 56 3) B st := ⟨⟨by rw [s6]; exact e0, by rw [s6], s2⟩, by rw [s6]; exact e10, by rw [s56]; exact hs.1, fun v hv => by rw [s77]; exact hs.2 v hv⟩
  refine rwa (A := 20) (d := d + 6) (Or.inl rfl) hS hR c5 (by rw [s6]; exact e0) s2 (by rw [s6]; exact hr.2.2.1) (fun f f1 => ?_)
  simp only [E218_25, E218_26, E218_27, E218_29, pk54 hS, rfs, rfn, cs0, csi, csl, csr, csn, kti, ktl, ktr, ktn, ktv, ktf, true_and, and_true, and_self, ↓reduceIte, Nat.reduceAdd, Nat.reduceSub, Nat.reduceMul, Nat.reduceLT, Nat.reduceLeDiff, Nat.reduceEqDiff, true_or, or_true, false_or, or_false, not_true_eq_false, not_false_eq_true, reduceCtorEq, cmp_lt, cmp_gt, cmp_eq, Int32.reduceAdd, Int32.reduceSub, Int32.reduceMul, Int32.reduceLT, Int32.reduceToNatClampNeg, eq_self, ne_eq, Int64.reduceAdd, Int64.reduceSub, Int64.reduceMul, Int64.reduceLT]
  refine rwa (A := 30) (d := d + 6) (Or.inr rfl) hS hR c5 (by rw [s6]; exact e0) s2 (by rw [s6]; exact hr.2.2.1) (fun t t1 => ?_)
  have i10 := hP0.2.1
  simp only [E218_32, E218_33, E218_34, E218_35, E218_36, E218_37, E218_40, E218_42, E218_43, E218_44, E218_46, pk54 hS, pk56 hS, pl56 hS, pa56 hS, pi56 hS, pr54_3 hR, rfs, rfn, cs0, csi, csl, csr, csn, kti, ktl, ktr, ktn, ktv, ktf, true_and, and_true, and_self, ↓reduceIte, Nat.reduceAdd, Nat.reduceSub, Nat.reduceMul, Nat.reduceLT, Nat.reduceLeDiff, Nat.reduceEqDiff, true_or, or_true, false_or, or_false, not_true_eq_false, not_false_eq_true, reduceCtorEq, cmp_lt, cmp_gt, cmp_eq, Int32.reduceAdd, Int32.reduceSub, Int32.reduceMul, Int32.reduceLT, Int32.reduceToNatClampNeg, eq_self, ne_eq, Int64.reduceAdd, Int64.reduceSub, Int64.reduceMul, Int64.reduceLT, z10, c10, i10]
  refine flT (d := d + 2) (c := c) (B := B) (nu := I 56 3) (w := wt c) (last := 6) (st := st) (r := f) hS hR (wtO hc) c5 (mvN hc) (by omega) f1 (by decide) (Or.inr ⟨t, t1, rfl⟩) (by omega) hP0.1 hP0.2.2 (fun I3 lev st3 hh v b1 b2 b3 b4 => ?_)
  obtain ⟨l1, l2, l3, l4⟩ := b1
  have F3 : FrP I (put I3 54 60 v) := FrP.p4 (F1.tr b4.f) (by decide)
  have q6 : put I3 54 60 v 56 = I 56 := by rw [pt_n (by decide), b4.1 56 (by decide) (by decide) (by decide) (by decide), s6]
  have q2 : put I3 54 60 v 72 = I2 72 := by rw [pt_n (by decide), b4.1 72 (by decide) (by decide) (by decide) (by decide)]
  have W3 : Wt (put I3 54 60 v) c := fun i hi => by rw [q2]; exact s2 i hi
  have b3' : st3 ≤ st + 1771470 := b3
  have R3 : Rst (put I3 54 60 v) 59049 st3 := ⟨by rw [pt_f (by decide)]; exact b2.1, fun u hu => by rw [pt_n (by decide)]; exact b2.2 u hu⟩
  simp only [E218_49, E218_52, E218_53, E218_56, E218_57, pk54 hS, rfs, rfn, cs0, csi, csl, csr, csn, kti, ktl, ktr, ktn, ktv, ktf, true_and, and_true, and_self, ↓reduceIte, Nat.reduceAdd, Nat.reduceSub, Nat.reduceMul, Nat.reduceLT, Nat.reduceLeDiff, Nat.reduceEqDiff, true_or, or_true, false_or, or_false, not_true_eq_false, not_false_eq_true, reduceCtorEq, cmp_lt, cmp_gt, cmp_eq, Int32.reduceAdd, Int32.reduceSub, Int32.reduceMul, Int32.reduceLT, Int32.reduceToNatClampNeg, eq_self, ne_eq, Int64.reduceAdd, Int64.reduceSub, Int64.reduceMul, Int64.reduceLT, pt, pt_s]
  rcases l4 with ⟨rfl, _, _⟩ | ⟨rfl, t', u1, u2, u3, _⟩
  · simp only [E218_57, E218_60, rfs, rfn, cs0, csi, csl, csr, csn, kti, ktl, ktr, ktn, ktv, ktf, true_and, and_true, and_self, ↓reduceIte, Nat.reduceAdd, Nat.reduceSub, Nat.reduceMul, Nat.reduceLT, Nat.reduceLeDiff, Nat.reduceEqDiff, true_or, or_true, false_or, or_false, not_true_eq_false, not_false_eq_true, reduceCtorEq, cmp_lt, cmp_gt, cmp_eq, Int32.reduceAdd, Int32.reduceSub, Int32.reduceMul, Int32.reduceLT, Int32.reduceToNatClampNeg, eq_self, ne_eq, Int64.reduceAdd, Int64.reduceSub, Int64.reduceMul, Int64.reduceLT]
    exact hq _ st3 R3 (by omega) F3 ⟨Or.inl pt_s, c, by rw [q6]; exact e0, c3, c5, W3⟩
  · obtain rfl : t = t' := (nI_eq (by omega) (by omega)).mp u2
    have vn : (nI hh = -1) = False := eq_false (fun z => nI_pos (n := hh) (by omega) (by rw [z]; decide))
    have P3 : PnS (put I3 54 60 (nI hh)) c (I 56 3) B st3 := ⟨⟨by rw [q6]; exact e0, by rw [q6], W3⟩, by rw [q6]; exact e10, R3⟩
    have e60 : put I3 54 60 (nI hh) 54 60 = nI hh := pt_s
    have LV : BmP (put I3 54 60 (nI hh)) 73 lev := l1.b.cg (pt_n (by decide))
    simp only [E218_57, E218_61, E218_62, E218_63, pk54 hS, rfs, rfn, cs0, csi, csl, csr, csn, kti, ktl, ktr, ktn, ktv, ktf, true_and, and_true, and_self, ↓reduceIte, Nat.reduceAdd, Nat.reduceSub, Nat.reduceMul, Nat.reduceLT, Nat.reduceLeDiff, Nat.reduceEqDiff, true_or, or_true, false_or, or_false, not_true_eq_false, not_false_eq_true, reduceCtorEq, cmp_lt, cmp_gt, cmp_eq, Int32.reduceAdd, Int32.reduceSub, Int32.reduceMul, Int32.reduceLT, Int32.reduceToNatClampNeg, eq_self, ne_eq, Int64.reduceAdd, Int64.reduceSub, Int64.reduceMul, Int64.reduceLT, vn]
    generalize put I3 54 60 (nI hh) = I4 at *
    refine ftg (d := d + 1) (H := hh) (lev := lev) (t := t) hS hR hc (by omega) (by omega) e60 t1 (by omega) P3 LV (fun I5 st5 tg d1 d2 d3 d4 d5 d6 d7 => ?_)
    have f3 : inb (nI f) 59049 = True := inb_nI f1 (by decide)
    have f4 : (nI f).toNatClampNeg = f := nI_clamp (by omega)
    have d2' : st5 ≤ st3 + 1771470 := by omega
    simp only [E218_66, E218_67, E218_70, E218_71, E218_72, E218_73, E218_74, pk54 hS, pk75 hS, pl75 hS, pa75 hS, pi75 hS, pr54_53 hR, rfs, rfn, cs0, csi, csl, csr, csn, kti, ktl, ktr, ktn, ktv, ktf, true_and, and_true, and_self, ↓reduceIte, Nat.reduceAdd, Nat.reduceSub, Nat.reduceMul, Nat.reduceLT, Nat.reduceLeDiff, Nat.reduceEqDiff, true_or, or_true, false_or, or_false, not_true_eq_false, not_false_eq_true, reduceCtorEq, cmp_lt, cmp_gt, cmp_eq, Int32.reduceAdd, Int32.reduceSub, Int32.reduceMul, Int32.reduceLT, Int32.reduceToNatClampNeg, eq_self, ne_eq, Int64.reduceAdd, Int64.reduceSub, Int64.reduceMul, Int64.reduceLT, f3, f4, pt]
    have O1 : BmP (put I5 75 f 1) 75 (va_up (fun _ => 0) f 1) := by
      intro u hu
      by_cases y : u = f
      · rw [y, uu_s, pt_s]
        exact ⟨by decide, rfl⟩
      · rw [uu_n _ _ y, pt_f y]
        exact d4 u hu
    have ob : ∀ u k, (va_up (fun _ => 0) f 1 u).testBit k = true → u = f ∧ k = 0 := by
      intro u k z
      by_cases y : u = f
      · rw [y, uu_s, show (1 : Nat) = 2 ^ 0 from rfl, Nat.testBit_two_pow, decide_eq_true_iff] at z
        exact ⟨y, z.symm⟩
      · rw [uu_n _ _ y, Nat.zero_testBit] at z
        cases z
    have tgf : (tg f).testBit 0 = true := by
      obtain ⟨v, z1, z2⟩ := tg_way d7 t1 l2 f1 hc u3 hh (Nat.le_refl hh)
      rw [Nat.sub_self] at z1 z2
      have : v = f := z1
      rw [← this]
      exact z2
    have F5 : FrP I (put I5 75 f 1) := FrP.pa (F3.tr d6.f) (by decide)
    refine cc_lp (d := d + 1) (H := hh) (t := t) (f := f) (lev := lev) (tg := tg) hS hR hc (by omega) (by omega) d7 hh 0 (va_up (fun _ => 0) f 1) (fun _ => 0) _ st5 _ _ (by omega) (by omega) (d1.cg (pt_n (by decide)) (pt_n (by decide)) (pt_n (by decide)) (pt_m (by decide))) (by rw [pt_m (by decide), d6.2 60 (by decide) (by decide)]; exact e60) O1 (d3.cg (pt_n (by decide))) ⟨fun u k hu z => ?_, ⟨f, f1, by rw [uu_s]; decide⟩, fun k hk => absurd hk (by omega), fun u hu z => (ob u 0 z).1, fun k hk => absurd hk (by omega)⟩ (fun k hk => absurd hk (by omega)) (fun I6 st6 ow pc y4 y5 g1 g2 g3 g4 g5 g6 => ?_)
    · obtain ⟨rfl, rfl⟩ := ob u k z
      exact ⟨Nat.le_refl 0, tgf⟩
    have F6 : FrP I I6 := F5.tr g4.f
    have g2' : st6 ≤ st5 + 2125764 := by omega
    have j60 : I6 54 60 = nI hh := by rw [g4.2 60 (by decide) (by decide), pt_m (by decide), d6.2 60 (by decide) (by decide)]; exact e60
    have j76 : BmP I6 76 (fun _ => 0) := d5.cg (by rw [g4.1 76 (by decide) (by decide) (by decide) (by decide) (by decide), pt_n (by decide)])
    have t3 : inb (nI t) 59049 = True := inb_nI t1 (by decide)
    have t4 : (nI t).toNatClampNeg = t := nI_clamp (by omega)
    obtain ⟨sh1, sh2⟩ := sh7 hh (by omega)
    simp only [E218_94, E218_95, E218_98, E218_99, E218_100, E218_101, E218_104, E218_105, E218_106, E218_107, E218_110, E218_111, E218_112, pk54 hS, pk76 hS, pl76 hS, pa76 hS, pi76 hS, pr54_54 hR, rfs, rfn, cs0, csi, csl, csr, csn, kti, ktl, ktr, ktn, ktv, ktf, true_and, and_true, and_self, ↓reduceIte, Nat.reduceAdd, Nat.reduceSub, Nat.reduceMul, Nat.reduceLT, Nat.reduceLeDiff, Nat.reduceEqDiff, true_or, or_true, false_or, or_false, not_true_eq_false, not_false_eq_true, reduceCtorEq, cmp_lt, cmp_gt, cmp_eq, Int32.reduceAdd, Int32.reduceSub, Int32.reduceMul, Int32.reduceLT, Int32.reduceToNatClampNeg, eq_self, ne_eq, Int64.reduceAdd, Int64.reduceSub, Int64.reduceMul, Int64.reduceLT, j60, t3, t4, sh1, pt, pt_m]
    have G1 : BmP (put I6 76 t (nI (2 ^ hh))) 76 (va_up (fun _ => 0) t (2 ^ hh)) := by
      intro u hu
      by_cases y : u = t
      · rw [y, uu_s, pt_s]
        exact ⟨sh2, rfl⟩
      · rw [uu_n _ _ y, pt_f y]
        exact j76 u hu
    refine gh_lp (d := d + 2) (H := hh) (t := t) (ow := ow) (pc := pc) hS hR hc (by omega) (by omega) g5.2.2.2.2 hh (va_up (fun _ => 0) t (2 ^ hh)) _ st6 _ _ (Nat.le_refl hh) (by omega) (g1.cg (pt_n (by decide)) (pt_n (by decide)) (pt_n (by decide)) (pt_m (by decide))) (g3.cg (pt_n (by decide))) G1 (fun k hk => by rw [pt_n (by decide)]; exact g6 k hk) (fun u k hu => ?_) (fun I7 st7 gl y4 y5 m1 m2 m3 m4 m5 => ?_)
    · by_cases y : u = t
      · rw [y, uu_s, Nat.testBit_two_pow, decide_eq_true_iff]
        constructor
        · intro x
          exact Or.inl ⟨x.symm, rfl⟩
        · rintro (x | ⟨x1, x2, _⟩)
          · exact x.1.symm
          · omega
      · rw [uu_n _ _ y, Nat.zero_testBit]
        constructor
        · intro x
          cases x
        · rintro (x | ⟨x1, x2, _⟩)
          · exact absurd x.2 y
          · omega
    have m2' : st7 ≤ st6 + 354294 := by omega
    have F7 : FrP I I7 := (FrP.pa F6 (by decide)).tr (m4.f (by decide))
    have z0 : inb 0 7 = True := inb_nI (j := 0) (by decide) (by decide)
    have c0 : Int32.toNatClampNeg 0 = 0 := rfl
    simp only [E218_193, E218_194, E218_197, E218_198, E218_199, E218_200, E218_201, pk54 hS, pk80 hS, pl80 hS, pa80 hS, pi80 hS, pr54_62 hR, rfs, rfn, cs0, csi, csl, csr, csn, kti, ktl, ktr, ktn, ktv, ktf, true_and, and_true, and_self, ↓reduceIte, Nat.reduceAdd, Nat.reduceSub, Nat.reduceMul, Nat.reduceLT, Nat.reduceLeDiff, Nat.reduceEqDiff, true_or, or_true, false_or, or_false, not_true_eq_false, not_false_eq_true, reduceCtorEq, cmp_lt, cmp_gt, cmp_eq, Int32.reduceAdd, Int32.reduceSub, Int32.reduceMul, Int32.reduceLT, Int32.reduceToNatClampNeg, eq_self, ne_eq, Int64.reduceAdd, Int64.reduceSub, Int64.reduceMul, Int64.reduceLT, z0, c0, pt]
    have g0 : (gl f).testBit 0 = true := by
      obtain ⟨v, v1, v2, v3⟩ := gl_way d7 m5 g5 hc hh (Nat.le_refl hh)
      rw [Nat.sub_self] at v2 v3
      rw [← g5.2.2.2.1 v v1 v2]
      exact v3
    have k60 : I7 54 60 = nI hh := by rw [m4.2 60 (by decide) (by decide), pt_m (by decide)]; exact j60
    refine gs_lp (d := d + 2) (H := hh) (t := t) (ow := ow) (gl := gl) (pc := pc) hS hR hc (by omega) (by omega) g5.2.2.2.2 m5 hh 0 _ st7 f _ _ (by omega) (by omega) (m1.cg (pt_n (by decide)) (pt_n (by decide)) (pt_n (by decide)) (pt_m (by decide))) (by rw [pt_m (by decide)]; exact k60) (m3.cg (pt_n (by decide))) (fun k hk => by rw [pt_n (by decide), m4.1 79 (by decide) (by decide) (by decide) (by decide), pt_n (by decide)]; exact g6 k hk) f1 pt_s g0 (fun I8 st8 n1 n2 n3 => ?_)
    have F8 : FrP I I8 := (FrP.pa F7 (by decide)).tr (n3.f (by decide))
    exact hq I8 st8 n1.2.2 (by omega) F8 ⟨Or.inr ⟨hh, l3, by rw [n3.2 60 (by decide) (by decide), pt_m (by decide)]; exact k60⟩, c, n1.1.1, c3, c5, n1.1.2.2⟩
end FP
