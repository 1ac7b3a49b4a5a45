/-! the reference: findPlan -/
theorem Rn_lt {c : Nat} {nu : Int32} {B v p u : Nat} (hc : c = 3 ∨ c = 4 ∨ c = 5) (hp : p < c) (hv : v < 59049) (h : Rn (wt c) c nu B v p u) : u < 59049 :=
  Xs_lt (fun k z => by
    obtain ⟨_, (⟨_, z⟩ | ⟨_, z⟩)⟩ := z <;> omega) (mvN hc p hp) B u h
/-- what stands when the CELLS of h HEATS are chosen -/
def ChW (c : Nat) (nu : Int32) (B : Nat) (ow tg pc : Nat → Nat) (f h : Nat) : Prop := (∀ u k, u < 59049 → (ow u).testBit k = true → k ≤ h ∧ (tg u).testBit k = true) ∧ (∃ v, v < 59049 ∧ (ow v).testBit h = true) ∧ (∀ k, k < h → ∀ u, u < 59049 → (ow u).testBit (k + 1) = true → ∃ v, v < 59049 ∧ (ow v).testBit k = true ∧ Rn (wt c) c nu B v (pc k) u) ∧ (∀ u, u < 59049 → (ow u).testBit 0 = true → u = f) ∧ ∀ k, k < h → pc k < c
def FrP (I J : mI) : Prop := (∀ b, (b < 72 ∨ 80 < b) → ¬ b = 54 → J b = I b) ∧ (∀ k, ¬ k = 56 → ¬ k = 58 → ¬ k = 59 → ¬ k = 60 → J 54 k = I 54 k)
theorem FrP.rf {I : mI} : FrP I I := ⟨fun _ _ _ => rfl, fun _ _ _ _ _ => rfl⟩
theorem FrP.tr {I J K : mI} (h : FrP I J) (h2 : FrP J K) : FrP I K := ⟨fun b h1 h3 => (h2.1 b h1 h3).trans (h.1 b h1 h3), fun k h1 h3 h4 h5 => (h2.2 k h1 h3 h4 h5).trans (h.2 k h1 h3 h4 h5)⟩
theorem FrP.pa {I J : mI} {a k : Nat} {x : Int32} (h : FrP I J) (ha : 72 ≤ a ∧ a ≤ 80) : FrP I (put J a k x) := ⟨fun b b1 b2 => by rw [pt_n (by omega)]; exact h.1 b b1 b2, fun j j1 j2 j3 j4 => by rw [pt_m (by omega)]; exact h.2 j j1 j2 j3 j4⟩
theorem FrP.p4 {I J : mI} {k : Nat} {x : Int32} (h : FrP I J) (hk : k = 56 ∨ k = 58 ∨ k = 59 ∨ k = 60) : FrP I (put J 54 k x) := ⟨fun b b1 b2 => by rw [pt_n b2]; exact h.1 b b1 b2, fun j j1 j2 j3 j4 => by rw [pt_f (by omega)]; exact h.2 j j1 j2 j3 j4⟩
theorem FrL.f {I J : mI} (h : FrL I J) : FrP I J := ⟨fun b b1 b2 => h.1 b b2 (by omega) (by omega) (by omega), fun k k1 k2 _ _ => h.2 k k1 k2⟩
theorem FrT.f {I J : mI} (h : FrT I J) : FrP I J := ⟨fun b b1 b2 => h.1 b (by omega) (by omega) (by omega) b2 (by omega) (by omega), fun k k1 k2 _ _ => h.2 k k1 k2⟩
theorem FrC.f {I J : mI} (h : FrC I J) : FrP I J := ⟨fun b b1 b2 => h.1 b (by omega) (by omega) b2 (by omega) (by omega), fun k k1 k2 _ _ => h.2 k k1 k2⟩
theorem FrA.f {a : Nat} {I J : mI} (h : FrA a I J) (ha : 72 ≤ a ∧ a ≤ 80) : FrP I J := ⟨fun b b1 b2 => h.1 b (by omega) b2 (by omega) (by omega), fun k k1 k2 _ _ => h.2 k k1 k2⟩
section FP
variable {d c B st h H t f : Nat} {nu : Int32} {tg : Nat → Nat} {lev : Nat → Nat} {S : mS} {L : mL} {R : mR} {Q : mQ}
theorem tgC {H t f : Nat} (hF : TgF c nu B lev tg H t 0) (hl : ∀ u k, (lev u).testBit k = true ↔ k ≤ H ∧ Lev (wt c) c nu B f k u) (hc : c = 3 ∨ c = 4 ∨ c = 5) : ∀ m k u, k + m = H → u < 59049 → Lev (wt c) c nu B f k u → ((tg u).testBit k = true ↔ LvD false (wt c) c nu B t m u) := by
  intro m
  induction m with
  | zero =>
    intro k u hk hu _
    obtain rfl : k = H := by omega
    rw [hF u k hu]
    constructor
    · rintro (z | ⟨_, z, _⟩)
      · exact z.2
      · omega
    · exact fun z => Or.inl ⟨rfl, z⟩
  | succ m ih =>
    intro k u hk hu hL
    rw [hF u k hu]
    constructor
    · rintro (z | ⟨_, _, _, p, p1, u', z1, z2⟩)
      · omega
      · exact ⟨p, p1, u', (ih (k + 1) u' (by omega) (Rn_lt hc p1 hu z1) ⟨p, p1, u, hL, z1⟩).mp z2, z1⟩
    · rintro ⟨p, p1, v, v1, v2⟩
      exact Or.inr ⟨Nat.zero_le _, by omega, (hl u k).mpr ⟨by omega, hL⟩, p, p1, v, v2, (ih (k + 1) v (by omega) (Rn_lt hc p1 hu v2) ⟨p, p1, u, hL, v2⟩).mpr v1⟩
theorem Wy_lev {w : Nat → Nat} {pc : Nat → Nat} {H t f : Nat} : ∀ i, (∀ k, k < i → pc k < c) → ∀ x, Wy w c nu B f t H pc i x → Lev w c nu B f i x := by
  intro i
  induction i with
  | zero => exact fun _ x h => h
  | succ i ih =>
    rintro hp x ⟨⟨v, v1, v2⟩, _⟩
    exact ⟨pc i, hp i (by omega), v, ih (fun k hk => hp k (by omega)) v v1, v2⟩
/-- what the CELLS chosen are: each the least; onWay: the rows that can stand behind each HEAT -/
def ChK (c : Nat) (nu : Int32) (B : Nat) (ow pc : Nat → Nat) (f t H h : Nat) : Prop := (∀ k, k ≤ h → ∀ u, u < 59049 → ((ow u).testBit k = true ↔ Wy (wt c) c nu B f t H pc k u)) ∧ ∀ k, k < h → ¬ noC (wt c) c nu B f t H pc k (pc k) ∧ ∀ p, p < pc k → noC (wt c) c nu B f t H pc k p
theorem cc_lp {x1 x2 : Int32} (hS : Pm S) (hR : Pr R) (hc : c = 3 ∨ c = 4 ∨ c = 5) (hB : B < 2 ^ 24) (hH : H < 7) (hF : TgF c nu B lev tg H t 0) (hl : ∀ u k, (lev u).testBit k = true ↔ k ≤ H ∧ Lev (wt c) c nu B f k u) (hf : f < 59049) : ∀ (q h : Nat) (ow pc : Nat → Nat) (I : mI) (st : Nat) (y4 y5 : Value), h + q = H → st + 354294 * q < 2 ^ 32 → PnS I c nu B st → I 54 60 = nI H → BmP I 75 ow → BmP I 74 tg → ChW c nu B ow tg pc f h → ChK c nu B ow pc f t H h → (∀ k, k < h → I 79 k = nI (pc k)) → (∀ J st' ow' pc' y4 y5, PnS J c nu B st' → st' ≤ st + 354294 * q → BmP J 75 ow' → FrC I J → ChW c nu B ow' tg pc' f H → ChK c nu B ow' pc' f t H H → (∀ k, k < H → J 79 k = nI (pc' k)) → Ev (d + 7) 218 94 [.ref 54, .int x1, .int x2, .int (nI H), y4, y5] [] S J L R Q) → Ev (d + 7) 218 75 [.ref 54, .int x1, .int x2, .int (nI h), y4, y5] [] S I L R Q := by
  intro q
  induction q with
  | zero =>
    intro h ow pc I st y4 y5 h1 h2 hP e60 hO hT hW hK e79 hq
    obtain rfl : h = H := by omega
    have e0 : (nI h < nI h) = False := eq_false (nI_nlt (Nat.le_refl h) (by omega))
    rw [E218_75]
    simp only [E218_76, E218_77, E218_80, pk54 hS, rfs, rfn, cs0, csi, csl, csr, csn, kti, ktl, ktr, ktn, ktv, ktf, true_and, and_true, and_self, ↓reduceIte, Nat.reduceAdd, Nat.reduceSub, Nat.reduceMul, Nat.reduceLT, Nat.reduceLeDiff, Nat.reduceEqDiff, true_or, or_true, false_or, or_false, not_true_eq_false, not_false_eq_true, reduceCtorEq, cmp_lt, cmp_gt, cmp_eq, Int32.reduceAdd, Int32.reduceSub, Int32.reduceMul, Int32.reduceLT, Int32.reduceToNatClampNeg, eq_self, ne_eq, Int64.reduceAdd, Int64.reduceSub, Int64.reduceMul, Int64.reduceLT, e60, e0]
    exact hq I st ow pc _ _ hP (by omega) hO ⟨fun _ _ _ _ _ _ => rfl, fun _ _ _ => rfl⟩ hW hK e79
  | succ q ih =>
    intro h ow pc I st y4 y5 h1 h2 hP e60 hO hT hW hK e79 hq
    have e9 : 354294 * (q + 1) = 354294 * q + 354294 := Nat.mul_succ _ _
    rw [e9] at h2 hq
    have b5 : st + 354294 < 2 ^ 32 := Nat.lt_of_le_of_lt (by omega) h2
    have e1 : (nI h < nI H) = True := eq_true (nI_lt (by omega) (by omega))
    obtain ⟨w1, ⟨v0, w2, w3⟩, w4, w5, w6⟩ := hW
    have hex : ∃ p', p' < c ∧ ∃ v', v' < 59049 ∧ (ow v').testBit h = true ∧ ∃ u, Rn (wt c) c nu B v' p' u ∧ (tg u).testBit (h + 1) = true := by
      rcases (hF v0 h w2).mp (w1 v0 h w2 w3).2 with ⟨z, _⟩ | ⟨_, _, _, p, z1, z2⟩
      · omega
      · exact ⟨p, z1, v0, w2, w3, z2⟩
    rw [E218_75]
    simp only [E218_76, E218_77, E218_80, E218_83, E218_84, E218_85, pk54 hS, rfs, rfn, cs0, csi, csl, csr, csn, kti, ktl, ktr, ktn, ktv, ktf, true_and, and_true, and_self, ↓reduceIte, Nat.reduceAdd, Nat.reduceSub, Nat.reduceMul, Nat.reduceLT, Nat.reduceLeDiff, Nat.reduceEqDiff, true_or, or_true, false_or, or_false, not_true_eq_false, not_false_eq_true, reduceCtorEq, cmp_lt, cmp_gt, cmp_eq, Int32.reduceAdd, Int32.reduceSub, Int32.reduceMul, Int32.reduceLT, Int32.reduceToNatClampNeg, eq_self, ne_eq, Int64.reduceAdd, Int64.reduceSub, Int64.reduceMul, Int64.reduceLT, e60, e1]
    refine chc (d := d) (h := h) (ow := ow) (tg := tg) hS hR hc hB (by omega) b5 hP hO hT hex (fun J st' p ow' k1 k2 k3 k4 k5 k6 k7 k8 km k9 => ?_)
    simp only [E218_88, E218_91, rfs, rfn, cs0, csi, csl, csr, csn, kti, ktl, ktr, ktn, ktv, ktf, true_and, and_true, and_self, ↓reduceIte, Nat.reduceAdd, Nat.reduceSub, Nat.reduceMul, Nat.reduceLT, Nat.reduceLeDiff, Nat.reduceEqDiff, true_or, or_true, false_or, or_false, not_true_eq_false, not_false_eq_true, reduceCtorEq, cmp_lt, cmp_gt, cmp_eq, Int32.reduceAdd, Int32.reduceSub, Int32.reduceMul, Int32.reduceLT, Int32.reduceToNatClampNeg, eq_self, ne_eq, Int64.reduceAdd, Int64.reduceSub, Int64.reduceMul, Int64.reduceLT, nI_1]
    have J60 : J 54 60 = nI H := by rw [k5.2 60 (by decide) (by decide)]; exact e60
    refine ih (h + 1) ow' (va_up pc h p) J st' _ _ (by omega) (by omega) k1 J60 k4 (hT.cg (k5.1 74 (by decide) (by decide) (by decide) (by decide) (by decide))) ⟨fun u k hu z => ?_, ?_, fun k hk u hu z => ?_, fun u hu z => ?_, fun k hk => ?_⟩ ?_ (fun k hk => ?_) (fun J2 st2 ow2 pc2 y4 y5 g1 g2 g3 g4 g5 gk g6 => hq J2 st2 ow2 pc2 y4 y5 g1 (by omega) g3 ⟨fun b b1 b2 b3 b4 b5 => (g4.1 b b1 b2 b3 b4 b5).trans (k5.1 b b1 b2 b3 b4 b5), fun k m1 m2 => (g4.2 k m1 m2).trans (k5.2 k m1 m2)⟩ g5 gk g6)
    · rcases (k9 u k).mp z with z | ⟨rfl, z, _⟩
      · exact ⟨by have := (w1 u k hu z).1; omega, (w1 u k hu z).2⟩
      · exact ⟨Nat.le_refl _, z⟩
    · obtain ⟨v', m1, m2, u, m3, m4⟩ := k8
      exact ⟨u, Rn_lt hc k3 m1 m3, (k9 u (h + 1)).mpr (Or.inr ⟨rfl, m4, v', m1, m2, m3⟩)⟩
    · by_cases y : k = h
      · subst y
        rcases (k9 u (k + 1)).mp z with z | ⟨_, _, v', m1, m2, m3⟩
        · have := (w1 u (k + 1) hu z).1
          omega
        · exact ⟨v', m1, (k9 v' k).mpr (Or.inl m2), by rw [uu_s]; exact m3⟩
      · rcases (k9 u (k + 1)).mp z with z | ⟨z, _⟩
        · obtain ⟨v', m1, m2, m3⟩ := w4 k (by omega) u hu z
          exact ⟨v', m1, (k9 v' k).mpr (Or.inl m2), by rw [uu_n _ _ y]; exact m3⟩
        · omega
    · rcases (k9 u 0).mp z with z | ⟨z, _⟩
      · exact w5 u hu z
      · omega
    · by_cases y : k = h
      · rw [y, uu_s]; exact k3
      · rw [uu_n _ _ y]; exact w6 k (by omega)
    · obtain ⟨c1, c2⟩ := hK
      have cg : ∀ k, k < h → pc k = va_up pc h p k := fun k hk => (uu_n _ _ (by omega)).symm
      have ss : va_up pc h p h = p := uu_s _ _ _
      have lw : ∀ v, v < 59049 → Wy (wt c) c nu B f t H pc h v → Lev (wt c) c nu B f h v := fun v _ hv => Wy_lev h w6 v hv
      have tb : ∀ v p' u, p' < c → v < 59049 → Wy (wt c) c nu B f t H pc h v → Rn (wt c) c nu B v p' u → ((tg u).testBit (h + 1) = true ↔ LvD false (wt c) c nu B t (H - (h + 1)) u) := fun v p' u p1 hv hw hr => tgC hF hl hc (H - (h + 1)) (h + 1) u (by omega) (Rn_lt hc p1 hv hr) ⟨p', p1, v, lw v hv hw, hr⟩
      have wlt : ∀ v, Wy (wt c) c nu B f t H pc h v → v < 59049 := fun v hv => Lev_lt (mvN hc) hf h v (Wy_lev h w6 v hv)
      refine ⟨fun k hk u hu => ?_, fun k hk => ?_⟩
      · by_cases y : k = h + 1
        · subst y
          rw [k9 u (h + 1)]
          constructor
          · rintro (z | ⟨_, z1, v', z2, z3, z4⟩)
            · have := (w1 u (h + 1) hu z).1
              omega
            · have hv := (c1 h (Nat.le_refl _) v' z2).mp z3
              exact ⟨⟨v', (Wy_cg h v' cg).mp hv, by rw [ss]; exact z4⟩, (tb v' p u k3 z2 hv z4).mp z1⟩
          · rintro ⟨⟨v, v1, v2⟩, z⟩
            rw [ss] at v2
            have hv := (Wy_cg h v cg).mpr v1
            exact Or.inr ⟨rfl, (tb v p u k3 (wlt v hv) hv v2).mpr z, v, wlt v hv, (c1 h (Nat.le_refl _) v (wlt v hv)).mpr hv, v2⟩
        · rw [k9 u k, ← Wy_cg k u (fun l hl => cg l (by omega)), ← c1 k (by omega) u hu]
          exact ⟨fun z => z.elim id (fun z => absurd z.1 y), Or.inl⟩
      · by_cases y : k = h
        · subst y
          rw [ss]
          refine ⟨fun z => ?_, fun p' hp' v x v1 v2 v3 => ?_⟩
          · obtain ⟨v', m1, m2, u, m3, m4⟩ := k8
            have hv := (c1 k (Nat.le_refl _) v' m1).mp m2
            exact z v' u ((Wy_cg k v' cg).mp hv) m3 ((tb v' p u k3 m1 hv m3).mp m4)
          · have hv := (Wy_cg k v cg).mpr v1
            exact km p' hp' ⟨v, wlt v hv, (c1 k (Nat.le_refl _) v (wlt v hv)).mpr hv, x, v2, (tb v p' x (by omega) (wlt v hv) hv v2).mpr v3⟩
        · have cg' : ∀ l, l < k → pc l = va_up pc h p l := fun l hl => cg l (by omega)
          obtain ⟨z1, z2⟩ := c2 k (by omega)
          rw [← cg k (by omega)]
          exact ⟨fun z => z1 ((noC_cg cg').mpr z), fun p' hp' => (noC_cg cg').mp (z2 p' hp')⟩
    · by_cases y : k = h
      · rw [y, uu_s]; exact k6
      · rw [uu_n _ _ y, k7 k y]; exact e79 k (by omega)
/-- a way back from the SHAPE to the BAR -/
theorem tg_way (hF : TgF c nu B lev tg H t 0) (ht : t < 59049) (hl : ∀ u k, (lev u).testBit k = true ↔ k ≤ H ∧ Lev (wt c) c nu B f k u) (hf : f < 59049) (hc : c = 3 ∨ c = 4 ∨ c = 5) (hLt : Lev (wt c) c nu B f H t) : ∀ k, k ≤ H → ∃ v, Lev (wt c) c nu B f (H - k) v ∧ (tg v).testBit (H - k) = true := by
  intro k
  induction k with
  | zero => intro _; exact ⟨t, hLt, (hF t H ht).mpr (Or.inl ⟨rfl, rfl⟩)⟩
  | succ k ih =>
    intro hk
    obtain ⟨v, v1, v2⟩ := ih (by omega)
    have e : H - k = H - (k + 1) + 1 := by omega
    rw [e] at v1 v2
    obtain ⟨p, p1, v', p2, p3⟩ := v1
    have hv' := Lev_lt (mvN hc) hf (H - (k + 1)) v' p2
    exact ⟨v', p2, (hF v' (H - (k + 1)) hv').mpr (Or.inr ⟨Nat.zero_le _, by omega, (hl v' _).mpr ⟨by omega, p2⟩, p, p1, v, p3, v2⟩)⟩
theorem gl_way {ow gl pc : Nat → Nat} (hT : TgF c nu B lev tg H t 0) (hF : GlF c nu B ow gl pc H t 0) (hW : ChW c nu B ow tg pc f H) (hc : c = 3 ∨ c = 4 ∨ c = 5) : ∀ k, k ≤ H → ∃ v, v < 59049 ∧ (ow v).testBit (H - k) = true ∧ (gl v).testBit (H - k) = true := by
  obtain ⟨w1, ⟨v0, w2, w3⟩, w4, w5, w6⟩ := hW
  intro k
  induction k with
  | zero =>
    intro _
    have : v0 = t := by
      rcases (hT v0 H w2).mp (w1 v0 H w2 w3).2 with z | ⟨_, z, _⟩
      · exact z.2
      · omega
    exact ⟨v0, w2, w3, (hF v0 H w2).mpr (Or.inl ⟨rfl, this⟩)⟩
  | succ k ih =>
    intro hk
    obtain ⟨v, v1, v2, v3⟩ := ih (by omega)
    have e : H - k = H - (k + 1) + 1 := by omega
    rw [e] at v2 v3
    obtain ⟨v', m1, m2, m3⟩ := w4 (H - (k + 1)) (by omega) v v1 v2
    exact ⟨v', m1, m2, (hF v' _ m1).mpr (Or.inr ⟨Nat.zero_le _, by omega, m2, v, m3, v3⟩)⟩
/-- goal: the rows from which the CELLS still lead to the SHAPE -/
theorem gl_gy {ow gl pc : Nat → Nat} (hG : GlF c nu B ow gl pc H t 0) (hK : ChK c nu B ow pc f t H H) (hx : ∃ x, Wy (wt c) c nu B f t H pc H x) (ht : ∀ x, Wy (wt c) c nu B f t H pc H x → x = t) (hc : c = 3 ∨ c = 4 ∨ c = 5) (hpc : ∀ k, k < H → pc k < c) : ∀ m, m ≤ H → ∀ u, u < 59049 → ((gl u).testBit (H - m) = true ↔ Gy (wt c) c nu B f t H pc m u) := by
  intro m
  induction m with
  | zero =>
    intro _ u hu
    rw [hG u _ hu]
    constructor
    · rintro (z | ⟨_, z, _⟩)
      · obtain ⟨x, hx⟩ := hx
        have := ht x hx
        rw [show u = x from z.2.trans this.symm]
        exact hx
      · omega
    · exact fun z => Or.inl ⟨rfl, ht u z⟩
  | succ m ih =>
    intro hm u hu
    rw [hG u _ hu]
    have e : H - (m + 1) + 1 = H - m := by omega
    rw [e]
    constructor
    · rintro (z | ⟨_, z1, z2, u', z3, z4⟩)
      · omega
      · exact ⟨(hK.1 _ (by omega) u hu).mp z2, u', z3, (ih (by omega) u' (Rn_lt hc (hpc _ (by omega)) hu z3)).mp z4⟩
    · rintro ⟨z1, y, z2, z3⟩
      exact Or.inr ⟨Nat.zero_le _, by omega, (hK.1 _ (by omega) u hu).mpr z1, y, z2, (ih (by omega) y (Rn_lt hc (hpc _ (by omega)) hu z2)).mpr z3⟩
def PlN (I : mI) : Prop := (I 54 60 = -1 ∨ ∃ h, h ≤ 6 ∧ I 54 60 = nI h) ∧ ∃ c, I 56 0 = nI c ∧ 3 ≤ c ∧ c ≤ 5 ∧ Wt I c
theorem c345 {c : Nat} (h1 : 3 ≤ c) (h2 : c ≤ 5) : c = 3 ∨ c = 4 ∨ c = 5 := by omega
theorem neg1 {H : Nat} (hH : H ≤ 6) : ¬ nI H = (-1 : Int32) := fun z => by
  have := congrArg Int32.toInt z
  rw [nI_toInt (by omega)] at this
  have e : (-1 : Int32).toInt = -1 := rfl
  omega
/-- rowAt -/
theorem rwK_lp {A : Nat} {a : Nat → Nat} {I : mI} (hA : A = 20 ∨ A = 30) (hS : Pm S) (hR : Pr R) (hc : c ≤ 5) (h0 : I 56 0 = nI c) (hw : Wt I c) (hi : ∀ i, i < c → I 56 (A + i) = nI (a i) ∧ 1 ≤ a i) (hq : Q (.int (nI (rnum (wt c) a c))) S I L R) : ∀ (q i : Nat), i + q = c → Ev (d + 1) 208 4 [.ref 54, .int (nI A), .int (nI (rnum (wt c) a i)), .int (nI i)] [] S I L R Q := by
  have z0 : inb 0 8060 = True := inb_nI (j := 0) (by decide) (by decide)
  intro q
  induction q with
  | zero =>
    intro i hi2
    obtain rfl : i = c := by omega
    have e0 : (nI i < nI i) = False := eq_false (nI_nlt (Nat.le_refl i) (by omega))
    rw [E208_4]
    simp only [E208_5, E208_6, E208_9, E208_10, E208_11, E208_40, E208_41, pk54 hS, pk56 hS, pl56 hS, pa56 hS, pi56 hS, pr54_3 hR, rfs, rfn, cs0, csi, csl, csr, csn, kti, ktl, ktr, ktn, ktv, ktf, true_and, and_true, and_self, ↓reduceIte, Nat.reduceAdd, Nat.reduceSub, Nat.reduceMul, Nat.reduceLT, Nat.reduceLeDiff, Nat.reduceEqDiff, true_or, or_true, false_or, or_false, not_true_eq_false, not_false_eq_true, reduceCtorEq, cmp_lt, cmp_gt, cmp_eq, Int32.reduceAdd, Int32.reduceSub, Int32.reduceMul, Int32.reduceLT, Int32.reduceToNatClampNeg, eq_self, ne_eq, Int64.reduceAdd, Int64.reduceSub, Int64.reduceMul, Int64.reduceLT, z0, h0, e0]
    exact hq
  | succ q ih =>
    intro i hi2
    have e1 : (nI i < nI c) = True := eq_true (nI_lt (by omega) (by omega))
    have a0 : inb (nI i) 5 = True := inb_nI (by omega) (by decide)
    have a1 : (nI i).toNatClampNeg = i := nI_clamp (by omega)
    have hAi : A + i < 8060 := by omega
    have b0 : inb (nI (A + i)) 8060 = True := inb_nI hAi (by decide)
    have b1 : (nI (A + i)).toNatClampNeg = A + i := nI_clamp (by omega)
    have wi := hw i (by omega)
    obtain ⟨ey, y1⟩ := hi i (by omega)
    have eA : nI A + nI i = nI (A + i) := by rw [nI_add]
    have s1 : nI (a i) - 1 = nI (a i - 1) := by
      obtain ⟨q, hq⟩ : ∃ q, a i = q + 1 := ⟨a i - 1, by omega⟩
      rw [hq]
      exact nI_m1 q
    have es : nI (rnum (wt c) a i) + nI (wt c i) * nI (a i - 1) = nI (rnum (wt c) a (i + 1)) := by
      rw [pk_mul, nI_add, Nat.mul_comm]
      rfl
    rw [E208_4]
    simp only [E208_5, E208_6, E208_9, E208_10, E208_11, E208_14, E208_15, E208_16, E208_19, E208_20, E208_21, E208_22, E208_25, E208_26, E208_27, E208_28, E208_29, E208_30, E208_31, E208_32, E208_33, E208_34, E208_37, pk54 hS, pk56 hS, pl56 hS, pa56 hS, pi56 hS, pk72 hS, pl72 hS, pa72 hS, pi72 hS, pr54_3 hR, pr54_50 hR, rfs, rfn, cs0, csi, csl, csr, csn, kti, ktl, ktr, ktn, ktv, ktf, true_and, and_true, and_self, ↓reduceIte, Nat.reduceAdd, Nat.reduceSub, Nat.reduceMul, Nat.reduceLT, Nat.reduceLeDiff, Nat.reduceEqDiff, true_or, or_true, false_or, or_false, not_true_eq_false, not_false_eq_true, reduceCtorEq, cmp_lt, cmp_gt, cmp_eq, Int32.reduceAdd, Int32.reduceSub, Int32.reduceMul, Int32.reduceLT, Int32.reduceToNatClampNeg, eq_self, ne_eq, Int64.reduceAdd, Int64.reduceSub, Int64.reduceMul, Int64.reduceLT, z0, h0, e1, a0, a1, eA, b0, b1, wi, ey, s1, es, nI_1]
    exact ih (i + 1) (by omega)
theorem rwaK {A : Nat} {a : Nat → Nat} {I : mI} (hA : A = 20 ∨ A = 30) (hS : Pm S) (hR : Pr R) (hc : c ≤ 5) (h0 : I 56 0 = nI c) (hw : Wt I c) (hi : ∀ i, i < c → I 56 (A + i) = nI (a i) ∧ 1 ≤ a i) (hq : Q (.int (nI (rnum (wt c) a c))) S I L R) : EvM (d + 1) 208 [.ref 54, .int (nI A)] S I L R Q := by
  have k := rwK_lp (d := d) hA hS hR hc h0 hw hi hq c 0 (Nat.zero_add _)
  rw [show nI (rnum (wt c) a 0) = 0 from rfl, show nI 0 = 0 from rfl] at k
  simp only [M208, E208_0, E208_1, E208_2, E208_3, rfs, rfn, cs0, csi, csl, csr, csn, kti, ktl, ktr, ktn, ktv, ktf, true_and, and_true, and_self, ↓reduceIte, Nat.reduceAdd, Nat.reduceSub, Nat.reduceMul, Nat.reduceLT, Nat.reduceLeDiff, Nat.reduceEqDiff, true_or, or_true, false_or, or_false, not_true_eq_false, not_false_eq_true, reduceCtorEq, cmp_lt, cmp_gt, cmp_eq, Int32.reduceAdd, Int32.reduceSub, Int32.reduceMul, Int32.reduceLT, Int32.reduceToNatClampNeg, eq_self, ne_eq, Int64.reduceAdd, Int64.reduceSub, Int64.reduceMul, Int64.reduceLT]
  exact k
/-- findPlan -/
theorem fpl {I : mI} {A A2 : Nat → Nat} {th : Nat} (hK : StM I c A A2 th B) (hL : ¬ I 54 60 = -2 → PlR c (nI th) B (rnum (wt c) A c) (rnum (wt c) A2 c) I) (hS : Pm S) (hR : Pr R) (hr : Rw (I 56)) (hp : PlM I) (hs : Rst I 59049 st) (hst : st + 6023004 < 2 ^ 32) (hq : ∀ J st', Rst J 59049 st' → st' ≤ st + 6023004 → FrP I J → PlN J → PlR c (nI th) B (rnum (wt c) A c) (rnum (wt c) A2 c) J → ((J 54 59 = I 54 59 ∧ J 73 = I 73) ∨ J 54 59 = -1) → Q .null S J L R) : EvM (d + 8) 218 [.ref 54] S I L R Q := by
  by_cases e60 : I 54 60 = -2
  case neg =>
    simp only [M218, E218_0, E218_1, E218_4, E218_6, E218_9, pk54 hS, rfs, rfn, cs0, csi, csl, csr, csn, kti, ktl, ktr, ktn, ktv, ktf, true_and, and_true, and_self, ↓reduceIte, Nat.reduceAdd, Nat.reduceSub, Nat.reduceMul, Nat.reduceLT, Nat.reduceLeDiff, Nat.reduceEqDiff, true_or, or_true, false_or, or_false, not_true_eq_false, not_false_eq_true, reduceCtorEq, cmp_lt, cmp_gt, cmp_eq, Int32.reduceAdd, Int32.reduceSub, Int32.reduceMul, Int32.reduceLT, Int32.reduceToNatClampNeg, eq_self, ne_eq, Int64.reduceAdd, Int64.reduceSub, Int64.reduceMul, Int64.reduceLT, e60]
    rcases hp with hp | ⟨hp, c, c1, c2, c3, c4⟩
    · exact absurd hp e60
    · exact hq I st hs (by omega) FrP.rf ⟨hp, _, c1, c2, c3, c4⟩ (hL e60) (Or.inl ⟨rfl, rfl⟩)
  obtain ⟨hc, e0, e3, e10, hB4, kA, kA2⟩ := id hK
  have c3 : 3 ≤ c := by omega
  have c5 : c ≤ 5 := by omega
  have B4 : B < 2 ^ 4 := hB4
  obtain ⟨f, ef⟩ : ∃ f, f = rnum (wt c) A c := ⟨_, rfl⟩
  obtain ⟨t, et⟩ : ∃ t, t = rnum (wt c) A2 c := ⟨_, rfl⟩
  have f1 : f < 59049 := by
    have a := (rn_dg hc (fun i hi => (kA i hi).2)).1
    have b := (n9c hc).2
    omega
  have t1 : t < 59049 := by
    have a := (rn_dg hc (fun i hi => (kA2 i hi).2)).1
    have b := (n9c hc).2
    omega
  rw [← ef, ← et] at hq
  have z10 : inb 10 8060 = True := inb_nI (j := 10) (by decide) (by decide)
  have c10 : Int32.toNatClampNeg 10 = 10 := rfl
  simp only [M218, E218_0, E218_1, E218_4, E218_6, E218_10, E218_11, pk54 hS, rfs, rfn, cs0, csi, csl, csr, csn, kti, ktl, ktr, ktn, ktv, ktf, true_and, and_true, and_self, ↓reduceIte, Nat.reduceAdd, Nat.reduceSub, Nat.reduceMul, Nat.reduceLT, Nat.reduceLeDiff, Nat.reduceEqDiff, true_or, or_true, false_or, or_false, not_true_eq_false, not_false_eq_true, reduceCtorEq, cmp_lt, cmp_gt, cmp_eq, Int32.reduceAdd, Int32.reduceSub, Int32.reduceMul, Int32.reduceLT, Int32.reduceToNatClampNeg, eq_self, ne_eq, Int64.reduceAdd, Int64.reduceSub, Int64.reduceMul, Int64.reduceLT, e60]
  refine fwt (d := d + 6) hS hR hc e0 (fun I1 a1 a2 => ?_)
  have i6 : I1 56 = I 56 := a1 56 (by decide)
  simp only [E218_14, E218_15, E218_16, E218_19, E218_20, E218_22, pk54 hS, rfs, rfn, cs0, csi, csl, csr, csn, kti, ktl, ktr, ktn, ktv, ktf, true_and, and_true, and_self, ↓reduceIte, Nat.reduceAdd, Nat.reduceSub, Nat.reduceMul, Nat.reduceLT, Nat.reduceLeDiff, Nat.reduceEqDiff, true_or, or_true, false_or, or_false, not_true_eq_false, not_false_eq_true, reduceCtorEq, cmp_lt, cmp_gt, cmp_eq, Int32.reduceAdd, Int32.reduceSub, Int32.reduceMul, Int32.reduceLT, Int32.reduceToNatClampNeg, eq_self, ne_eq, Int64.reduceAdd, Int64.reduceSub, Int64.reduceMul, Int64.reduceLT, pt]
  have F1 : FrP I (put I1 54 59 (-1)) := ⟨fun b b1 b2 => by rw [pt_n b2, a1 b (by omega)], fun k k1 k2 k3 k4 => by rw [pt_f k3, a1 54 (by decide)]⟩
  have s77 : put I1 54 59 (-1) 77 = I 77 := by rw [pt_n (by decide), a1 77 (by decide)]
  have s56 : put I1 54 59 (-1) 54 56 = I 54 56 := by rw [pt_f (by decide), a1 54 (by decide)]
  have s6 : put I1 54 59 (-1) 56 = I 56 := by rw [pt_n (by decide), i6]
  have s59 : put I1 54 59 (-1) 54 59 = -1 := pt_s
  have s2 : Wt (put I1 54 59 (-1)) c := fun i hi => by rw [pt_n (by decide)]; exact a2 i hi
  generalize put I1 54 59 (-1) = I2 at *
  have hP0 : PnS I2 c (I 56 3) B st := ⟨⟨by rw [s6]; exact e0, by rw [s6], s2⟩, by rw [s6]; exact e10, by rw [s56]; exact hs.1, fun v hv => by rw [s77]; exact hs.2 v hv⟩
  refine rwaK (A := 20) (a := A) (d := d + 6) (Or.inl rfl) hS hR c5 (by rw [s6]; exact e0) s2 (fun i hi => by rw [s6]; exact ⟨(kA i hi).1, (kA i hi).2.1⟩) ?_
  rw [← ef]
  simp only [E218_25, E218_26, E218_27, E218_29, pk54 hS, rfs, rfn, cs0, csi, csl, csr, csn, kti, ktl, ktr, ktn, ktv, ktf, true_and, and_true, and_self, ↓reduceIte, Nat.reduceAdd, Nat.reduceSub, Nat.reduceMul, Nat.reduceLT, Nat.reduceLeDiff, Nat.reduceEqDiff, true_or, or_true, false_or, or_false, not_true_eq_false, not_false_eq_true, reduceCtorEq, cmp_lt, cmp_gt, cmp_eq, Int32.reduceAdd, Int32.reduceSub, Int32.reduceMul, Int32.reduceLT, Int32.reduceToNatClampNeg, eq_self, ne_eq, Int64.reduceAdd, Int64.reduceSub, Int64.reduceMul, Int64.reduceLT]
  refine rwaK (A := 30) (a := A2) (d := d + 6) (Or.inr rfl) hS hR c5 (by rw [s6]; exact e0) s2 (fun i hi => by rw [s6]; exact ⟨(kA2 i hi).1, (kA2 i hi).2.1⟩) ?_
  rw [← et]
  have i10 := hP0.2.1
  have f59 : I2 54 59 = -1 := s59
  simp only [E218_32, E218_33, E218_34, E218_35, E218_36, E218_37, E218_40, E218_42, E218_43, E218_44, E218_46, pk54 hS, pk56 hS, pl56 hS, pa56 hS, pi56 hS, pr54_3 hR, rfs, rfn, cs0, csi, csl, csr, csn, kti, ktl, ktr, ktn, ktv, ktf, true_and, and_true, and_self, ↓reduceIte, Nat.reduceAdd, Nat.reduceSub, Nat.reduceMul, Nat.reduceLT, Nat.reduceLeDiff, Nat.reduceEqDiff, true_or, or_true, false_or, or_false, not_true_eq_false, not_false_eq_true, reduceCtorEq, cmp_lt, cmp_gt, cmp_eq, Int32.reduceAdd, Int32.reduceSub, Int32.reduceMul, Int32.reduceLT, Int32.reduceToNatClampNeg, eq_self, ne_eq, Int64.reduceAdd, Int64.reduceSub, Int64.reduceMul, Int64.reduceLT, z10, c10, i10]
  refine flT (d := d + 2) (c := c) (B := B) (nu := I 56 3) (w := wt c) (last := 6) (st := st) (r := f) hS hR (wtO hc) c5 (mvN hc) (by omega) f1 (by decide) (Or.inr ⟨t, t1, rfl⟩) (by omega) hP0.1 hP0.2.2 (fun I3 lev st3 hh v b1 b2 b3 b4 => ?_)
  obtain ⟨l1, l2, l3, l4⟩ := b1
  have F3 : FrP I (put I3 54 60 v) := FrP.p4 (F1.tr b4.f) (by decide)
  have q6 : put I3 54 60 v 56 = I 56 := by rw [pt_n (by decide), b4.1 56 (by decide) (by decide) (by decide) (by decide), s6]
  have q2 : put I3 54 60 v 72 = I2 72 := by rw [pt_n (by decide), b4.1 72 (by decide) (by decide) (by decide) (by decide)]
  have W3 : Wt (put I3 54 60 v) c := fun i hi => by rw [q2]; exact s2 i hi
  have b3' : st3 ≤ st + 1771470 := b3
  have R3 : Rst (put I3 54 60 v) 59049 st3 := ⟨by rw [pt_f (by decide)]; exact b2.1, fun u hu => by rw [pt_n (by decide)]; exact b2.2 u hu⟩
  simp only [E218_49, E218_52, E218_53, E218_56, E218_57, pk54 hS, rfs, rfn, cs0, csi, csl, csr, csn, kti, ktl, ktr, ktn, ktv, ktf, true_and, and_true, and_self, ↓reduceIte, Nat.reduceAdd, Nat.reduceSub, Nat.reduceMul, Nat.reduceLT, Nat.reduceLeDiff, Nat.reduceEqDiff, true_or, or_true, false_or, or_false, not_true_eq_false, not_false_eq_true, reduceCtorEq, cmp_lt, cmp_gt, cmp_eq, Int32.reduceAdd, Int32.reduceSub, Int32.reduceMul, Int32.reduceLT, Int32.reduceToNatClampNeg, eq_self, ne_eq, Int64.reduceAdd, Int64.reduceSub, Int64.reduceMul, Int64.reduceLT, pt, pt_s]
  have n59 : put I3 54 60 v 54 59 = -1 := by rw [pt_f (by decide), b4.2 59 (by decide) (by decide)]; exact f59
  have mh : MinH (wt c) c (nI th) B f t v := by
    rw [← e3]
    rcases l4 with ⟨z1, z2, z3⟩ | ⟨z1, t', u1, u2, u3, u4⟩
    · exact Or.inl ⟨z1, fun h hh q => z3 t t1 rfl h hh ((LvD_lev h t).mp q)⟩
    · obtain rfl : t = t' := (nI_eq (by omega) (by omega)).mp u2
      exact Or.inr ⟨hh, l3, z1, (LvD_lev hh t).mpr u3, fun h' h1 q => u4 h' h1 ((LvD_lev h' t).mp q)⟩
  rcases l4 with ⟨rfl, _, _⟩ | ⟨rfl, t', u1, u2, u3, _⟩
  · simp only [E218_57, E218_60, rfs, rfn, cs0, csi, csl, csr, csn, kti, ktl, ktr, ktn, ktv, ktf, true_and, and_true, and_self, ↓reduceIte, Nat.reduceAdd, Nat.reduceSub, Nat.reduceMul, Nat.reduceLT, Nat.reduceLeDiff, Nat.reduceEqDiff, true_or, or_true, false_or, or_false, not_true_eq_false, not_false_eq_true, reduceCtorEq, cmp_lt, cmp_gt, cmp_eq, Int32.reduceAdd, Int32.reduceSub, Int32.reduceMul, Int32.reduceLT, Int32.reduceToNatClampNeg, eq_self, ne_eq, Int64.reduceAdd, Int64.reduceSub, Int64.reduceMul, Int64.reduceLT]
    exact hq _ st3 R3 (by omega) F3 ⟨Or.inl pt_s, c, by rw [q6]; exact e0, c3, c5, W3⟩ ⟨by rw [pt_s]; exact mh, fun H hH eH => absurd (eH.symm.trans pt_s) (neg1 hH)⟩ (Or.inr n59)
  · obtain rfl : t = t' := (nI_eq (by omega) (by omega)).mp u2
    have vn : (nI hh = -1) = False := eq_false (fun z => nI_pos (n := hh) (by omega) (by rw [z]; decide))
    have P3 : PnS (put I3 54 60 (nI hh)) c (I 56 3) B st3 := ⟨⟨by rw [q6]; exact e0, by rw [q6], W3⟩, by rw [q6]; exact e10, R3⟩
    have e60 : put I3 54 60 (nI hh) 54 60 = nI hh := pt_s
    have LV : BmP (put I3 54 60 (nI hh)) 73 lev := l1.b.cg (pt_n (by decide))
    simp only [E218_57, E218_61, E218_62, E218_63, pk54 hS, rfs, rfn, cs0, csi, csl, csr, csn, kti, ktl, ktr, ktn, ktv, ktf, true_and, and_true, and_self, ↓reduceIte, Nat.reduceAdd, Nat.reduceSub, Nat.reduceMul, Nat.reduceLT, Nat.reduceLeDiff, Nat.reduceEqDiff, true_or, or_true, false_or, or_false, not_true_eq_false, not_false_eq_true, reduceCtorEq, cmp_lt, cmp_gt, cmp_eq, Int32.reduceAdd, Int32.reduceSub, Int32.reduceMul, Int32.reduceLT, Int32.reduceToNatClampNeg, eq_self, ne_eq, Int64.reduceAdd, Int64.reduceSub, Int64.reduceMul, Int64.reduceLT, vn]
    generalize put I3 54 60 (nI hh) = I4 at *
    refine ftg (d := d + 1) (H := hh) (lev := lev) (t := t) hS hR hc (by omega) (by omega) e60 t1 (by omega) P3 LV (fun I5 st5 tg d1 d2 d3 d4 d5 d6 d7 => ?_)
    have f3 : inb (nI f) 59049 = True := inb_nI f1 (by decide)
    have f4 : (nI f).toNatClampNeg = f := nI_clamp (by omega)
    have d2' : st5 ≤ st3 + 1771470 := by omega
    simp only [E218_66, E218_67, E218_70, E218_71, E218_72, E218_73, E218_74, pk54 hS, pk75 hS, pl75 hS, pa75 hS, pi75 hS, pr54_53 hR, rfs, rfn, cs0, csi, csl, csr, csn, kti, ktl, ktr, ktn, ktv, ktf, true_and, and_true, and_self, ↓reduceIte, Nat.reduceAdd, Nat.reduceSub, Nat.reduceMul, Nat.reduceLT, Nat.reduceLeDiff, Nat.reduceEqDiff, true_or, or_true, false_or, or_false, not_true_eq_false, not_false_eq_true, reduceCtorEq, cmp_lt, cmp_gt, cmp_eq, Int32.reduceAdd, Int32.reduceSub, Int32.reduceMul, Int32.reduceLT, Int32.reduceToNatClampNeg, eq_self, ne_eq, Int64.reduceAdd, Int64.reduceSub, Int64.reduceMul, Int64.reduceLT, f3, f4, pt]
    have O1 : BmP (put I5 75 f 1) 75 (va_up (fun _ => 0) f 1) := by
      intro u hu
      by_cases y : u = f
      · rw [y, uu_s, pt_s]
        exact ⟨by decide, rfl⟩
      · rw [uu_n _ _ y, pt_f y]
        exact d4 u hu
    have ob : ∀ u k, (va_up (fun _ => 0) f 1 u).testBit k = true → u = f ∧ k = 0 := by
      intro u k z
      by_cases y : u = f
      · rw [y, uu_s, show (1 : Nat) = 2 ^ 0 from rfl, Nat.testBit_two_pow, decide_eq_true_iff] at z
        exact ⟨y, z.symm⟩
      · rw [uu_n _ _ y, Nat.zero_testBit] at z
        cases z
    have tgf : (tg f).testBit 0 = true := by
      obtain ⟨v, z1, z2⟩ := tg_way d7 t1 l2 f1 hc u3 hh (Nat.le_refl hh)
      rw [Nat.sub_self] at z1 z2
      have : v = f := z1
      rw [← this]
      exact z2
    have F5 : FrP I (put I5 75 f 1) := FrP.pa (F3.tr d6.f) (by decide)
    refine cc_lp (d := d + 1) (H := hh) (t := t) (f := f) (lev := lev) (tg := tg) hS hR hc (by omega) (by omega) d7 l2 f1 hh 0 (va_up (fun _ => 0) f 1) (fun _ => 0) _ st5 _ _ (by omega) (by omega) (d1.cg (pt_n (by decide)) (pt_n (by decide)) (pt_n (by decide)) (pt_m (by decide))) (by rw [pt_m (by decide), d6.2 60 (by decide) (by decide)]; exact e60) O1 (d3.cg (pt_n (by decide))) ⟨fun u k hu z => ?_, ⟨f, f1, by rw [uu_s]; decide⟩, fun k hk => absurd hk (by omega), fun u hu z => (ob u 0 z).1, fun k hk => absurd hk (by omega)⟩ ⟨fun k hk u hu => ?_, fun k hk => absurd hk (by omega)⟩ (fun k hk => absurd hk (by omega)) (fun I6 st6 ow pc y4 y5 g1 g2 g3 g4 g5 gk g6 => ?_)
    · obtain ⟨rfl, rfl⟩ := ob u k z
      exact ⟨Nat.le_refl 0, tgf⟩
    · obtain rfl : k = 0 := by omega
      refine ⟨fun z => (ob u 0 z).1, fun z => ?_⟩
      have z' : u = f := z
      rw [z', uu_s]
      decide
    have F6 : FrP I I6 := F5.tr g4.f
    have g2' : st6 ≤ st5 + 2125764 := by omega
    have j60 : I6 54 60 = nI hh := by rw [g4.2 60 (by decide) (by decide), pt_m (by decide), d6.2 60 (by decide) (by decide)]; exact e60
    have j76 : BmP I6 76 (fun _ => 0) := d5.cg (by rw [g4.1 76 (by decide) (by decide) (by decide) (by decide) (by decide), pt_n (by decide)])
    have t3 : inb (nI t) 59049 = True := inb_nI t1 (by decide)
    have t4 : (nI t).toNatClampNeg = t := nI_clamp (by omega)
    obtain ⟨sh1, sh2⟩ := sh7 hh (by omega)
    simp only [E218_94, E218_95, E218_98, E218_99, E218_100, E218_101, E218_104, E218_105, E218_106, E218_107, E218_110, E218_111, E218_112, pk54 hS, pk76 hS, pl76 hS, pa76 hS, pi76 hS, pr54_54 hR, rfs, rfn, cs0, csi, csl, csr, csn, kti, ktl, ktr, ktn, ktv, ktf, true_and, and_true, and_self, ↓reduceIte, Nat.reduceAdd, Nat.reduceSub, Nat.reduceMul, Nat.reduceLT, Nat.reduceLeDiff, Nat.reduceEqDiff, true_or, or_true, false_or, or_false, not_true_eq_false, not_false_eq_true, reduceCtorEq, cmp_lt, cmp_gt, cmp_eq, Int32.reduceAdd, Int32.reduceSub, Int32.reduceMul, Int32.reduceLT, Int32.reduceToNatClampNeg, eq_self, ne_eq, Int64.reduceAdd, Int64.reduceSub, Int64.reduceMul, Int64.reduceLT, j60, t3, t4, sh1, pt, pt_m]
    have G1 : BmP (put I6 76 t (nI (2 ^ hh))) 76 (va_up (fun _ => 0) t (2 ^ hh)) := by
      intro u hu
      by_cases y : u = t
      · rw [y, uu_s, pt_s]
        exact ⟨sh2, rfl⟩
      · rw [uu_n _ _ y, pt_f y]
        exact j76 u hu
    refine gh_lp (d := d + 2) (H := hh) (t := t) (ow := ow) (pc := pc) hS hR hc (by omega) (by omega) g5.2.2.2.2 hh (va_up (fun _ => 0) t (2 ^ hh)) _ st6 _ _ (Nat.le_refl hh) (by omega) (g1.cg (pt_n (by decide)) (pt_n (by decide)) (pt_n (by decide)) (pt_m (by decide))) (g3.cg (pt_n (by decide))) G1 (fun k hk => by rw [pt_n (by decide)]; exact g6 k hk) (fun u k hu => ?_) (fun I7 st7 gl y4 y5 m1 m2 m3 m4 m5 => ?_)
    · by_cases y : u = t
      · rw [y, uu_s, Nat.testBit_two_pow, decide_eq_true_iff]
        constructor
        · intro x
          exact Or.inl ⟨x.symm, rfl⟩
        · rintro (x | ⟨x1, x2, _⟩)
          · exact x.1.symm
          · omega
      · rw [uu_n _ _ y, Nat.zero_testBit]
        constructor
        · intro x
          cases x
        · rintro (x | ⟨x1, x2, _⟩)
          · exact absurd x.2 y
          · omega
    have m2' : st7 ≤ st6 + 354294 := by omega
    have F7 : FrP I I7 := (FrP.pa F6 (by decide)).tr (m4.f (by decide))
    have z0 : inb 0 7 = True := inb_nI (j := 0) (by decide) (by decide)
    have c0 : Int32.toNatClampNeg 0 = 0 := rfl
    simp only [E218_193, E218_194, E218_197, E218_198, E218_199, E218_200, E218_201, pk54 hS, pk80 hS, pl80 hS, pa80 hS, pi80 hS, pr54_62 hR, rfs, rfn, cs0, csi, csl, csr, csn, kti, ktl, ktr, ktn, ktv, ktf, true_and, and_true, and_self, ↓reduceIte, Nat.reduceAdd, Nat.reduceSub, Nat.reduceMul, Nat.reduceLT, Nat.reduceLeDiff, Nat.reduceEqDiff, true_or, or_true, false_or, or_false, not_true_eq_false, not_false_eq_true, reduceCtorEq, cmp_lt, cmp_gt, cmp_eq, Int32.reduceAdd, Int32.reduceSub, Int32.reduceMul, Int32.reduceLT, Int32.reduceToNatClampNeg, eq_self, ne_eq, Int64.reduceAdd, Int64.reduceSub, Int64.reduceMul, Int64.reduceLT, z0, c0, pt]
    have g0 : (gl f).testBit 0 = true := by
      obtain ⟨v, v1, v2, v3⟩ := gl_way d7 m5 g5 hc hh (Nat.le_refl hh)
      rw [Nat.sub_self] at v2 v3
      rw [← g5.2.2.2.1 v v1 v2]
      exact v3
    have k60 : I7 54 60 = nI hh := by rw [m4.2 60 (by decide) (by decide), pt_m (by decide)]; exact j60
    refine gs_lp (d := d + 2) (H := hh) (t := t) (ow := ow) (gl := gl) (pc := pc) hS hR hc (by omega) (by omega) g5.2.2.2.2 m5 hh 0 _ st7 f _ _ (by omega) (by omega) (m1.cg (pt_n (by decide)) (pt_n (by decide)) (pt_n (by decide)) (pt_m (by decide))) (by rw [pt_m (by decide)]; exact k60) (m3.cg (pt_n (by decide))) (fun k hk => by rw [pt_n (by decide), m4.1 79 (by decide) (by decide) (by decide) (by decide), pt_n (by decide)]; exact g6 k hk) f1 pt_s g0 (fun I8 st8 n1 n2 n3 n4 ⟨pr, p0, p1, p2⟩ => ?_)
    have F8 : FrP I I8 := (FrP.pa F7 (by decide)).tr (n3.f (by decide))
    have r79 : ∀ k, k < hh → I8 79 k = nI (pc k) := fun k hk => by
      rw [n3.1 79 (by decide) (by decide) (by decide) (by decide), pt_n (by decide), m4.1 79 (by decide) (by decide) (by decide) (by decide), pt_n (by decide)]
      exact g6 k hk
    have r60 : I8 54 60 = nI hh := by rw [n3.2 60 (by decide) (by decide), pt_m (by decide)]; exact k60
    have r59 : I8 54 59 = -1 := by
      rw [n3.2 59 (by decide) (by decide), pt_m (by decide), m4.2 59 (by decide) (by decide), pt_m (by decide), g4.2 59 (by decide) (by decide), pt_m (by decide), d6.2 59 (by decide) (by decide)]
      exact n59
    have ex : ∃ x, Wy (wt c) c (I 56 3) B f t hh pc hh x := by
      obtain ⟨v, v1, v2⟩ := g5.2.1
      exact ⟨v, (gk.1 hh (Nat.le_refl _) v v1).mp v2⟩
    have tt : ∀ x, Wy (wt c) c (I 56 3) B f t hh pc hh x → x = t := fun x hx => by
      have hx59 : x < 59049 := Lev_lt (mvN hc) f1 hh x (Wy_lev hh g5.2.2.2.2 x hx)
      have q := (tgC d7 l2 hc 0 hh x (by omega) hx59 (Wy_lev hh g5.2.2.2.2 x hx)).mp (g5.1 x hh hx59 ((gk.1 hh (Nat.le_refl _) x hx59).mpr hx)).2
      exact q
    have gg := gl_gy m5 gk ex tt hc g5.2.2.2.2
    refine hq I8 st8 n1.2.2 (by omega) F8 ?_ ⟨by rw [r60]; exact mh, fun H hH eH => ?_⟩ (Or.inr r59)
    rotate_left
    · obtain rfl : hh = H := (nI_eq (by omega) (by omega)).mp (r60.symm.trans eH)
      refine ⟨pc, fun i => pr (i + 1), r79, fun i hi => p1 (i + 1) (Nat.zero_le _) (by omega), ?_⟩
      rw [← e3]
      refine ⟨fun i hi => ⟨g5.2.2.2.2 i hi, gk.2 i hi⟩, fun i hi => ?_⟩
      have pv : (if i = 0 then f else (fun i => pr (i + 1)) (i - 1)) = pr i := by
        by_cases z : i = 0
        · rw [if_pos z, z, p0]
        · rw [if_neg z]
          show pr (i - 1 + 1) = pr i
          rw [show i - 1 + 1 = i by omega]
      rw [pv]
      obtain ⟨⟨q1, q2⟩, q3⟩ := p2 i (Nat.zero_le _) hi
      have l := (p1 i (Nat.zero_le _) (by omega)).1
      have G := fun y (hy : y < 59049) => gg (hh - (i + 1)) (by omega) y hy
      rw [show hh - (hh - (i + 1)) = i + 1 by omega] at G
      refine ⟨⟨q1, (G _ (Rn_lt hc (g5.2.2.2.2 i hi) l q1)).mp q2⟩, fun y hy y1 y2 => q3 y hy y1 ((G y (Rn_lt hc (g5.2.2.2.2 i hi) l y1)).mpr y2)⟩
    exact ⟨Or.inr ⟨hh, l3, by rw [n3.2 60 (by decide) (by decide), pt_m (by decide)]; exact k60⟩, c, n1.1.1, c3, c5, n1.1.2.2⟩
end FP
