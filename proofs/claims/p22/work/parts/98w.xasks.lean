/-! the class's calls heats, plan, reached, even, striker, image, back keep the invariant -/
theorem nn_some {x k : Nat} : nn (some x) k = 0 := rfl
theorem nn_none {k : Nat} : nn none k = k := rfl
theorem nn_le {o : Option Nat} {k : Nat} : nn o k ≤ k := by
  cases o
  · exact Nat.le_refl k
  · exact Nat.zero_le k
theorem pcs_x {c t : Nat} {S S' : mS} {I I' : mI} {R R' : mR} (hc : c = 3 ∨ c = 4 ∨ c = 5) (h : XC S I R t) (p : PcS S I R c S' I' R') : XC S' I' R' (t + 1) ∧ Ext S S' ∧ OutX I I' ∧ RuF I I' ∧ NoX I R I' R' := by
  obtain ⟨⟨hS, hR⟩, ⟨⟨l, l1, l2⟩, W, sm, im, pl⟩, rm⟩ := id h
  have h85 := hS.1
  rcases p with ⟨rfl, rfl, P, hP, q1, q2⟩ | ⟨hn, s1, s2, ex, q1, q2, q3, q4⟩
  · obtain ⟨p1, p2, p3, p4⟩ := pl c P hc hP
    have lo : ∀ a, a < 85 → I' a = I a := fun a ha => q2 a (Or.inl (by omega))
    have ot : ∀ a, 85 ≤ a → ¬ W a = 20 + c → I' a = I a := fun a a1 a2 => q2 a (Classical.byContradiction (fun z => a2 (p4 a (by omega) (by omega))))
    have kp : KpR S' I R' W I' R' W := fun q g1 _ g3 => ⟨ot q g1 (by omega), rfl, g3⟩
    refine ⟨⟨⟨hS, hR⟩, ⟨⟨l, l1, by rw [lo 4 (by decide)]; exact l2⟩, W, sm.tr Ext.rf (by rw [lo 5 (by decide)]) (by rw [lo 5 (by decide)]) (by rw [lo 5 (by decide)]) (fun _ _ => rfl) kp, im.tr Ext.rf (fun _ _ _ z => z) (fun a a1 _ a3 => ⟨ot a a1 (by omega), rfl, rfl⟩) kp, fun c' P' hc' hP' => ?_⟩, rm.mono (by omega)⟩, Ext.rf, fun a ha => lo a (by omega), RuF.rf.al (fun a h1 h2 => lo a (by omega)) (by rw [lo 4 (by decide)]), ⟨⟨fun a ha => lo a (by omega), fun k _ => by rw [lo 5 (by decide)], rfl, fun j y hj hy a a1 a2 => ot a (by have := (im j y hj hy).2.1; omega) (by have := (im j y hj hy).2.2.1 a a1 a2; omega)⟩, lo 14 (by decide), by rw [lo 5 (by decide)], rfl, fun _ _ _ _ => rfl, fun q hq => ot q (rcp_w sm im q hq).1 (by have := (rcp_w sm im q hq).2.2; omega)⟩, by rw [lo 4 (by decide)]⟩
    obtain ⟨p1', p2', p3', p4'⟩ := pl c' P' hc' hP'
    by_cases z : c' = c
    · subst z
      have e : P' = P := by rw [hP] at hP'; exact (Option.some.inj hP').symm
      subst e
      exact ⟨p1', q1, p3', p4'⟩
    · have pt := p1'.top
      have f : ∀ a, P' ≤ a → a < P' + 54 + 3 * c' → I' a = I a := fun a a1 a2 => ot a (by omega) (by have := p4' a a1 a2; omega)
      exact ⟨p1', p2'.e (f _ (by omega) (by omega)) (f _ (by omega) (by omega)) (f _ (by omega) (by omega)), p3', p4'⟩
  · have hS' := Pm_ext hS ex.1 ex.2
    have hR' : Pr R' := fun q hq => by
      rw [(q3 q.1 (by have := pR85 q hq; omega)).2 (pR39 q hq)]
      exact hR q hq
    have kI : ∀ a, a < S.1 → I' a = I a := fun a ha => (q3 a ha).1
    have kR : ∀ a, a < S.1 → ¬ a = 39 → R' a = R a := fun a ha => (q3 a ha).2
    have wI : ∀ a, a < S.1 → (fun a => if S.1 ≤ a then 20 + c else W a) a = W a := fun a ha => if_neg (by omega)
    have kp : KpR S I R W I' R' (fun a => if S.1 ≤ a then 20 + c else W a) := fun q g1 g2 g3 => ⟨kI q g2, kR q g2 (by omega), (wI q g2).trans g3⟩
    have kw : ∀ a, 85 ≤ a → a < S.1 → I' a = I a ∧ R' a = R a ∧ (fun a => if S.1 ≤ a then 20 + c else W a) a = W a := fun a a1 a2 => ⟨kI a a2, kR a a2 (by omega), wI a a2⟩
    have r12 : R' 12 = R 12 := kR 12 (by omega) (by decide)
    refine ⟨⟨⟨hS', hR'⟩, ⟨⟨l, l1, by rw [kI 4 (by omega)]; exact l2⟩, _, sm.tr ex (by rw [kI 5 (by omega)]) (by rw [kI 5 (by omega)]) (by rw [kI 5 (by omega)]) (fun i _ => by rw [kR 9 (by omega) (by decide)]) kp, im.tr ex (fun j y _ z => by rw [r12] at z; exact z) (fun a a1 a2 _ => kw a a1 a2) kp, fun c' P' hc' hP' => ?_⟩, ?_⟩, ex, fun a ha => kI a (by omega), RuF.rf.al (fun a h1 h2 => kI a (by omega)) (by rw [kI 4 (by omega)]), ⟨⟨fun a ha => kI a (by omega), fun k _ => by rw [kI 5 (by omega)], r12, fun j y hj hy a a1 a2 => kI a (by have := (im j y hj hy).1.top; omega)⟩, kI 14 (by omega), by rw [kI 5 (by omega)], kR 9 (by omega) (by decide), fun j y hj hy => kR (y + 4) (by have := (im j y hj hy).1.top; omega) (by have := (im j y hj hy).2.1; omega), fun q hq => kI q (rcp_w sm im q hq).2.1⟩, by rw [kI 4 (by omega)]⟩
    · rw [q4] at hP'
      by_cases z : c' = c
      · subst z
        rw [uu_s] at hP'
        cases hP'
        exact ⟨q1, q2, h85, fun a a1 a2 => if_pos a1⟩
      · rw [uu_n _ _ z] at hP'
        obtain ⟨p1', p2', p3', p4'⟩ := pl c' P' hc' hP'
        have pt := p1'.top
        exact ⟨p1'.tr ex (fun a a1 a2 => kR a (by omega) (by omega)), p2'.e (kI _ (by omega)) (kI _ (by omega)) (kI _ (by omega)), p3', fun a a1 a2 => (wI a (by omega)).trans (p4' a a1 a2)⟩
    · obtain ⟨m1, m2⟩ := rm
      refine ⟨by omega, ?_⟩
      rw [r12, q4]
      rcases hc with rfl | rfl | rfl
      · rw [hn, nn_none] at m2
        rw [uu_s, uu_n _ _ (by decide), uu_n _ _ (by decide), nn_some]
        omega
      · rw [hn, nn_none] at m2
        rw [uu_s, uu_n _ _ (by decide), uu_n _ _ (by decide), nn_some]
        omega
      · rw [hn, nn_none] at m2
        rw [uu_s, uu_n _ _ (by decide), uu_n _ _ (by decide), nn_some]
        omega
theorem cfA_n {I : mI} {z y a : Nat} (h : a < z ∨ z + 6 < a) : cfA I z y a = I a := by
  unfold cfA cpyF
  rw [uu_n _ _ (by omega), pt_n (by omega), uu_n _ _ (by omega), uu_n _ _ (by omega), pt_n (by omega)]
theorem cf_n {I : mI} {z y a : Nat} (h : a < z ∨ z + 6 < a) : cfB (cfA I z y) z y a = I a := by
  unfold cfB cp8
  rw [pt_n (by omega), uu_n _ _ (by omega), uu_n _ _ (by omega), pt_n (by omega), cfA_n h]
theorem cf_0 {I : mI} {z y : Nat} (h : z + 6 < y ∨ y + 6 < z) : cfB (cfA I z y) z y z 0 = I y 0 := by
  unfold cfB cp8
  rw [pt_f (by decide), uu_n _ _ (by omega), uu_n _ _ (by omega), pt_f (by decide)]
  unfold cfA cpyF
  rw [uu_n _ _ (by omega), pt_f (by decide), uu_n _ _ (by omega), uu_n _ _ (by omega), pt_s]
theorem cf_6 {I : mI} {z y : Nat} (h : z + 6 < y ∨ y + 6 < z) : cfB (cfA I z y) z y z 6 = I y 6 := by
  unfold cfB cp8
  rw [pt_f (by decide), uu_n _ _ (by omega), uu_n _ _ (by omega), pt_s, cfA_n (by omega)]
theorem cf_9 {I : mI} {z y : Nat} (h : z + 6 < y ∨ y + 6 < z) : cfB (cfA I z y) z y z 9 = I y 9 := by
  unfold cfB cp8
  rw [pt_s, uu_n _ _ (by omega), uu_n _ _ (by omega), pt_n (by omega), cfA_n (by omega)]
/-- the Smithy at y as the one at z was -/
def SmC (J : mI) (y : Nat) (I : mI) (z : Nat) : Prop := J y 0 = I z 0 ∧ J y 3 = I z 3 ∧ J y 9 = I z 9 ∧ (∀ c, c < 5 → J (y + 1) c = I (z + 1) c ∧ J (y + 2) c = I (z + 2) c ∧ J (y + 3) c = I (z + 3) c) ∧ ∀ p, p < 8 → J (y + 5) p = I (z + 5) p ∧ J (y + 6) p = I (z + 6) p
theorem cpy_lt {f g : Nat → Int32} {n c : Nat} (h : c < n) : va_cpy f g 0 0 n c = f c := by
  unfold va_cpy
  rw [if_pos (by omega)]
  congr 1
  omega
theorem cf_sm {I : mI} {z y : Nat} (h : z + 6 < y ∨ y + 6 < z) : SmC (cfB (cfA I z y) z y) z I y := by
  have B : ∀ a, ¬ a = z → ¬ a = z + 5 → ¬ a = z + 6 → cfB (cfA I z y) z y a = cfA I z y a := fun a h1 h2 h3 => by
    unfold cfB cp8
    rw [pt_n h1, uu_n _ _ h3, uu_n _ _ h2, pt_n h1]
  refine ⟨cf_0 h, ?_, cf_9 h, fun c hc => ⟨?_, ?_, ?_⟩, fun p hp => ⟨?_, ?_⟩⟩
  · unfold cfB cp8
    rw [pt_f (by decide), uu_n _ _ (by omega), uu_n _ _ (by omega), pt_f (by decide)]
    unfold cfA cpyF
    rw [uu_n _ _ (by omega), pt_s, uu_n _ _ (by omega), uu_n _ _ (by omega), pt_n (by omega)]
  · rw [B _ (by omega) (by omega) (by omega)]
    unfold cfA cpyF
    rw [uu_n _ _ (by omega), pt_n (by omega), uu_n _ _ (by omega), uu_s, cpy_lt hc, pt_n (by omega)]
  · rw [B _ (by omega) (by omega) (by omega)]
    unfold cfA cpyF
    rw [uu_n _ _ (by omega), pt_n (by omega), uu_s, cpy_lt hc, uu_n _ _ (by omega), pt_n (by omega)]
  · rw [B _ (by omega) (by omega) (by omega)]
    unfold cfA cpyF
    rw [uu_s, cpy_lt hc, pt_n (by omega), uu_n _ _ (by omega), uu_n _ _ (by omega), pt_n (by omega)]
  · unfold cfB cp8
    rw [pt_n (by omega), uu_n _ _ (by omega), uu_s, cpy_lt hp, pt_n (by omega), cfA_n (by omega)]
  · unfold cfB cp8
    rw [pt_n (by omega), uu_s, cpy_lt hp, uu_n _ _ (by omega), pt_n (by omega), cfA_n (by omega)]
theorem SmC.g {J I : mI} {y z : Nat} (h : SmC J y I z) (h4 : 4 < y) : SmC (graF J) y I z := by
  have e : ∀ a, y ≤ a → graF J a = J a := fun a ha => by
    unfold graF
    rw [pt_n (by omega)]
  unfold SmC
  rw [e y (by omega), e (y + 1) (by omega), e (y + 2) (by omega), e (y + 3) (by omega), e (y + 5) (by omega), e (y + 6) (by omega)]
  exact h
theorem SmC.e {J I I' : mI} {y z : Nat} (h : SmC J y I' z) (e : ∀ a, z ≤ a → a < z + 7 → I' a = I a) : SmC J y I z := by
  unfold SmC
  rw [← e z (by omega) (by omega), ← e (z + 1) (by omega) (by omega), ← e (z + 2) (by omega) (by omega), ← e (z + 3) (by omega) (by omega), ← e (z + 5) (by omega) (by omega), ← e (z + 6) (by omega) (by omega)]
  exact h
section XB
variable {d t : Nat} {S : mS} {I : mI} {L : mL} {R : mR} {Q : mQ}
theorem XC.pl {c : Nat} (h : XC S I R t) (hc : c = 3 ∨ c = 4 ∨ c = 5) : ∀ P, R 39 c = some P → PlS S R P c (nW c) ∧ PlI I P c (nW c) (wt c) ∧ 85 ≤ P := fun P hP => by
  obtain ⟨_, W, _, _, pl⟩ := h.2.1
  obtain ⟨p1, p2, p3, _⟩ := pl c P hc hP
  exact ⟨p1, p2, p3⟩
theorem XC.c5 (h : XC S I R t) : ∃ c, (c = 3 ∨ c = 4 ∨ c = 5) ∧ I 5 0 = nI c := by
  obtain ⟨_, W, sm, _, _⟩ := h.2.1
  exact sm.1
theorem x_heats (h : XC S I R t) (hq : ∀ v S' I' L' R', XC S' I' R' (t + 1) → Ext S S' → OutX I I' → RuF I I' → NoX I R I' R' → Q (.int v) S' I' L' R') : EvM (d + 24) 115 [.ref 4] S I L R Q := by
  obtain ⟨c, hc, e⟩ := h.c5
  refine heats_c (d := d + 17) h.1.1 h.1.2 hc e (h.pl hc) (fun v S' I' L' R' p => ?_)
  obtain ⟨a, b, o, ru, n⟩ := pcs_x hc h p
  exact hq _ _ _ _ _ a b o ru n
theorem x_even (h : XC S I R t) (hq : ∀ v S' I' L' R', XC S' I' R' (t + 1) → Ext S S' → OutX I I' → RuF I I' → NoX I R I' R' → Q (.int v) S' I' L' R') : EvM (d + 24) 118 [.ref 4] S I L R Q := by
  obtain ⟨c, hc, e⟩ := h.c5
  refine even_c (d := d + 17) h.1.1 h.1.2 hc e (h.pl hc) (fun v S' I' L' R' p => ?_)
  obtain ⟨a, b, o, ru, n⟩ := pcs_x hc h p
  exact hq _ _ _ _ _ a b o ru n
theorem x_striker (h : XC S I R t) (hq : ∀ v S' I' L' R', XC S' I' R' (t + 1) → Ext S S' → OutX I I' → RuF I I' → NoX I R I' R' → Q (.int v) S' I' L' R') : EvM (d + 24) 124 [.ref 4] S I L R Q := by
  obtain ⟨c, hc, e⟩ := h.c5
  refine striker_c (d := d + 17) h.1.1 h.1.2 hc e (h.pl hc) (fun v S' I' L' R' p => ?_)
  obtain ⟨a, b, o, ru, n⟩ := pcs_x hc h p
  exact hq _ _ _ _ _ a b o ru n
theorem x_reached {x : Int32} (h : XC S I R t) (hq : ∀ v S' I' L' R', XC S' I' R' (t + 1) → Ext S S' → OutX I I' → RuF I I' → NoX I R I' R' → Q (.int v) S' I' L' R') : EvM (d + 24) 117 [.ref 4, .int x] S I L R Q := by
  obtain ⟨c, hc, e⟩ := h.c5
  refine reached_c (d := d + 17) h.1.1 h.1.2 hc e (h.pl hc) (hq _ _ _ _ _ (h.no NoF.rf) Ext.rf NoF.rf.x RuF.rf (h.nx NoF.rf)) (fun v S' I' L' R' p => ?_)
  obtain ⟨a, b, o, ru, n⟩ := pcs_x hc h p
  exact hq _ _ _ _ _ a b o ru n
theorem x_plan {i x : Int32} (h : XC S I R t) (hq : ∀ v S' I' L' R', XC S' I' R' (t + 1) → Ext S S' → OutX I I' → RuF I I' → NoX I R I' R' → Q (.int v) S' I' L' R') : EvM (d + 24) 116 [.ref 4, .int i, .int x] S I L R Q := by
  obtain ⟨c, hc, e⟩ := h.c5
  refine plan_c (d := d + 17) h.1.1 h.1.2 hc e (h.pl hc) (hq _ _ _ _ _ (h.no NoF.rf) Ext.rf NoF.rf.x RuF.rf (h.nx NoF.rf)) (fun v S' I' L' R' p => ?_)
  obtain ⟨a, b, o, ru, n⟩ := pcs_x hc h p
  exact hq _ _ _ _ _ a b o ru n
theorem rpR_n {z y i a : Nat} (h : ¬ a = z + 4) : rpR R z y i a = R a := uu_n _ _ h
theorem rpR_s {z y i k : Nat} (h : k < i) : rpR R z y i (z + 4) k = R (y + 4) k := by
  unfold rpR
  rw [uu_s, if_pos h]
theorem x_back {k : Int32} (h : XC S I R t) (hq : ∀ v S' I' L' R', XC S' I' R' (t + 1) → Ext S S' → OutX I I' → RuF I I' → (((k < 0 ∨ ¬ k < 2) ∧ v = -1 ∧ NoX I R I' R') ∨ (¬ (k < 0 ∨ ¬ k < 2) ∧ R 12 k.toNatClampNeg = none ∧ v = -2 ∧ NoX I R I' R') ∨ (¬ (k < 0 ∨ ¬ k < 2) ∧ v = 0 ∧ ∃ y, R 12 k.toNatClampNeg = some y ∧ I' = graF (filF (cfB (cfA I 5 y) 5 y) 47 4 0) ∧ R' = rpR R 5 y 8)) → Q (.int v) S' I' L' R') : EvM (d + 24) 126 [.ref 4, .int k] S I L R Q := by
  refine back_c (d := d + 21) h.1.1 h.1.2 h.2.1.img (fun g => hq _ _ _ _ _ (h.no NoF.rf.re) Ext.rf NoF.rf.re.x RuF.rf.re (Or.inl ⟨g, rfl, h.nx NoF.rf.re⟩)) (fun g1 g2 hn => hq _ _ _ _ _ (h.no NoF.rf.re) Ext.rf NoF.rf.re.x RuF.rf.re (Or.inr (Or.inl ⟨fun z => z.elim g1 (fun z => z g2), hn, rfl, h.nx NoF.rf.re⟩))) (fun g1 g2 y hy => ?_)
  obtain ⟨⟨l, l1, l2⟩, W, sm, im, pl⟩ := id h.2.1
  obtain ⟨y1, y2, y3, y4⟩ := im k.toNatClampNeg y (of_eq_true (inb_lt (n := 2) (by decide) g1 g2)).2 hy
  have dj : 5 + 6 < y ∨ y + 6 < 5 := Or.inl (by omega)
  have n : ∀ a, ¬ a = 4 → ¬ a = 47 → (a < 5 ∨ 11 < a) → graF (filF (cfB (cfA I 5 y) 5 y) 47 4 0) a = I a := fun a a4 a47 a5 => by
    unfold graF filF
    rw [pt_n a4, uu_n _ _ a47, cf_n (by omega)]
  have n5 : graF (filF (cfB (cfA I 5 y) 5 y) 47 4 0) 5 = cfB (cfA I 5 y) 5 y 5 := by
    unfold graF filF
    rw [pt_n (by decide), uu_n _ _ (by decide)]
  have n4 : graF (filF (cfB (cfA I 5 y) 5 y) 47 4 0) 4 3 = I 4 3 := by
    unfold graF filF
    rw [pt_f (by decide), uu_n _ _ (by decide), cf_n (by decide)]
  have e85 : ∀ a, 85 ≤ a → graF (filF (cfB (cfA I 5 y) 5 y) 47 4 0) a = I a := fun a ha => n a (by omega) (by omega) (by omega)
  have r85 : ∀ a, 85 ≤ a → rpR R 5 y 8 a = R a := fun a ha => rpR_n (by omega)
  have kp : KpR S I R W (graF (filF (cfB (cfA I 5 y) 5 y) 47 4 0)) (rpR R 5 y 8) W := fun q q1 _ q3 => ⟨e85 q q1, r85 q q1, q3⟩
  refine hq _ _ _ _ _ ⟨⟨h.1.1, Pr_rp h.1.2⟩, ⟨⟨l, l1, n4.trans l2⟩, W, y4.tr Ext.rf (by rw [n5]; exact cf_0 dj) (by rw [n5]; exact cf_6 dj) (by rw [n5]; exact cf_9 dj) (fun i hi => rpR_s hi) kp, im.tr Ext.rf (fun j y _ z => by rw [rpR_n (by decide)] at z; exact z) (fun a a1 _ _ => ⟨e85 a a1, r85 a a1, rfl⟩) kp, pl.tr Ext.rf (fun c P _ z => by rw [rpR_n (by decide)] at z; exact z) (fun a a1 _ _ => ⟨e85 a a1, r85 a a1, rfl⟩)⟩, ?_⟩ Ext.rf (fun a ha => n a (by omega) (by omega) (by omega)) (RuF.rf.al (fun a h1 h2 => n a (by omega) (by omega) (by omega)) (by
    unfold graF filF
    rw [pt_f (by decide), uu_n _ _ (by decide), cf_n (by decide)])) (Or.inr (Or.inr ⟨fun z => z.elim g1 (fun z => z g2), rfl, y, hy, rfl, rfl⟩))
  have m := h.2.2.mono (show t ≤ t + 1 by omega)
  unfold RmC at m ⊢
  rw [rpR_n (by decide), rpR_n (by decide)]
  exact m
/-- what image leaves of the RECIPES -/
def ImN (I : mI) (R : mR) (I' : mI) (R' : mR) (y k : Nat) : Prop := I' 14 = I 14 ∧ R' 9 = R 9 ∧ I' y 6 = I 5 6 ∧ (∀ i, i < 8 → R' (y + 4) i = R 9 i) ∧ (∀ q, Rcp I R q → I' q = I q) ∧ ∀ j y', j < 2 → ¬ j = k → R 12 j = some y' → R' (y' + 4) = R (y' + 4)
theorem x_image {k : Int32} (h : XC S I R t) (hq : ∀ S' I' L' R', XC S' I' R' (t + 1) → Ext S S' → OutX I I' → RuF I I' → (((k < 0 ∨ ¬ k < 2) ∧ NoX I R I' R') ∨ (¬ (k < 0 ∨ ¬ k < 2) ∧ (∀ a, (a ≤ 3 ∨ (5 ≤ a ∧ a ≤ 13)) → I' a = I a) ∧ I' 4 3 = I 4 3 ∧ ∃ y, 85 ≤ y ∧ R' 12 = va_up (R 12) k.toNatClampNeg (some y) ∧ SmC I' y I 5 ∧ ImN I R I' R' y k.toNatClampNeg ∧ ∀ j y', j < 2 → ¬ j = k.toNatClampNeg → R 12 j = some y' → 85 ≤ y' ∧ ∀ a, y' ≤ a → a < y' + 7 → I' a = I a)) → Q (.int (if k < 0 ∨ ¬ k < 2 then -1 else 0)) S' I' L' R') : EvM (d + 24) 125 [.ref 4, .int k] S I L R Q := by
  obtain ⟨⟨l, l1, l2⟩, W, sm, im, pl⟩ := id h.2.1
  have h85 := h.1.1.1
  refine image_c (d := d + 21) h.1.1 h.1.2 h.2.1.img sm.2.2.2 (fun g => ?_) (fun g1 g2 y hy => ?_) (fun g1 g2 hn S' I' L' R' s1 s2 s3 s4 s5 s6 => ?_)
  · rw [if_pos g] at hq
    exact hq _ _ _ _ (h.no NoF.rf.re) Ext.rf NoF.rf.re.x RuF.rf.re (Or.inl ⟨g, h.nx NoF.rf.re⟩)
  · rw [if_neg (fun z => z.elim g1 (fun z => z g2))] at hq
    have kj := (of_eq_true (inb_lt (n := 2) (by decide) g1 g2)).2
    obtain ⟨y1, y2, y3, y4⟩ := im k.toNatClampNeg y kj hy
    have yt := y1.top
    have dj : y + 6 < 5 ∨ 5 + 6 < y := Or.inr (by omega)
    have n : ∀ a, ¬ a = 4 → (a < y ∨ y + 6 < a) → graF (cfB (cfA I y 5) y 5) a = I a := fun a a4 ay => by
      unfold graF
      rw [pt_n a4, cf_n ay]
    have ny : graF (cfB (cfA I y 5) y 5) y = cfB (cfA I y 5) y 5 y := pt_n (by omega)
    have n4 : graF (cfB (cfA I y 5) y 5) 4 3 = I 4 3 := by
      unfold graF
      rw [pt_f (by decide), cf_n (by omega)]
    have ot : ∀ a, 85 ≤ a → ¬ W a = 10 + k.toNatClampNeg → graF (cfB (cfA I y 5) y 5) a = I a ∧ rpR R y 5 8 a = R a := fun a a1 a2 => by
      have ha : a < y ∨ y + 6 < a := Classical.byContradiction (fun z => a2 (y3 a (by omega) (by omega)))
      exact ⟨n a (by omega) ha, rpR_n (by omega)⟩
    have kp : KpR S I R W (graF (cfB (cfA I y 5) y 5)) (rpR R y 5 8) W := fun q q1 _ q3 => ⟨(ot q q1 (by omega)).1, (ot q q1 (by omega)).2, q3⟩
    refine hq _ _ _ _ ⟨⟨h.1.1, Pr_ext h.1.2 (fun a ha => rpR_n (by omega))⟩, ⟨⟨l, l1, n4.trans l2⟩, W, sm.tr Ext.rf (by rw [n 5 (by decide) (by omega)]) (by rw [n 5 (by decide) (by omega)]) (by rw [n 5 (by decide) (by omega)]) (fun i _ => by rw [rpR_n (by omega)]) kp, fun j y' hj hy' => ?_, pl.tr Ext.rf (fun c P _ z => by rw [rpR_n (by omega)] at z; exact z) (fun a a1 _ a3 => ⟨(ot a a1 (by omega)).1, (ot a a1 (by omega)).2, rfl⟩)⟩, ?_⟩ Ext.rf (fun a ha => n a (by omega) (by omega)) (RuF.rf.al (fun a h1 h2 => n a (by omega) (by omega)) (by
      unfold graF
      rw [pt_f (by decide), cf_n (by omega)])) (Or.inr ⟨fun z => z.elim g1 (fun z => z g2), fun a ha => n a (by omega) (by omega), n4, y, y2, by rw [rpR_n (by omega), up_ext hy.symm], (cf_sm dj).g (by omega), ⟨n 14 (by decide) (by omega), rpR_n (by omega), by rw [ny]; exact cf_6 dj, fun i hi => rpR_s hi, fun q hq => (ot q (rcp_w sm im q hq).1 (by have := (rcp_w sm im q hq).2.2; omega)).1, fun j y' hj hne hy' => (ot (y' + 4) (by have := (im j y' hj hy').2.1; omega) (by have := (im j y' hj hy').2.2.1 (y' + 4) (by omega) (by omega); omega)).2⟩, fun j y' hj hne hy' => ?_⟩)
    · rw [rpR_n (by omega)] at hy'
      by_cases z : j = k.toNatClampNeg
      · rw [z] at hy'
        have e : y' = y := by rw [hy] at hy'; exact (Option.some.inj hy').symm
        subst e
        rw [z]
        exact ⟨y1.R (rpR_n (by omega)), y2, y3, sm.tr Ext.rf (by rw [ny]; exact cf_0 dj) (by rw [ny]; exact cf_6 dj) (by rw [ny]; exact cf_9 dj) (fun i hi => rpR_s hi) kp⟩
      · obtain ⟨y1', y2', y3', y4'⟩ := im j y' hj hy'
        have f : ∀ a, y' ≤ a → a < y' + 7 → graF (cfB (cfA I y 5) y 5) a = I a ∧ rpR R y 5 8 a = R a := fun a a1 a2 => ot a (by omega) (by have := y3' a a1 a2; omega)
        have f0 := f y' (by omega) (by omega)
        refine ⟨y1'.R f0.2, y2', y3', y4'.tr Ext.rf ?_ ?_ ?_ (fun i _ => by rw [(f (y' + 4) (by omega) (by omega)).2]) kp⟩
        all_goals rw [f0.1]
    · have m := h.2.2.mono (show t ≤ t + 1 by omega)
      unfold RmC at m ⊢
      rw [rpR_n (by omega), rpR_n (by omega)]
      exact m
    · obtain ⟨_, y2', y3', _⟩ := im j y' hj hy'
      exact ⟨y2', fun a a1 a2 => (ot a (by omega) (by have := y3' a a1 a2; omega)).1⟩
  · rw [if_neg (fun z => z.elim g1 (fun z => z g2))] at hq
    have kj := (of_eq_true (inb_lt (n := 2) (by decide) g1 g2)).2
    have ex : Ext S S' := ⟨by omega, s3⟩
    have dj : S.1 + 6 < 5 ∨ 5 + 6 < S.1 := Or.inr (by omega)
    have n : ∀ a, ¬ a = 4 → a < S.1 → graF (cfB (cfA I' S.1 5) S.1 5) a = I a := fun a a4 ay => by
      unfold graF
      rw [pt_n a4, cf_n (by omega), (s5 a ay).1]
    have ny : graF (cfB (cfA I' S.1 5) S.1 5) S.1 = cfB (cfA I' S.1 5) S.1 5 S.1 := pt_n (by omega)
    have n4 : graF (cfB (cfA I' S.1 5) S.1 5) 4 3 = I 4 3 := by
      unfold graF
      rw [pt_f (by decide), cf_n (by omega), (s5 4 (by omega)).1]
    have i5 : I' 5 = I 5 := (s5 5 (by omega)).1
    have rn : ∀ a, a < S.1 → ¬ a = 12 → rpR R' S.1 5 8 a = R a := fun a a1 a2 => by rw [rpR_n (by omega), (s5 a a1).2.2 a2]
    have r12 : rpR R' S.1 5 8 12 = va_up (R 12) k.toNatClampNeg (some S.1) := by rw [rpR_n (by omega), s6]
    have wI : ∀ a, a < S.1 → (fun a => if S.1 ≤ a then 10 + k.toNatClampNeg else W a) a = W a := fun a ha => if_neg (by omega)
    have kp : KpR S I R W (graF (cfB (cfA I' S.1 5) S.1 5)) (rpR R' S.1 5 8) (fun a => if S.1 ≤ a then 10 + k.toNatClampNeg else W a) := fun q q1 q2 q3 => ⟨n q (by omega) q2, rn q q2 (by omega), (wI q q2).trans q3⟩
    have kw : ∀ a, 85 ≤ a → a < S.1 → graF (cfB (cfA I' S.1 5) S.1 5) a = I a ∧ rpR R' S.1 5 8 a = R a ∧ (fun a => if S.1 ≤ a then 10 + k.toNatClampNeg else W a) a = W a := fun a a1 a2 => ⟨n a (by omega) a2, rn a a2 (by omega), wI a a2⟩
    have hS' := Pm_ext h.1.1 ex.1 ex.2
    have hR' : Pr (rpR R' S.1 5 8) := fun q hq => by
      rw [rn q.1 (by have := pR85 q hq; omega) (pR12 q hq)]
      exact h.1.2 q hq
    refine hq _ _ _ _ ⟨⟨hS', hR'⟩, ⟨⟨l, l1, n4.trans l2⟩, _, sm.tr ex (by rw [n 5 (by decide) (by omega)]) (by rw [n 5 (by decide) (by omega)]) (by rw [n 5 (by decide) (by omega)]) (fun i _ => by rw [rn 9 (by omega) (by decide)]) kp, fun j y' hj hy' => ?_, pl.tr ex (fun c P _ z => by rw [rn 39 (by omega) (by decide)] at z; exact z) (fun a a1 a2 _ => kw a a1 a2)⟩, ?_⟩ ex (fun a ha => n a (by omega) (by omega)) (RuF.rf.al (fun a h1 h2 => n a (by omega) (by omega)) (by
      unfold graF
      rw [pt_f (by decide), cf_n (by omega), (s5 4 (by omega)).1])) (Or.inr ⟨fun z => z.elim g1 (fun z => z g2), fun a ha => n a (by omega) (by omega), n4, S.1, h85, r12, ((cf_sm dj).e (fun a a1 a2 => (s5 a (by omega)).1)).g (by omega), ⟨n 14 (by decide) (by omega), rn 9 (by omega) (by decide), by rw [ny, cf_6 dj, i5], fun i hi => by rw [rpR_s hi, (s5 9 (by omega)).2.2 (by decide)], fun q hq => n q (by have := (rcp_w sm im q hq).1; omega) (rcp_w sm im q hq).2.1, fun j y' hj hne hy' => rn (y' + 4) (by have := (im j y' hj hy').1.top; omega) (by have := (im j y' hj hy').2.1; omega)⟩, fun j y' hj hne hy' => ?_⟩)
    · rw [r12] at hy'
      by_cases z : j = k.toNatClampNeg
      · rw [z, uu_s] at hy'
        cases hy'
        rw [z]
        refine ⟨s4.R (rpR_n (by omega)), h85, fun a a1 a2 => if_pos a1, sm.tr ex (by rw [ny, cf_0 dj, i5]) (by rw [ny, cf_6 dj, i5]) (by rw [ny, cf_9 dj, i5]) (fun i hi => ?_) kp⟩
        rw [rpR_s hi, (s5 9 (by omega)).2.2 (by decide)]
      · rw [uu_n _ _ z] at hy'
        obtain ⟨y1', y2', y3', y4'⟩ := im j y' hj hy'
        have yt := y1'.top
        have f : ∀ a, y' ≤ a → a < y' + 7 → graF (cfB (cfA I' S.1 5) S.1 5) a = I a ∧ rpR R' S.1 5 8 a = R a := fun a a1 a2 => ⟨n a (by omega) (by omega), rn a (by omega) (by omega)⟩
        have f0 := f y' (by omega) (by omega)
        refine ⟨(y1'.S ex.1 ex.2).R f0.2, y2', fun a a1 a2 => (wI a (by omega)).trans (y3' a a1 a2), y4'.tr ex ?_ ?_ ?_ (fun i _ => by rw [(f (y' + 4) (by omega) (by omega)).2]) kp⟩
        all_goals rw [f0.1]
    · obtain ⟨m1, m2⟩ := h.2.2
      refine ⟨by omega, ?_⟩
      rw [r12, rn 39 (by omega) (by decide)]
      rcases (by omega : k.toNatClampNeg = 0 ∨ k.toNatClampNeg = 1) with e | e
      · rw [e] at hn ⊢
        rw [hn, nn_none] at m2
        rw [uu_s, uu_n _ _ (by decide), nn_some]
        omega
      · rw [e] at hn ⊢
        rw [hn, nn_none] at m2
        rw [uu_s, uu_n _ _ (by decide), nn_some]
        omega
    · obtain ⟨y1', y2', _, _⟩ := im j y' hj hy'
      have yt := y1'.top
      exact ⟨y2', fun a a1 a2 => n a (by omega) (by omega)⟩
end XB
