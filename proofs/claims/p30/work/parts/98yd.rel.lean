/-! p29, p30: what stands told alike: status, refusals -/
def StB (I : mI) : Prop := I 4 13 = I 54 1 ∧ I 53 0 = I 55 1 ∧ I 53 1 = I 55 2 ∧ I 53 2 = I 55 3 ∧ I 53 3 = I 55 5 ∧ I 53 4 = I 55 6
def Tdv (v : Int32) : Int32 := if v < 0 then v else 0
theorem upq {f g : Nat → Int32} {a b i j : Nat} (h : f i = g j) (k : i = a ↔ j = b) (e : f a = g b) : va_up f a (f a + 1) i = va_up g b (g b + 1) j := by
  by_cases q : i = a
  · rw [q, k.mp q, uu_s, uu_s, e]
  · rw [uu_n _ _ q, uu_n _ _ (fun z => q (k.mpr z))]
    exact h
section SB
variable {t : Nat} {S : mS} {I I1 J : mI} {R R1 : mR}
theorem StB.un (h : StB I) (o1 : OutX I I1) (x : TdX I I1 1) (o2 : OutM I1 J) (m : TdM I1 J none) : StB J := by
  rcases x with ⟨_, x1, x2⟩ | ⟨z, _⟩ | ⟨z, _⟩
  · obtain ⟨m1, m2⟩ := m
    unfold StB
    rw [o2 4 (by decide), o2 53 (by decide), m1, m2, x1, x2, o1 54 (by decide), o1 55 (by decide)]
    exact h
  · exact absurd z (by decide)
  · exact absurd z (by decide)
theorem StB.go {v e : Int32} (h : StB I) (o1 : OutX I I1) (x : TdX I I1 e) (he : e = Tdv v) (o2 : OutM I1 J) (m : TdM I1 J (some v)) : StB J := by
  obtain ⟨h0, h1, h2, h3, h5, h6⟩ := h
  have e54 : I1 54 = I 54 := o1 54 (by decide)
  have e55 : I1 55 = I 55 := o1 55 (by decide)
  obtain ⟨m1, m2⟩ := m
  unfold Tdv at he
  by_cases g : v < 0
  · rw [if_pos g] at he m1
    subst he
    unfold telF at m2
    rw [if_pos g, pt_c, pt_n (by decide), e55] at m2
    rcases x with ⟨z, _⟩ | ⟨z, _⟩ | ⟨z, x1, x2⟩
    · rw [z] at g; exact absurd g (by decide)
    · rw [z] at g; exact absurd g (by decide)
    · unfold StB
      rw [o2 4 (by decide), o2 53 (by decide), m1, m2, x1, x2]
      rcases z with rfl | rfl | rfl | rfl
      · rw [show (rfP (-1)).toNatClampNeg = 0 by decide, show (-(-1) : Int32).toNatClampNeg = 1 by decide]
        exact ⟨rfl, upq h1 (by decide) h1, upq h2 (by decide) h1, upq h3 (by decide) h1, upq h5 (by decide) h1, upq h6 (by decide) h1⟩
      · rw [show (rfP (-2)).toNatClampNeg = 1 by decide, show (-(-2) : Int32).toNatClampNeg = 2 by decide]
        exact ⟨rfl, upq h1 (by decide) h2, upq h2 (by decide) h2, upq h3 (by decide) h2, upq h5 (by decide) h2, upq h6 (by decide) h2⟩
      · rw [show (rfP (-5)).toNatClampNeg = 3 by decide, show (-(-5) : Int32).toNatClampNeg = 5 by decide]
        exact ⟨rfl, upq h1 (by decide) h5, upq h2 (by decide) h5, upq h3 (by decide) h5, upq h5 (by decide) h5, upq h6 (by decide) h5⟩
      · rw [show (rfP (-6)).toNatClampNeg = 4 by decide, show (-(-6) : Int32).toNatClampNeg = 6 by decide]
        exact ⟨rfl, upq h1 (by decide) h6, upq h2 (by decide) h6, upq h3 (by decide) h6, upq h5 (by decide) h6, upq h6 (by decide) h6⟩
  · rw [if_neg g] at he m1
    subst he
    have m3 : J 55 = I 55 := by
      rw [m2]
      unfold telF
      rw [if_neg g, pt_n (by decide), e55]
    rcases x with ⟨z, _⟩ | ⟨_, x1, x2⟩ | ⟨z, _⟩
    · exact absurd z (by decide)
    · unfold StB
      rw [o2 4 (by decide), o2 53 (by decide), m1, m3, x1, x2]
      exact ⟨rfl, h1, h2, h3, h5, h6⟩
    · exact absurd z (by decide)
theorem Tdv.p {v : Int32} (h : ¬ v < 0) : (0 : Int32) = Tdv v := (if_neg h).symm
/-- what a call of the class tells: its refusal, or that it is granted -/
theorem td_x {A B : Prop} {v V c : Int32} {K : mI} {R' : mR} (hc : c = Tdv c) (hV : B → ¬ V < 0) (hK : K 53 = I 53) (xs : (A ∧ v = c ∧ NoX I R I1 R1 c) ∨ (B ∧ v = V ∧ I1 = graF K ∧ R1 = R')) : ∃ e, TdX I I1 e ∧ e = Tdv v := by
  rcases xs with ⟨_, rfl, x2⟩ | ⟨b, rfl, rfl, _⟩
  · exact ⟨_, x2.2.2, hc⟩
  · exact ⟨0, TdX.gr hK, Tdv.p (hV b)⟩
theorem td_m {C D : Prop} {ρ : Nat → Int32} {w c : Int32} (ms : (C ∧ w = c ∧ RlE I1 J c) ∨ (D ∧ RlW I1 J ρ (some w))) : TdM I1 J (some w) := by
  rcases ms with ⟨_, rfl, m⟩ | ⟨_, m⟩
  · exact m.td
  · exact m.td
theorem StB.two {v e : Int32} (h : StB I) (o1 : OutX I I1) (x : ∃ e, TdX I I1 e ∧ e = Tdv v) (o2 : OutM I1 J) (m : TdM I1 J (some v)) : StB J := by
  obtain ⟨e, x1, x2⟩ := x
  exact h.go o1 x1 x2 o2 m
theorem s_wide {n v : Int32} {W : Int32} (X : XC S I R t) (_ : Rel I R) (_ : ExB I R) (h : StB I) (_ : InvM I t) (o1 : OutX I I1) (xs : ((n < 3 ∨ 5 < n) ∧ v = -1 ∧ NoX I R I1 R1 (-1)) ∨ (¬ (n < 3 ∨ 5 < n) ∧ v = I 5 0 ∧ I1 = graF (widF I n) ∧ R1 = R)) (o2 : OutM I1 J) (ms : (inB n.toInt64 3 5 = false ∧ v = -1 ∧ RlE I1 J (-1)) ∨ (inB n.toInt64 3 5 = true ∧ v = W ∧ RlW I1 J (widR (I1 56) n) (some v))) : StB J := by
  obtain ⟨q, q6, eq⟩ := X.w5
  refine StB.two (e := 0) h o1 (td_x (by decide) (fun _ => by rw [eq]; exact nI_pos (by omega)) ?_ xs) o2 (td_m (D := inB n.toInt64 3 5 = true) (ρ := widR (I1 56) n) (ms.imp id (fun z => ⟨z.1, z.2.2⟩)))
  unfold widF filF
  rw [uu_n _ _ (by decide), uu_n _ _ (by decide), pt_n (by decide)]
theorem s_bar {c x v W : Int32} (X : XC S I R t) (r : Rel I R) (_ : ExB I R) (h : StB I) (M : InvM I t) (o1 : OutX I I1) (xs : (siB I c x = false ∧ v = -1 ∧ NoX I R I1 R1 (-1)) ∨ (siB I c x = true ∧ v = I 6 c.toNatClampNeg ∧ I1 = graF (put I 6 c.toNatClampNeg x) ∧ R1 = R)) (o2 : OutM I1 J) (ms : ((inB c.toInt64 0 ((I1 56 0).toInt64 - 1) = false ∨ inB x.toInt64 1 9 = false) ∧ v = -1 ∧ RlE I1 J (-1)) ∨ (inB c.toInt64 0 ((I1 56 0).toInt64 - 1) = true ∧ inB x.toInt64 1 9 = true ∧ v = W ∧ RlW I1 J (va_up (I1 56) (20 + c.toNatClampNeg) x) (some v))) : StB J := by
  refine StB.two (e := 0) h o1 (td_x (by decide) (fun b => ?_) (pt_n (by decide)) xs) o2 (td_m (D := True) (ρ := va_up (I1 56) (20 + c.toNatClampNeg) x) (ms.imp id (fun z => ⟨trivial, z.2.2.2⟩)))
  obtain ⟨z1, _, z3, _, _⟩ : ¬ c < 0 ∧ c < I 5 0 ∧ c < 5 ∧ ¬ x < 1 ∧ ¬ 9 < x := of_decide_eq_true b
  have ci := (of_eq_true (inb_lt (n := 5) (by decide) z1 z3)).2
  obtain ⟨⟨y, _, y2, y3⟩, _⟩ := M.1.2.2.1 _ ci
  have e := (r.2.1.2.2.2.1 _ ci).1
  rw [show I 6 c.toNatClampNeg = I (5 + 1) c.toNatClampNeg from rfl, e, y3]
  exact nI_pos (by omega)
theorem s_shape {c x v W : Int32} (X : XC S I R t) (r : Rel I R) (_ : ExB I R) (h : StB I) (M : InvM I t) (o1 : OutX I I1) (xs : (siB I c x = false ∧ v = -1 ∧ NoX I R I1 R1 (-1)) ∨ (siB I c x = true ∧ v = I 7 c.toNatClampNeg ∧ I1 = graF (put I 7 c.toNatClampNeg x) ∧ R1 = R)) (o2 : OutM I1 J) (ms : ((inB c.toInt64 0 ((I1 56 0).toInt64 - 1) = false ∨ inB x.toInt64 1 9 = false) ∧ v = -1 ∧ RlE I1 J (-1)) ∨ (inB c.toInt64 0 ((I1 56 0).toInt64 - 1) = true ∧ inB x.toInt64 1 9 = true ∧ v = W ∧ RlW I1 J (va_up (I1 56) (30 + c.toNatClampNeg) x) (some v))) : StB J := by
  refine StB.two (e := 0) h o1 (td_x (by decide) (fun b => ?_) (pt_n (by decide)) xs) o2 (td_m (D := True) (ρ := va_up (I1 56) (30 + c.toNatClampNeg) x) (ms.imp id (fun z => ⟨trivial, z.2.2.2⟩)))
  obtain ⟨z1, _, z3, _, _⟩ : ¬ c < 0 ∧ c < I 5 0 ∧ c < 5 ∧ ¬ x < 1 ∧ ¬ 9 < x := of_decide_eq_true b
  have ci := (of_eq_true (inb_lt (n := 5) (by decide) z1 z3)).2
  obtain ⟨_, ⟨y, _, y2, y3⟩⟩ := M.1.2.2.1 _ ci
  have e := (r.2.1.2.2.2.1 _ ci).2.1
  rw [show I 7 c.toNatClampNeg = I (5 + 2) c.toNatClampNeg from rfl, e, y3]
  exact nI_pos (by omega)
theorem s_tongs {n v W : Int32} {A : Prop} (X : XC S I R t) (r : Rel I R) (_ : ExB I R) (h : StB I) (M : InvM I t) (o1 : OutX I I1) (xs : (A ∧ v = -1 ∧ NoX I R I1 R1 (-1)) ∨ (¬ A ∧ v = I 5 3 ∧ I1 = graF (put I 5 3 n) ∧ R1 = R)) (o2 : OutM I1 J) (ms : ((inB n.toInt64 2 1022 = false ∨ n &&& 1 = 1) ∧ v = -1 ∧ RlE I1 J (-1)) ∨ (inB n.toInt64 2 1022 = true ∧ ¬ n &&& 1 = 1 ∧ v = W ∧ RlW I1 J (va_up (I1 56) 3 n) (some v))) : StB J := by
  refine StB.two (e := 0) h o1 (td_x (by decide) (fun b => ?_) (pt_n (by decide)) xs) o2 (td_m (D := True) (ρ := va_up (I1 56) 3 n) (ms.imp id (fun z => ⟨trivial, z.2.2.2⟩)))
  obtain ⟨y, y2, y3⟩ := M.1.2.1.1
  rw [r.2.1.2.1, y3]
  exact nI_pos (by omega)
theorem s_terms {w x v W : Int32} (X : XC S I R t) (r : Rel I R) (_ : ExB I R) (h : StB I) (M : InvM I t) (o1 : OutX I I1) (xs : (teB I w x = false ∧ v = -1 ∧ NoX I R I1 R1 (-1)) ∨ (teB I w x = true ∧ v = I 8 w.toNatClampNeg ∧ I1 = graF (put I 8 w.toNatClampNeg x) ∧ R1 = R)) (o2 : OutM I1 J) (ms : (teM w x = false ∧ v = -1 ∧ RlE I1 J (-1)) ∨ (teM w x = true ∧ v = W ∧ RlW I1 J (va_up (I1 56) (10 + w.toNatClampNeg) x) (some v))) : StB J := by
  refine StB.two (e := 0) h o1 (td_x (by decide) (fun b => ?_) (pt_n (by decide)) xs) o2 (td_m (D := True) (ρ := va_up (I1 56) (10 + w.toNatClampNeg) x) (ms.imp id (fun z => ⟨trivial, z.2.2⟩)))
  obtain ⟨z1, z2, _⟩ : ¬ w < 0 ∧ w < 5 ∧ ¬ x < I 1 w.toNatClampNeg ∧ ¬ I 2 w.toNatClampNeg < x := of_decide_eq_true b
  have ci := (of_eq_true (inb_lt (n := 5) (by decide) z1 z2)).2
  obtain ⟨y, y2, y3⟩ := M.1.2.1.2.2 _ ci
  have e := (r.2.1.2.2.2.1 _ ci).2.2
  rw [show I 8 w.toNatClampNeg = I (5 + 3) w.toNatClampNeg from rfl, e, y3]
  exact nI_pos (by omega)
theorem s_row {v : Int32} (X : XC S I R t) (r : Rel I R) (_ : ExB I R) (h : StB I) (_ : InvM I t) (o1 : OutX I I1) (xs : ∀ l, l ≤ 400 → I 4 3 = nI l → (((l = 0 ∨ I 5 0 < nI ((l + 3) / 4)) ∧ v = -6 ∧ KeX I R I1 R1 ∧ I1 4 3 = 0 ∧ TdX I I1 (-6)) ∨ (¬ l = 0 ∧ ¬ I 5 0 < nI ((l + 3) / 4) ∧ v = nI (l / 4) ∧ I1 = graF (roL (l / 4) 5 0 (put I 4 3 0)) ∧ R1 = R))) (o2 : OutM I1 J) (ms : ∀ n, n ≤ 400 → I1 54 7 = nI n → (((n = 0 ∨ I1 56 0 < nI ((n + 3) / 4)) ∧ v = -6 ∧ RlT I1 J (I1 56) (some (-6))) ∨ (¬ n = 0 ∧ ¬ I1 56 0 < nI ((n + 3) / 4) ∧ v = nI (n / 4) ∧ RlT I1 J (rowR (I1 56) (I1 59) (n / 4)) (some v)))) : StB J := by
  obtain ⟨l, l1, l2⟩ := X.2.1.1
  have i7 : I1 54 7 = nI l := by rw [o1 54 (by decide)]; exact r.2.2.1.1.symm.trans l2
  have m : TdM I1 J (some v) := by
    rcases ms l l1 i7 with ⟨_, rfl, m⟩ | ⟨_, _, _, m⟩
    · exact m.2.2.2.2.2
    · exact m.2.2.2.2.2
  rcases xs l l1 l2 with ⟨_, rfl, _, _, x⟩ | ⟨_, _, ev, x, _⟩
  · exact h.go o1 x (by decide) o2 m
  · refine h.go o1 (e := 0) ?_ (Tdv.p (by rw [ev]; exact nI_pos (by omega))) o2 m
    rw [x]
    exact TdX.gr ((roL_n (a := 53) (by decide) _ _ _).trans (pt_n (by decide)))
theorem s_recipe {v : Int32} (h : StB I) (o1 : OutX I I1) (x : TdX I I1 (if v < 0 then v else 0)) (o2 : OutM I1 J) (m : TdM I1 J (some v)) : StB J := h.go o1 x rfl o2 m
theorem rc_in {k : Int32} (X : XC S I R t) (ex : ExB I R) (o1 : OutX I I1) : rcB I 5 k = inB k.toInt64 0 ((I1 56 1).toInt64 - 1) := by
  obtain ⟨_, r, r8, er⟩ := X.2.1.rcs
  have e1 : I1 56 1 = nI r := by rw [o1 56 (by decide), ← ex.1.1]; exact er
  have h1 : inB k.toInt64 0 ((nI r).toInt64 - 1) = true ↔ ¬ k < 0 ∧ k < nI r := inBu rfl (by omega)
  have h2 : rcB I 5 k = true ↔ ¬ k < 0 ∧ k < nI r := by
    unfold rcB
    rw [decide_eq_true_iff, er]
    refine ⟨fun z => ⟨z.1, z.2.1⟩, fun z => ⟨z.1, z.2, ?_⟩⟩
    have a := Int32.lt_iff_toInt_lt.mp z.2
    rw [nI_toInt (by omega)] at a
    rw [Int32.lt_iff_toInt_lt]
    show k.toInt < 8
    omega
  rw [e1]
  exact Bool.eq_iff_iff.mpr (h2.trans h1.symm)
theorem s_run {k w : Int32} (X : XC S I R t) (_ : Rel I R) (ex : ExB I R) (h : StB I) (_ : InvM I t) (o1 : OutX I I1) (xs : (rcB I 5 k = false ∧ NoX I R I1 R1 (-2)) ∨ (rcB I 5 k = true ∧ NoX I R I1 R1 0)) (o2 : OutM I1 J) (ms : (inB k.toInt64 0 ((I1 56 1).toInt64 - 1) = false ∧ w = -2 ∧ RlE I1 J (-2)) ∨ (inB k.toInt64 0 ((I1 56 1).toInt64 - 1) = true ∧ ¬ w < 0 ∧ RlE I1 J w)) : StB J := by
  rw [← rc_in X ex o1] at ms
  rcases xs with ⟨x1, x2⟩ | ⟨x1, x2⟩
  · rcases ms with ⟨_, _, m⟩ | ⟨m1, _⟩
    · exact h.go o1 x2.2.2 (by decide) o2 m.td
    · rw [x1] at m1; cases m1
  · rcases ms with ⟨m1, _⟩ | ⟨_, m2, m⟩
    · rw [x1] at m1; cases m1
    · exact h.go o1 x2.2.2 (Tdv.p m2) o2 m.td
theorem s_piece {x y v : Int32} (X : XC S I R t) (r : Rel I R) (_ : ExB I R) (h : StB I) (_ : InvM I t) (o1 : OutX I I1) (xs : ∀ p, p ≤ 8 → I 5 9 = nI p → (((x < 1 ∨ 200 < x) ∧ v = -1 ∧ NoX I R I1 R1 (-1)) ∨ (¬ (x < 1 ∨ 200 < x) ∧ (y < -1 ∨ ¬ y < nI p) ∧ v = -2 ∧ NoX I R I1 R1 (-2)) ∨ (¬ (x < 1 ∨ 200 < x) ∧ ¬ (y < -1 ∨ ¬ y < nI p) ∧ p = 8 ∧ v = -5 ∧ NoX I R I1 R1 (-5)) ∨ (¬ (x < 1 ∨ 200 < x) ∧ ¬ (y < -1 ∨ ¬ y < nI p) ∧ p < 8 ∧ v = nI p ∧ I1 = piF I x y ∧ R1 = R))) (o2 : OutM I1 J) (ms : ∀ c, c ≤ 8 → I1 56 2 = nI c → ((inB x.toInt64 1 200 = false ∧ v = -1 ∧ RlE I1 J (-1)) ∨ (inB x.toInt64 1 200 = true ∧ inB y.toInt64 (-1) ((nI c).toInt64 - 1) = false ∧ v = -2 ∧ RlE I1 J (-2)) ∨ (inB x.toInt64 1 200 = true ∧ inB y.toInt64 (-1) ((nI c).toInt64 - 1) = true ∧ c = 8 ∧ v = -5 ∧ RlE I1 J (-5)) ∨ (inB x.toInt64 1 200 = true ∧ inB y.toInt64 (-1) ((nI c).toInt64 - 1) = true ∧ c < 8 ∧ v = nI c ∧ RlW I1 J (pieR (I1 56) c x y) (some v)))) : StB J := by
  obtain ⟨_, W, ⟨_, ⟨p, p1, p2⟩, _, _⟩, _, _⟩ := id X.2.1
  have i2 : I1 56 2 = nI p := by rw [o1 56 (by decide)]; exact r.2.1.2.2.1.symm.trans p2
  have m : TdM I1 J (some v) := by
    rcases ms p p1 i2 with ⟨_, rfl, m⟩ | ⟨_, _, rfl, m⟩ | ⟨_, _, _, rfl, m⟩ | ⟨_, _, _, _, m⟩
    all_goals exact m.td
  rcases xs p p1 p2 with ⟨_, rfl, x3⟩ | ⟨_, _, rfl, x3⟩ | ⟨_, _, _, rfl, x3⟩ | ⟨_, _, _, ev, x3, _⟩
  · exact h.go o1 x3.2.2 (by decide) o2 m
  · exact h.go o1 x3.2.2 (by decide) o2 m
  · exact h.go o1 x3.2.2 (by decide) o2 m
  · refine h.go o1 (e := 0) ?_ (Tdv.p (by rw [ev]; exact nI_pos (by omega))) o2 m
    rw [x3]
    refine TdX.gr ?_
    unfold filF
    rw [uu_n _ _ (by decide), pt_n (by decide), pt_n (by decide), pt_n (by decide)]
theorem s_image {k : Int32} {A B : Prop} (h : StB I) (o1 : OutX I I1) (xs : ((k < 0 ∨ ¬ k < 2) ∧ NoX I R I1 R1 (-1)) ∨ (¬ (k < 0 ∨ ¬ k < 2) ∧ A ∧ B ∧ TdX I I1 0)) (o2 : OutM I1 J) (ms : (inB k.toInt64 0 1 = false ∧ RlE I1 J (-1)) ∨ (inB k.toInt64 0 1 = true ∧ TdM I1 J (some 0))) : StB J := by
  rcases xs with ⟨x1, x2⟩ | ⟨x1, _, _, x2⟩
  · rcases ms with ⟨_, m⟩ | ⟨m1, _⟩
    · exact h.go o1 x2.2.2 (by decide) o2 m.td
    · exact absurd x1 (k02.mpr m1)
  · rcases ms with ⟨m1, _⟩ | ⟨_, m⟩
    · rw [k02.mp x1] at m1; cases m1
    · exact h.go o1 x2 (by decide) o2 m
theorem s_back {k v : Int32} (X : XC S I R t) (r : Rel I R) (_ : ExB I R) (h : StB I) (_ : InvM I t) (o1 : OutX I I1) (xs : ((k < 0 ∨ ¬ k < 2) ∧ v = -1 ∧ NoX I R I1 R1 (-1)) ∨ (¬ (k < 0 ∨ ¬ k < 2) ∧ R 12 k.toNatClampNeg = none ∧ v = -2 ∧ NoX I R I1 R1 (-2)) ∨ (¬ (k < 0 ∨ ¬ k < 2) ∧ v = 0 ∧ ∃ y, R 12 k.toNatClampNeg = some y ∧ I1 = graF (filF (cfB (cfA I 5 y) 5 y) 47 4 0) ∧ R1 = rpR R 5 y 8)) (o2 : OutM I1 J) (ms : (inB k.toInt64 0 1 = false ∧ v = -1 ∧ RlE I1 J (-1)) ∨ (inB k.toInt64 0 1 = true ∧ I1 58 k.toNatClampNeg = 0 ∧ v = -2 ∧ RlE I1 J (-2)) ∨ (inB k.toInt64 0 1 = true ∧ ¬ I1 58 k.toNatClampNeg = 0 ∧ v = 0 ∧ RlW I1 J (fun m => I1 57 (8060 * k.toNatClampNeg + m)) (some v))) : StB J := by
  have m : TdM I1 J (some v) := by
    rcases ms with ⟨_, rfl, m⟩ | ⟨_, _, rfl, m⟩ | ⟨_, _, _, m⟩
    all_goals exact m.td
  rcases xs with ⟨_, rfl, x2⟩ | ⟨_, _, rfl, x2⟩ | ⟨_, ev, y, _, x2, _⟩
  · exact h.go o1 x2.2.2 (by decide) o2 m
  · exact h.go o1 x2.2.2 (by decide) o2 m
  · refine h.go o1 (e := 0) ?_ (Tdv.p (by rw [ev]; decide)) o2 m
    rw [x2]
    refine TdX.gr ?_
    unfold filF
    rw [uu_n _ _ (by decide), cf_n (by omega)]
/-- count's answers -/
theorem sm_eq {c : Nat} (h0 : I 5 0 = nI c) (c5 : c ≤ 5) (h : ∀ k, k < 5 → I 6 k = I 56 (20 + k)) : ∀ (m i : Nat) (q : Int32), i + m = 5 → i ≤ c → smL I 5 6 m i q = smM (I 56) (c - i) i q := by
  intro m
  induction m with
  | zero =>
    intro i q hi hc
    obtain rfl : c = i := by omega
    rw [Nat.sub_self]
    rfl
  | succ m ih =>
    intro i q hi hc
    unfold smL
    rw [h0]
    by_cases g : i < c
    · rw [if_pos (nI_lt g (by omega)), ih (i + 1) _ (by omega) (by omega), h i (by omega), show c - i = (c - (i + 1)) + 1 by omega]
      rfl
    · obtain rfl : c = i := by omega
      rw [if_neg (nI_nlt (by omega) (by omega)), Nat.sub_self]
      rfl
theorem cn_eq {w : Int32} (X : XC S I R t) (r : Rel I R) (ex : ExB I R) (h : StB I) (o1 : OutX I I1) : cnF I w = cmF I1 w := by
  obtain ⟨q, q6, eq⟩ := X.w5
  have r0 : I 5 0 = I 56 0 := r.2.1.1
  have r6 : I 5 6 = I 56 1 := ex.1.1
  have r9 : I 5 9 = I 56 2 := r.2.1.2.2.1
  have r4 : I 4 3 = I 54 7 := r.2.2.1.1
  have s3 : smL I 5 6 5 0 0 = smM (I 56) q 0 0 := sm_eq eq (by omega) (fun k hk => (r.2.1.2.2.2.1 k hk).1) 5 0 0 rfl (Nat.zero_le q)
  obtain ⟨h0, h1, h2, h3, h5, h6⟩ := h
  unfold cnF cmF
  rw [o1 56 (by decide), o1 54 (by decide), o1 55 (by decide)]
  by_cases g0 : w = 0
  · rw [if_pos g0, if_pos g0]; exact r0
  rw [if_neg g0, if_neg g0]
  by_cases g1 : w = 1
  · rw [if_pos g1, if_pos g1]; exact r6
  rw [if_neg g1, if_neg g1]
  by_cases g2 : w = 2
  · rw [if_pos g2, if_pos g2]; exact r9
  rw [if_neg g2, if_neg g2]
  by_cases g3 : w = 3
  · rw [if_pos g3, if_pos g3, ← r0, eq, nI_clamp (by omega)]; exact s3
  rw [if_neg g3, if_neg g3]
  by_cases g4 : w = 4
  · rw [if_pos g4, if_pos g4]; exact r4
  rw [if_neg g4, if_neg g4]
  by_cases g5 : w = 5
  · subst g5
    rw [if_neg (by decide), if_pos (by decide), if_pos rfl]; exact h1
  rw [if_neg g5]
  by_cases g6 : w = 6
  · subst g6
    rw [if_neg (by decide), if_pos (by decide), if_pos rfl]; exact h2
  rw [if_neg g6]
  by_cases g7 : w = 7
  · subst g7
    rw [if_neg (by decide), if_pos (by decide), if_pos rfl]; exact h3
  rw [if_neg g7]
  by_cases g8 : w = 8
  · subst g8
    rw [if_neg (by decide), if_pos (by decide), if_pos rfl]; exact h5
  rw [if_neg g8]
  by_cases g9 : w = 9
  · subst g9
    rw [if_neg (by decide), if_pos (by decide), if_pos rfl]; exact h6
  rw [if_neg g9]
  by_cases l5 : w < 5
  · rw [if_pos l5]
  rw [if_neg l5]
  have n : ∀ k : Int32, ¬ w = k → ¬ w.toInt = k.toInt := fun k z y => z (Int32.toInt_inj.mp y)
  have n5 : ¬ w.toInt = 5 := n 5 g5
  have n6 : ¬ w.toInt = 6 := n 6 g6
  have n7 : ¬ w.toInt = 7 := n 7 g7
  have n8 : ¬ w.toInt = 8 := n 8 g8
  have n9 : ¬ w.toInt = 9 := n 9 g9
  have a : ¬ w.toInt < 5 := fun z => l5 (Int32.lt_iff_toInt_lt.mpr z)
  refine if_neg (fun z => ?_)
  have b := Int32.lt_iff_toInt_lt.mp z
  have c := Int32.toInt_lt w
  rw [Int32.toInt_sub] at b
  have b' : (w.toInt - 5).bmod (2 ^ 32) < 5 := b
  rw [Int.bmod_def] at b'
  split at b' <;> omega
end SB
section SC
variable {t : Nat} {S : mS} {I I1 J : mI} {R R1 : mR}
theorem wrF_u {x : Int32} : wrF I x 4 13 = I 4 13 := by
  have g : ∀ (K : mI) s, wrS K x s 4 13 = K 4 13 := fun K s => by
    unfold wrS wr1
    split
    · rw [pt_f (by decide), pt_m (by decide)]
    · rfl
  unfold wrF
  rw [g, g, g, g]
theorem feS {A B C D : Prop} {a b c e f v w x y : Int32} {E : Prop} (h : StB I) (o1 : OutX I I1) (xs : (A ∧ v = -1 ∧ NoX I R I1 R1 1) ∨ (B ∧ v = x ∧ I1 = wrF (wrF (wrF (wrF (wrF I a) b) c) e) f ∧ R1 = R)) (o2 : OutM I1 J) (ms : (C ∧ w = -1 ∧ RlN I1 J) ∨ (D ∧ w = y ∧ J 54 7 = y ∧ J 56 = I1 56 ∧ J 57 = I1 57 ∧ J 58 = I1 58 ∧ J 54 12 = I1 54 12 ∧ TdM I1 J none ∧ E)) : StB J := by
  refine h.un o1 ?_ o2 ?_
  · rcases xs with ⟨_, _, x2⟩ | ⟨_, _, x2, _⟩
    · exact x2.2.2
    · rw [x2]
      exact Or.inl ⟨rfl, by rw [wrF_u, wrF_u, wrF_u, wrF_u, wrF_u], by rw [wrF_n (by decide) (by decide), wrF_n (by decide) (by decide), wrF_n (by decide) (by decide), wrF_n (by decide) (by decide), wrF_n (by decide) (by decide)]⟩
  · rcases ms with ⟨_, _, m⟩ | ⟨_, _, _, _, _, _, _, m, _⟩
    · exact m.td
    · exact m
theorem enS {A B C D : Prop} {n v w x y z : Int32} (h : StB I) (o1 : OutX I I1) (xs : (A ∧ v = x ∧ NoX I R I1 R1 1) ∨ (B ∧ v = n ∧ I1 = put I 4 3 n ∧ R1 = R)) (o2 : OutM I1 J) (ms : (C ∧ w = y ∧ RlN I1 J) ∨ (D ∧ w = z ∧ J 54 7 = z ∧ J 56 = I1 56 ∧ J 57 = I1 57 ∧ J 58 = I1 58 ∧ J 59 = I1 59 ∧ J 54 12 = I1 54 12 ∧ TdM I1 J none)) : StB J := by
  refine h.un o1 ?_ o2 ?_
  · rcases xs with ⟨_, _, x2⟩ | ⟨_, _, x2, _⟩
    · exact x2.2.2
    · rw [x2]
      exact Or.inl ⟨rfl, pt_f (by decide), pt_n (by decide)⟩
  · rcases ms with ⟨_, _, m⟩ | ⟨_, _, _, _, _, _, _, _, m⟩
    · exact m.td
    · exact m
end SC
