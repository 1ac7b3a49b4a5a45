/-! the relation: the class's rows, PIECES, TAPE, IMAGES as the reference has them -/
def SmR (I : mI) (z : Nat) (ρ : Nat → Int32) : Prop := I z 0 = ρ 0 ∧ I z 3 = ρ 3 ∧ I z 9 = ρ 2 ∧ (∀ c, c < 5 → I (z + 1) c = ρ (20 + c) ∧ I (z + 2) c = ρ (30 + c) ∧ I (z + 3) c = ρ (10 + c)) ∧ ∀ p, p < 8 → I (z + 5) p = ρ (40 + 2 * p) ∧ I (z + 6) p = ρ (41 + 2 * p)
def TpR (I : mI) : Prop := I 4 3 = I 54 7 ∧ ∀ n k, I 54 7 = nI n → n ≤ 400 → k < n → I 13 k &&& 255 = I 59 k
def ImR (I : mI) (R : mR) : Prop := ∀ j, j < 2 → (R 12 j = none → I 58 j = 0) ∧ ∀ y, R 12 j = some y → ¬ I 58 j = 0 ∧ SmR I y (fun k => I 57 (8060 * j + k))
def Rel (I : mI) (R : mR) : Prop := (I 1 = tLow ∧ I 2 = tHigh) ∧ SmR I 5 (I 56) ∧ TpR I ∧ ImR I R
section RL
variable {I I1 J : mI} {R R1 : mR} {S : mS} {t : Nat}
theorem SmR.mv {z : Nat} {ρ σ : Nat → Int32} (h : SmR I z ρ) (e0 : ∀ k, ¬ k = 6 → J z k = I z k) (e : ∀ a, z < a → a < z + 7 → J a = I a) (er : ∀ k, k < 60 → ¬ k = 1 → σ k = ρ k) : SmR J z σ := by
  obtain ⟨h0, h3, h9, hc, hp⟩ := h
  refine ⟨?_, ?_, ?_, fun c c5 => ?_, fun p p8 => ?_⟩
  · rw [e0 0 (by decide), er 0 (by decide) (by decide)]; exact h0
  · rw [e0 3 (by decide), er 3 (by decide) (by decide)]; exact h3
  · rw [e0 9 (by decide), er 2 (by decide) (by decide)]; exact h9
  · rw [e (z + 1) (by omega) (by omega), e (z + 2) (by omega) (by omega), e (z + 3) (by omega) (by omega), er _ (by omega) (by omega), er _ (by omega) (by omega), er _ (by omega) (by omega)]
    exact hc c c5
  · rw [e (z + 5) (by omega) (by omega), e (z + 6) (by omega) (by omega), er _ (by omega) (by omega), er _ (by omega) (by omega)]
    exact hp p p8
theorem SmR.al {z : Nat} {ρ σ : Nat → Int32} (h : SmR I z ρ) (e : ∀ a, z ≤ a → a < z + 7 → J a = I a) (er : ∀ k, k < 60 → ¬ k = 1 → σ k = ρ k) : SmR J z σ := h.mv (fun k _ => by rw [e z (by omega) (by omega)]) (fun a a1 a2 => e a (by omega) a2) er
theorem SmR.cp {y z : Nat} {ρ : Nat → Int32} (h : SmR I z ρ) (c : SmC J y I z) : SmR J y ρ := by
  obtain ⟨h0, h3, h9, hc, hp⟩ := h
  obtain ⟨g0, g3, g9, gc, gp⟩ := c
  exact ⟨g0.trans h0, g3.trans h3, g9.trans h9, fun c c5 => ⟨(gc c c5).1.trans (hc c c5).1, (gc c c5).2.1.trans (hc c c5).2.1, (gc c c5).2.2.trans (hc c c5).2.2⟩, fun p p8 => ⟨(gp p p8).1.trans (hp p p8).1, (gp p p8).2.trans (hp p p8).2⟩⟩
theorem TpR.mv (h : TpR I) (e4 : J 4 3 = I 4 3) (e13 : J 13 = I 13) (e7 : J 54 7 = I 54 7) (e9 : J 59 = I 59) : TpR J := by
  unfold TpR
  rw [e4, e13, e7, e9]
  exact h
theorem TpR.z (e4 : J 4 3 = 0) (e7 : J 54 7 = 0) : TpR J := ⟨e4.trans e7.symm, fun n k h1 h2 h3 => by
  have : n = 0 := (nI_eq (a := n) (b := 0) (by omega) (by decide)).mp (h1.symm.trans e7)
  omega⟩
theorem ImR.mv (h : ImR I R) (e12 : R1 12 = R 12) (ec : ∀ j y, j < 2 → R 12 j = some y → ∀ a, y ≤ a → a < y + 7 → J a = I a) (e7 : J 57 = I 57) (e8 : J 58 = I 58) : ImR J R1 := by
  intro j hj
  obtain ⟨h1, h2⟩ := h j hj
  rw [e12, e8, e7]
  exact ⟨h1, fun y hy => ⟨(h2 y hy).1, (h2 y hy).2.al (ec j y hj hy) (fun _ _ _ => rfl)⟩⟩
/-- IMAGES and the class's tables stay -/
theorem ImR.st (X : XC S I R t) (h : ImR I R) (o1 : OutX I I1) (k12 : R1 12 = R 12) (ki : ∀ j y, j < 2 → R 12 j = some y → ∀ a, y ≤ a → a < y + 7 → I1 a = I a) (o2 : OutM I1 J) (e7 : J 57 = I1 57) (e8 : J 58 = I1 58) : ImR J R1 :=
  h.mv k12 (fun j y hj hy a a1 a2 => (o2 a (by have := (X.2.1.img j y hj hy).2.1; omega)).trans (ki j y hj hy a a1 a2)) (e7.trans (o1 57 (by decide))) (e8.trans (o1 58 (by decide)))
theorem Rel.keep (X : XC S I R t) (h : Rel I R) (o1 : OutX I I1) (n1 : NoX I R I1 R1) (o2 : OutM I1 J) (n2 : RlN I1 J) : Rel J R1 := by
  obtain ⟨⟨c1, c2⟩, sm, tp, im⟩ := h
  obtain ⟨⟨⟨ka, k5, k12, ki⟩, _⟩, k43⟩ := n1
  refine ⟨⟨by rw [o2 1 (by decide), ka 1 (by decide)]; exact c1, by rw [o2 2 (by decide), ka 2 (by decide)]; exact c2⟩, sm.mv (fun k hk => by rw [o2 5 (by decide)]; exact k5 k hk) (fun a a1 a2 => (o2 a (by omega)).trans (ka a (by omega))) (fun k k1 k2 => by rw [n2.1 k (by omega), o1 56 (by decide)]), tp.mv ?_ ?_ ?_ ?_, im.st X o1 k12 ki o2 n2.2.1 n2.2.2.1⟩
  · rw [o2 4 (by decide)]; exact k43
  · rw [o2 13 (by decide)]; exact ka 13 (by decide)
  · rw [n2.2.2.2.2.1, o1 54 (by decide)]
  · rw [n2.2.2.2.1, o1 59 (by decide)]
theorem RlT.o {ρ : Nat → Int32} (h : RlT I J ρ) : RlO I J ρ := ⟨fun k h1 _ => h.1 k (by omega), h.2.1, h.2.2.1, h.2.2.2.1⟩
theorem Rel.tk {ρ : Nat → Int32} (X : XC S I R t) (h : Rel I R) (o1 : OutX I I1) (n1 : KeO I R I1 R1) (k43 : I1 4 3 = 0) (o2 : OutM I1 J) (e7 : J 54 7 = 0) (n2 : RlO I1 J ρ) (hρ : ∀ k, k < 60 → ¬ k = 1 → ρ k = I1 56 k) : Rel J R1 := by
  obtain ⟨⟨c1, c2⟩, sm, tp, im⟩ := h
  obtain ⟨ka, k5, k12, ki⟩ := n1
  exact ⟨⟨by rw [o2 1 (by decide), ka 1 (by decide)]; exact c1, by rw [o2 2 (by decide), ka 2 (by decide)]; exact c2⟩, sm.mv (fun k hk => by rw [o2 5 (by decide)]; exact k5 k hk) (fun a a1 a2 => (o2 a (by omega)).trans (ka a (by omega))) (fun k k1 k2 => by rw [n2.1 k k1 k2, hρ k k1 k2, o1 56 (by decide)]), TpR.z (by rw [o2 4 (by decide)]; exact k43) e7, im.st X o1 k12 ki o2 n2.2.1 n2.2.2.1⟩
theorem inBc {x a b : Int32} {lo hi : Int64} (ha : lo = a.toInt64) (hb : hi = b.toInt64) : inB x.toInt64 lo hi = true ↔ ¬ x < a ∧ ¬ b < x := by
  unfold inB
  rw [decide_eq_true_iff, ha, hb, Int64.lt_iff_toInt_lt, Int64.lt_iff_toInt_lt, Int32.toInt_toInt64, Int32.toInt_toInt64, Int32.toInt_toInt64, Int32.lt_iff_toInt_lt, Int32.lt_iff_toInt_lt]
theorem inBu {x a : Int32} {lo : Int64} {w : Nat} (ha : lo = a.toInt64) (hw : w < 9) : inB x.toInt64 lo ((nI w).toInt64 - 1) = true ↔ ¬ x < a ∧ x < nI w := by
  unfold inB
  rw [decide_eq_true_iff, ha, Int64.lt_iff_toInt_lt, Int64.lt_iff_toInt_lt, Int32.toInt_toInt64, Int32.toInt_toInt64, cel8 w hw, Int32.lt_iff_toInt_lt, Int32.lt_iff_toInt_lt, nI_toInt (by omega)]
  omega
theorem r_wide {n v w : Int32} (X : XC S I R t) (h : Rel I R) (o1 : OutX I I1) (x : ((n < 3 ∨ 5 < n) ∧ v = -1 ∧ NoX I R I1 R1) ∨ (¬ (n < 3 ∨ 5 < n) ∧ v = I 5 0 ∧ I1 = graF (widF I n) ∧ R1 = R)) (o2 : OutM I1 J) (m : (inB n.toInt64 3 5 = false ∧ w = -1 ∧ RlN I1 J) ∨ (inB n.toInt64 3 5 = true ∧ w = I1 56 0 ∧ RlW I1 J (widR (I1 56) n))) : v = w ∧ Rel J R1 := by
  have hb : inB n.toInt64 3 5 = true ↔ ¬ n < 3 ∧ ¬ 5 < n := inBc rfl rfl
  rcases x with ⟨x1, rfl, x2⟩ | ⟨x1, rfl, x2, rfl⟩
  · rcases m with ⟨m1, rfl, m2⟩ | ⟨m1, _⟩
    · exact ⟨rfl, h.keep X o1 x2 o2 m2⟩
    · exact absurd x1 (fun z => z.elim (hb.mp m1).1 (hb.mp m1).2)
  · have m1' : inB n.toInt64 3 5 = true := hb.mpr ⟨fun z => x1 (Or.inl z), fun z => x1 (Or.inr z)⟩
    rcases m with ⟨m1, _⟩ | ⟨_, rfl, m2⟩
    · rw [m1] at m1'; cases m1'
    · obtain ⟨⟨c1, c2⟩, sm, tp, im⟩ := h
      have e56 : I1 56 = I 56 := o1 56 (by decide)
      have f : ∀ a, ¬ a = 4 → ¬ a = 5 → ¬ a = 6 → ¬ a = 7 → I1 a = I a := fun a h4 h5 h6 h7 => by
        rw [x2]
        unfold graF widF filF
        rw [pt_n h4, uu_n _ _ h7, uu_n _ _ h6, pt_n h5]
      have f5 : ∀ k, I1 5 k = put I 5 0 n 5 k := fun k => by
        rw [x2]
        unfold graF widF filF
        rw [pt_m (by decide), uu_n _ _ (by decide), uu_n _ _ (by decide)]
      have f4 : I1 4 3 = I 4 3 := by
        rw [x2]
        unfold graF widF filF
        rw [pt_f (by decide), uu_n _ _ (by decide), uu_n _ _ (by decide), pt_n (by decide)]
      have f6 : ∀ c, c < 5 → I1 6 c = 3 ∧ I1 7 c = 3 := fun c hc => by
        rw [x2]
        unfold graF widF filF
        refine ⟨?_, ?_⟩
        · rw [pt_n (by decide), uu_n _ _ (by decide), uu_s, if_pos hc]
        · rw [pt_n (by decide), uu_s, if_pos hc]
      refine ⟨by rw [e56]; exact sm.1, ⟨by rw [o2 1 (by decide), f 1 (by decide) (by decide) (by decide) (by decide)]; exact c1, by rw [o2 2 (by decide), f 2 (by decide) (by decide) (by decide) (by decide)]; exact c2⟩, ⟨?_, ?_, ?_, fun c c5 => ?_, fun p p8 => ?_⟩, tp.mv ?_ ?_ ?_ ?_, im.st X o1 rfl (fun j y hj hy a a1 _ => ?_) o2 m2.2.1 m2.2.2.1⟩
      · rw [o2 5 (by decide), f5, pt_s, m2.1 0 (by omega)]; rfl
      · rw [o2 5 (by decide), f5, pt_f (by decide), m2.1 3 (by omega), e56]; exact sm.2.1
      · rw [o2 5 (by decide), f5, pt_f (by decide), m2.1 2 (by omega), e56]; exact sm.2.2.1
      · have q1 : widR (I1 56) n (20 + c) = 3 := by unfold widR; rw [if_neg (by omega), if_pos (by omega)]
        have q2 : widR (I1 56) n (30 + c) = 3 := by unfold widR; rw [if_neg (by omega), if_pos (by omega)]
        have q3 : widR (I1 56) n (10 + c) = I 56 (10 + c) := by unfold widR; rw [if_neg (by omega), if_neg (by omega), e56]
        rw [m2.1 _ (by omega), m2.1 _ (by omega), m2.1 _ (by omega), q1, q2, q3, o2 6 (by decide), o2 7 (by decide), o2 8 (by decide), f 8 (by decide) (by decide) (by decide) (by decide)]
        exact ⟨(f6 c c5).1, (f6 c c5).2, (sm.2.2.2.1 c c5).2.2⟩
      · have q1 : widR (I1 56) n (40 + 2 * p) = I 56 (40 + 2 * p) := by unfold widR; rw [if_neg (by omega), if_neg (by omega), e56]
        have q2 : widR (I1 56) n (41 + 2 * p) = I 56 (41 + 2 * p) := by unfold widR; rw [if_neg (by omega), if_neg (by omega), e56]
        rw [m2.1 _ (by omega), m2.1 _ (by omega), q1, q2, o2 10 (by decide), o2 11 (by decide), f 10 (by decide) (by decide) (by decide) (by decide), f 11 (by decide) (by decide) (by decide) (by decide)]
        exact sm.2.2.2.2 p p8
      · rw [o2 4 (by decide)]; exact f4
      · rw [o2 13 (by decide)]; exact f 13 (by decide) (by decide) (by decide) (by decide)
      · rw [m2.2.2.2.2.1, o1 54 (by decide)]
      · rw [m2.2.2.2.1, o1 59 (by decide)]
      · have := (X.2.1.img j y hj hy).2.1
        exact f a (by omega) (by omega) (by omega) (by omega)
/-- one place of a row of the class's has changed, and the reference's beside it -/
theorem Rel.one {a k m : Nat} {x : Int32} (X : XC S I R t) (h : Rel I R) (o1 : OutX I I1) (e1 : I1 = graF (put I a k x)) (o2 : OutM I1 J) (m2 : RlW I1 J (va_up (I1 56) m x)) (ha : (a = 6 ∧ k < 5 ∧ m = 20 + k) ∨ (a = 7 ∧ k < 5 ∧ m = 30 + k) ∨ (a = 8 ∧ k < 5 ∧ m = 10 + k) ∨ (a = 5 ∧ k = 3 ∧ m = 3)) : Rel J R := by
  obtain ⟨⟨c1, c2⟩, sm, tp, im⟩ := h
  have e56 : I1 56 = I 56 := o1 56 (by decide)
  rw [e56] at m2
  have f : ∀ b, ¬ b = 4 → ¬ b = a → I1 b = I b := fun b h4 hb => by
    rw [e1]
    unfold graF
    rw [pt_n h4, pt_n hb]
  have fa : I1 a = put I a k x a := by
    rw [e1]
    unfold graF
    rw [pt_n (by omega)]
  have fo : ∀ j, ¬ j = k → I1 a j = I a j := fun j hj => by rw [fa, pt_f hj]
  have f4 : I1 4 3 = I 4 3 := by
    rw [e1]
    unfold graF
    rw [pt_f (by decide), pt_n (by omega)]
  have fs : I1 a k = x := by rw [fa, pt_s]
  have cell : ∀ b j q, b < 54 → ¬ b = 4 → q < 60 → ¬ q = 1 → I b j = I 56 q → ((b = a ∧ j = k) ↔ q = m) → J b j = J 56 q := fun b j q b1 b4 q1 q2 e z => by
    rw [o2 b (by omega), m2.1 q (by omega)]
    by_cases y : q = m
    · obtain ⟨rfl, rfl⟩ := z.mpr y
      rw [y, uu_s, fs]
    · rw [uu_n _ _ y, ← e]
      by_cases y2 : b = a
      · subst y2
        exact fo j (fun y3 => y (z.mp ⟨rfl, y3⟩))
      · rw [f b b4 y2]
  refine ⟨⟨by rw [o2 1 (by decide), f 1 (by decide) (by omega)]; exact c1, by rw [o2 2 (by decide), f 2 (by decide) (by omega)]; exact c2⟩, ⟨?_, ?_, ?_, fun c c5 => ⟨?_, ?_, ?_⟩, fun p p8 => ⟨?_, ?_⟩⟩, tp.mv ?_ ?_ ?_ ?_, im.st X o1 rfl (fun j y hj hy b b1 _ => ?_) o2 m2.2.1 m2.2.2.1⟩
  · exact cell 5 0 0 (by decide) (by decide) (by decide) (by decide) sm.1 (by omega)
  · exact cell 5 3 3 (by decide) (by decide) (by decide) (by decide) sm.2.1 (by omega)
  · exact cell 5 9 2 (by decide) (by decide) (by decide) (by decide) sm.2.2.1 (by omega)
  · exact cell 6 c (20 + c) (by decide) (by decide) (by omega) (by omega) (sm.2.2.2.1 c c5).1 (by omega)
  · exact cell 7 c (30 + c) (by decide) (by decide) (by omega) (by omega) (sm.2.2.2.1 c c5).2.1 (by omega)
  · exact cell 8 c (10 + c) (by decide) (by decide) (by omega) (by omega) (sm.2.2.2.1 c c5).2.2 (by omega)
  · exact cell 10 p (40 + 2 * p) (by decide) (by decide) (by omega) (by omega) (sm.2.2.2.2 p p8).1 (by omega)
  · exact cell 11 p (41 + 2 * p) (by decide) (by decide) (by omega) (by omega) (sm.2.2.2.2 p p8).2 (by omega)
  · rw [o2 4 (by decide)]; exact f4
  · rw [o2 13 (by decide)]; exact f 13 (by decide) (by omega)
  · rw [m2.2.2.2.2.1, o1 54 (by decide)]
  · rw [m2.2.2.2.1, o1 59 (by decide)]
  · have := (X.2.1.img j y hj hy).2.1
    exact f b (by omega) (by omega)
theorem XC.w5 (X : XC S I R t) : ∃ w, w < 6 ∧ I 5 0 = nI w := by
  obtain ⟨c, hc, e⟩ := X.c5
  exact ⟨c, by omega, e⟩
theorem r_bar {c x v w : Int32} (X : XC S I R t) (h : Rel I R) (o1 : OutX I I1) (xs : (siB I c x = false ∧ v = -1 ∧ NoX I R I1 R1) ∨ (siB I c x = true ∧ v = I 6 c.toNatClampNeg ∧ I1 = graF (put I 6 c.toNatClampNeg x) ∧ R1 = R)) (o2 : OutM I1 J) (ms : ((inB c.toInt64 0 ((I1 56 0).toInt64 - 1) = false ∨ inB x.toInt64 1 9 = false) ∧ w = -1 ∧ RlN I1 J) ∨ (inB c.toInt64 0 ((I1 56 0).toInt64 - 1) = true ∧ inB x.toInt64 1 9 = true ∧ w = I1 56 (20 + c.toNatClampNeg) ∧ RlW I1 J (va_up (I1 56) (20 + c.toNatClampNeg) x))) : v = w ∧ Rel J R1 := by
  obtain ⟨q, q6, eq⟩ := X.w5
  have e56 : I1 56 = I 56 := o1 56 (by decide)
  have e0 : I 56 0 = nI q := h.2.1.1.symm.trans eq
  have h1 : inB c.toInt64 0 ((I1 56 0).toInt64 - 1) = true ↔ ¬ c < 0 ∧ c < nI q := by rw [e56, e0]; exact inBu rfl (by omega)
  have h2 : inB x.toInt64 1 9 = true ↔ ¬ x < 1 ∧ ¬ 9 < x := inBc rfl rfl
  have c5 : c < nI q → c < 5 := fun z => by
    have z' := Int32.lt_iff_toInt_lt.mp z
    rw [nI_toInt (by omega)] at z'
    rw [Int32.lt_iff_toInt_lt]
    show c.toInt < 5
    omega
  rcases xs with ⟨x1, rfl, x2⟩ | ⟨x1, rfl, x2, rfl⟩
  · rcases ms with ⟨m1, rfl, m2⟩ | ⟨m1, m2, _⟩
    · exact ⟨rfl, h.keep X o1 x2 o2 m2⟩
    · refine absurd (of_decide_eq_false x1) (fun z => z ?_)
      rw [eq]
      exact ⟨(h1.mp m1).1, (h1.mp m1).2, c5 (h1.mp m1).2, (h2.mp m2).1, (h2.mp m2).2⟩
  · obtain ⟨z1, z2, z3, z4, z5⟩ : ¬ c < 0 ∧ c < I 5 0 ∧ c < 5 ∧ ¬ x < 1 ∧ ¬ 9 < x := of_decide_eq_true x1
    have ci := (of_eq_true (inb_lt (n := 5) (by decide) z1 z3)).2
    rcases ms with ⟨m1, _⟩ | ⟨_, _, rfl, m2⟩
    · rcases m1 with m1 | m1
      · rw [h1.mpr ⟨z1, by rw [← eq]; exact z2⟩] at m1; cases m1
      · rw [h2.mpr ⟨z4, z5⟩] at m1; cases m1
    · exact ⟨by rw [e56]; exact (h.2.1.2.2.2.1 _ ci).1, h.one X o1 x2 o2 m2 (Or.inl ⟨rfl, ci, rfl⟩)⟩
theorem r_shape {c x v w : Int32} (X : XC S I R t) (h : Rel I R) (o1 : OutX I I1) (xs : (siB I c x = false ∧ v = -1 ∧ NoX I R I1 R1) ∨ (siB I c x = true ∧ v = I 7 c.toNatClampNeg ∧ I1 = graF (put I 7 c.toNatClampNeg x) ∧ R1 = R)) (o2 : OutM I1 J) (ms : ((inB c.toInt64 0 ((I1 56 0).toInt64 - 1) = false ∨ inB x.toInt64 1 9 = false) ∧ w = -1 ∧ RlN I1 J) ∨ (inB c.toInt64 0 ((I1 56 0).toInt64 - 1) = true ∧ inB x.toInt64 1 9 = true ∧ w = I1 56 (30 + c.toNatClampNeg) ∧ RlW I1 J (va_up (I1 56) (30 + c.toNatClampNeg) x))) : v = w ∧ Rel J R1 := by
  obtain ⟨q, q6, eq⟩ := X.w5
  have e56 : I1 56 = I 56 := o1 56 (by decide)
  have e0 : I 56 0 = nI q := h.2.1.1.symm.trans eq
  have h1 : inB c.toInt64 0 ((I1 56 0).toInt64 - 1) = true ↔ ¬ c < 0 ∧ c < nI q := by rw [e56, e0]; exact inBu rfl (by omega)
  have h2 : inB x.toInt64 1 9 = true ↔ ¬ x < 1 ∧ ¬ 9 < x := inBc rfl rfl
  have c5 : c < nI q → c < 5 := fun z => by
    have z' := Int32.lt_iff_toInt_lt.mp z
    rw [nI_toInt (by omega)] at z'
    rw [Int32.lt_iff_toInt_lt]
    show c.toInt < 5
    omega
  rcases xs with ⟨x1, rfl, x2⟩ | ⟨x1, rfl, x2, rfl⟩
  · rcases ms with ⟨m1, rfl, m2⟩ | ⟨m1, m2, _⟩
    · exact ⟨rfl, h.keep X o1 x2 o2 m2⟩
    · refine absurd (of_decide_eq_false x1) (fun z => z ?_)
      rw [eq]
      exact ⟨(h1.mp m1).1, (h1.mp m1).2, c5 (h1.mp m1).2, (h2.mp m2).1, (h2.mp m2).2⟩
  · obtain ⟨z1, z2, z3, z4, z5⟩ : ¬ c < 0 ∧ c < I 5 0 ∧ c < 5 ∧ ¬ x < 1 ∧ ¬ 9 < x := of_decide_eq_true x1
    have ci := (of_eq_true (inb_lt (n := 5) (by decide) z1 z3)).2
    rcases ms with ⟨m1, _⟩ | ⟨_, _, rfl, m2⟩
    · rcases m1 with m1 | m1
      · rw [h1.mpr ⟨z1, by rw [← eq]; exact z2⟩] at m1; cases m1
      · rw [h2.mpr ⟨z4, z5⟩] at m1; cases m1
    · exact ⟨by rw [e56]; exact (h.2.1.2.2.2.1 _ ci).2.1, h.one X o1 x2 o2 m2 (Or.inr (Or.inl ⟨rfl, ci, rfl⟩))⟩
theorem m1023 : ∀ i, i < 32 → 10 ≤ i → ((-1023 : Int32).toBitVec).getLsbD i = true := by decide
theorem and1023 {n : Int32} (h : n &&& -1023 = 0) : n.toBitVec.toNat < 2 ^ 10 := by
  have hb : n.toBitVec &&& (-1023 : Int32).toBitVec = 0#32 := by
    have e := congrArg Int32.toBitVec h
    rw [Int32.toBitVec_and] at e
    exact e
  refine Nat.lt_pow_two_of_testBit _ (fun i hi => ?_)
  by_cases h32 : i < 32
  · have e := congrArg (fun x => x.getLsbD i) hb
    simp only [BitVec.getLsbD_and, m1023 i h32 hi, Bool.and_true, BitVec.getLsbD_zero] at e
    rw [BitVec.testBit_toNat]
    exact e
  · exact Nat.testBit_lt_two_pow (Nat.lt_of_lt_of_le n.toBitVec.isLt (Nat.pow_le_pow_right (by decide) (by omega)))
theorem nI_bv (n : Int32) : nI n.toBitVec.toNat = n := Int32.toBitVec_inj.mp (by
  show BitVec.ofNat 32 n.toBitVec.toNat = n.toBitVec
  exact BitVec.eq_of_toNat_eq ((BitVec.toNat_ofNat _ _).trans (Nat.mod_eq_of_lt n.toBitVec.isLt)))
theorem tg10 : ∀ k, k < 1024 → ((nI k = 0 ∨ ¬ nI k &&& -1023 = 0) ↔ ¬ (inB (nI k).toInt64 2 1022 = true ∧ ¬ nI k &&& 1 = 1)) := by decide +kernel
theorem tgB {n : Int32} : (n = 0 ∨ ¬ n &&& -1023 = 0) ↔ ¬ (inB n.toInt64 2 1022 = true ∧ ¬ n &&& 1 = 1) := by
  by_cases g : n &&& -1023 = 0
  · have := tg10 _ (and1023 g)
    rw [nI_bv] at this
    exact this
  · refine ⟨fun _ z => ?_, fun _ => Or.inr g⟩
    obtain ⟨k, k1, k2, rfl⟩ := inN (a := 2) (b := 1022) z.1 rfl rfl (by decide)
    exact ((tg10 k (by omega)).mp (Or.inr g)) z
theorem r_tongs {n v w : Int32} (X : XC S I R t) (h : Rel I R) (o1 : OutX I I1) (xs : ((n = 0 ∨ ¬ n &&& -1023 = 0) ∧ v = -1 ∧ NoX I R I1 R1) ∨ (¬ (n = 0 ∨ ¬ n &&& -1023 = 0) ∧ v = I 5 3 ∧ I1 = graF (put I 5 3 n) ∧ R1 = R)) (o2 : OutM I1 J) (ms : ((inB n.toInt64 2 1022 = false ∨ n &&& 1 = 1) ∧ w = -1 ∧ RlN I1 J) ∨ (inB n.toInt64 2 1022 = true ∧ ¬ n &&& 1 = 1 ∧ w = I1 56 3 ∧ RlW I1 J (va_up (I1 56) 3 n))) : v = w ∧ Rel J R1 := by
  have e56 : I1 56 = I 56 := o1 56 (by decide)
  rcases xs with ⟨x1, rfl, x2⟩ | ⟨x1, rfl, x2, rfl⟩
  · rcases ms with ⟨m1, rfl, m2⟩ | ⟨m1, m2, _⟩
    · exact ⟨rfl, h.keep X o1 x2 o2 m2⟩
    · exact absurd ⟨m1, m2⟩ (tgB.mp x1)
  · rcases ms with ⟨m1, _⟩ | ⟨_, _, rfl, m2⟩
    · refine absurd (tgB.mpr (fun z => ?_)) x1
      rcases m1 with m1 | m1
      · rw [z.1] at m1; cases m1
      · exact z.2 m1
    · exact ⟨by rw [e56]; exact h.2.1.2.1, h.one X o1 x2 o2 m2 (Or.inr (Or.inr (Or.inr ⟨rfl, rfl, rfl⟩)))⟩
theorem teB_eq {I : mI} {w x : Int32} (c1 : I 1 = tLow) (c2 : I 2 = tHigh) : teB I w x = teM w x := by
  have hb : inB w.toInt64 0 4 = true ↔ ¬ w < 0 ∧ ¬ 4 < w := inBc rfl rfl
  have w5 : w < 5 ↔ ¬ 4 < w := by
    rw [Int32.lt_iff_toInt_lt, Int32.lt_iff_toInt_lt]
    show w.toInt < 5 ↔ ¬ 4 < w.toInt
    omega
  cases g : inB w.toInt64 0 4
  · have e : teM w x = false := by unfold teM; rw [g, Bool.false_and]
    rw [e]
    refine decide_eq_false (fun z => ?_)
    rw [hb.mpr ⟨z.1, w5.mp z.2.1⟩] at g
    cases g
  · obtain ⟨k, k1, k2, rfl⟩ := inN (a := 0) (b := 4) g rfl rfl (by decide)
    have b1 := (hb.mp g)
    have e : teB I (nI k) x = decide (¬ x < tLow k ∧ ¬ tHigh k < x) := by
      unfold teB
      rw [c1, c2, nI_clamp (by omega)]
      exact decide_eq_decide.mpr ⟨fun z => z.2.2, fun z => ⟨b1.1, w5.mpr b1.2, z⟩⟩
    have fin : ∀ lo hi a b, teM (nI k) x = inB x.toInt64 lo hi → lo = a.toInt64 → hi = b.toInt64 → tLow k = a → tHigh k = b → teB I (nI k) x = teM (nI k) x := fun lo hi a b h1 h2 h3 h4 h5 => by
      rw [e, h1, h4, h5]
      have := inBc (x := x) h2 h3
      cases q : inB x.toInt64 lo hi
      · exact decide_eq_false (fun z => by rw [this.mpr z] at q; cases q)
      · exact decide_eq_true (this.mp q)
    rcases (by omega : k = 0 ∨ k = 1 ∨ k = 2 ∨ k = 3 ∨ k = 4) with rfl | rfl | rfl | rfl | rfl
    · exact fin _ _ 1 4 teM0 rfl rfl rfl rfl
    · exact fin _ _ 0 100 teM1 rfl rfl rfl rfl
    · exact fin _ _ 0 60 teM2 rfl rfl rfl rfl
    · exact fin _ _ 0 60 teM3 rfl rfl rfl rfl
    · exact fin _ _ 0 50 teM4 rfl rfl rfl rfl
theorem r_terms {w x v u : Int32} (X : XC S I R t) (h : Rel I R) (o1 : OutX I I1) (xs : (teB I w x = false ∧ v = -1 ∧ NoX I R I1 R1) ∨ (teB I w x = true ∧ v = I 8 w.toNatClampNeg ∧ I1 = graF (put I 8 w.toNatClampNeg x) ∧ R1 = R)) (o2 : OutM I1 J) (ms : (teM w x = false ∧ u = -1 ∧ RlN I1 J) ∨ (teM w x = true ∧ u = I1 56 (10 + w.toNatClampNeg) ∧ RlW I1 J (va_up (I1 56) (10 + w.toNatClampNeg) x))) : v = u ∧ Rel J R1 := by
  have e56 : I1 56 = I 56 := o1 56 (by decide)
  have et := teB_eq (w := w) (x := x) h.1.1 h.1.2
  rcases xs with ⟨x1, rfl, x2⟩ | ⟨x1, rfl, x2, rfl⟩
  · rcases ms with ⟨m1, rfl, m2⟩ | ⟨m1, _⟩
    · exact ⟨rfl, h.keep X o1 x2 o2 m2⟩
    · rw [et, m1] at x1; cases x1
  · obtain ⟨z1, z2, _⟩ : ¬ w < 0 ∧ w < 5 ∧ ¬ x < I 1 w.toNatClampNeg ∧ ¬ I 2 w.toNatClampNeg < x := of_decide_eq_true x1
    have ci := (of_eq_true (inb_lt (n := 5) (by decide) z1 z2)).2
    rcases ms with ⟨m1, _⟩ | ⟨_, rfl, m2⟩
    · rw [et, m1] at x1; cases x1
    · exact ⟨by rw [e56]; exact (h.2.1.2.2.2.1 _ ci).2.2, h.one X o1 x2 o2 m2 (Or.inr (Or.inr (Or.inl ⟨rfl, ci, rfl⟩)))⟩
end RL
