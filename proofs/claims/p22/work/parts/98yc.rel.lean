/-! group B: call by call -/
section BC
variable {t : Nat} {S : mS} {I I1 J : mI} {R R1 : mR}
theorem b_wide {n v w : Int32} {A B C : Prop} {x y z : Int32} (X : XC S I R t) (_ : Rel I R) (h : ExB I R) (_ : InvM I t) (o1 : OutX I I1) (xs : (A ∧ v = x ∧ NoX I R I1 R1) ∨ (B ∧ v = y ∧ I1 = graF (widF I n) ∧ R1 = R)) (o2 : OutM I1 J) (ms : (C ∧ w = z ∧ RlN I1 J) ∨ (inB n.toInt64 3 5 = true ∧ w = I1 56 0 ∧ RlW I1 J (widR (I1 56) n))) : ExB J R1 := by
  refine h.go X o1 ?_ o2 ?_
  · rcases xs with ⟨_, _, z⟩ | ⟨_, _, rfl, rfl⟩
    · exact RcX.no z
    · have f : ∀ a, ¬ a = 4 → ¬ a = 5 → ¬ a = 6 → ¬ a = 7 → graF (widF I n) a = I a := fun a h4 h5 h6 h7 => by
        unfold graF widF filF
        rw [pt_n h4, uu_n _ _ h7, uu_n _ _ h6, pt_n h5]
      refine RcX.ex X (f 14 (by decide) (by decide) (by decide) (by decide)) ?_ (fun a ha => f a (by omega) (by omega) (by omega) (by omega)) (fun b => b.e (f 13 (by decide) (by decide) (by decide) (by decide)))
      unfold graF widF filF
      rw [pt_m (by decide), uu_n _ _ (by decide), uu_n _ _ (by decide), pt_f (by decide)]
  · rcases ms with ⟨_, _, z⟩ | ⟨_, _, z⟩
    · exact RmX.n z
    · refine RmX.w z (fun k hk => ?_)
      unfold widR
      rw [if_neg (by omega), if_neg (by omega)]
/-- one cell -/
theorem RcX.one {a k : Nat} {x : Int32} (X : XC S I R t) (ha : (5 < a ∧ a < 14 ∧ ¬ a = 13) ∨ (a = 5 ∧ ¬ k = 6)) : RcX I R (graF (put I a k x)) R := by
  have f : ∀ b, ¬ b = 4 → ¬ b = a → graF (put I a k x) b = I b := fun b h4 hb => by
    unfold graF
    rw [pt_n h4, pt_n hb]
  refine RcX.ex X (f 14 (by decide) (by omega)) ?_ (fun b hb => f b (by omega) (by omega)) (fun b => b.e (f 13 (by decide) (by omega)))
  unfold graF
  rw [pt_m (by decide)]
  by_cases e : a = 5
  · subst e
    rw [pt_f (by omega)]
  · rw [pt_n (by omega)]
theorem b_one {A B C D : Prop} {a k m : Nat} {x y z u v w : Int32} (X : XC S I R t) (h : ExB I R) (o1 : OutX I I1) (xs : (A ∧ v = y ∧ NoX I R I1 R1) ∨ (B ∧ v = z ∧ I1 = graF (put I a k x) ∧ R1 = R)) (ha : (5 < a ∧ a < 14 ∧ ¬ a = 13) ∨ (a = 5 ∧ ¬ k = 6)) (o2 : OutM I1 J) (ms : (C ∧ RlN I1 J) ∨ (D ∧ RlW I1 J (va_up (I1 56) m u))) (hm : ¬ m = 1 ∧ m < 60) : ExB J R1 := by
  refine h.go X o1 ?_ o2 ?_
  · rcases xs with ⟨_, _, z⟩ | ⟨_, _, rfl, rfl⟩
    · exact RcX.no z
    · exact RcX.one X ha
  · rcases ms with ⟨_, z⟩ | ⟨_, z⟩
    · exact RmX.n z
    · exact RmX.w z (fun k hk => uu_n _ _ (by omega))
theorem c9 {c : Int32} {q : Nat} (hq : q ≤ 9) (h : inB c.toInt64 0 ((nI q).toInt64 - 1) = true) : c.toNatClampNeg < 10 := by
  have e : (nI q).toInt64 - 1 = (nI q - 1).toInt64 := by
    rcases (by omega : q = 0 ∨ q = 1 ∨ q = 2 ∨ q = 3 ∨ q = 4 ∨ q = 5 ∨ q = 6 ∨ q = 7 ∨ q = 8 ∨ q = 9) with rfl | rfl | rfl | rfl | rfl | rfl | rfl | rfl | rfl | rfl <;> decide
  rw [e, inBx (lo := 0) (a := 0) (b := nI q - 1) rfl rfl] at h
  have l : (nI q - 1).toInt ≤ 8 := by
    rcases (by omega : q = 0 ∨ q = 1 ∨ q = 2 ∨ q = 3 ∨ q = 4 ∨ q = 5 ∨ q = 6 ∨ q = 7 ∨ q = 8 ∨ q = 9) with rfl | rfl | rfl | rfl | rfl | rfl | rfl | rfl | rfl | rfl <;> decide
  have z : (0 : Int32).toInt = 0 := rfl
  show c.toInt.toNat < 10
  omega
theorem b_bar {A B C : Prop} {c x v w y z u : Int32} (X : XC S I R t) (r : Rel I R) (h : ExB I R) (_ : InvM I t) (o1 : OutX I I1) (xs : (A ∧ v = y ∧ NoX I R I1 R1) ∨ (B ∧ v = z ∧ I1 = graF (put I 6 c.toNatClampNeg x) ∧ R1 = R)) (o2 : OutM I1 J) (ms : (C ∧ w = u ∧ RlN I1 J) ∨ (inB c.toInt64 0 ((I1 56 0).toInt64 - 1) = true ∧ inB x.toInt64 1 9 = true ∧ w = I1 56 (20 + c.toNatClampNeg) ∧ RlW I1 J (va_up (I1 56) (20 + c.toNatClampNeg) x))) : ExB J R1 := by
  refine h.go X o1 ?_ o2 ?_
  · rcases xs with ⟨_, _, z⟩ | ⟨_, _, rfl, rfl⟩
    · exact RcX.no z
    · exact RcX.one X (Or.inl (by decide))
  · rcases ms with ⟨_, _, z⟩ | ⟨g, _, _, z⟩
    · exact RmX.n z
    · obtain ⟨q, q6, eq⟩ := X.w5
      rw [o1 56 (by decide), r.2.1.1.symm.trans eq] at g
      have := c9 (by omega) g
      exact RmX.w z (fun k hk => uu_n _ _ (by omega))
theorem b_shape {A B C : Prop} {c x v w y z u : Int32} (X : XC S I R t) (r : Rel I R) (h : ExB I R) (_ : InvM I t) (o1 : OutX I I1) (xs : (A ∧ v = y ∧ NoX I R I1 R1) ∨ (B ∧ v = z ∧ I1 = graF (put I 7 c.toNatClampNeg x) ∧ R1 = R)) (o2 : OutM I1 J) (ms : (C ∧ w = u ∧ RlN I1 J) ∨ (inB c.toInt64 0 ((I1 56 0).toInt64 - 1) = true ∧ inB x.toInt64 1 9 = true ∧ w = I1 56 (30 + c.toNatClampNeg) ∧ RlW I1 J (va_up (I1 56) (30 + c.toNatClampNeg) x))) : ExB J R1 := by
  refine h.go X o1 ?_ o2 ?_
  · rcases xs with ⟨_, _, z⟩ | ⟨_, _, rfl, rfl⟩
    · exact RcX.no z
    · exact RcX.one X (Or.inl (by decide))
  · rcases ms with ⟨_, _, z⟩ | ⟨g, _, _, z⟩
    · exact RmX.n z
    · obtain ⟨q, q6, eq⟩ := X.w5
      rw [o1 56 (by decide), r.2.1.1.symm.trans eq] at g
      have := c9 (by omega) g
      exact RmX.w z (fun k hk => uu_n _ _ (by omega))
theorem b_tongs {A B C D E : Prop} {n v w y z u x : Int32} (X : XC S I R t) (_ : Rel I R) (h : ExB I R) (_ : InvM I t) (o1 : OutX I I1) (xs : (A ∧ v = y ∧ NoX I R I1 R1) ∨ (B ∧ v = z ∧ I1 = graF (put I 5 3 n) ∧ R1 = R)) (o2 : OutM I1 J) (ms : (C ∧ w = u ∧ RlN I1 J) ∨ (D ∧ E ∧ w = x ∧ RlW I1 J (va_up (I1 56) 3 n))) : ExB J R1 := by
  refine h.go X o1 ?_ o2 ?_
  · rcases xs with ⟨_, _, z⟩ | ⟨_, _, rfl, rfl⟩
    · exact RcX.no z
    · exact RcX.one X (Or.inr ⟨rfl, by decide⟩)
  · rcases ms with ⟨_, _, z⟩ | ⟨_, _, _, z⟩
    · exact RmX.n z
    · exact RmX.w z (fun k hk => uu_n _ _ (by omega))
theorem b_terms {A B C : Prop} {q x v w y z u s : Int32} (X : XC S I R t) (_ : Rel I R) (h : ExB I R) (_ : InvM I t) (o1 : OutX I I1) (xs : (A ∧ v = y ∧ NoX I R I1 R1) ∨ (B ∧ v = z ∧ I1 = graF (put I 8 q.toNatClampNeg x) ∧ R1 = R)) (o2 : OutM I1 J) (ms : (C ∧ w = u ∧ RlN I1 J) ∨ (teM q x = true ∧ w = s ∧ RlW I1 J (va_up (I1 56) (10 + q.toNatClampNeg) x))) : ExB J R1 := by
  refine h.go X o1 ?_ o2 ?_
  · rcases xs with ⟨_, _, z⟩ | ⟨_, _, rfl, rfl⟩
    · exact RcX.no z
    · exact RcX.one X (Or.inl (by decide))
  · rcases ms with ⟨_, _, z⟩ | ⟨g, _, z⟩
    · exact RmX.n z
    · have q5 : q.toNatClampNeg < 40 := by
        unfold teM at g
        refine Classical.byContradiction (fun n40 => ?_)
        have l : ¬ (inB q.toInt64 0 4 = true) := fun y => by
          rw [inBx (lo := 0) (hi := 4) (a := 0) (b := 4) rfl rfl, show (4 : Int32).toInt = 4 from rfl] at y
          have : q.toNatClampNeg = q.toInt.toNat := rfl
          omega
        revert g
        simp [l]
      exact RmX.w z (fun k hk => uu_n _ _ (by omega))
theorem b_feed {a b c e f v w : Int32} {A B : Prop} {y z : Int32} (X : XC S I R t) (r : Rel I R) (h : ExB I R) (_ : InvM I t) (o1 : OutX I I1) (xs : (A ∧ v = y ∧ NoX I R I1 R1) ∨ (B ∧ v = z ∧ I1 = wrF (wrF (wrF (wrF (wrF I a) b) c) e) f ∧ R1 = R)) (o2 : OutM I1 J) (ms : ∀ n, n ≤ 400 → I1 54 7 = nI n → ((400 < n + 20 ∧ w = -1 ∧ RlN I1 J) ∨ (n + 20 ≤ 400 ∧ w = nI (n + 20) ∧ J 54 7 = nI (n + 20) ∧ J 56 = I1 56 ∧ J 57 = I1 57 ∧ J 58 = I1 58 ∧ J 54 12 = I1 54 12 ∧ (∀ k, k < n → J 59 k = I1 59 k) ∧ ∀ j, j < 4 → J 59 (n + j) = by4 a j ∧ J 59 (n + 4 + j) = by4 b j ∧ J 59 (n + 4 + 4 + j) = by4 c j ∧ J 59 (n + 4 + 4 + 4 + j) = by4 e j ∧ J 59 (n + 4 + 4 + 4 + 4 + j) = by4 f j))) : ExB J R1 := by
  obtain ⟨l, l1, l2⟩ := X.2.1.1
  have i7 : I1 54 7 = nI l := by rw [o1 54 (by decide)]; exact r.2.2.1.1.symm.trans l2
  refine h.go X o1 ?_ o2 ?_
  · rcases xs with ⟨_, _, z⟩ | ⟨_, _, x2, x3⟩
    · exact RcX.no z
    · subst x3
      have n : ∀ z, ¬ z = 4 → ¬ z = 13 → I1 z = I z := fun z h4 h13 => by rw [x2, wrF_n h4 h13, wrF_n h4 h13, wrF_n h4 h13, wrF_n h4 h13, wrF_n h4 h13]
      exact RcX.ex X (n 14 (by decide) (by decide)) (by rw [n 5 (by decide) (by decide)]) (fun a ha => n a (by omega) (by omega)) (fun b => by rw [x2]; exact wrF_b (wrF_b (wrF_b (wrF_b (wrF_b b)))))
  · rcases ms l l1 i7 with ⟨_, _, z⟩ | ⟨_, _, _, m6, m7, _, m12, _⟩
    · exact RmX.n z
    · exact ⟨fun k _ _ => by rw [m6], m7, m12⟩
theorem b_end {A B C D : Prop} {n v w x y z u : Int32} (X : XC S I R t) (_ : Rel I R) (h : ExB I R) (_ : InvM I t) (o1 : OutX I I1) (xs : (A ∧ v = y ∧ NoX I R I1 R1) ∨ (B ∧ v = z ∧ I1 = put I 4 3 n ∧ R1 = R)) (o2 : OutM I1 J) (ms : (C ∧ w = u ∧ RlN I1 J) ∨ (D ∧ w = x ∧ J 54 7 = n ∧ J 56 = I1 56 ∧ J 57 = I1 57 ∧ J 58 = I1 58 ∧ J 59 = I1 59 ∧ J 54 12 = I1 54 12)) : ExB J R1 := by
  refine h.go X o1 ?_ o2 ?_
  · rcases xs with ⟨_, _, z⟩ | ⟨_, _, rfl, rfl⟩
    · exact RcX.no z
    · exact RcX.ex X (pt_n (by decide)) (pt_m (by decide)) (fun a ha => pt_n (by omega)) (fun b => b.e (pt_n (by decide)))
  · rcases ms with ⟨_, _, z⟩ | ⟨_, _, _, m6, m7, _, _, m12⟩
    · exact RmX.n z
    · exact ⟨fun k _ _ => by rw [m6], m7, m12⟩
theorem b_row {v w : Int32} (X : XC S I R t) (r : Rel I R) (h : ExB I R) (_ : InvM I t) (o1 : OutX I I1) (xs : ∀ l, l ≤ 400 → I 4 3 = nI l → (((l = 0 ∨ I 5 0 < nI ((l + 3) / 4)) ∧ v = -6 ∧ KeX I R I1 R1 ∧ I1 4 3 = 0) ∨ (¬ l = 0 ∧ ¬ I 5 0 < nI ((l + 3) / 4) ∧ v = nI (l / 4) ∧ I1 = graF (roL (l / 4) 5 0 (put I 4 3 0)) ∧ R1 = R))) (o2 : OutM I1 J) (ms : ∀ n, n ≤ 400 → I1 54 7 = nI n → (((n = 0 ∨ I1 56 0 < nI ((n + 3) / 4)) ∧ w = -6 ∧ RlT I1 J (I1 56)) ∨ (¬ n = 0 ∧ ¬ I1 56 0 < nI ((n + 3) / 4) ∧ w = nI (n / 4) ∧ RlT I1 J (rowR (I1 56) (I1 59) (n / 4))))) : ExB J R1 := by
  obtain ⟨l, l1, l2⟩ := X.2.1.1
  obtain ⟨q, q6, eq⟩ := X.w5
  have i7 : I1 54 7 = nI l := by rw [o1 54 (by decide)]; exact r.2.2.1.1.symm.trans l2
  refine h.go X o1 ?_ o2 ?_
  · rcases xs l l1 l2 with ⟨_, _, z, _⟩ | ⟨_, _, _, rfl, rfl⟩
    · exact RcX.ke z
    · have f : ∀ a, ¬ a = 4 → ¬ a = 6 → graF (roL (l / 4) 5 0 (put I 4 3 0)) a = I a := fun a h4 h6 => by
        unfold graF
        rw [pt_n h4, roL_n h6, pt_n h4]
      exact RcX.ex X (f 14 (by decide) (by decide)) (by rw [f 5 (by decide) (by decide)]) (fun a ha => f a (by omega) (by omega)) (fun b => b.e (f 13 (by decide) (by decide)))
  · rcases ms l l1 i7 with ⟨_, _, z⟩ | ⟨_, g, _, z⟩
    · exact RmX.tt z (fun _ _ => rfl)
    · refine RmX.tt z (fun k hk => ?_)
      have l5 : l / 4 ≤ 5 := by
        rw [o1 56 (by decide), r.2.1.1.symm.trans eq] at g
        exact Classical.byContradiction (fun z => g (nI_lt (by omega) (by omega)))
      unfold rowR
      exact if_neg (by omega)
theorem b_piece {x y v w : Int32} (X : XC S I R t) (r : Rel I R) (h : ExB I R) (_ : InvM I t) (o1 : OutX I I1) (xs : ∀ p, p ≤ 8 → I 5 9 = nI p → (((x < 1 ∨ 200 < x) ∧ v = -1 ∧ NoX I R I1 R1) ∨ (¬ (x < 1 ∨ 200 < x) ∧ (y < -1 ∨ ¬ y < nI p) ∧ v = -2 ∧ NoX I R I1 R1) ∨ (¬ (x < 1 ∨ 200 < x) ∧ ¬ (y < -1 ∨ ¬ y < nI p) ∧ p = 8 ∧ v = -5 ∧ NoX I R I1 R1) ∨ (¬ (x < 1 ∨ 200 < x) ∧ ¬ (y < -1 ∨ ¬ y < nI p) ∧ p < 8 ∧ v = nI p ∧ I1 = piF I x y ∧ R1 = R))) (o2 : OutM I1 J) (ms : ∀ c, c ≤ 8 → I1 56 2 = nI c → ((inB x.toInt64 1 200 = false ∧ w = -1 ∧ RlN I1 J) ∨ (inB x.toInt64 1 200 = true ∧ inB y.toInt64 (-1) ((nI c).toInt64 - 1) = false ∧ w = -2 ∧ RlN I1 J) ∨ (inB x.toInt64 1 200 = true ∧ inB y.toInt64 (-1) ((nI c).toInt64 - 1) = true ∧ c = 8 ∧ w = -5 ∧ RlN I1 J) ∨ (inB x.toInt64 1 200 = true ∧ inB y.toInt64 (-1) ((nI c).toInt64 - 1) = true ∧ c < 8 ∧ w = nI c ∧ RlW I1 J (pieR (I1 56) c x y)))) : ExB J R1 := by
  obtain ⟨_, W, ⟨_, ⟨p, p1, p2⟩, _, _⟩, _, _⟩ := id X.2.1
  have i2 : I1 56 2 = nI p := by rw [o1 56 (by decide)]; exact r.2.1.2.2.1.symm.trans p2
  refine h.go X o1 ?_ o2 ?_
  · rcases xs p p1 p2 with ⟨_, _, z⟩ | ⟨_, _, _, z⟩ | ⟨_, _, _, _, z⟩ | ⟨_, _, _, _, rfl, rfl⟩
    · exact RcX.no z
    · exact RcX.no z
    · exact RcX.no z
    · have f : ∀ a, ¬ a = 4 → ¬ a = 5 → ¬ a = 10 → ¬ a = 11 → ¬ a = 47 → piF I x y a = I a := fun a h4 h5 h10 h11 h47 => by
        unfold piF graF filF
        rw [pt_n h4, uu_n _ _ h47, pt_n h5, pt_n h11, pt_n h10]
      refine RcX.ex X (f 14 (by decide) (by decide) (by decide) (by decide) (by decide)) ?_ (fun a ha => f a (by omega) (by omega) (by omega) (by omega) (by omega)) (fun b => b.e (f 13 (by decide) (by decide) (by decide) (by decide) (by decide)))
      unfold piF graF filF
      rw [pt_m (by decide), uu_n _ _ (by decide), pt_f (by decide), pt_m (by decide), pt_m (by decide)]
  · rcases ms p p1 i2 with ⟨_, _, z⟩ | ⟨_, _, _, z⟩ | ⟨_, _, _, _, z⟩ | ⟨_, _, p8, _, z⟩
    · exact RmX.n z
    · exact RmX.n z
    · exact RmX.n z
    · refine RmX.w z (fun k hk => ?_)
      unfold pieR
      rw [if_neg (by omega), if_neg (by omega), if_neg (by omega)]
theorem rp9 {y : Nat} (h : 85 ≤ y) {a : Nat} (ha : ¬ a = 9) : rpR R 5 y 8 a = R a := rpR_n ha
theorem b_back {k v w : Int32} (X : XC S I R t) (r : Rel I R) (h : ExB I R) (_ : InvM I t) (o1 : OutX I I1) (xs : ((k < 0 ∨ ¬ k < 2) ∧ v = -1 ∧ NoX I R I1 R1) ∨ (¬ (k < 0 ∨ ¬ k < 2) ∧ R 12 k.toNatClampNeg = none ∧ v = -2 ∧ NoX I R I1 R1) ∨ (¬ (k < 0 ∨ ¬ k < 2) ∧ v = 0 ∧ ∃ y, R 12 k.toNatClampNeg = some y ∧ I1 = graF (filF (cfB (cfA I 5 y) 5 y) 47 4 0) ∧ R1 = rpR R 5 y 8)) (o2 : OutM I1 J) (ms : (inB k.toInt64 0 1 = false ∧ w = -1 ∧ RlN I1 J) ∨ (inB k.toInt64 0 1 = true ∧ I1 58 k.toNatClampNeg = 0 ∧ w = -2 ∧ RlN I1 J) ∨ (inB k.toInt64 0 1 = true ∧ ¬ I1 58 k.toNatClampNeg = 0 ∧ w = 0 ∧ RlW I1 J (fun m => I1 57 (8060 * k.toNatClampNeg + m)))) : ExB J R1 := by
  have e58 : I1 58 = I 58 := o1 58 (by decide)
  have e57 : I1 57 = I 57 := o1 57 (by decide)
  rw [e58] at ms
  have kj : ¬ (k < 0 ∨ ¬ k < 2) → k.toNatClampNeg < 2 := fun z => (of_eq_true (inb_lt (n := 2) (by decide) (fun q => z (Or.inl q)) (Classical.byContradiction (fun q => z (Or.inr q))))).2
  rcases xs with ⟨x1, _, x2⟩ | ⟨x1, x3, _, x2⟩ | ⟨x1, _, y, x3, x2, rfl⟩
  · rcases ms with ⟨_, _, m2⟩ | ⟨m1, _⟩ | ⟨m1, _⟩
    · exact h.go X o1 (RcX.no x2) o2 (RmX.n m2)
    all_goals exact absurd x1 (k02.mpr m1)
  · have i1 := (r.2.2.2 _ (kj x1)).1 x3
    rcases ms with ⟨m1, _⟩ | ⟨_, _, _, m2⟩ | ⟨_, m1, _⟩
    · rw [k02.mp x1] at m1; cases m1
    · exact h.go X o1 (RcX.no x2) o2 (RmX.n m2)
    · exact absurd i1 m1
  · obtain ⟨i1, _⟩ := (r.2.2.2 _ (kj x1)).2 y x3
    rcases ms with ⟨m1, _⟩ | ⟨_, m1, _⟩ | ⟨_, _, _, m2⟩
    · rw [k02.mp x1] at m1; cases m1
    · exact absurd m1 i1
    · obtain ⟨h1, h2, h3, h4⟩ := h
      have y85 := (X.2.1.img _ y (kj x1) x3).2.1
      have f : ∀ a, ¬ a = 4 → ¬ a = 47 → (a < 5 ∨ 11 < a) → I1 a = I a := fun a h4 h47 h5 => by
        rw [x2]
        unfold graF filF
        rw [pt_n h4, uu_n _ _ h47, cf_n (by omega)]
      have n5 : I1 5 6 = I y 6 := by
        rw [x2]
        unfold graF filF
        rw [pt_m (by decide), uu_n _ _ (by decide)]
        exact cf_6 (Or.inl (by omega))
      have q85 : ∀ q, Rcp I R q → J q = I q := fun q hq => by
        have := (X.2.1.rq hq).1
        rw [o2 q (by omega), f q (by omega) (by omega) (by omega)]
      have hy := h2 _ y (kj x1) x3
      refine ⟨⟨?_, fun i r' q z1 z2 z3 z4 => ?_⟩, fun j y' hj hy' => ?_, ?_, fun k => ?_⟩
      · rw [o2 5 (by decide), n5, hy.1, m2.1 1 (by decide), e57]
      · rw [o2 5 (by decide), n5] at z1
        rw [show 5 + 4 = 9 from rfl, show rpR R 5 y 8 9 i = R (y + 4) i from rpR_s (by omega)] at z4
        exact (hy.2 i r' q z1 z2 z3 z4).mv (fun a a1 a2 => q85 a ⟨y, i, r', q, Or.inr ⟨_, kj x1, x3⟩, z1, z2, z3, z4, a1, a2⟩) (fun k hk => by rw [m2.1 _ (by omega), e57])
      · rw [rpR_n (by decide)] at hy'
        have y85' := (X.2.1.img j y' hj hy').2.1
        refine (h2 j y' hj hy').mv ?_ (rpR_n (by omega)) (fun i r q z1 z2 z3 z4 a a1 a2 => q85 a ⟨y', i, r, q, Or.inr ⟨j, hj, hy'⟩, z1, z2, z3, z4, a1, a2⟩) ?_ (fun k k1 k2 => ?_)
        · rw [o2 y' (by omega), f y' (by omega) (by omega) (by omega)]
        · show J 57 _ = I 57 _
          rw [m2.2.1, e57]
        · show J 57 _ = I 57 _
          rw [m2.2.1, e57]
      · rw [o2 14 (by decide), f 14 (by decide) (by decide) (by decide), h3, m2.2.2.2.2.2, o1 54 (by decide)]
      · rw [o2 13 (by decide), f 13 (by decide) (by decide) (by decide)]
        exact h4 k
theorem b_image {k : Int32} (X : XC S I R t) (_ : Rel I R) (h : ExB I R) (_ : InvM I t) (o1 : OutX I I1) (xs : ((k < 0 ∨ ¬ k < 2) ∧ NoX I R I1 R1) ∨ (¬ (k < 0 ∨ ¬ k < 2) ∧ (∀ a, (a ≤ 3 ∨ (5 ≤ a ∧ a ≤ 13)) → I1 a = I a) ∧ I1 4 3 = I 4 3 ∧ ∃ y, 85 ≤ y ∧ R1 12 = va_up (R 12) k.toNatClampNeg (some y) ∧ SmC I1 y I 5 ∧ ImN I R I1 R1 y k.toNatClampNeg ∧ ∀ j y', j < 2 → ¬ j = k.toNatClampNeg → R 12 j = some y' → 85 ≤ y' ∧ ∀ a, y' ≤ a → a < y' + 7 → I1 a = I a)) (o2 : OutM I1 J) (ms : (inB k.toInt64 0 1 = false ∧ RlN I1 J) ∨ (inB k.toInt64 0 1 = true ∧ J 56 = I1 56 ∧ (∀ m, (m < 8060 * k.toNatClampNeg ∨ 8060 * k.toNatClampNeg + 8060 ≤ m) → J 57 m = I1 57 m) ∧ (∀ m, m < 8060 → J 57 (8060 * k.toNatClampNeg + m) = I1 56 m) ∧ J 58 k.toNatClampNeg = 1 ∧ (∀ j, ¬ j = k.toNatClampNeg → J 58 j = I1 58 j) ∧ J 59 = I1 59 ∧ J 54 7 = I1 54 7 ∧ J 54 12 = I1 54 12)) : ExB J R1 := by
  rcases xs with ⟨x1, x2⟩ | ⟨x1, x2, x3, y, y1, y2, y3, ⟨n14, n9, n6, nr, nq, ny⟩, y4⟩
  · rcases ms with ⟨_, m2⟩ | ⟨m1, _⟩
    · exact h.go X o1 (RcX.no x2) o2 (RmX.n m2)
    · exact absurd x1 (k02.mpr m1)
  · rcases ms with ⟨m1, _⟩ | ⟨_, m2, m3, m4, m5, m6, m7, m8, m12⟩
    · rw [k02.mp x1] at m1; cases m1
    · obtain ⟨h1, h2, h3, h4⟩ := h
      have e56 : I1 56 = I 56 := o1 56 (by decide)
      generalize k.toNatClampNeg = c at y2 y4 m3 m4 m5 m6 ny
      have q85 : ∀ q, Rcp I R q → J q = I q := fun q hq => by
        have := (X.2.1.rq hq).1
        rw [o2 q (by omega), nq q hq]
      have i5 : J 5 = I 5 := (o2 5 (by decide)).trans (x2 5 (by decide))
      refine ⟨h1.mv (by rw [i5]) n9 (fun i r q z1 z2 z3 z4 a a1 a2 => q85 a ⟨5, i, r, q, Or.inl rfl, z1, z2, z3, z4, a1, a2⟩) (by rw [m2, e56]) (fun k k1 k2 => by rw [m2, e56]), fun j y' hj hy' => ?_, ?_, fun k => ?_⟩
      · rw [y2] at hy'
        by_cases e : j = c
        · subst e
          rw [uu_s] at hy'
          have ey : y = y' := Option.some.inj hy'
          subst ey
          refine ⟨?_, fun i r q z1 z2 z3 z4 => ?_⟩
          · show J y 6 = J 57 (8060 * j + 1)
            rw [o2 y (by omega), n6, m4 1 (by decide), e56]
            exact h1.1
          · rw [o2 y (by omega), n6] at z1
            rw [nr i (by omega)] at z4
            exact (h1.2 i r q z1 z2 z3 z4).mv (fun a a1 a2 => q85 a ⟨5, i, r, q, Or.inl rfl, z1, z2, z3, z4, a1, a2⟩) (fun k hk => by
              show J 57 (8060 * j + (60 + 1000 * i + k)) = I 56 (60 + 1000 * i + k)
              rw [m4 _ (by omega), e56])
        · rw [uu_n _ _ e] at hy'
          obtain ⟨g1, g2⟩ := y4 j y' hj e hy'
          refine (h2 j y' hj hy').mv ?_ (ny j y' hj e hy') (fun i r q z1 z2 z3 z4 a a1 a2 => q85 a ⟨y', i, r, q, Or.inr ⟨j, hj, hy'⟩, z1, z2, z3, z4, a1, a2⟩) ?_ (fun k k1 k2 => ?_)
          · rw [o2 y' (by omega), g2 y' (by omega) (by omega)]
          · show J 57 _ = I 57 _
            rw [m3 _ (by omega), o1 57 (by decide)]
          · show J 57 _ = I 57 _
            rw [m3 _ (by omega), o1 57 (by decide)]
      · rw [o2 14 (by decide), n14, h3, m12, o1 54 (by decide)]
      · rw [o2 13 (by decide), x2 13 (by decide)]
        exact h4 k
theorem b_fault {v w : Int32} (X : XC S I R t) (_ : Rel I R) (h : ExB I R) (_ : InvM I t) (o1 : OutX I I1) (xs : NoX I R I1 R1 ∧ v = I 14 5) (o2 : OutM I1 J) (ms : RlN I1 J ∧ w = I1 54 12) : v = w ∧ ExB J R1 := ⟨by rw [xs.2, ms.2, o1 54 (by decide)]; exact h.2.2.1, h.go X o1 (RcX.no xs.1) o2 (RmX.n ms.1)⟩
theorem b_steps {k v w : Int32} (X : XC S I R t) (_ : Rel I R) (h : ExB I R) (_ : InvM I t) (o1 : OutX I I1) (xs : NoX I R I1 R1 ∧ ((rcB I 5 k = false ∧ v = -1) ∨ (rcB I 5 k = true ∧ ∃ q, R 9 k.toNatClampNeg = some q ∧ v = I q 0))) (o2 : OutM I1 J) (ms : RlN I1 J ∧ ((inB k.toInt64 0 ((I1 56 1).toInt64 - 1) = false ∧ w = -1) ∨ (inB k.toInt64 0 ((I1 56 1).toInt64 - 1) = true ∧ w = I1 56 (60 + 1000 * k.toNatClampNeg)))) : v = w ∧ ExB J R1 := by
  refine ⟨?_, h.go X o1 (RcX.no xs.1) o2 (RmX.n ms.1)⟩
  obtain ⟨_, r, r8, er⟩ := X.2.1.rcs
  have e1 : I1 56 1 = nI r := by rw [o1 56 (by decide), ← h.1.1]; exact er
  have h1 : inB k.toInt64 0 ((nI r).toInt64 - 1) = true ↔ ¬ k < 0 ∧ k < nI r := inBu rfl (by omega)
  have h2 : rcB I 5 k = true ↔ ¬ k < 0 ∧ k < nI r := by
    unfold rcB
    rw [decide_eq_true_iff, er]
    refine ⟨fun z => ⟨z.1, z.2.1⟩, fun z => ⟨z.1, z.2, ?_⟩⟩
    have a := Int32.lt_iff_toInt_lt.mp z.2
    rw [nI_toInt (by omega)] at a
    rw [Int32.lt_iff_toInt_lt]
    show k.toInt < 8
    omega
  rw [e1] at ms
  rcases xs.2 with ⟨x1, rfl⟩ | ⟨x1, q, x2, rfl⟩
  · rcases ms.2 with ⟨_, rfl⟩ | ⟨m1, _⟩
    · rfl
    · rw [h2.mpr (h1.mp m1)] at x1; cases x1
  · rcases ms.2 with ⟨m1, _⟩ | ⟨_, rfl⟩
    · rw [h1.mpr (h2.mp x1)] at m1; cases m1
    · have b := h2.mp x1
      have ki : k.toNatClampNeg < r := by
        have a := Int32.lt_iff_toInt_lt.mp b.2
        rw [nI_toInt (by omega)] at a
        have c : ¬ k.toInt < 0 := fun z => b.1 (Int32.lt_iff_toInt_lt.mpr z)
        show k.toInt.toNat < r
        omega
      rw [o1 56 (by decide)]
      exact (h.1.2 _ r q er r8 ki x2).1
theorem b_recipe {v w : Int32} (X : XC S I R t) (rl : Rel I R) (h : ExB I R) (_ : InvM I t) (o1 : OutX I I1) (n1 : KeO I R I1 R1) (xs : ∀ r l, r ≤ 8 → I 5 6 = nI r → l ≤ 400 → I 4 3 = nI l → RcO I R I1 R1 r l v) (o2 : OutM I1 J) (n2 : J 54 7 = 0 ∧ RlO I1 J (I1 56)) (ms : ∀ n w', n ≤ 400 → I1 54 7 = nI n → w' ≤ 8 → I1 56 1 = nI w' → rRec I1 J w' (undF (put I 4 3 0) 13 n) w) (M1 : InvM J t) : v = w ∧ ExB J R1 := by
  obtain ⟨_, r, r8, er⟩ := X.2.1.rcs
  obtain ⟨l, l1, l2⟩ := X.2.1.1
  have i7 : I1 54 7 = nI l := by rw [o1 54 (by decide)]; exact rl.2.2.1.1.symm.trans l2
  have e56 : I1 56 = I 56 := o1 56 (by decide)
  have e57 : I1 57 = I 57 := o1 57 (by decide)
  have e1 : I1 56 1 = nI r := by rw [e56, ← h.1.1]; exact er
  have xo := xs r l r8 er l1 l2
  have mo := ms l r l1 i7 r8 e1
  obtain ⟨h1, h2, h3, h4⟩ := id h
  have b13 : ByB I1 := h4.e (n1.1 13 (by decide))
  have ey : ∀ j y, j < 2 → R 12 j = some y → I1 y 6 = I y 6 := fun j y hj hy => by rw [n1.2.2.2 j y hj hy y (by omega) (by omega)]
  rcases xo with ⟨x1, rfl, x2⟩ | ⟨x1, x2, rfl, x3, x4, rfl, x5⟩ | ⟨x1, x2, rfl, x3, x4, q0, n, q85, x5, x6, x7, xc, x8, x9⟩
  · rcases mo with ⟨_, rfl, m2, m3⟩ | ⟨m1, _⟩ | ⟨m1, _⟩
    · exact ⟨rfl, h.go X o1 (RcX.ke x2) o2 ⟨fun k _ _ => by rw [m2], n2.2.2.1, m3⟩⟩
    · omega
    · omega
  · rcases mo with ⟨m1, _⟩ | ⟨_, _, rfl, m2, m3⟩ | ⟨_, m1, _⟩
    · omega
    · exact ⟨rfl, h.g0 X o1 x4 rfl (fun _ _ _ _ => rfl) (fun q hq => x5 q (X.2.1.rq hq).1) rfl ey b13 o2 (fun k _ _ => by rw [m2]) n2.2.2.1 (by rw [o2 14 (by decide), x3, m3])⟩
    · rw [x2] at m1; cases m1
  · rcases mo with ⟨m1, _⟩ | ⟨_, m1, _⟩ | ⟨_, _, rfl, m3, m4, m5, m7, m6⟩
    · omega
    · rw [x2] at m1; cases m1
    · refine ⟨rfl, ⟨?_, fun i r' q z1 z2 z3 z4 => ?_⟩, fun j y hj hy => ?_, ?_, fun k => ?_⟩
      · rw [o2 5 (by decide), x4, m4]
      · rw [o2 5 (by decide), x4] at z1
        obtain rfl : r' = r + 1 := ((nI_eq (by omega) (by omega)).mp z1).symm
        have z4' : va_up (R 9) r (some q0) i = some q := by rw [← x5]; exact z4
        by_cases e : i = r
        · subst e
          rw [uu_s] at z4'
          have eq : q0 = q := Option.some.inj z4'
          subst eq
          obtain ⟨s, c, t1, t2, t3, t4, t5, t6⟩ := m7
          have es : n = s := x7 s t2 t1
          obtain ⟨w1, w2, w3⟩ := xc c (by omega) t3
          have k0 := o2 q0 (by omega)
          have k1 := o2 (q0 + 1) (by omega)
          have k2 := o2 (q0 + 2) (by omega)
          have k3 := o2 (q0 + 3) (by omega)
          refine ⟨?_, s, t2, ?_, fun s' hs' => ?_⟩
          · rw [k0, x6, es]
            exact (m5.trans t1).symm
          · rw [k0, x6, es]
          · rw [k1, k2, k3]
            obtain ⟨y, y1, y2⟩ := t6 s' hs'
            refine (t5 s' hs').cg (by omega) (w1 s' (by omega)) (fun k hk => w2 k (by omega)) (fun x0 y0 a1 a2 a3 a4 k hk => w3 k ?_) (fun _ _ => rfl)
            have ey : y0 = y := (nI_eq (by omega) (by omega)).mp (a2.symm.trans y1)
            omega
        · rw [uu_n _ _ e] at z4'
          exact (h1.2 i r q er r8 (by omega) z4').mv (fun a a1 a2 => by
            have rc : Rcp I R a := ⟨5, i, r, q, Or.inl rfl, er, r8, by omega, z4', a1, a2⟩
            have := (X.2.1.rq rc).1
            rw [o2 a (by omega), x9 a rc]) (fun k hk => by
            show J 56 (60 + 1000 * i + k) = I 56 (60 + 1000 * i + k)
            rw [m6 _ (by omega) (by omega), e56])
      · rw [n1.2.2.1] at hy
        have y85 := (X.2.1.img j y hj hy).2.1
        refine (h2 j y hj hy).mv ?_ (x8 j y hj hy) (fun i r q z1 z2 z3 z4 a a1 a2 => ?_) ?_ (fun k k1 k2 => ?_)
        · rw [o2 y (by omega)]; exact ey j y hj hy
        · have rc : Rcp I R a := ⟨y, i, r, q, Or.inr ⟨j, hj, hy⟩, z1, z2, z3, z4, a1, a2⟩
          have := (X.2.1.rq rc).1
          rw [o2 a (by omega), x9 a rc]
        · show J 57 _ = I 57 _
          rw [n2.2.2.1, e57]
        · show J 57 _ = I 57 _
          rw [n2.2.2.1, e57]
      · rw [o2 14 (by decide), x3, m3]
      · rw [o2 13 (by decide)]
        exact b13 k
end BC
