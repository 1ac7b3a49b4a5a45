/-! group E: what the calls of the reference leave of the latest RUN -/
section LC
variable {t : Nat} {S : mS} {I I1 J : mI} {R R1 : mR}
theorem l_wide {n v w : Int32} {A B C : Prop} {x y z : Int32} (X : XC S I R t) (_ : Rel I R) (h : ExB I R) (_ : InvM I t) (o1 : OutX I I1) (xs : (A ∧ v = x ∧ NoX I R I1 R1) ∨ (B ∧ v = y ∧ I1 = graF (widF I n) ∧ R1 = R)) (o2 : OutM I1 J) (ms : (C ∧ w = z ∧ RlN I1 J) ∨ (inB n.toInt64 3 5 = true ∧ w = I1 56 0 ∧ RlW I1 J (widR (I1 56) n))) : LsN I1 J := by
  rcases ms with ⟨_, _, z⟩ | ⟨_, z⟩
  · exact z.2.2.2.2.2.2
  · exact z.2.2.2.2.2.2.2
theorem l_bar {A B C : Prop} {c x v w y z u : Int32} (X : XC S I R t) (r : Rel I R) (h : ExB I R) (_ : InvM I t) (o1 : OutX I I1) (xs : (A ∧ v = y ∧ NoX I R I1 R1) ∨ (B ∧ v = z ∧ I1 = graF (put I 6 c.toNatClampNeg x) ∧ R1 = R)) (o2 : OutM I1 J) (ms : (C ∧ w = u ∧ RlN I1 J) ∨ (inB c.toInt64 0 ((I1 56 0).toInt64 - 1) = true ∧ inB x.toInt64 1 9 = true ∧ w = I1 56 (20 + c.toNatClampNeg) ∧ RlW I1 J (va_up (I1 56) (20 + c.toNatClampNeg) x))) : LsN I1 J := by
  rcases ms with ⟨_, _, z⟩ | ⟨_, z⟩
  · exact z.2.2.2.2.2.2
  · exact z.2.2.2.2.2.2.2.2
theorem l_shape {A B C : Prop} {c x v w y z u : Int32} (X : XC S I R t) (r : Rel I R) (h : ExB I R) (_ : InvM I t) (o1 : OutX I I1) (xs : (A ∧ v = y ∧ NoX I R I1 R1) ∨ (B ∧ v = z ∧ I1 = graF (put I 7 c.toNatClampNeg x) ∧ R1 = R)) (o2 : OutM I1 J) (ms : (C ∧ w = u ∧ RlN I1 J) ∨ (inB c.toInt64 0 ((I1 56 0).toInt64 - 1) = true ∧ inB x.toInt64 1 9 = true ∧ w = I1 56 (30 + c.toNatClampNeg) ∧ RlW I1 J (va_up (I1 56) (30 + c.toNatClampNeg) x))) : LsN I1 J := by
  rcases ms with ⟨_, _, z⟩ | ⟨_, z⟩
  · exact z.2.2.2.2.2.2
  · exact z.2.2.2.2.2.2.2.2
theorem l_tongs {A B C D E : Prop} {n v w y z u x : Int32} (X : XC S I R t) (_ : Rel I R) (h : ExB I R) (_ : InvM I t) (o1 : OutX I I1) (xs : (A ∧ v = y ∧ NoX I R I1 R1) ∨ (B ∧ v = z ∧ I1 = graF (put I 5 3 n) ∧ R1 = R)) (o2 : OutM I1 J) (ms : (C ∧ w = u ∧ RlN I1 J) ∨ (D ∧ E ∧ w = x ∧ RlW I1 J (va_up (I1 56) 3 n))) : LsN I1 J := by
  rcases ms with ⟨_, _, z⟩ | ⟨_, _, _, z⟩
  · exact z.2.2.2.2.2.2
  · exact z.2.2.2.2.2.2
theorem l_terms {A B C : Prop} {q x v w y z u s : Int32} (X : XC S I R t) (_ : Rel I R) (h : ExB I R) (_ : InvM I t) (o1 : OutX I I1) (xs : (A ∧ v = y ∧ NoX I R I1 R1) ∨ (B ∧ v = z ∧ I1 = graF (put I 8 q.toNatClampNeg x) ∧ R1 = R)) (o2 : OutM I1 J) (ms : (C ∧ w = u ∧ RlN I1 J) ∨ (teM q x = true ∧ w = s ∧ RlW I1 J (va_up (I1 56) (10 + q.toNatClampNeg) x))) : LsN I1 J := by
  rcases ms with ⟨_, _, z⟩ | ⟨_, _, z⟩
  · exact z.2.2.2.2.2.2
  · exact z.2.2.2.2.2.2
theorem l_feed {a b c e f v w : Int32} {A B : Prop} {y z : Int32} (X : XC S I R t) (r : Rel I R) (h : ExB I R) (_ : InvM I t) (o1 : OutX I I1) (xs : (A ∧ v = y ∧ NoX I R I1 R1) ∨ (B ∧ v = z ∧ I1 = wrF (wrF (wrF (wrF (wrF I a) b) c) e) f ∧ R1 = R)) (o2 : OutM I1 J) (ms : ∀ n, n ≤ 400 → I1 54 7 = nI n → ((400 < n + 20 ∧ w = -1 ∧ RlN I1 J) ∨ (n + 20 ≤ 400 ∧ w = nI (n + 20) ∧ J 54 7 = nI (n + 20) ∧ J 56 = I1 56 ∧ J 57 = I1 57 ∧ J 58 = I1 58 ∧ LkN I1 J ∧ (∀ k, k < n → J 59 k = I1 59 k) ∧ ∀ j, j < 4 → J 59 (n + j) = by4 a j ∧ J 59 (n + 4 + j) = by4 b j ∧ J 59 (n + 4 + 4 + j) = by4 c j ∧ J 59 (n + 4 + 4 + 4 + j) = by4 e j ∧ J 59 (n + 4 + 4 + 4 + 4 + j) = by4 f j))) : LsN I1 J := by
  obtain ⟨l, l1, l2⟩ := X.2.1.1
  have i7 : I1 54 7 = nI l := by rw [o1 54 (by decide)]; exact r.2.2.1.1.symm.trans l2
  rcases ms l l1 i7 with ⟨_, _, z⟩ | ⟨_, _, _, _, _, _, m12, _⟩
  · exact z.2.2.2.2.2.2
  · exact m12.2
theorem l_end {A B C D : Prop} {n v w x y z u : Int32} (X : XC S I R t) (_ : Rel I R) (h : ExB I R) (_ : InvM I t) (o1 : OutX I I1) (xs : (A ∧ v = y ∧ NoX I R I1 R1) ∨ (B ∧ v = z ∧ I1 = put I 4 3 n ∧ R1 = R)) (o2 : OutM I1 J) (ms : (C ∧ w = u ∧ RlN I1 J) ∨ (D ∧ w = x ∧ J 54 7 = n ∧ J 56 = I1 56 ∧ J 57 = I1 57 ∧ J 58 = I1 58 ∧ J 59 = I1 59 ∧ LkN I1 J)) : LsN I1 J := by
  rcases ms with ⟨_, _, z⟩ | ⟨_, _, _, _, _, _, _, m12⟩
  · exact z.2.2.2.2.2.2
  · exact m12.2
theorem l_row {v w : Int32} (X : XC S I R t) (r : Rel I R) (h : ExB I R) (_ : InvM I t) (o1 : OutX I I1) (xs : ∀ l, l ≤ 400 → I 4 3 = nI l → (((l = 0 ∨ I 5 0 < nI ((l + 3) / 4)) ∧ v = -6 ∧ KeX I R I1 R1 ∧ I1 4 3 = 0) ∨ (¬ l = 0 ∧ ¬ I 5 0 < nI ((l + 3) / 4) ∧ v = nI (l / 4) ∧ I1 = graF (roL (l / 4) 5 0 (put I 4 3 0)) ∧ R1 = R))) (o2 : OutM I1 J) (ms : ∀ n, n ≤ 400 → I1 54 7 = nI n → (((n = 0 ∨ I1 56 0 < nI ((n + 3) / 4)) ∧ w = -6 ∧ RlT I1 J (I1 56)) ∨ (¬ n = 0 ∧ ¬ I1 56 0 < nI ((n + 3) / 4) ∧ w = nI (n / 4) ∧ RlT I1 J (rowR (I1 56) (I1 59) (n / 4))))) : LsN I1 J := by
  obtain ⟨l, l1, l2⟩ := X.2.1.1
  have i7 : I1 54 7 = nI l := by rw [o1 54 (by decide)]; exact r.2.2.1.1.symm.trans l2
  rcases ms l l1 i7 with ⟨_, _, z⟩ | ⟨_, _, _, z⟩
  · exact z.2.2.2.2.2
  · exact z.2.2.2.2.2
theorem l_image {k : Int32} (X : XC S I R t) (_ : Rel I R) (h : ExB I R) (_ : InvM I t) (o1 : OutX I I1) (xs : ((k < 0 ∨ ¬ k < 2) ∧ NoX I R I1 R1) ∨ (¬ (k < 0 ∨ ¬ k < 2) ∧ (∀ a, (a ≤ 3 ∨ (5 ≤ a ∧ a ≤ 13)) → I1 a = I a) ∧ I1 4 3 = I 4 3 ∧ ∃ y, 85 ≤ y ∧ R1 12 = va_up (R 12) k.toNatClampNeg (some y) ∧ SmC I1 y I 5 ∧ ImN I R I1 R1 y k.toNatClampNeg ∧ ∀ j y', j < 2 → ¬ j = k.toNatClampNeg → R 12 j = some y' → 85 ≤ y' ∧ ∀ a, y' ≤ a → a < y' + 7 → I1 a = I a)) (o2 : OutM I1 J) (ms : (inB k.toInt64 0 1 = false ∧ RlN I1 J) ∨ (inB k.toInt64 0 1 = true ∧ J 56 = I1 56 ∧ (∀ m, (m < 8060 * k.toNatClampNeg ∨ 8060 * k.toNatClampNeg + 8060 ≤ m) → J 57 m = I1 57 m) ∧ (∀ m, m < 8060 → J 57 (8060 * k.toNatClampNeg + m) = I1 56 m) ∧ J 58 k.toNatClampNeg = 1 ∧ (∀ j, ¬ j = k.toNatClampNeg → J 58 j = I1 58 j) ∧ J 59 = I1 59 ∧ J 54 7 = I1 54 7 ∧ LkN I1 J)) : LsN I1 J := by
  rcases ms with ⟨_, z⟩ | ⟨_, _, _, _, _, _, _, _, m12⟩
  · exact z.2.2.2.2.2.2
  · exact m12.2
theorem l_piece {x y v w : Int32} (X : XC S I R t) (r : Rel I R) (h : ExB I R) (_ : InvM I t) (o1 : OutX I I1) (xs : ∀ p, p ≤ 8 → I 5 9 = nI p → (((x < 1 ∨ 200 < x) ∧ v = -1 ∧ NoX I R I1 R1) ∨ (¬ (x < 1 ∨ 200 < x) ∧ (y < -1 ∨ ¬ y < nI p) ∧ v = -2 ∧ NoX I R I1 R1) ∨ (¬ (x < 1 ∨ 200 < x) ∧ ¬ (y < -1 ∨ ¬ y < nI p) ∧ p = 8 ∧ v = -5 ∧ NoX I R I1 R1) ∨ (¬ (x < 1 ∨ 200 < x) ∧ ¬ (y < -1 ∨ ¬ y < nI p) ∧ p < 8 ∧ v = nI p ∧ I1 = piF I x y ∧ R1 = R))) (o2 : OutM I1 J) (ms : ∀ c, c ≤ 8 → I1 56 2 = nI c → ((inB x.toInt64 1 200 = false ∧ w = -1 ∧ RlN I1 J) ∨ (inB x.toInt64 1 200 = true ∧ inB y.toInt64 (-1) ((nI c).toInt64 - 1) = false ∧ w = -2 ∧ RlN I1 J) ∨ (inB x.toInt64 1 200 = true ∧ inB y.toInt64 (-1) ((nI c).toInt64 - 1) = true ∧ c = 8 ∧ w = -5 ∧ RlN I1 J) ∨ (inB x.toInt64 1 200 = true ∧ inB y.toInt64 (-1) ((nI c).toInt64 - 1) = true ∧ c < 8 ∧ w = nI c ∧ RlW I1 J (pieR (I1 56) c x y)))) : LsN I1 J := by
  obtain ⟨_, W, ⟨_, ⟨p, p1, p2⟩, _, _⟩, _, _⟩ := id X.2.1
  have i2 : I1 56 2 = nI p := by rw [o1 56 (by decide)]; exact r.2.1.2.2.1.symm.trans p2
  rcases ms p p1 i2 with ⟨_, _, z⟩ | ⟨_, _, _, z⟩ | ⟨_, _, _, _, z⟩ | ⟨_, _, _, _, z⟩
  all_goals exact z.2.2.2.2.2.2
theorem l_back {k v w : Int32} (X : XC S I R t) (r : Rel I R) (h : ExB I R) (_ : InvM I t) (o1 : OutX I I1) (xs : ((k < 0 ∨ ¬ k < 2) ∧ v = -1 ∧ NoX I R I1 R1) ∨ (¬ (k < 0 ∨ ¬ k < 2) ∧ R 12 k.toNatClampNeg = none ∧ v = -2 ∧ NoX I R I1 R1) ∨ (¬ (k < 0 ∨ ¬ k < 2) ∧ v = 0 ∧ ∃ y, R 12 k.toNatClampNeg = some y ∧ I1 = graF (filF (cfB (cfA I 5 y) 5 y) 47 4 0) ∧ R1 = rpR R 5 y 8)) (o2 : OutM I1 J) (ms : (inB k.toInt64 0 1 = false ∧ w = -1 ∧ RlN I1 J) ∨ (inB k.toInt64 0 1 = true ∧ I1 58 k.toNatClampNeg = 0 ∧ w = -2 ∧ RlN I1 J) ∨ (inB k.toInt64 0 1 = true ∧ ¬ I1 58 k.toNatClampNeg = 0 ∧ w = 0 ∧ RlW I1 J (fun m => I1 57 (8060 * k.toNatClampNeg + m)))) : LsN I1 J := by
  rcases ms with ⟨_, _, z⟩ | ⟨_, _, _, z⟩ | ⟨_, _, _, z⟩
  all_goals exact z.2.2.2.2.2.2
theorem l_recipe {v w : Int32} (X : XC S I R t) (rl : Rel I R) (h : ExB I R) (_ : InvM I t) (o1 : OutX I I1) (n1 : KeO I R I1 R1) (xs : ∀ r l, r ≤ 8 → I 5 6 = nI r → l ≤ 400 → I 4 3 = nI l → RcO I R I1 R1 r l v) (o2 : OutM I1 J) (n2 : J 54 7 = 0 ∧ RlO I1 J (I1 56)) (ms : ∀ n w', n ≤ 400 → I1 54 7 = nI n → w' ≤ 8 → I1 56 1 = nI w' → rRec I1 J w' (undF (put I 4 3 0) 13 n) w) (M1 : InvM J t) : LsN I1 J := n2.2.2.2.2.2
end LC
