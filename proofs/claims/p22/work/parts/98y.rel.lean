/-! the relation: feed, end, row, piece, recipe, image, back -/
theorem i8_255 (y : Int32) : y.toInt8.toInt32 &&& 255 = y &&& 255 := Int32.toBitVec_inj.mp (by
  rw [Int32.toBitVec_and, Int32.toBitVec_and]
  refine BitVec.eq_of_getLsbD_eq (fun i hi => ?_)
  have m : ∀ i, i < 32 → ((255 : Int32).toBitVec).getLsbD i = decide (i < 8) := by decide
  rw [BitVec.getLsbD_and, BitVec.getLsbD_and, m i hi]
  by_cases h : i < 8
  · rw [decide_eq_true h, Bool.and_true, Bool.and_true]
    rw [Int8.toBitVec_toInt32, Int32.toBitVec_toInt8, BitVec.getLsbD_signExtend, if_pos h, BitVec.getLsbD_signExtend, if_pos hi, decide_eq_true h, decide_eq_true hi, Bool.true_and, Bool.true_and]
  · rw [decide_eq_false h, Bool.and_false, Bool.and_false])
theorem by_255 (y : Int32) : y.toInt8.toInt32.toInt8.toInt32 &&& 255 = y &&& 255 := by rw [i8_255, i8_255]
section WR
variable {I : mI} {x s : Int32} {l : Nat}
theorem wrS_e (h : I 4 3 = nI l) (hl : l < 400) : wrS I x s = put (put I 13 l (x >>> (s &&& 31)).toInt8.toInt32.toInt8.toInt32) 4 3 (nI (l + 1)) := by
  unfold wrS wr1
  rw [if_pos (by rw [h]; exact nI_lt (a := l) (b := 400) hl (by decide)), h, nI_clamp (by omega), nI_1]
theorem wrS_1 (h : I 4 3 = nI l) (hl : l < 400) : wrS I x s 4 3 = nI (l + 1) ∧ (∀ k, ¬ k = l → wrS I x s 13 k = I 13 k) ∧ wrS I x s 13 l &&& 255 = (x >>> (s &&& 31)) &&& 255 := by
  rw [wrS_e h hl]
  refine ⟨pt_s, fun k hk => by rw [pt_n (by decide), pt_f hk], ?_⟩
  rw [pt_n (by decide), pt_s]
  exact by_255 _
theorem wrF_1 (h : I 4 3 = nI l) (hl : l + 4 ≤ 400) : wrF I x 4 3 = nI (l + 4) ∧ (∀ k, ¬ (l ≤ k ∧ k < l + 4) → wrF I x 13 k = I 13 k) ∧ ∀ j, j < 4 → wrF I x 13 (l + j) &&& 255 = by4 x j := by
  obtain ⟨a1, a2, a3⟩ := wrS_1 (x := x) (s := 24) h (by omega)
  obtain ⟨b1, b2, b3⟩ := wrS_1 (x := x) (s := 16) a1 (by omega)
  obtain ⟨c1, c2, c3⟩ := wrS_1 (x := x) (s := 8) b1 (by omega)
  obtain ⟨d1, d2, d3⟩ := wrS_1 (x := x) (s := 0) c1 (by omega)
  refine ⟨d1, fun k hk => ?_, fun j hj => ?_⟩
  · show wrS _ x 0 13 k = _
    rw [d2 k (by omega), c2 k (by omega), b2 k (by omega), a2 k (by omega)]
  · rcases (by omega : j = 0 ∨ j = 1 ∨ j = 2 ∨ j = 3) with rfl | rfl | rfl | rfl
    · show wrS _ x 0 13 (l + 0) &&& 255 = _
      rw [d2 _ (by omega), c2 _ (by omega), b2 _ (by omega)]
      exact a3
    · show wrS _ x 0 13 (l + 1) &&& 255 = _
      rw [d2 _ (by omega), c2 _ (by omega)]
      exact b3
    · show wrS _ x 0 13 (l + 2) &&& 255 = _
      rw [d2 _ (by omega)]
      exact c3
    · exact d3
end WR
section RM
variable {I I1 J : mI} {R R1 : mR} {S : mS} {t : Nat}
/-- the class's own cells but 4 and 13 stay: row and IMAGES as they were -/
theorem Rel.tape (X : XC S I R t) (h : Rel I R) (o1 : OutX I I1) (f : ∀ a, ¬ a = 4 → ¬ a = 13 → (a < 54 ∨ 84 < a) → I1 a = I a) (o2 : OutM I1 J) (e6 : J 56 = I1 56) (e7 : J 57 = I1 57) (e8 : J 58 = I1 58) (tp : TpR J) : Rel J R := by
  obtain ⟨⟨c1, c2⟩, sm, _, im⟩ := h
  exact ⟨⟨by rw [o2 1 (by decide), f 1 (by decide) (by decide) (by decide)]; exact c1, by rw [o2 2 (by decide), f 2 (by decide) (by decide) (by decide)]; exact c2⟩, sm.al (fun a a1 a2 => (o2 a (by omega)).trans (f a (by omega) (by omega) (by omega))) (fun k _ _ => by rw [e6, o1 56 (by decide)]), tp, im.st X o1 rfl (fun j y hj hy a a1 _ => f a (by have := (X.2.1.img j y hj hy).2.1; omega) (by have := (X.2.1.img j y hj hy).2.1; omega) (by have := (X.2.1.img j y hj hy).2.1; omega)) o2 e7 e8⟩
theorem r_feed {a b c e f v w : Int32} (X : XC S I R t) (h : Rel I R) (o1 : OutX I I1) (xs : (400 < I 4 3 + 20 ∧ v = -1 ∧ NoX I R I1 R1) ∨ (¬ 400 < I 4 3 + 20 ∧ v = wrF (wrF (wrF (wrF (wrF I a) b) c) e) f 4 3 ∧ I1 = wrF (wrF (wrF (wrF (wrF I a) b) c) e) f ∧ R1 = R)) (o2 : OutM I1 J) (ms : ∀ n, n ≤ 400 → I1 54 7 = nI n → ((400 < n + 20 ∧ w = -1 ∧ RlN I1 J) ∨ (n + 20 ≤ 400 ∧ w = nI (n + 20) ∧ J 54 7 = nI (n + 20) ∧ J 56 = I1 56 ∧ J 57 = I1 57 ∧ J 58 = I1 58 ∧ J 54 12 = I1 54 12 ∧ (∀ k, k < n → J 59 k = I1 59 k) ∧ ∀ j, j < 4 → J 59 (n + j) = by4 a j ∧ J 59 (n + 4 + j) = by4 b j ∧ J 59 (n + 4 + 4 + j) = by4 c j ∧ J 59 (n + 4 + 4 + 4 + j) = by4 e j ∧ J 59 (n + 4 + 4 + 4 + 4 + j) = by4 f j))) : v = w ∧ Rel J R1 := by
  obtain ⟨l, l1, l2⟩ := X.2.1.1
  have e7 : I 54 7 = nI l := h.2.2.1.1.symm.trans l2
  have i7 : I1 54 7 = nI l := by rw [o1 54 (by decide)]; exact e7
  have ad : I 4 3 + 20 = nI (l + 20) := by rw [l2, show (20 : Int32) = nI 20 from rfl, nI_add]
  have cd : 400 < I 4 3 + 20 ↔ 400 < l + 20 := by
    rw [ad, show (400 : Int32) = nI 400 from rfl]
    exact nI_ltI (by decide) (by omega)
  rcases xs with ⟨x1, rfl, x2⟩ | ⟨x1, ev, x2, eR⟩
  · rcases ms l l1 i7 with ⟨_, rfl, m2⟩ | ⟨m1, _⟩
    · exact ⟨rfl, h.keep X o1 x2 o2 m2⟩
    · have := cd.mp x1; omega
  · subst eR
    rcases ms l l1 i7 with ⟨m1, _⟩ | ⟨m1, ew, m2, m3, m4, m5, _, m6, m7⟩
    · exact absurd (cd.mpr m1) x1
    · obtain ⟨a1, a2, a3⟩ := wrF_1 (x := a) l2 (by omega)
      obtain ⟨b1, b2, b3⟩ := wrF_1 (x := b) a1 (by omega)
      obtain ⟨c1, c2, c3⟩ := wrF_1 (x := c) b1 (by omega)
      obtain ⟨d1, d2, d3⟩ := wrF_1 (x := e) c1 (by omega)
      obtain ⟨f1, f2, f3⟩ := wrF_1 (x := f) d1 (by omega)
      have fr : ∀ z, ¬ z = 4 → ¬ z = 13 → I1 z = I z := fun z h4 h13 => by rw [x2, wrF_n h4 h13, wrF_n h4 h13, wrF_n h4 h13, wrF_n h4 h13, wrF_n h4 h13]
      refine ⟨ev.trans (f1.trans ew.symm), h.tape X o1 (fun z h4 h13 _ => fr z h4 h13) o2 m3 m4 m5 ⟨?_, fun n k g1 g2 g3 => ?_⟩⟩
      · rw [o2 4 (by decide), m2, x2]; exact f1
      · obtain rfl : n = l + 20 := (nI_eq (by omega) (by omega)).mp (g1.symm.trans m2)
        rw [o2 13 (by decide), x2]
        by_cases q0 : k < l
        · rw [f2 k (by omega), d2 k (by omega), c2 k (by omega), b2 k (by omega), a2 k (by omega), m6 k q0, fr 59 (by decide) (by decide)]
          exact h.2.2.1.2 l k e7 l1 q0
        by_cases q1 : k < l + 4
        · have := m7 (k - l) (by omega)
          rw [show l + (k - l) = k by omega] at this
          rw [f2 k (by omega), d2 k (by omega), c2 k (by omega), b2 k (by omega), this.1, ← a3 (k - l) (by omega), show l + (k - l) = k by omega]
        by_cases q2 : k < l + 4 + 4
        · have := (m7 (k - (l + 4)) (by omega)).2.1
          rw [show l + 4 + (k - (l + 4)) = k by omega] at this
          rw [f2 k (by omega), d2 k (by omega), c2 k (by omega), this, ← b3 (k - (l + 4)) (by omega), show l + 4 + (k - (l + 4)) = k by omega]
        by_cases q3 : k < l + 4 + 4 + 4
        · have := (m7 (k - (l + 4 + 4)) (by omega)).2.2.1
          rw [show l + 4 + 4 + (k - (l + 4 + 4)) = k by omega] at this
          rw [f2 k (by omega), d2 k (by omega), this, ← c3 (k - (l + 4 + 4)) (by omega), show l + 4 + 4 + (k - (l + 4 + 4)) = k by omega]
        by_cases q4 : k < l + 4 + 4 + 4 + 4
        · have := (m7 (k - (l + 4 + 4 + 4)) (by omega)).2.2.2.1
          rw [show l + 4 + 4 + 4 + (k - (l + 4 + 4 + 4)) = k by omega] at this
          rw [f2 k (by omega), this, ← d3 (k - (l + 4 + 4 + 4)) (by omega), show l + 4 + 4 + 4 + (k - (l + 4 + 4 + 4)) = k by omega]
        · have := (m7 (k - (l + 4 + 4 + 4 + 4)) (by omega)).2.2.2.2
          rw [show l + 4 + 4 + 4 + 4 + (k - (l + 4 + 4 + 4 + 4)) = k by omega] at this
          rw [this, ← f3 (k - (l + 4 + 4 + 4 + 4)) (by omega), show l + 4 + 4 + 4 + 4 + (k - (l + 4 + 4 + 4 + 4)) = k by omega]
theorem r_end {n v w : Int32} (X : XC S I R t) (h : Rel I R) (o1 : OutX I I1) (xs : ((n < 0 ∨ I 4 3 < n) ∧ v = -1 ∧ NoX I R I1 R1) ∨ (¬ (n < 0 ∨ I 4 3 < n) ∧ v = n ∧ I1 = put I 4 3 n ∧ R1 = R)) (o2 : OutM I1 J) (ms : ((n < 0 ∨ I1 54 7 < n) ∧ w = -1 ∧ RlN I1 J) ∨ (¬ (n < 0 ∨ I1 54 7 < n) ∧ w = n ∧ J 54 7 = n ∧ J 56 = I1 56 ∧ J 57 = I1 57 ∧ J 58 = I1 58 ∧ J 59 = I1 59 ∧ J 54 12 = I1 54 12)) : v = w ∧ Rel J R1 := by
  have e7 : I1 54 7 = I 4 3 := by rw [o1 54 (by decide)]; exact h.2.2.1.1.symm
  rw [e7] at ms
  rcases xs with ⟨x1, rfl, x2⟩ | ⟨x1, rfl, x2, rfl⟩
  · rcases ms with ⟨_, rfl, m2⟩ | ⟨m1, _⟩
    · exact ⟨rfl, h.keep X o1 x2 o2 m2⟩
    · exact absurd x1 m1
  · rcases ms with ⟨m1, _⟩ | ⟨_, rfl, m2, m3, m4, m5, m6, _⟩
    · exact absurd m1 x1
    · have fr : ∀ z, ¬ z = 4 → I1 z = I z := fun z h4 => by rw [x2, pt_n h4]
      refine ⟨rfl, h.tape X o1 (fun z h4 _ _ => fr z h4) o2 m3 m4 m5 ⟨?_, fun n k g1 g2 g3 => ?_⟩⟩
      · rw [o2 4 (by decide), m2, x2, pt_s]
      · obtain ⟨l, l1, l2⟩ := X.2.1.1
        rw [o2 13 (by decide), fr 13 (by decide), m6, fr 59 (by decide)]
        refine h.2.2.1.2 l k (h.2.2.1.1.symm.trans l2) l1 ?_
        have g4 : ¬ nI l < nI n := fun z => x1 (Or.inr (by rw [l2, ← m2, g1]; exact z))
        refine Classical.byContradiction (fun z => g4 (nI_lt (by omega) (by omega)))
theorem sh32 (a b c d : Int32) : ((((0 : Int32) <<< ((8 : Int32) &&& 31) ||| a) <<< ((8 : Int32) &&& 31) ||| b) <<< ((8 : Int32) &&& 31) ||| c) <<< ((8 : Int32) &&& 31) ||| d = a <<< ((24 : Int32) &&& 31) ||| b <<< ((16 : Int32) &&& 31) ||| c <<< ((8 : Int32) &&& 31) ||| d := by
  have s8 : (8 : Int32) &&& 31 = 8 := by decide
  have s16 : (16 : Int32) &&& 31 = 16 := by decide
  have s24 : (24 : Int32) &&& 31 = 24 := by decide
  rw [s8, s16, s24]
  have t8 : ∀ x : Int32, (x <<< (8 : Int32)).toBitVec = x.toBitVec <<< 8 := fun x => rfl
  have t16 : ∀ x : Int32, (x <<< (16 : Int32)).toBitVec = x.toBitVec <<< 16 := fun x => rfl
  have t24 : ∀ x : Int32, (x <<< (24 : Int32)).toBitVec = x.toBitVec <<< 24 := fun x => rfl
  refine Int32.toBitVec_inj.mp ?_
  simp only [Int32.toBitVec_or, t8, t16, t24, BitVec.shiftLeft_or_distrib, ← BitVec.shiftLeft_add]
  have z : (0 : Int32).toBitVec = 0#32 := rfl
  rw [z]
  simp only [BitVec.zero_shiftLeft, BitVec.zero_or]
theorem ioL_4 {I : mI} {f : Nat} : ioL I 4 f 0 = (I 13 f &&& 255) <<< ((24 : Int32) &&& 31) ||| (I 13 (f + 1) &&& 255) <<< ((16 : Int32) &&& 31) ||| (I 13 (f + 2) &&& 255) <<< ((8 : Int32) &&& 31) ||| (I 13 (f + 3) &&& 255) := sh32 _ _ _ _
theorem roV_M (x : Int32) : roV x = roM x := by
  unfold roV roM
  have h := inBc (x := x) (a := 1) (b := 9) (lo := 1) (hi := 9) rfl rfl
  by_cases g1 : x < 1
  · rw [if_pos g1, if_neg (fun z => (h.mp z).1 g1)]
  · rw [if_neg g1]
    by_cases g2 : 9 < x
    · rw [if_pos g2, if_neg (fun z => (h.mp z).2 g2)]
    · rw [if_neg g2, if_pos (h.mpr ⟨g1, g2⟩)]
theorem roL_v {n : Nat} : ∀ (m i : Nat) (I : mI), (∀ k, (k < i ∨ ¬ k < n ∨ i + m ≤ k) → roL n m i I 6 k = I 6 k) ∧ ∀ k, i ≤ k → k < n → k < i + m → roL n m i I 6 k = roV (ioL I 4 (4 * k) 0) := by
  intro m
  induction m with
  | zero => exact fun i I => ⟨fun _ _ => rfl, fun k h1 _ h2 => absurd h2 (by omega)⟩
  | succ m ih =>
    intro i I
    have io : ∀ k v q, ioL (put I 6 k v) 4 q 0 = ioL I 4 q 0 := fun k v q => by
      rw [ioL_4, ioL_4]
      simp only [pt_m (show ¬ 13 = 6 by decide)]
    by_cases g : i < n
    · have e : roL n (m + 1) i I = roL n m (i + 1) (put I 6 i (roV (ioL I 4 (4 * i) 0))) := if_pos g
      rw [e]
      obtain ⟨h1, h2⟩ := ih (i + 1) (put I 6 i (roV (ioL I 4 (4 * i) 0)))
      refine ⟨fun k hk => ?_, fun k k1 k2 k3 => ?_⟩
      · rw [h1 k (by omega), pt_f (by omega)]
      · by_cases q : k = i
        · subst q
          rw [h1 k (by omega), pt_s]
        · rw [h2 k (by omega) k2 (by omega), io]
    · have e : roL n (m + 1) i I = I := if_neg g
      rw [e]
      exact ⟨fun _ _ => rfl, fun k k1 k2 _ => absurd k2 (by omega)⟩
theorem r_row {v w : Int32} (X : XC S I R t) (h : Rel I R) (o1 : OutX I I1) (xs : ∀ l, l ≤ 400 → I 4 3 = nI l → (((l = 0 ∨ I 5 0 < nI ((l + 3) / 4)) ∧ v = -6 ∧ KeX I R I1 R1 ∧ I1 4 3 = 0) ∨ (¬ l = 0 ∧ ¬ I 5 0 < nI ((l + 3) / 4) ∧ v = nI (l / 4) ∧ I1 = graF (roL (l / 4) 5 0 (put I 4 3 0)) ∧ R1 = R))) (o2 : OutM I1 J) (m7 : J 54 7 = 0) (ms : ∀ n, n ≤ 400 → I1 54 7 = nI n → (((n = 0 ∨ I1 56 0 < nI ((n + 3) / 4)) ∧ w = -6 ∧ RlT I1 J (I1 56)) ∨ (¬ n = 0 ∧ ¬ I1 56 0 < nI ((n + 3) / 4) ∧ w = nI (n / 4) ∧ RlT I1 J (rowR (I1 56) (I1 59) (n / 4))))) : v = w ∧ Rel J R1 := by
  obtain ⟨l, l1, l2⟩ := X.2.1.1
  obtain ⟨q, q6, eq⟩ := X.w5
  have e7 : I 54 7 = nI l := h.2.2.1.1.symm.trans l2
  have i7 : I1 54 7 = nI l := by rw [o1 54 (by decide)]; exact e7
  have e56 : I1 56 = I 56 := o1 56 (by decide)
  have e59 : I1 59 = I 59 := o1 59 (by decide)
  have e0 : I1 56 0 = I 5 0 := by rw [e56]; exact h.2.1.1.symm
  rcases xs l l1 l2 with ⟨x1, rfl, x2, x3⟩ | ⟨x0, x1, rfl, x2, rfl⟩
  · rcases ms l l1 i7 with ⟨_, rfl, m2⟩ | ⟨m0, m1, _⟩
    · exact ⟨rfl, h.tk X o1 x2.1 x3 o2 m7 m2.o (fun _ _ _ => rfl)⟩
    · rw [e0] at m1
      exact absurd x1 (fun z => z.elim m0 m1)
  · rcases ms l l1 i7 with ⟨m1, _⟩ | ⟨_, _, rfl, m2⟩
    · rw [e0] at m1
      exact absurd m1 (fun z => z.elim x0 x1)
    · obtain ⟨⟨c1, c2⟩, sm, tp, im⟩ := h
      have l5 : l / 4 ≤ 5 := by
        rw [eq] at x1
        refine Classical.byContradiction (fun z => x1 (nI_lt (by omega) (by omega)))
      have f : ∀ a, ¬ a = 4 → ¬ a = 6 → I1 a = I a := fun a h4 h6 => by
        rw [x2]
        unfold graF
        rw [pt_n h4, roL_n h6, pt_n h4]
      have f4 : I1 4 3 = 0 := by
        rw [x2]
        unfold graF
        rw [pt_f (by decide), roL_n (by decide), pt_s]
      have f6 : I1 6 = roL (l / 4) 5 0 (put I 4 3 0) 6 := by
        rw [x2]
        unfold graF
        rw [pt_n (by decide)]
      obtain ⟨r1, r2⟩ := roL_v (n := l / 4) 5 0 (put I 4 3 0)
      have rk : ∀ k, k < 60 → (k < 20 ∨ 25 ≤ k) → rowR (I1 56) (I1 59) (l / 4) k = I 56 k := fun k k1 k2 => by
        unfold rowR
        rw [if_neg (by omega), e56]
      have mk : ∀ k, k < 60 → ¬ k = 1 → (k < 20 ∨ 25 ≤ k) → J 56 k = I 56 k := fun k k1 k2 k3 => by rw [m2.1 k (by omega), rk k k1 k3]
      refine ⟨rfl, ⟨by rw [o2 1 (by decide), f 1 (by decide) (by decide)]; exact c1, by rw [o2 2 (by decide), f 2 (by decide) (by decide)]; exact c2⟩, ⟨?_, ?_, ?_, fun c c5 => ⟨?_, ?_, ?_⟩, fun p p8 => ⟨?_, ?_⟩⟩, TpR.z (by rw [o2 4 (by decide)]; exact f4) m7, im.st X o1 rfl (fun j y hj hy a a1 _ => ?_) o2 m2.2.1 m2.2.2.1⟩
      · rw [o2 5 (by decide), f 5 (by decide) (by decide), mk 0 (by decide) (by decide) (by decide)]; exact sm.1
      · rw [o2 5 (by decide), f 5 (by decide) (by decide), mk 3 (by decide) (by decide) (by decide)]; exact sm.2.1
      · rw [o2 5 (by decide), f 5 (by decide) (by decide), mk 2 (by decide) (by decide) (by decide)]; exact sm.2.2.1
      · rw [o2 6 (by decide), f6, m2.1 _ (by omega)]
        unfold rowR
        by_cases g : c < l / 4
        · rw [if_pos (by omega), show 20 + c - 20 = c by omega, r2 c (by omega) g (by omega), roV_M, ioL_4]
          refine congrArg roM ?_
          unfold row4
          have b : ∀ k, k < l → put I 4 3 0 13 k &&& 255 = I1 59 k := fun k hk => by
            rw [pt_n (by decide), e59]
            exact tp.2 l k e7 l1 hk
          rw [b _ (by omega), b _ (by omega), b _ (by omega), b _ (by omega)]
        · rw [if_neg (by omega), r1 c (by omega), pt_n (by decide), e56]
          exact (sm.2.2.2.1 c c5).1
      · rw [o2 7 (by decide), f 7 (by decide) (by decide), mk _ (by omega) (by omega) (by omega)]; exact (sm.2.2.2.1 c c5).2.1
      · rw [o2 8 (by decide), f 8 (by decide) (by decide), mk _ (by omega) (by omega) (by omega)]; exact (sm.2.2.2.1 c c5).2.2
      · rw [o2 10 (by decide), f 10 (by decide) (by decide), mk _ (by omega) (by omega) (by omega)]; exact (sm.2.2.2.2 p p8).1
      · rw [o2 11 (by decide), f 11 (by decide) (by decide), mk _ (by omega) (by omega) (by omega)]; exact (sm.2.2.2.2 p p8).2
      · have := (X.2.1.img j y hj hy).2.1
        exact f a (by omega) (by omega)
theorem r_recipe (X : XC S I R t) (h : Rel I R) (o1 : OutX I I1) (xs : KeO I R I1 R1 ∧ I1 4 3 = 0) (o2 : OutM I1 J) (ms : J 54 7 = 0 ∧ RlO I1 J (I1 56)) : Rel J R1 := h.tk X o1 xs.1 xs.2 o2 ms.1 ms.2 (fun _ _ _ => rfl)
theorem r_piece {x y v w : Int32} (X : XC S I R t) (h : Rel I R) (o1 : OutX I I1) (xs : ∀ p, p ≤ 8 → I 5 9 = nI p → (((x < 1 ∨ 200 < x) ∧ v = -1 ∧ NoX I R I1 R1) ∨ (¬ (x < 1 ∨ 200 < x) ∧ (y < -1 ∨ ¬ y < nI p) ∧ v = -2 ∧ NoX I R I1 R1) ∨ (¬ (x < 1 ∨ 200 < x) ∧ ¬ (y < -1 ∨ ¬ y < nI p) ∧ p = 8 ∧ v = -5 ∧ NoX I R I1 R1) ∨ (¬ (x < 1 ∨ 200 < x) ∧ ¬ (y < -1 ∨ ¬ y < nI p) ∧ p < 8 ∧ v = nI p ∧ I1 = piF I x y ∧ R1 = R))) (o2 : OutM I1 J) (ms : ∀ c, c ≤ 8 → I1 56 2 = nI c → ((inB x.toInt64 1 200 = false ∧ w = -1 ∧ RlN I1 J) ∨ (inB x.toInt64 1 200 = true ∧ inB y.toInt64 (-1) ((nI c).toInt64 - 1) = false ∧ w = -2 ∧ RlN I1 J) ∨ (inB x.toInt64 1 200 = true ∧ inB y.toInt64 (-1) ((nI c).toInt64 - 1) = true ∧ c = 8 ∧ w = -5 ∧ RlN I1 J) ∨ (inB x.toInt64 1 200 = true ∧ inB y.toInt64 (-1) ((nI c).toInt64 - 1) = true ∧ c < 8 ∧ w = nI c ∧ RlW I1 J (pieR (I1 56) c x y)))) : v = w ∧ Rel J R1 := by
  obtain ⟨_, W, ⟨_, ⟨p, p1, p2⟩, _, _⟩, _, _⟩ := id X.2.1
  have e56 : I1 56 = I 56 := o1 56 (by decide)
  have i2 : I1 56 2 = nI p := by rw [e56]; exact h.2.1.2.2.1.symm.trans p2
  have h1 : inB x.toInt64 1 200 = true ↔ ¬ x < 1 ∧ ¬ 200 < x := inBc rfl rfl
  have h2 : inB y.toInt64 (-1) ((nI p).toInt64 - 1) = true ↔ ¬ y < -1 ∧ y < nI p := inBu rfl (by omega)
  have k1 : ¬ (x < 1 ∨ 200 < x) ↔ inB x.toInt64 1 200 = true := ⟨fun z => h1.mpr ⟨fun q => z (Or.inl q), fun q => z (Or.inr q)⟩, fun z q => q.elim (h1.mp z).1 (h1.mp z).2⟩
  have k2 : ¬ (y < -1 ∨ ¬ y < nI p) ↔ inB y.toInt64 (-1) ((nI p).toInt64 - 1) = true := ⟨fun z => h2.mpr ⟨fun q => z (Or.inl q), Classical.byContradiction (fun q => z (Or.inr q))⟩, fun z q => q.elim (h2.mp z).1 (fun q => q (h2.mp z).2)⟩
  rcases xs p p1 p2 with ⟨x1, rfl, x3⟩ | ⟨x1, x2, rfl, x3⟩ | ⟨x1, x2, x4, rfl, x3⟩ | ⟨x1, x2, x4, rfl, x3, rfl⟩
  · rcases ms p p1 i2 with ⟨_, rfl, m3⟩ | ⟨m1, _⟩ | ⟨m1, _⟩ | ⟨m1, _⟩
    · exact ⟨rfl, h.keep X o1 x3 o2 m3⟩
    all_goals exact absurd x1 (k1.mpr m1)
  · rcases ms p p1 i2 with ⟨m1, _⟩ | ⟨_, _, rfl, m3⟩ | ⟨_, m2, _⟩ | ⟨_, m2, _⟩
    · rw [k1.mp x1] at m1; cases m1
    · exact ⟨rfl, h.keep X o1 x3 o2 m3⟩
    all_goals exact absurd x2 (k2.mpr m2)
  · rcases ms p p1 i2 with ⟨m1, _⟩ | ⟨_, m2, _⟩ | ⟨_, _, _, rfl, m3⟩ | ⟨_, _, m4, _⟩
    · rw [k1.mp x1] at m1; cases m1
    · rw [k2.mp x2] at m2; cases m2
    · exact ⟨rfl, h.keep X o1 x3 o2 m3⟩
    · omega
  · rcases ms p p1 i2 with ⟨m1, _⟩ | ⟨_, m2, _⟩ | ⟨_, _, m4, _⟩ | ⟨_, _, m4, rfl, m3⟩
    · rw [k1.mp x1] at m1; cases m1
    · rw [k2.mp x2] at m2; cases m2
    · omega
    · obtain ⟨⟨c1, c2⟩, sm, tp, im⟩ := h
      have pc : (I 5 9).toNatClampNeg = p := by rw [p2]; exact nI_clamp (by omega)
      have f : ∀ a, ¬ a = 4 → ¬ a = 5 → ¬ a = 10 → ¬ a = 11 → ¬ a = 47 → I1 a = I a := fun a h4 h5 h10 h11 h47 => by
        rw [x3]
        unfold piF graF filF
        rw [pt_n h4, uu_n _ _ h47, pt_n h5, pt_n h11, pt_n h10]
      have f5 : ∀ k, ¬ k = 9 → I1 5 k = I 5 k := fun k hk => by
        rw [x3]
        unfold piF graF filF
        rw [pt_m (by decide), uu_n _ _ (by decide), pt_f hk, pt_m (by decide), pt_m (by decide)]
      have f59 : I1 5 9 = nI (p + 1) := by
        rw [x3]
        unfold piF graF filF
        rw [pt_m (by decide), uu_n _ _ (by decide), pt_s, p2, nI_1]
      have f4 : I1 4 3 = I 4 3 := by
        rw [x3]
        unfold piF graF filF
        rw [pt_f (by decide), uu_n _ _ (by decide), pt_n (by decide), pt_n (by decide), pt_n (by decide)]
      have f10 : ∀ k, I1 10 k = if k = p then x else I 10 k := fun k => by
        rw [x3]
        unfold piF graF filF
        rw [pt_n (by decide), uu_n _ _ (by decide), pt_n (by decide), pt_n (by decide), pc]
        by_cases e : k = p
        · rw [if_pos e, e, pt_s]
        · rw [if_neg e, pt_f e]
      have f11 : ∀ k, I1 11 k = if k = p then y else I 11 k := fun k => by
        rw [x3]
        unfold piF graF filF
        rw [pt_n (by decide), uu_n _ _ (by decide), pt_n (by decide), pc]
        by_cases e : k = p
        · rw [if_pos e, e, pt_s]
        · rw [if_neg e, pt_f e, pt_n (by decide)]
      have mk : ∀ k, k < 60 → ¬ k = 1 → ¬ k = 2 → ¬ k = 40 + 2 * p → ¬ k = 41 + 2 * p → J 56 k = I 56 k := fun k k1 k2 k3 k4 k5 => by
        rw [m3.1 k (by omega)]
        unfold pieR
        rw [if_neg k4, if_neg k5, if_neg k3, e56]
      refine ⟨rfl, ⟨by rw [o2 1 (by decide), f 1 (by decide) (by decide) (by decide) (by decide) (by decide)]; exact c1, by rw [o2 2 (by decide), f 2 (by decide) (by decide) (by decide) (by decide) (by decide)]; exact c2⟩, ⟨?_, ?_, ?_, fun c c5 => ⟨?_, ?_, ?_⟩, fun i i8 => ⟨?_, ?_⟩⟩, tp.mv ?_ ?_ ?_ ?_, im.st X o1 rfl (fun j y hj hy a a1 _ => ?_) o2 m3.2.1 m3.2.2.1⟩
      · rw [o2 5 (by decide), f5 0 (by decide), mk 0 (by decide) (by decide) (by decide) (by omega) (by omega)]; exact sm.1
      · rw [o2 5 (by decide), f5 3 (by decide), mk 3 (by decide) (by decide) (by decide) (by omega) (by omega)]; exact sm.2.1
      · rw [o2 5 (by decide), f59, m3.1 2 (by omega)]
        unfold pieR
        rw [if_neg (by omega), if_neg (by omega), if_pos rfl]
      · rw [o2 6 (by decide), f 6 (by decide) (by decide) (by decide) (by decide) (by decide), mk _ (by omega) (by omega) (by omega) (by omega) (by omega)]; exact (sm.2.2.2.1 c c5).1
      · rw [o2 7 (by decide), f 7 (by decide) (by decide) (by decide) (by decide) (by decide), mk _ (by omega) (by omega) (by omega) (by omega) (by omega)]; exact (sm.2.2.2.1 c c5).2.1
      · rw [o2 8 (by decide), f 8 (by decide) (by decide) (by decide) (by decide) (by decide), mk _ (by omega) (by omega) (by omega) (by omega) (by omega)]; exact (sm.2.2.2.1 c c5).2.2
      · rw [o2 10 (by decide), f10]
        by_cases e : i = p
        · rw [if_pos e, m3.1 _ (by omega)]
          unfold pieR
          rw [if_pos (by omega)]
        · rw [if_neg e, mk _ (by omega) (by omega) (by omega) (by omega) (by omega)]
          exact (sm.2.2.2.2 i i8).1
      · rw [o2 11 (by decide), f11]
        by_cases e : i = p
        · rw [if_pos e, m3.1 _ (by omega)]
          unfold pieR
          rw [if_neg (by omega), if_pos (by omega)]
        · rw [if_neg e, mk _ (by omega) (by omega) (by omega) (by omega) (by omega)]
          exact (sm.2.2.2.2 i i8).2
      · rw [o2 4 (by decide)]; exact f4
      · rw [o2 13 (by decide)]; exact f 13 (by decide) (by decide) (by decide) (by decide) (by decide)
      · rw [m3.2.2.2.2.1, o1 54 (by decide)]
      · rw [m3.2.2.2.1, o1 59 (by decide)]
      · have := (X.2.1.img j y hj hy).2.1
        exact f a (by omega) (by omega) (by omega) (by omega) (by omega)
theorem k02 {k : Int32} : ¬ (k < 0 ∨ ¬ k < 2) ↔ inB k.toInt64 0 1 = true := by
  have h : inB k.toInt64 0 1 = true ↔ ¬ k < 0 ∧ ¬ 1 < k := inBc rfl rfl
  have e : k < 2 ↔ ¬ 1 < k := by
    rw [Int32.lt_iff_toInt_lt, Int32.lt_iff_toInt_lt]
    show k.toInt < 2 ↔ ¬ 1 < k.toInt
    omega
  rw [h, ← e]
  exact ⟨fun z => ⟨fun q => z (Or.inl q), Classical.byContradiction (fun q => z (Or.inr q))⟩, fun z q => q.elim z.1 (fun q => q z.2)⟩
theorem r_image {k : Int32} (X : XC S I R t) (h : Rel I R) (o1 : OutX I I1) (xs : ((k < 0 ∨ ¬ k < 2) ∧ NoX I R I1 R1) ∨ (¬ (k < 0 ∨ ¬ k < 2) ∧ (∀ a, (a ≤ 3 ∨ (5 ≤ a ∧ a ≤ 13)) → I1 a = I a) ∧ I1 4 3 = I 4 3 ∧ ∃ y, 85 ≤ y ∧ R1 12 = va_up (R 12) k.toNatClampNeg (some y) ∧ SmC I1 y I 5 ∧ ImN I R I1 R1 y k.toNatClampNeg ∧ ∀ j y', j < 2 → ¬ j = k.toNatClampNeg → R 12 j = some y' → 85 ≤ y' ∧ ∀ a, y' ≤ a → a < y' + 7 → I1 a = I a)) (o2 : OutM I1 J) (ms : (inB k.toInt64 0 1 = false ∧ RlN I1 J) ∨ (inB k.toInt64 0 1 = true ∧ J 56 = I1 56 ∧ (∀ m, (m < 8060 * k.toNatClampNeg ∨ 8060 * k.toNatClampNeg + 8060 ≤ m) → J 57 m = I1 57 m) ∧ (∀ m, m < 8060 → J 57 (8060 * k.toNatClampNeg + m) = I1 56 m) ∧ J 58 k.toNatClampNeg = 1 ∧ (∀ j, ¬ j = k.toNatClampNeg → J 58 j = I1 58 j) ∧ J 59 = I1 59 ∧ J 54 7 = I1 54 7 ∧ J 54 12 = I1 54 12)) : Rel J R1 := by
  rcases xs with ⟨x1, x2⟩ | ⟨x1, x2, x3, y, y1, y2, y3, _, y4⟩
  · rcases ms with ⟨_, m2⟩ | ⟨m1, _⟩
    · exact h.keep X o1 x2 o2 m2
    · exact absurd x1 (k02.mpr m1)
  · rcases ms with ⟨m1, _⟩ | ⟨_, m2, m3, m4, m5, m6, m7, m8, _⟩
    · rw [k02.mp x1] at m1; cases m1
    · obtain ⟨⟨c1, c2⟩, sm, tp, im⟩ := h
      have e56 : I1 56 = I 56 := o1 56 (by decide)
      generalize k.toNatClampNeg = q at y2 y4 m3 m4 m5 m6
      refine ⟨⟨by rw [o2 1 (by decide), x2 1 (by decide)]; exact c1, by rw [o2 2 (by decide), x2 2 (by decide)]; exact c2⟩, sm.al (fun a a1 a2 => (o2 a (by omega)).trans (x2 a (by omega))) (fun k _ _ => by rw [m2, e56]), tp.mv ?_ ?_ ?_ ?_, fun j hj => ?_⟩
      · rw [o2 4 (by decide)]; exact x3
      · rw [o2 13 (by decide)]; exact x2 13 (by decide)
      · rw [m8, o1 54 (by decide)]
      · rw [m7, o1 59 (by decide)]
      · rw [y2]
        by_cases e : j = q
        · subst e
          rw [uu_s]
          refine ⟨fun z => absurd z (Option.some_ne_none y), fun y' z => ?_⟩
          cases z
          refine ⟨by rw [m5]; decide, ?_⟩
          have s1 : SmR J y (I 56) := (sm.cp y3).al (fun a a1 _ => o2 a (by omega)) (fun _ _ _ => rfl)
          exact s1.al (fun _ _ _ => rfl) (fun m mm _ => by rw [m4 m (by omega), e56])
        · rw [uu_n _ _ e]
          obtain ⟨i1, i2⟩ := im j hj
          have e8 : J 58 j = I 58 j := by rw [m6 j e, o1 58 (by decide)]
          rw [e8]
          refine ⟨i1, fun y' hy => ⟨(i2 y' hy).1, ?_⟩⟩
          obtain ⟨g1, g2⟩ := y4 j y' hj e hy
          exact (i2 y' hy).2.al (fun a a1 a2 => (o2 a (by omega)).trans (g2 a a1 a2)) (fun m mm _ => by rw [m3 _ (by omega), o1 57 (by decide)])
theorem r_back {k v w : Int32} (X : XC S I R t) (h : Rel I R) (o1 : OutX I I1) (xs : ((k < 0 ∨ ¬ k < 2) ∧ v = -1 ∧ NoX I R I1 R1) ∨ (¬ (k < 0 ∨ ¬ k < 2) ∧ R 12 k.toNatClampNeg = none ∧ v = -2 ∧ NoX I R I1 R1) ∨ (¬ (k < 0 ∨ ¬ k < 2) ∧ v = 0 ∧ ∃ y, R 12 k.toNatClampNeg = some y ∧ I1 = graF (filF (cfB (cfA I 5 y) 5 y) 47 4 0) ∧ R1 = rpR R 5 y 8)) (o2 : OutM I1 J) (ms : (inB k.toInt64 0 1 = false ∧ w = -1 ∧ RlN I1 J) ∨ (inB k.toInt64 0 1 = true ∧ I1 58 k.toNatClampNeg = 0 ∧ w = -2 ∧ RlN I1 J) ∨ (inB k.toInt64 0 1 = true ∧ ¬ I1 58 k.toNatClampNeg = 0 ∧ w = 0 ∧ RlW I1 J (fun m => I1 57 (8060 * k.toNatClampNeg + m)))) : v = w ∧ Rel J R1 := by
  have e58 : I1 58 = I 58 := o1 58 (by decide)
  have e57 : I1 57 = I 57 := o1 57 (by decide)
  rw [e58] at ms
  have kj : ¬ (k < 0 ∨ ¬ k < 2) → k.toNatClampNeg < 2 := fun z => (of_eq_true (inb_lt (n := 2) (by decide) (fun q => z (Or.inl q)) (Classical.byContradiction (fun q => z (Or.inr q))))).2
  rcases xs with ⟨x1, rfl, x2⟩ | ⟨x1, x3, rfl, x2⟩ | ⟨x1, rfl, y, x3, x2, rfl⟩
  · rcases ms with ⟨_, rfl, m2⟩ | ⟨m1, _⟩ | ⟨m1, _⟩
    · exact ⟨rfl, h.keep X o1 x2 o2 m2⟩
    all_goals exact absurd x1 (k02.mpr m1)
  · have i1 := (h.2.2.2 _ (kj x1)).1 x3
    rcases ms with ⟨m1, _⟩ | ⟨_, _, rfl, m2⟩ | ⟨_, m1, _⟩
    · rw [k02.mp x1] at m1; cases m1
    · exact ⟨rfl, h.keep X o1 x2 o2 m2⟩
    · exact absurd i1 m1
  · obtain ⟨i1, i2⟩ := (h.2.2.2 _ (kj x1)).2 y x3
    rcases ms with ⟨m1, _⟩ | ⟨_, m1, _⟩ | ⟨_, _, rfl, m2⟩
    · rw [k02.mp x1] at m1; cases m1
    · exact absurd m1 i1
    · obtain ⟨⟨c1, c2⟩, sm, tp, im⟩ := h
      have y85 := (X.2.1.img _ y (kj x1) x3).2.1
      have f : ∀ a, ¬ a = 4 → ¬ a = 47 → (a < 5 ∨ 11 < a) → I1 a = I a := fun a h4 h47 h5 => by
        rw [x2]
        unfold graF filF
        rw [pt_n h4, uu_n _ _ h47, cf_n (by omega)]
      have f4 : I1 4 3 = I 4 3 := by
        rw [x2]
        unfold graF filF
        rw [pt_f (by decide), uu_n _ _ (by decide), cf_n (by decide)]
      have fc : ∀ a, 5 ≤ a → a ≤ 11 → I1 a = cfB (cfA I 5 y) 5 y a := fun a a1 a2 => by
        rw [x2]
        unfold graF filF
        rw [pt_n (by omega), uu_n _ _ (by omega)]
      have s1 : SmR (cfB (cfA I 5 y) 5 y) 5 (fun m => I 57 (8060 * k.toNatClampNeg + m)) := i2.cp (cf_sm (Or.inl (by omega)))
      refine ⟨rfl, ⟨by rw [o2 1 (by decide), f 1 (by decide) (by decide) (by decide)]; exact c1, by rw [o2 2 (by decide), f 2 (by decide) (by decide) (by decide)]; exact c2⟩, s1.al (fun a a1 a2 => (o2 a (by omega)).trans (fc a a1 (by omega))) (fun m m1 m3 => by rw [m2.1 m (by omega), e57]), tp.mv ?_ ?_ ?_ ?_, im.st X o1 (rpR_n (by decide)) (fun j y' hj hy a a1 _ => ?_) o2 m2.2.1 m2.2.2.1⟩
      · rw [o2 4 (by decide)]; exact f4
      · rw [o2 13 (by decide)]; exact f 13 (by decide) (by decide) (by decide)
      · rw [m2.2.2.2.2.1, o1 54 (by decide)]
      · rw [m2.2.2.2.1, o1 59 (by decide)]
      · have := (X.2.1.img j y' hj hy).2.1
        exact f a (by omega) (by omega) (by omega)
end RM
