/-! group B: readPart, readPlain, exactly -/
section RQ
variable {d n m i a nP o : Nat} {X : mI} {Y T P : Nat → Int32} {p : Nat → Nat} {ρ : List Int32} {κ : List (Int32 × Int32)} {S : mS} {I : mI} {L : mL} {R : mR} {Q : mQ}
theorem RTi.sg (h : RTi X Y T P n m p I L i) {x : Nat} {c : Int32} (hx : x < 256) (hc : c = nI x) : sgB I L c = decide (T i = -100 - c) := by
  unfold sgB
  have k := h.2.2.2.2.sg hx
  rw [hc]
  by_cases g : T i = -100 - nI x
  · rw [decide_eq_true g]
    exact decide_eq_true (k.mpr g)
  · rw [decide_eq_false g]
    exact decide_eq_false (fun z => g (k.mp z))
theorem RTi.w0 (h : RTi X Y T P n m p I L i) : wdB I L 655 = decide (T i = -3) := by
  unfold wdB
  have k := h.2.2.2.2.w0
  by_cases g : T i = -3
  · rw [decide_eq_true g]
    exact decide_eq_true (k.mpr g)
  · rw [decide_eq_false g]
    exact decide_eq_false (fun z => g (k.mp z))
theorem RTi.w1 (h : RTi X Y T P n m p I L i) : wdB I L 294 = decide (T i = -4) := by
  unfold wdB
  have k := h.2.2.2.2.w1
  by_cases g : T i = -4
  · rw [decide_eq_true g]
    exact decide_eq_true (k.mpr g)
  · rw [decide_eq_false g]
    exact decide_eq_false (fun z => g (k.mp z))
theorem RTi.w2 (h : RTi X Y T P n m p I L i) : wdB I L 498 = decide (T i = -5) := by
  unfold wdB
  have k := h.2.2.2.2.w2
  by_cases g : T i = -5
  · rw [decide_eq_true g]
    exact decide_eq_true (k.mpr g)
  · rw [decide_eq_false g]
    exact decide_eq_false (fun z => g (k.mp z))
theorem RTi.w3 (h : RTi X Y T P n m p I L i) : wdB I L 1476 = decide (T i = -6) := by
  unfold wdB
  have k := h.2.2.2.2.w3
  by_cases g : T i = -6
  · rw [decide_eq_true g]
    exact decide_eq_true (k.mpr g)
  · rw [decide_eq_false g]
    exact decide_eq_false (fun z => g (k.mp z))
theorem RTi.w4 (h : RTi X Y T P n m p I L i) : wdB I L 14836 = decide (T i = -7) := by
  unfold wdB
  have k := h.2.2.2.2.w4
  by_cases g : T i = -7
  · rw [decide_eq_true g]
    exact decide_eq_true (k.mpr g)
  · rw [decide_eq_false g]
    exact decide_eq_false (fun z => g (k.mp z))
theorem RTi.w5 (h : RTi X Y T P n m p I L i) : wdB I L 313838 = decide (T i = -45) := by
  unfold wdB
  have k := h.2.2.2.2.w5
  by_cases g : T i = -45
  · rw [decide_eq_true g]
    exact decide_eq_true (k.mpr g)
  · rw [decide_eq_false g]
    exact decide_eq_false (fun z => g (k.mp z))
theorem RTi.w6 (h : RTi X Y T P n m p I L i) : wdB I L 8692 = decide (T i = -46) := by
  unfold wdB
  have k := h.2.2.2.2.w6
  by_cases g : T i = -46
  · rw [decide_eq_true g]
    exact decide_eq_true (k.mpr g)
  · rw [decide_eq_false g]
    exact decide_eq_false (fun z => g (k.mp z))
theorem RTi.w7 (h : RTi X Y T P n m p I L i) : wdB I L 3322259 = decide (T i = -41) := by
  unfold wdB
  have k := h.2.2.2.2.w7
  by_cases g : T i = -41
  · rw [decide_eq_true g]
    exact decide_eq_true (k.mpr g)
  · rw [decide_eq_false g]
    exact decide_eq_false (fun z => g (k.mp z))
theorem RTi.w8 (h : RTi X Y T P n m p I L i) : wdB I L 398548 = decide (T i = -42) := by
  unfold wdB
  have k := h.2.2.2.2.w8
  by_cases g : T i = -42
  · rw [decide_eq_true g]
    exact decide_eq_true (k.mpr g)
  · rw [decide_eq_false g]
    exact decide_eq_false (fun z => g (k.mp z))
theorem RTi.w9 (h : RTi X Y T P n m p I L i) : wdB I L 8554131 = decide (T i = -43) := by
  unfold wdB
  have k := h.2.2.2.2.w9
  by_cases g : T i = -43
  · rw [decide_eq_true g]
    exact decide_eq_true (k.mpr g)
  · rw [decide_eq_false g]
    exact decide_eq_false (fun z => g (k.mp z))
theorem RTi.w10 (h : RTi X Y T P n m p I L i) : wdB I L 659117163 = decide (T i = -44) := by
  unfold wdB
  have k := h.2.2.2.2.w10
  by_cases g : T i = -44
  · rw [decide_eq_true g]
    exact decide_eq_true (k.mpr g)
  · rw [decide_eq_false g]
    exact decide_eq_false (fun z => g (k.mp z))
theorem RTi.w11 (h : RTi X Y T P n m p I L i) : wdB I L 206405 = decide (T i = -20) := by
  unfold wdB
  have k := h.2.2.2.2.w11
  by_cases g : T i = -20
  · rw [decide_eq_true g]
    exact decide_eq_true (k.mpr g)
  · rw [decide_eq_false g]
    exact decide_eq_false (fun z => g (k.mp z))
theorem RTi.w12 (h : RTi X Y T P n m p I L i) : wdB I L 659105125 = decide (T i = -21) := by
  unfold wdB
  have k := h.2.2.2.2.w12
  by_cases g : T i = -21
  · rw [decide_eq_true g]
    exact decide_eq_true (k.mpr g)
  · rw [decide_eq_false g]
    exact decide_eq_false (fun z => g (k.mp z))
theorem RTi.w13 (h : RTi X Y T P n m p I L i) : wdB I L 661950697650 = decide (T i = -22) := by
  unfold wdB
  have k := h.2.2.2.2.w13
  by_cases g : T i = -22
  · rw [decide_eq_true g]
    exact decide_eq_true (k.mpr g)
  · rw [decide_eq_false g]
    exact decide_eq_false (fun z => g (k.mp z))
theorem RTi.w14 (h : RTi X Y T P n m p I L i) : wdB I L 17479784 = decide (T i = -23) := by
  unfold wdB
  have k := h.2.2.2.2.w14
  by_cases g : T i = -23
  · rw [decide_eq_true g]
    exact decide_eq_true (k.mpr g)
  · rw [decide_eq_false g]
    exact decide_eq_false (fun z => g (k.mp z))
theorem RTi.w15 (h : RTi X Y T P n m p I L i) : wdB I L 759172 = decide (T i = -24) := by
  unfold wdB
  have k := h.2.2.2.2.w15
  by_cases g : T i = -24
  · rw [decide_eq_true g]
    exact decide_eq_true (k.mpr g)
  · rw [decide_eq_false g]
    exact decide_eq_false (fun z => g (k.mp z))
theorem RTi.w16 (h : RTi X Y T P n m p I L i) : wdB I L 239 = decide (T i = -25) := by
  unfold wdB
  have k := h.2.2.2.2.w16
  by_cases g : T i = -25
  · rw [decide_eq_true g]
    exact decide_eq_true (k.mpr g)
  · rw [decide_eq_false g]
    exact decide_eq_false (fun z => g (k.mp z))
theorem RbS.lt (h : RbS X Y T P n m p a I L i ρ nP o κ) (hK : Tks X Y T P n m p) (g : ¬ T i = -1) : i < m := by
  have e : i ≤ m := h.2.2.2.2.2.1
  have q : ¬ i = m := fun z => g (by rw [z]; exact hK.2.2.2.2.2.1)
  omega
theorem RbS.ba {J : mI} (h : RbS X Y T P n m p a I L i ρ nP o κ) (hK : Tks X Y T P n m p) (F : Fm I J) (b13 : J 54 13 = 1) (b12 : J 54 12 = I 54 8) : BaS P a J i := by
  obtain ⟨hT, e13, e14, e20, ⟨q, nc, e19, eq, e15, hq, ha⟩, hm, hn, ho, e12, hcd⟩ := h
  have m4 := hK.1
  have m5 := hK.2.1
  exact ⟨b13, b12.trans hT.2.2.1, q, nc, by rw [F.2 19 (by decide)]; exact e19, by rw [F.2 15 (by decide)]; exact e15, by omega, ha⟩
/-- behind next nothing but the token is another -/
theorem RbS.nx {J : mI} {L' : mL} {i' : Nat} (h : RbS X Y T P n m p a I L i ρ nP o κ) (F : Fn I J) (t : RTi X Y T P n m p J L' i') (h1 : i ≤ i') (h2 : i' ≤ m) : RbS X Y T P n m p a J L' i' ρ nP o κ := by
  obtain ⟨hT, e13, e14, e20, ⟨q, nc, e19, eq, e15, hq, ha⟩, hm, hn, ho, e12, hcd⟩ := h
  refine ⟨t, (F.2 13 (by decide)).trans e13, (F.2 14 (by decide)).trans e14, (F.2 20 (by decide)).trans e20, ⟨q, nc, (F.2 19 (by decide)).trans e19, ?_, (F.2 15 (by decide)).trans e15, by omega, ha⟩, h2, hn, ho, (F.2 12 (by decide)).trans e12, hcd.cg (F.2 15 (by decide)) (F.1 60 (by decide)) (F.1 61 (by decide))⟩
  rw [F.1 62 (by decide)]
  exact eq
/-- one more upon the pile, behind its token -/
theorem RbS.ps {J : mI} {L' : mL} {q nc i' : Nat} {x : Int32} (h : RbS X Y T P n m p a I L i ρ nP o κ) (t : RTi X Y T P n m p J L' i') (j13 : J 54 13 = 0) (j14 : J 54 14 = nI nP) {o' : Nat} (j20 : J 54 20 = nI o') (ho' : o' ≤ 8) (j12 : J 54 12 = -1) (j19 : J 54 19 = nI (q + 1)) {P62 : Nat → Int32} (j62 : J 62 = va_up P62 q x) {ρ' : List Int32} (eρ : ρ' = pil P62 q) (j15 : J 54 15 = nI nc) (hq : nc + q < i') (ha : a ≤ nc) (h2 : i' ≤ m) {κ' : List (Int32 × Int32)} (jcd : Cde J κ') : RbS X Y T P n m p a J L' i' (x :: ρ') nP o' κ' := by
  obtain ⟨_, _, _, _, _, _, hn, _, _⟩ := h
  refine ⟨t, j13, j14, j20, ⟨q + 1, nc, j19, ?_, j15, by omega, ha⟩, h2, hn, ho', j12, jcd⟩
  rw [j62, pil_up, eρ]
/-- open -/
theorem opE_y {br : Int32} (hS : Pm S) (hR : Pr R) (hK : Tks X Y T P n m p) (h : RbS X Y T P n m p a I L i ρ nP o κ) (hi : i < m) (g : o < 8) (hq : ∀ J L', RbS X Y T P n m p a J L' (i + 1) (br :: ρ) nP (o + 1) κ → Fx I J a → Q .null S J L' R) : EvM (d + 4) 172 [.ref 54, .int 1, .int br] S I L R Q := by
  obtain ⟨hT, e13, e14, e20, ⟨q, nc, e19, eq, e15, hqn, ha⟩, hm, hn, ho, e12, hcd⟩ := id h
  have m4 := hK.1
  have m5 := hK.2.1
  have g' : (nI o < (8 : Int32)) = True := eq_true (nI_lt (a := o) (b := 8) g (by decide))
  simp only [M172, E172_0, E172_1, E172_2, E172_5, E172_6, E172_9, E172_11, E172_14, E172_15, E172_18, E172_19, pk54 hS, rfs, rfn, cs0, csi, csl, csr, csn, kti, ktl, ktr, ktn, ktv, ktf, true_and, and_true, and_self, ↓reduceIte, Nat.reduceAdd, Nat.reduceSub, Nat.reduceMul, Nat.reduceLT, Nat.reduceLeDiff, Nat.reduceEqDiff, true_or, or_true, false_or, or_false, not_true_eq_false, not_false_eq_true, reduceCtorEq, cmp_lt, cmp_gt, cmp_eq, Int32.reduceAdd, Int32.reduceSub, Int32.reduceMul, Int32.reduceLT, Int32.reduceToNatClampNeg, eq_self, ne_eq, Int64.reduceAdd, Int64.reduceSub, Int64.reduceMul, Int64.reduceLT, n1_0, e20, g']
  refine muE_y hS hR hK hi hT e13 (fun J L' k1 k2 k3 => ?_)
  have j19 : J 54 19 = nI q := (k2.2 19 (by decide)).trans e19
  have j19' : put J 54 20 (J 54 20 + 1) 54 19 = nI q := by rw [pt_f (by decide)]; exact j19
  simp only [E172_19, E172_22, E172_23, E172_26, E172_29, E172_30, E172_31, E172_34, E172_35, E172_36, E172_39, E172_40, E172_41, E172_44, psh_m hS hR j19' (show q < 400 by omega), pk54 hS, rfs, rfn, cs0, csi, csl, csr, csn, kti, ktl, ktr, ktn, ktv, ktf, true_and, and_true, and_self, ↓reduceIte, Nat.reduceAdd, Nat.reduceSub, Nat.reduceMul, Nat.reduceLT, Nat.reduceLeDiff, Nat.reduceEqDiff, true_or, or_true, false_or, or_false, not_true_eq_false, not_false_eq_true, reduceCtorEq, cmp_lt, cmp_gt, cmp_eq, Int32.reduceAdd, Int32.reduceSub, Int32.reduceMul, Int32.reduceLT, Int32.reduceToNatClampNeg, eq_self, ne_eq, Int64.reduceAdd, Int64.reduceSub, Int64.reduceMul, Int64.reduceLT, k3, pt]
  refine hq _ L' (h.ps (q := q) (nc := nc) (P62 := I 62) (k1.cg ?_ (fun k h1 h2 => ?_)) ?_ ?_ ?_ (by omega) ?_ pt_s ?_ eq ?_ (by omega) ha hi ?_) (Fx.p (Fx.q (Fx.p k2.m.x (by decide)) (by decide)) (by decide))
  · rw [pt_n (by decide), pt_n (by decide), pt_n (by decide)]
  · rw [pt_f (by omega), pt_m (by decide), pt_f (by omega)]
  · rw [pt_f (by decide), pt_m (by decide), pt_f (by decide)]; exact k3
  · rw [pt_f (by decide), pt_m (by decide), pt_f (by decide)]; exact (k2.2 14 (by decide)).trans e14
  · rw [pt_f (by decide), pt_m (by decide), pt_s, k2.2 20 (by decide), e20, nI_1]
  · rw [pt_f (by decide), pt_m (by decide), pt_f (by decide)]; exact (k2.2 12 (by decide)).trans e12
  · rw [pt_n (by decide), pt_c, pt_n (by decide), k2.1 62 (by decide)]
  · rw [pt_f (by decide), pt_m (by decide), pt_f (by decide)]; exact (k2.2 15 (by decide)).trans e15
  · refine hcd.cg ?_ ?_ ?_
    · rw [pt_f (by decide), pt_m (by decide), pt_f (by decide)]; exact k2.2 15 (by decide)
    · rw [pt_n (by decide), pt_n (by decide), pt_n (by decide)]; exact k2.1 60 (by decide)
    · rw [pt_n (by decide), pt_n (by decide), pt_n (by decide)]; exact k2.1 61 (by decide)
theorem opE_n {br : Int32} {b : Bool} (hS : Pm S) (hR : Pr R) (hK : Tks X Y T P n m p) (h : RbS X Y T P n m p a I L i ρ nP o κ) (g : b = false ∨ ¬ o < 8) (hq : ∀ J L', BaS P a J i → Fx I J a → Q .null S J L' R) : EvM (d + 4) 172 [.ref 54, .int (bI b), .int br] S I L R Q := by
  obtain ⟨hT, e13, e14, e20, ⟨q, nc, e19, eq, e15, hqn, ha⟩, hm, hn, ho, e12, hcd⟩ := id h
  cases b
  · simp only [M172, E172_0, E172_1, E172_2, E172_18, E172_19, pk54 hS, rfs, rfn, cs0, csi, csl, csr, csn, kti, ktl, ktr, ktn, ktv, ktf, true_and, and_true, and_self, ↓reduceIte, Nat.reduceAdd, Nat.reduceSub, Nat.reduceMul, Nat.reduceLT, Nat.reduceLeDiff, Nat.reduceEqDiff, true_or, or_true, false_or, or_false, not_true_eq_false, not_false_eq_true, reduceCtorEq, cmp_lt, cmp_gt, cmp_eq, Int32.reduceAdd, Int32.reduceSub, Int32.reduceMul, Int32.reduceLT, Int32.reduceToNatClampNeg, eq_self, ne_eq, Int64.reduceAdd, Int64.reduceSub, Int64.reduceMul, Int64.reduceLT, bI_f]
    refine muE_n hS hR e13 (fun J k1 k2 k3 k4 => ?_)
    simp only [E172_19, E172_22, E172_23, E172_26, E172_44, pk54 hS, rfs, rfn, cs0, csi, csl, csr, csn, kti, ktl, ktr, ktn, ktv, ktf, true_and, and_true, and_self, ↓reduceIte, Nat.reduceAdd, Nat.reduceSub, Nat.reduceMul, Nat.reduceLT, Nat.reduceLeDiff, Nat.reduceEqDiff, true_or, or_true, false_or, or_false, not_true_eq_false, not_false_eq_true, reduceCtorEq, cmp_lt, cmp_gt, cmp_eq, Int32.reduceAdd, Int32.reduceSub, Int32.reduceMul, Int32.reduceLT, Int32.reduceToNatClampNeg, eq_self, ne_eq, Int64.reduceAdd, Int64.reduceSub, Int64.reduceMul, Int64.reduceLT, k2, n1_0]
    exact hq J L (h.ba hK k1 k2 k3) k1.x
  · have g8 : ¬ o < 8 := by
      rcases g with g | g
      · cases g
      · exact g
    have g' : (nI o < (8 : Int32)) = False := eq_false (nI_nlt (a := o) (b := 8) (by omega) (by omega))
    simp only [M172, E172_0, E172_1, E172_2, E172_5, E172_6, E172_9, E172_11, E172_14, E172_15, E172_18, E172_19, pk54 hS, rfs, rfn, cs0, csi, csl, csr, csn, kti, ktl, ktr, ktn, ktv, ktf, true_and, and_true, and_self, ↓reduceIte, Nat.reduceAdd, Nat.reduceSub, Nat.reduceMul, Nat.reduceLT, Nat.reduceLeDiff, Nat.reduceEqDiff, true_or, or_true, false_or, or_false, not_true_eq_false, not_false_eq_true, reduceCtorEq, cmp_lt, cmp_gt, cmp_eq, Int32.reduceAdd, Int32.reduceSub, Int32.reduceMul, Int32.reduceLT, Int32.reduceToNatClampNeg, eq_self, ne_eq, Int64.reduceAdd, Int64.reduceSub, Int64.reduceMul, Int64.reduceLT, bI_t, n1_0, e20, g']
    refine muE_n hS hR e13 (fun J k1 k2 k3 k4 => ?_)
    simp only [E172_19, E172_22, E172_23, E172_26, E172_44, pk54 hS, rfs, rfn, cs0, csi, csl, csr, csn, kti, ktl, ktr, ktn, ktv, ktf, true_and, and_true, and_self, ↓reduceIte, Nat.reduceAdd, Nat.reduceSub, Nat.reduceMul, Nat.reduceLT, Nat.reduceLeDiff, Nat.reduceEqDiff, true_or, or_true, false_or, or_false, not_true_eq_false, not_false_eq_true, reduceCtorEq, cmp_lt, cmp_gt, cmp_eq, Int32.reduceAdd, Int32.reduceSub, Int32.reduceMul, Int32.reduceLT, Int32.reduceToNatClampNeg, eq_self, ne_eq, Int64.reduceAdd, Int64.reduceSub, Int64.reduceMul, Int64.reduceLT, k2, n1_0]
    exact hq J L (h.ba hK k1 k2 k3) k1.x
/-- an operand's code stands -/
theorem RbS.em {op arg : Int32} {nc q : Nat} (h : RbS X Y T P n m p a I L i ρ nP o κ) (e19 : I 54 19 = nI q) (eq : ρ = pil (I 62) q) (ha : a ≤ nc) (hl : nc + q < i) (e15 : I 54 15 = nI nc) (hnc : nc < 400) : RbS X Y T P n m p a (put (put (put I 60 nc op) 61 nc arg) 54 15 (nI (nc + 1))) L i ρ nP o (κ ++ [(op, arg)]) := by
  obtain ⟨hT, e13, e14, e20, _, hm, hn, ho, e12, hcd⟩ := h
  refine ⟨hT.cg ?_ (fun k h1 h2 => ?_), ?_, ?_, ?_, ⟨q, nc + 1, ?_, ?_, pt_s, by omega, by omega⟩, hm, hn, ho, ?_, hcd.em e15 hnc⟩
  · rw [pt_n (by decide), pt_n (by decide), pt_n (by decide)]
  · rw [pt_f (by omega), pt_m (by decide), pt_m (by decide)]
  · rw [pt_f (by decide), pt_m (by decide), pt_m (by decide)]; exact e13
  · rw [pt_f (by decide), pt_m (by decide), pt_m (by decide)]; exact e14
  · rw [pt_f (by decide), pt_m (by decide), pt_m (by decide)]; exact e20
  · rw [pt_f (by decide), pt_m (by decide), pt_m (by decide)]; exact e19
  · rw [pt_n (by decide), pt_n (by decide), pt_n (by decide)]; exact eq
  · rw [pt_f (by decide), pt_m (by decide), pt_m (by decide)]; exact e12
theorem RbS.pa (h : RbS X Y T P n m p a I L i ρ nP o κ) (g : nP < 60) : RbS X Y T P n m p a (put I 54 14 (I 54 14 + 1)) L i ρ (nP + 1) o κ := by
  obtain ⟨hT, e13, e14, e20, ⟨q, nc, e19, eq, e15, hqn, ha⟩, hm, hn, ho, e12, hcd⟩ := h
  refine ⟨hT.cg (pt_n (by decide)) (fun k h1 h2 => pt_f (by omega)), (pt_f (by decide)).trans e13, by rw [pt_s, e14, nI_1], (pt_f (by decide)).trans e20, ⟨q, nc, (pt_f (by decide)).trans e19, ?_, (pt_f (by decide)).trans e15, hqn, ha⟩, hm, by omega, ho, (pt_f (by decide)).trans e12, hcd.cg (pt_f (by decide)) (pt_n (by decide)) (pt_n (by decide))⟩
  rw [pt_n (by decide)]
  exact eq
/-- wordAt -/
def pwv (t : Int32) : Int32 := if t = -41 then 1 else if t = -42 then 2 else if t = -43 then 3 else if t = -44 then 4 else -1
theorem wdE (hS : Pm S) (h : RTi X Y T P n m p I L i) : EvM (d + 2) 173 [.ref 54] S I L R Q = Q (.int (pwv (T i))) S I L R := by
  have e7 := h.w7
  have e8 := h.w8
  have e9 := h.w9
  have e10 := h.w10
  unfold pwv
  by_cases g1 : T i = -41
  · rw [decide_eq_true g1] at e7
    simp only [M173, E173_0, E173_1, E173_4, E173_7, E173_10, E173_11, E173_14, E173_15, E173_18, E173_21, E173_24, E173_25, E173_28, E173_29, E173_32, E173_35, E173_38, E173_39, E173_42, E173_43, E173_46, E173_49, E173_52, E173_53, E173_56, E173_57, isw hS, pk54 hS, rfs, rfn, cs0, csi, csl, csr, csn, kti, ktl, ktr, ktn, ktv, ktf, true_and, and_true, and_self, ↓reduceIte, Nat.reduceAdd, Nat.reduceSub, Nat.reduceMul, Nat.reduceLT, Nat.reduceLeDiff, Nat.reduceEqDiff, true_or, or_true, false_or, or_false, not_true_eq_false, not_false_eq_true, reduceCtorEq, cmp_lt, cmp_gt, cmp_eq, Int32.reduceAdd, Int32.reduceSub, Int32.reduceMul, Int32.reduceLT, Int32.reduceToNatClampNeg, eq_self, ne_eq, Int64.reduceAdd, Int64.reduceSub, Int64.reduceMul, Int64.reduceLT, e7, bI_t, n1_0, g1]
    try rfl
  rw [decide_eq_false g1] at e7
  by_cases g2 : T i = -42
  · rw [decide_eq_true g2] at e8
    simp only [M173, E173_0, E173_1, E173_4, E173_7, E173_10, E173_11, E173_14, E173_15, E173_18, E173_21, E173_24, E173_25, E173_28, E173_29, E173_32, E173_35, E173_38, E173_39, E173_42, E173_43, E173_46, E173_49, E173_52, E173_53, E173_56, E173_57, isw hS, pk54 hS, rfs, rfn, cs0, csi, csl, csr, csn, kti, ktl, ktr, ktn, ktv, ktf, true_and, and_true, and_self, ↓reduceIte, Nat.reduceAdd, Nat.reduceSub, Nat.reduceMul, Nat.reduceLT, Nat.reduceLeDiff, Nat.reduceEqDiff, true_or, or_true, false_or, or_false, not_true_eq_false, not_false_eq_true, reduceCtorEq, cmp_lt, cmp_gt, cmp_eq, Int32.reduceAdd, Int32.reduceSub, Int32.reduceMul, Int32.reduceLT, Int32.reduceToNatClampNeg, eq_self, ne_eq, Int64.reduceAdd, Int64.reduceSub, Int64.reduceMul, Int64.reduceLT, e7, e8, bI_f, bI_t, n1_0, g1, g2]
    try rfl
  rw [decide_eq_false g2] at e8
  by_cases g3 : T i = -43
  · rw [decide_eq_true g3] at e9
    simp only [M173, E173_0, E173_1, E173_4, E173_7, E173_10, E173_11, E173_14, E173_15, E173_18, E173_21, E173_24, E173_25, E173_28, E173_29, E173_32, E173_35, E173_38, E173_39, E173_42, E173_43, E173_46, E173_49, E173_52, E173_53, E173_56, E173_57, isw hS, pk54 hS, rfs, rfn, cs0, csi, csl, csr, csn, kti, ktl, ktr, ktn, ktv, ktf, true_and, and_true, and_self, ↓reduceIte, Nat.reduceAdd, Nat.reduceSub, Nat.reduceMul, Nat.reduceLT, Nat.reduceLeDiff, Nat.reduceEqDiff, true_or, or_true, false_or, or_false, not_true_eq_false, not_false_eq_true, reduceCtorEq, cmp_lt, cmp_gt, cmp_eq, Int32.reduceAdd, Int32.reduceSub, Int32.reduceMul, Int32.reduceLT, Int32.reduceToNatClampNeg, eq_self, ne_eq, Int64.reduceAdd, Int64.reduceSub, Int64.reduceMul, Int64.reduceLT, e7, e8, e9, bI_f, bI_t, n1_0, g1, g2, g3]
    try rfl
  rw [decide_eq_false g3] at e9
  by_cases g4 : T i = -44
  · rw [decide_eq_true g4] at e10
    simp only [M173, E173_0, E173_1, E173_4, E173_7, E173_10, E173_11, E173_14, E173_15, E173_18, E173_21, E173_24, E173_25, E173_28, E173_29, E173_32, E173_35, E173_38, E173_39, E173_42, E173_43, E173_46, E173_49, E173_52, E173_53, E173_56, E173_57, isw hS, pk54 hS, rfs, rfn, cs0, csi, csl, csr, csn, kti, ktl, ktr, ktn, ktv, ktf, true_and, and_true, and_self, ↓reduceIte, Nat.reduceAdd, Nat.reduceSub, Nat.reduceMul, Nat.reduceLT, Nat.reduceLeDiff, Nat.reduceEqDiff, true_or, or_true, false_or, or_false, not_true_eq_false, not_false_eq_true, reduceCtorEq, cmp_lt, cmp_gt, cmp_eq, Int32.reduceAdd, Int32.reduceSub, Int32.reduceMul, Int32.reduceLT, Int32.reduceToNatClampNeg, eq_self, ne_eq, Int64.reduceAdd, Int64.reduceSub, Int64.reduceMul, Int64.reduceLT, e7, e8, e9, e10, bI_f, bI_t, n1_0, g1, g2, g3, g4]
    try rfl
  rw [decide_eq_false g4] at e10
  simp only [M173, E173_0, E173_1, E173_4, E173_7, E173_10, E173_11, E173_14, E173_15, E173_18, E173_21, E173_24, E173_25, E173_28, E173_29, E173_32, E173_35, E173_38, E173_39, E173_42, E173_43, E173_46, E173_49, E173_52, E173_53, E173_56, E173_57, isw hS, pk54 hS, rfs, rfn, cs0, csi, csl, csr, csn, kti, ktl, ktr, ktn, ktv, ktf, true_and, and_true, and_self, ↓reduceIte, Nat.reduceAdd, Nat.reduceSub, Nat.reduceMul, Nat.reduceLT, Nat.reduceLeDiff, Nat.reduceEqDiff, true_or, or_true, false_or, or_false, not_true_eq_false, not_false_eq_true, reduceCtorEq, cmp_lt, cmp_gt, cmp_eq, Int32.reduceAdd, Int32.reduceSub, Int32.reduceMul, Int32.reduceLT, Int32.reduceToNatClampNeg, eq_self, ne_eq, Int64.reduceAdd, Int64.reduceSub, Int64.reduceMul, Int64.reduceLT, e7, e8, e9, e10, bI_f, g1, g2, g3, g4]
  try rfl
/-- readPart -/
theorem rpA1 (hS : Pm S) (hR : Pr R) (hK : Tks X Y T P n m p) (h : RbS X Y T P n m p a I L i ρ 60 o κ) (hq : ∀ J L', BaS P a J i → Fx I J a → Q (.int (nI 4)) S J L' R) : EvM (d + 5) 174 [.ref 54] S I L R Q := by
  have g0 : (I 54 14 = 60) = True := eq_true h.2.2.1
  simp only [M174, E174_0, E174_1, E174_4, E174_6, E174_9, E174_10, pk54 hS, rfs, rfn, cs0, csi, csl, csr, csn, kti, ktl, ktr, ktn, ktv, ktf, true_and, and_true, and_self, ↓reduceIte, Nat.reduceAdd, Nat.reduceSub, Nat.reduceMul, Nat.reduceLT, Nat.reduceLeDiff, Nat.reduceEqDiff, true_or, or_true, false_or, or_false, not_true_eq_false, not_false_eq_true, reduceCtorEq, cmp_lt, cmp_gt, cmp_eq, Int32.reduceAdd, Int32.reduceSub, Int32.reduceMul, Int32.reduceLT, Int32.reduceToNatClampNeg, eq_self, ne_eq, Int64.reduceAdd, Int64.reduceSub, Int64.reduceMul, Int64.reduceLT, g0]
  refine wrE hS h.2.1 (fun J k1 k2 k3 k4 => ?_)
  simp only [E174_10, E174_13, E174_14, rfs, rfn, cs0, csi, csl, csr, csn, kti, ktl, ktr, ktn, ktv, ktf, true_and, and_true, and_self, ↓reduceIte, Nat.reduceAdd, Nat.reduceSub, Nat.reduceMul, Nat.reduceLT, Nat.reduceLeDiff, Nat.reduceEqDiff, true_or, or_true, false_or, or_false, not_true_eq_false, not_false_eq_true, reduceCtorEq, cmp_lt, cmp_gt, cmp_eq, Int32.reduceAdd, Int32.reduceSub, Int32.reduceMul, Int32.reduceLT, Int32.reduceToNatClampNeg, eq_self, ne_eq, Int64.reduceAdd, Int64.reduceSub, Int64.reduceMul, Int64.reduceLT]
  exact hq J L (h.ba hK k1 k2 k3) k1.x
theorem rpA2 (hS : Pm S) (hR : Pr R) (hK : Tks X Y T P n m p) (h : RbS X Y T P n m p a I L i ρ nP o κ) (hn : nP < 60) (q1 : T i = -191) (go : o < 8) (hq : ∀ J L', RbS X Y T P n m p a J L' (i + 1) (31 :: ρ) (nP + 1) (o + 1) κ → Fx I J a → Q (.int (nI 1)) S J L' R) : EvM (d + 5) 174 [.ref 54] S I L R Q := by
  have g0 : ¬ I 54 14 = 60 := fun z => by
    have q := (nI_eq (a := nP) (b := 60) (by omega) (by decide)).mp (h.2.2.1.symm.trans z)
    omega
  simp only [M174, E174_0, E174_1, E174_4, E174_6, E174_9, E174_10, E174_13, E174_14, E174_15, E174_16, E174_17, E174_20, E174_21, E174_22, E174_25, pk54 hS, rfs, rfn, cs0, csi, csl, csr, csn, kti, ktl, ktr, ktn, ktv, ktf, true_and, and_true, and_self, ↓reduceIte, Nat.reduceAdd, Nat.reduceSub, Nat.reduceMul, Nat.reduceLT, Nat.reduceLeDiff, Nat.reduceEqDiff, true_or, or_true, false_or, or_false, not_true_eq_false, not_false_eq_true, reduceCtorEq, cmp_lt, cmp_gt, cmp_eq, Int32.reduceAdd, Int32.reduceSub, Int32.reduceMul, Int32.reduceLT, Int32.reduceToNatClampNeg, eq_self, ne_eq, Int64.reduceAdd, Int64.reduceSub, Int64.reduceMul, Int64.reduceLT, g0, pt]
  have hK1 := h.pa hn
  have F0 : Fx I (put I 54 14 (I 54 14 + 1)) a := Fx.p Fx.rf (by decide)
  generalize put I 54 14 (I 54 14 + 1) = K at hK1 F0
  obtain ⟨q, nc, e19, eq, e15, hqn, ha⟩ := hK1.2.2.2.2.1
  have m4 := hK.1
  have m5 := hK.2.1
  have g1 : sgB K L 91 = true := by rw [hK1.1.sg (x := 91) (c := 91) (by decide) rfl]; exact decide_eq_true (by rw [q1]; decide)
  simp only [E174_26, E174_28, E174_31, E174_34, E174_35, E174_36, E174_38, isg hS, pk54 hS, rfs, rfn, cs0, csi, csl, csr, csn, kti, ktl, ktr, ktn, ktv, ktf, true_and, and_true, and_self, ↓reduceIte, Nat.reduceAdd, Nat.reduceSub, Nat.reduceMul, Nat.reduceLT, Nat.reduceLeDiff, Nat.reduceEqDiff, true_or, or_true, false_or, or_false, not_true_eq_false, not_false_eq_true, reduceCtorEq, cmp_lt, cmp_gt, cmp_eq, Int32.reduceAdd, Int32.reduceSub, Int32.reduceMul, Int32.reduceLT, Int32.reduceToNatClampNeg, eq_self, ne_eq, Int64.reduceAdd, Int64.reduceSub, Int64.reduceMul, Int64.reduceLT, g1, bI_t, n1_0]
  refine opE_y (d := d) hS hR hK hK1 (hK1.lt hK (by rw [q1]; decide)) go (fun J L' k1 k2 => ?_)
  simp only [E174_38, E174_41, E174_42, rfs, rfn, cs0, csi, csl, csr, csn, kti, ktl, ktr, ktn, ktv, ktf, true_and, and_true, and_self, ↓reduceIte, Nat.reduceAdd, Nat.reduceSub, Nat.reduceMul, Nat.reduceLT, Nat.reduceLeDiff, Nat.reduceEqDiff, true_or, or_true, false_or, or_false, not_true_eq_false, not_false_eq_true, reduceCtorEq, cmp_lt, cmp_gt, cmp_eq, Int32.reduceAdd, Int32.reduceSub, Int32.reduceMul, Int32.reduceLT, Int32.reduceToNatClampNeg, eq_self, ne_eq, Int64.reduceAdd, Int64.reduceSub, Int64.reduceMul, Int64.reduceLT]
  exact hq J L' k1 (F0.tr k2)
theorem rpA3 (hS : Pm S) (hR : Pr R) (hK : Tks X Y T P n m p) (h : RbS X Y T P n m p a I L i ρ nP o κ) (hn : nP < 60) (q1 : T i = -191) (go : ¬ o < 8) (hq : ∀ J L', BaS P a J i → Fx I J a → Q (.int (nI 1)) S J L' R) : EvM (d + 5) 174 [.ref 54] S I L R Q := by
  have g0 : ¬ I 54 14 = 60 := fun z => by
    have q := (nI_eq (a := nP) (b := 60) (by omega) (by decide)).mp (h.2.2.1.symm.trans z)
    omega
  simp only [M174, E174_0, E174_1, E174_4, E174_6, E174_9, E174_10, E174_13, E174_14, E174_15, E174_16, E174_17, E174_20, E174_21, E174_22, E174_25, pk54 hS, rfs, rfn, cs0, csi, csl, csr, csn, kti, ktl, ktr, ktn, ktv, ktf, true_and, and_true, and_self, ↓reduceIte, Nat.reduceAdd, Nat.reduceSub, Nat.reduceMul, Nat.reduceLT, Nat.reduceLeDiff, Nat.reduceEqDiff, true_or, or_true, false_or, or_false, not_true_eq_false, not_false_eq_true, reduceCtorEq, cmp_lt, cmp_gt, cmp_eq, Int32.reduceAdd, Int32.reduceSub, Int32.reduceMul, Int32.reduceLT, Int32.reduceToNatClampNeg, eq_self, ne_eq, Int64.reduceAdd, Int64.reduceSub, Int64.reduceMul, Int64.reduceLT, g0, pt]
  have hK1 := h.pa hn
  have F0 : Fx I (put I 54 14 (I 54 14 + 1)) a := Fx.p Fx.rf (by decide)
  generalize put I 54 14 (I 54 14 + 1) = K at hK1 F0
  obtain ⟨q, nc, e19, eq, e15, hqn, ha⟩ := hK1.2.2.2.2.1
  have m4 := hK.1
  have m5 := hK.2.1
  have g1 : sgB K L 91 = true := by rw [hK1.1.sg (x := 91) (c := 91) (by decide) rfl]; exact decide_eq_true (by rw [q1]; decide)
  simp only [E174_26, E174_28, E174_31, E174_34, E174_35, E174_36, E174_38, isg hS, pk54 hS, rfs, rfn, cs0, csi, csl, csr, csn, kti, ktl, ktr, ktn, ktv, ktf, true_and, and_true, and_self, ↓reduceIte, Nat.reduceAdd, Nat.reduceSub, Nat.reduceMul, Nat.reduceLT, Nat.reduceLeDiff, Nat.reduceEqDiff, true_or, or_true, false_or, or_false, not_true_eq_false, not_false_eq_true, reduceCtorEq, cmp_lt, cmp_gt, cmp_eq, Int32.reduceAdd, Int32.reduceSub, Int32.reduceMul, Int32.reduceLT, Int32.reduceToNatClampNeg, eq_self, ne_eq, Int64.reduceAdd, Int64.reduceSub, Int64.reduceMul, Int64.reduceLT, g1, bI_t, n1_0]
  refine opE_n (d := d) (b := true) hS hR hK hK1 (Or.inr go) (fun J L' k1 k2 => ?_)
  simp only [E174_38, E174_41, E174_42, rfs, rfn, cs0, csi, csl, csr, csn, kti, ktl, ktr, ktn, ktv, ktf, true_and, and_true, and_self, ↓reduceIte, Nat.reduceAdd, Nat.reduceSub, Nat.reduceMul, Nat.reduceLT, Nat.reduceLeDiff, Nat.reduceEqDiff, true_or, or_true, false_or, or_false, not_true_eq_false, not_false_eq_true, reduceCtorEq, cmp_lt, cmp_gt, cmp_eq, Int32.reduceAdd, Int32.reduceSub, Int32.reduceMul, Int32.reduceLT, Int32.reduceToNatClampNeg, eq_self, ne_eq, Int64.reduceAdd, Int64.reduceSub, Int64.reduceMul, Int64.reduceLT]
  exact hq J L' k1 (F0.tr k2)
theorem rpA4 (hS : Pm S) (hR : Pr R) (hK : Tks X Y T P n m p) (h : RbS X Y T P n m p a I L i ρ nP o κ) (hn : nP < 60) (q5 : rIh (T i)) (g40 : T (i + 1) = -140) (go : o < 8) (hq : ∀ J L', RbS X Y T P n m p a J L' (i + 2) ((if T i = -45 then (32 : Int32) else 33) :: ρ) (nP + 1) (o + 1) κ → Fx I J a → Q (.int (nI 1)) S J L' R) : EvM (d + 5) 174 [.ref 54] S I L R Q := by
  have q1 : ¬ T i = -191 := by rcases q5 with q | q <;> (rw [q]; decide)
  have g0 : ¬ I 54 14 = 60 := fun z => by
    have q := (nI_eq (a := nP) (b := 60) (by omega) (by decide)).mp (h.2.2.1.symm.trans z)
    omega
  simp only [M174, E174_0, E174_1, E174_4, E174_6, E174_9, E174_10, E174_13, E174_14, E174_15, E174_16, E174_17, E174_20, E174_21, E174_22, E174_25, pk54 hS, rfs, rfn, cs0, csi, csl, csr, csn, kti, ktl, ktr, ktn, ktv, ktf, true_and, and_true, and_self, ↓reduceIte, Nat.reduceAdd, Nat.reduceSub, Nat.reduceMul, Nat.reduceLT, Nat.reduceLeDiff, Nat.reduceEqDiff, true_or, or_true, false_or, or_false, not_true_eq_false, not_false_eq_true, reduceCtorEq, cmp_lt, cmp_gt, cmp_eq, Int32.reduceAdd, Int32.reduceSub, Int32.reduceMul, Int32.reduceLT, Int32.reduceToNatClampNeg, eq_self, ne_eq, Int64.reduceAdd, Int64.reduceSub, Int64.reduceMul, Int64.reduceLT, g0, pt]
  have hK1 := h.pa hn
  have F0 : Fx I (put I 54 14 (I 54 14 + 1)) a := Fx.p Fx.rf (by decide)
  generalize put I 54 14 (I 54 14 + 1) = K at hK1 F0
  obtain ⟨q, nc, e19, eq, e15, hqn, ha⟩ := hK1.2.2.2.2.1
  have m4 := hK.1
  have m5 := hK.2.1
  have g1 : sgB K L 91 = false := by rw [hK1.1.sg (x := 91) (c := 91) (by decide) rfl]; exact decide_eq_false (fun z => q1 (z.trans (by decide)))
  have hi : i < m := hK1.lt hK (by rcases q5 with q | q <;> (rw [q]; decide))
  have e5 := hK1.1.w5
  have e6 := hK1.1.w6
  by_cases q : T i = -45
  · rw [decide_eq_true q] at e5
    simp only [E174_26, E174_28, E174_31, E174_34, E174_35, E174_36, E174_38, E174_41, E174_42, E174_43, E174_44, E174_47, E174_50, E174_53, E174_54, E174_57, E174_60, E174_63, E174_64, E174_67, E174_70, E174_73, E174_75, E174_78, E174_80, E174_81, E174_82, isg hS, isw hS, pk54 hS, rfs, rfn, cs0, csi, csl, csr, csn, kti, ktl, ktr, ktn, ktv, ktf, true_and, and_true, and_self, ↓reduceIte, Nat.reduceAdd, Nat.reduceSub, Nat.reduceMul, Nat.reduceLT, Nat.reduceLeDiff, Nat.reduceEqDiff, true_or, or_true, false_or, or_false, not_true_eq_false, not_false_eq_true, reduceCtorEq, cmp_lt, cmp_gt, cmp_eq, Int32.reduceAdd, Int32.reduceSub, Int32.reduceMul, Int32.reduceLT, Int32.reduceToNatClampNeg, eq_self, ne_eq, Int64.reduceAdd, Int64.reduceSub, Int64.reduceMul, Int64.reduceLT, g1, e5, bI_f, bI_t, n1_0]
    refine nxT_E hS hR hK hi hK1.1 (fun J L' k1 k2 => ?_)
    have j1 := hK1.nx k2 k1 (Nat.le_succ i) hi
    have g4 := j1.1.sg (x := 40) (c := 40) (by decide) rfl
    rw [decide_eq_true (show T (i + 1) = -100 - 40 by rw [g40]; decide)] at g4
    simp only [E174_82, E174_85, E174_86, E174_87, E174_89, E174_92, E174_93, isg hS, pk54 hS, rfs, rfn, cs0, csi, csl, csr, csn, kti, ktl, ktr, ktn, ktv, ktf, true_and, and_true, and_self, ↓reduceIte, Nat.reduceAdd, Nat.reduceSub, Nat.reduceMul, Nat.reduceLT, Nat.reduceLeDiff, Nat.reduceEqDiff, true_or, or_true, false_or, or_false, not_true_eq_false, not_false_eq_true, reduceCtorEq, cmp_lt, cmp_gt, cmp_eq, Int32.reduceAdd, Int32.reduceSub, Int32.reduceMul, Int32.reduceLT, Int32.reduceToNatClampNeg, eq_self, ne_eq, Int64.reduceAdd, Int64.reduceSub, Int64.reduceMul, Int64.reduceLT, g4, bI_t]
    refine opE_y (d := d) (br := 32) hS hR hK j1 (j1.lt hK (by rw [g40]; decide)) go (fun J2 L2 w1 w2 => ?_)
    simp only [E174_93, E174_96, E174_97, rfs, rfn, cs0, csi, csl, csr, csn, kti, ktl, ktr, ktn, ktv, ktf, true_and, and_true, and_self, ↓reduceIte, Nat.reduceAdd, Nat.reduceSub, Nat.reduceMul, Nat.reduceLT, Nat.reduceLeDiff, Nat.reduceEqDiff, true_or, or_true, false_or, or_false, not_true_eq_false, not_false_eq_true, reduceCtorEq, cmp_lt, cmp_gt, cmp_eq, Int32.reduceAdd, Int32.reduceSub, Int32.reduceMul, Int32.reduceLT, Int32.reduceToNatClampNeg, eq_self, ne_eq, Int64.reduceAdd, Int64.reduceSub, Int64.reduceMul, Int64.reduceLT]
    refine hq J2 L2 ?_ ((F0.tr k2.m.x).tr w2)
    rw [if_pos q]
    exact w1
  · have q6 : T i = -46 := Or.elim q5 (fun z => absurd z q) (fun z => z)
    rw [decide_eq_false q] at e5
    rw [decide_eq_true q6] at e6
    simp only [E174_26, E174_28, E174_31, E174_34, E174_35, E174_36, E174_38, E174_41, E174_42, E174_43, E174_44, E174_47, E174_50, E174_53, E174_54, E174_57, E174_60, E174_63, E174_64, E174_67, E174_70, E174_73, E174_75, E174_78, E174_80, E174_81, E174_82, isg hS, isw hS, pk54 hS, rfs, rfn, cs0, csi, csl, csr, csn, kti, ktl, ktr, ktn, ktv, ktf, true_and, and_true, and_self, ↓reduceIte, Nat.reduceAdd, Nat.reduceSub, Nat.reduceMul, Nat.reduceLT, Nat.reduceLeDiff, Nat.reduceEqDiff, true_or, or_true, false_or, or_false, not_true_eq_false, not_false_eq_true, reduceCtorEq, cmp_lt, cmp_gt, cmp_eq, Int32.reduceAdd, Int32.reduceSub, Int32.reduceMul, Int32.reduceLT, Int32.reduceToNatClampNeg, eq_self, ne_eq, Int64.reduceAdd, Int64.reduceSub, Int64.reduceMul, Int64.reduceLT, g1, e5, e6, bI_f, bI_t, n1_0]
    refine nxT_E hS hR hK hi hK1.1 (fun J L' k1 k2 => ?_)
    have j1 := hK1.nx k2 k1 (Nat.le_succ i) hi
    have g4 := j1.1.sg (x := 40) (c := 40) (by decide) rfl
    rw [decide_eq_true (show T (i + 1) = -100 - 40 by rw [g40]; decide)] at g4
    simp only [E174_82, E174_85, E174_86, E174_87, E174_89, E174_92, E174_93, isg hS, pk54 hS, rfs, rfn, cs0, csi, csl, csr, csn, kti, ktl, ktr, ktn, ktv, ktf, true_and, and_true, and_self, ↓reduceIte, Nat.reduceAdd, Nat.reduceSub, Nat.reduceMul, Nat.reduceLT, Nat.reduceLeDiff, Nat.reduceEqDiff, true_or, or_true, false_or, or_false, not_true_eq_false, not_false_eq_true, reduceCtorEq, cmp_lt, cmp_gt, cmp_eq, Int32.reduceAdd, Int32.reduceSub, Int32.reduceMul, Int32.reduceLT, Int32.reduceToNatClampNeg, eq_self, ne_eq, Int64.reduceAdd, Int64.reduceSub, Int64.reduceMul, Int64.reduceLT, g4, bI_t]
    refine opE_y (d := d) (br := 33) hS hR hK j1 (j1.lt hK (by rw [g40]; decide)) go (fun J2 L2 w1 w2 => ?_)
    simp only [E174_93, E174_96, E174_97, rfs, rfn, cs0, csi, csl, csr, csn, kti, ktl, ktr, ktn, ktv, ktf, true_and, and_true, and_self, ↓reduceIte, Nat.reduceAdd, Nat.reduceSub, Nat.reduceMul, Nat.reduceLT, Nat.reduceLeDiff, Nat.reduceEqDiff, true_or, or_true, false_or, or_false, not_true_eq_false, not_false_eq_true, reduceCtorEq, cmp_lt, cmp_gt, cmp_eq, Int32.reduceAdd, Int32.reduceSub, Int32.reduceMul, Int32.reduceLT, Int32.reduceToNatClampNeg, eq_self, ne_eq, Int64.reduceAdd, Int64.reduceSub, Int64.reduceMul, Int64.reduceLT]
    refine hq J2 L2 ?_ ((F0.tr k2.m.x).tr w2)
    rw [if_neg q]
    exact w1
theorem rpA5 (hS : Pm S) (hR : Pr R) (hK : Tks X Y T P n m p) (h : RbS X Y T P n m p a I L i ρ nP o κ) (hn : nP < 60) (q5 : rIh (T i)) (gq : ¬ (T (i + 1) = -140 ∧ o < 8)) (hq : ∀ J L', BaS P a J (i + 1) → Fx I J a → Q (.int (nI 1)) S J L' R) : EvM (d + 5) 174 [.ref 54] S I L R Q := by
  have q1 : ¬ T i = -191 := by rcases q5 with q | q <;> (rw [q]; decide)
  have g0 : ¬ I 54 14 = 60 := fun z => by
    have q := (nI_eq (a := nP) (b := 60) (by omega) (by decide)).mp (h.2.2.1.symm.trans z)
    omega
  simp only [M174, E174_0, E174_1, E174_4, E174_6, E174_9, E174_10, E174_13, E174_14, E174_15, E174_16, E174_17, E174_20, E174_21, E174_22, E174_25, pk54 hS, rfs, rfn, cs0, csi, csl, csr, csn, kti, ktl, ktr, ktn, ktv, ktf, true_and, and_true, and_self, ↓reduceIte, Nat.reduceAdd, Nat.reduceSub, Nat.reduceMul, Nat.reduceLT, Nat.reduceLeDiff, Nat.reduceEqDiff, true_or, or_true, false_or, or_false, not_true_eq_false, not_false_eq_true, reduceCtorEq, cmp_lt, cmp_gt, cmp_eq, Int32.reduceAdd, Int32.reduceSub, Int32.reduceMul, Int32.reduceLT, Int32.reduceToNatClampNeg, eq_self, ne_eq, Int64.reduceAdd, Int64.reduceSub, Int64.reduceMul, Int64.reduceLT, g0, pt]
  have hK1 := h.pa hn
  have F0 : Fx I (put I 54 14 (I 54 14 + 1)) a := Fx.p Fx.rf (by decide)
  generalize put I 54 14 (I 54 14 + 1) = K at hK1 F0
  obtain ⟨q, nc, e19, eq, e15, hqn, ha⟩ := hK1.2.2.2.2.1
  have m4 := hK.1
  have m5 := hK.2.1
  have g1 : sgB K L 91 = false := by rw [hK1.1.sg (x := 91) (c := 91) (by decide) rfl]; exact decide_eq_false (fun z => q1 (z.trans (by decide)))
  have hi : i < m := hK1.lt hK (by rcases q5 with q | q <;> (rw [q]; decide))
  have e5 := hK1.1.w5
  have e6 := hK1.1.w6
  by_cases q : T i = -45
  · rw [decide_eq_true q] at e5
    simp only [E174_26, E174_28, E174_31, E174_34, E174_35, E174_36, E174_38, E174_41, E174_42, E174_43, E174_44, E174_47, E174_50, E174_53, E174_54, E174_57, E174_60, E174_63, E174_64, E174_67, E174_70, E174_73, E174_75, E174_78, E174_80, E174_81, E174_82, isg hS, isw hS, pk54 hS, rfs, rfn, cs0, csi, csl, csr, csn, kti, ktl, ktr, ktn, ktv, ktf, true_and, and_true, and_self, ↓reduceIte, Nat.reduceAdd, Nat.reduceSub, Nat.reduceMul, Nat.reduceLT, Nat.reduceLeDiff, Nat.reduceEqDiff, true_or, or_true, false_or, or_false, not_true_eq_false, not_false_eq_true, reduceCtorEq, cmp_lt, cmp_gt, cmp_eq, Int32.reduceAdd, Int32.reduceSub, Int32.reduceMul, Int32.reduceLT, Int32.reduceToNatClampNeg, eq_self, ne_eq, Int64.reduceAdd, Int64.reduceSub, Int64.reduceMul, Int64.reduceLT, g1, e5, bI_f, bI_t, n1_0]
    refine nxT_E hS hR hK hi hK1.1 (fun J L' k1 k2 => ?_)
    have j1 := hK1.nx k2 k1 (Nat.le_succ i) hi
    have g4 := j1.1.sg (x := 40) (c := 40) (by decide) rfl
    simp only [E174_82, E174_85, E174_86, E174_87, E174_89, E174_92, E174_93, isg hS, pk54 hS, rfs, rfn, cs0, csi, csl, csr, csn, kti, ktl, ktr, ktn, ktv, ktf, true_and, and_true, and_self, ↓reduceIte, Nat.reduceAdd, Nat.reduceSub, Nat.reduceMul, Nat.reduceLT, Nat.reduceLeDiff, Nat.reduceEqDiff, true_or, or_true, false_or, or_false, not_true_eq_false, not_false_eq_true, reduceCtorEq, cmp_lt, cmp_gt, cmp_eq, Int32.reduceAdd, Int32.reduceSub, Int32.reduceMul, Int32.reduceLT, Int32.reduceToNatClampNeg, eq_self, ne_eq, Int64.reduceAdd, Int64.reduceSub, Int64.reduceMul, Int64.reduceLT]
    refine opE_n (d := d) (br := 32) hS hR hK j1 ?_ (fun J2 L2 w1 w2 => ?_)
    · rw [g4]
      by_cases z : o < 8
      · exact Or.inl (decide_eq_false (fun y => gq ⟨y.trans (by decide), z⟩))
      · exact Or.inr z
    simp only [E174_93, E174_96, E174_97, rfs, rfn, cs0, csi, csl, csr, csn, kti, ktl, ktr, ktn, ktv, ktf, true_and, and_true, and_self, ↓reduceIte, Nat.reduceAdd, Nat.reduceSub, Nat.reduceMul, Nat.reduceLT, Nat.reduceLeDiff, Nat.reduceEqDiff, true_or, or_true, false_or, or_false, not_true_eq_false, not_false_eq_true, reduceCtorEq, cmp_lt, cmp_gt, cmp_eq, Int32.reduceAdd, Int32.reduceSub, Int32.reduceMul, Int32.reduceLT, Int32.reduceToNatClampNeg, eq_self, ne_eq, Int64.reduceAdd, Int64.reduceSub, Int64.reduceMul, Int64.reduceLT]
    exact hq J2 L2 w1 ((F0.tr k2.m.x).tr w2)
  · have q6 : T i = -46 := Or.elim q5 (fun z => absurd z q) (fun z => z)
    rw [decide_eq_false q] at e5
    rw [decide_eq_true q6] at e6
    simp only [E174_26, E174_28, E174_31, E174_34, E174_35, E174_36, E174_38, E174_41, E174_42, E174_43, E174_44, E174_47, E174_50, E174_53, E174_54, E174_57, E174_60, E174_63, E174_64, E174_67, E174_70, E174_73, E174_75, E174_78, E174_80, E174_81, E174_82, isg hS, isw hS, pk54 hS, rfs, rfn, cs0, csi, csl, csr, csn, kti, ktl, ktr, ktn, ktv, ktf, true_and, and_true, and_self, ↓reduceIte, Nat.reduceAdd, Nat.reduceSub, Nat.reduceMul, Nat.reduceLT, Nat.reduceLeDiff, Nat.reduceEqDiff, true_or, or_true, false_or, or_false, not_true_eq_false, not_false_eq_true, reduceCtorEq, cmp_lt, cmp_gt, cmp_eq, Int32.reduceAdd, Int32.reduceSub, Int32.reduceMul, Int32.reduceLT, Int32.reduceToNatClampNeg, eq_self, ne_eq, Int64.reduceAdd, Int64.reduceSub, Int64.reduceMul, Int64.reduceLT, g1, e5, e6, bI_f, bI_t, n1_0]
    refine nxT_E hS hR hK hi hK1.1 (fun J L' k1 k2 => ?_)
    have j1 := hK1.nx k2 k1 (Nat.le_succ i) hi
    have g4 := j1.1.sg (x := 40) (c := 40) (by decide) rfl
    simp only [E174_82, E174_85, E174_86, E174_87, E174_89, E174_92, E174_93, isg hS, pk54 hS, rfs, rfn, cs0, csi, csl, csr, csn, kti, ktl, ktr, ktn, ktv, ktf, true_and, and_true, and_self, ↓reduceIte, Nat.reduceAdd, Nat.reduceSub, Nat.reduceMul, Nat.reduceLT, Nat.reduceLeDiff, Nat.reduceEqDiff, true_or, or_true, false_or, or_false, not_true_eq_false, not_false_eq_true, reduceCtorEq, cmp_lt, cmp_gt, cmp_eq, Int32.reduceAdd, Int32.reduceSub, Int32.reduceMul, Int32.reduceLT, Int32.reduceToNatClampNeg, eq_self, ne_eq, Int64.reduceAdd, Int64.reduceSub, Int64.reduceMul, Int64.reduceLT]
    refine opE_n (d := d) (br := 33) hS hR hK j1 ?_ (fun J2 L2 w1 w2 => ?_)
    · rw [g4]
      by_cases z : o < 8
      · exact Or.inl (decide_eq_false (fun y => gq ⟨y.trans (by decide), z⟩))
      · exact Or.inr z
    simp only [E174_93, E174_96, E174_97, rfs, rfn, cs0, csi, csl, csr, csn, kti, ktl, ktr, ktn, ktv, ktf, true_and, and_true, and_self, ↓reduceIte, Nat.reduceAdd, Nat.reduceSub, Nat.reduceMul, Nat.reduceLT, Nat.reduceLeDiff, Nat.reduceEqDiff, true_or, or_true, false_or, or_false, not_true_eq_false, not_false_eq_true, reduceCtorEq, cmp_lt, cmp_gt, cmp_eq, Int32.reduceAdd, Int32.reduceSub, Int32.reduceMul, Int32.reduceLT, Int32.reduceToNatClampNeg, eq_self, ne_eq, Int64.reduceAdd, Int64.reduceSub, Int64.reduceMul, Int64.reduceLT]
    exact hq J2 L2 w1 ((F0.tr k2.m.x).tr w2)
theorem rpA6 (hS : Pm S) (hR : Pr R) (hK : Tks X Y T P n m p) (h : RbS X Y T P n m p a I L i ρ nP o κ) (hn : nP < 60) (q6 : rPw (T i)) (hq : ∀ J L', RbS X Y T P n m p a J L' (i + 1) ρ (nP + 1) o (κ ++ [(-40 - T i, 0)]) → Fx I J a → Q (.int (nI 3)) S J L' R) : EvM (d + 5) 174 [.ref 54] S I L R Q := by
  have q1 : ¬ T i = -191 := by rcases q6 with q | q | q | q <;> (rw [q]; decide)
  have q5 : ¬ rIh (T i) := fun z => by rcases q6 with q | q | q | q <;> (rw [q] at z; exact absurd z (by unfold rIh; decide))
  have qv : ¬ pwv (T i) = -1 := by rcases q6 with q | q | q | q <;> (rw [q]; decide)
  have g0 : ¬ I 54 14 = 60 := fun z => by
    have q := (nI_eq (a := nP) (b := 60) (by omega) (by decide)).mp (h.2.2.1.symm.trans z)
    omega
  simp only [M174, E174_0, E174_1, E174_4, E174_6, E174_9, E174_10, E174_13, E174_14, E174_15, E174_16, E174_17, E174_20, E174_21, E174_22, E174_25, pk54 hS, rfs, rfn, cs0, csi, csl, csr, csn, kti, ktl, ktr, ktn, ktv, ktf, true_and, and_true, and_self, ↓reduceIte, Nat.reduceAdd, Nat.reduceSub, Nat.reduceMul, Nat.reduceLT, Nat.reduceLeDiff, Nat.reduceEqDiff, true_or, or_true, false_or, or_false, not_true_eq_false, not_false_eq_true, reduceCtorEq, cmp_lt, cmp_gt, cmp_eq, Int32.reduceAdd, Int32.reduceSub, Int32.reduceMul, Int32.reduceLT, Int32.reduceToNatClampNeg, eq_self, ne_eq, Int64.reduceAdd, Int64.reduceSub, Int64.reduceMul, Int64.reduceLT, g0, pt]
  have hK1 := h.pa hn
  have F0 : Fx I (put I 54 14 (I 54 14 + 1)) a := Fx.p Fx.rf (by decide)
  generalize put I 54 14 (I 54 14 + 1) = K at hK1 F0
  obtain ⟨q, nc, e19, eq, e15, hqn, ha⟩ := hK1.2.2.2.2.1
  have m4 := hK.1
  have m5 := hK.2.1
  have g1 : sgB K L 91 = false := by rw [hK1.1.sg (x := 91) (c := 91) (by decide) rfl]; exact decide_eq_false (fun z => q1 (z.trans (by decide)))
  have hi : i < m := hK1.lt hK (by rcases q6 with q | q | q | q <;> (rw [q]; decide))
  have e5 := hK1.1.w5
  have e6 := hK1.1.w6
  rw [decide_eq_false (fun z => q5 (Or.inl z))] at e5
  rw [decide_eq_false (fun z => q5 (Or.inr z))] at e6
  simp only [E174_26, E174_28, E174_31, E174_34, E174_35, E174_36, E174_38, E174_41, E174_42, E174_43, E174_44, E174_47, E174_50, E174_53, E174_54, E174_57, E174_60, E174_98, E174_99, E174_102, E174_103, E174_104, E174_105, E174_108, E174_109, isg hS, isw hS, wdE hS hK1.1, pk54 hS, rfs, rfn, cs0, csi, csl, csr, csn, kti, ktl, ktr, ktn, ktv, ktf, true_and, and_true, and_self, ↓reduceIte, Nat.reduceAdd, Nat.reduceSub, Nat.reduceMul, Nat.reduceLT, Nat.reduceLeDiff, Nat.reduceEqDiff, true_or, or_true, false_or, or_false, not_true_eq_false, not_false_eq_true, reduceCtorEq, cmp_lt, cmp_gt, cmp_eq, Int32.reduceAdd, Int32.reduceSub, Int32.reduceMul, Int32.reduceLT, Int32.reduceToNatClampNeg, eq_self, ne_eq, Int64.reduceAdd, Int64.reduceSub, Int64.reduceMul, Int64.reduceLT, g1, e5, e6, bI_f, qv]
  refine nxT_E hS hR hK hi hK1.1 (fun J L' k1 k2 => ?_)
  have j1 := hK1.nx k2 k1 (Nat.le_succ i) hi
  have j15 : J 54 15 = nI nc := (k2.2 15 (by decide)).trans e15
  simp only [E174_109, E174_112, E174_113, E174_114, E174_115, E174_118, E174_119, emt hS hR j15 (show nc < 400 by omega), pk54 hS, rfs, rfn, cs0, csi, csl, csr, csn, kti, ktl, ktr, ktn, ktv, ktf, true_and, and_true, and_self, ↓reduceIte, Nat.reduceAdd, Nat.reduceSub, Nat.reduceMul, Nat.reduceLT, Nat.reduceLeDiff, Nat.reduceEqDiff, true_or, or_true, false_or, or_false, not_true_eq_false, not_false_eq_true, reduceCtorEq, cmp_lt, cmp_gt, cmp_eq, Int32.reduceAdd, Int32.reduceSub, Int32.reduceMul, Int32.reduceLT, Int32.reduceToNatClampNeg, eq_self, ne_eq, Int64.reduceAdd, Int64.reduceSub, Int64.reduceMul, Int64.reduceLT]
  have ew : pwv (T i) = -40 - T i := by rcases q6 with q | q | q | q <;> (rw [q]; decide)
  exact hq _ L' (by rw [← ew]; exact j1.em ((k2.2 19 (by decide)).trans e19) (by rw [k2.1 62 (by decide)]; exact eq) ha (by omega) j15 (by omega)) (F0.tr (Fx.p (Fx.q (Fx.e k2.m.x ha) (by decide)) (by decide)))
theorem pwv_n {t : Int32} (h : ¬ rPw t) : pwv t = -1 := by
  unfold pwv
  rw [if_neg (fun z => h (Or.inl z)), if_neg (fun z => h (Or.inr (Or.inl z))), if_neg (fun z => h (Or.inr (Or.inr (Or.inl z)))), if_neg (fun z => h (Or.inr (Or.inr (Or.inr z))))]
theorem rpA7 (hS : Pm S) (hR : Pr R) (hK : Tks X Y T P n m p) (h : RbS X Y T P n m p a I L i ρ nP o κ) (hn : nP < 60) (h1 : ¬ T i < 0) (h2 : ¬ 99 < T i) (hq : ∀ J L', RbS X Y T P n m p a J L' (i + 1) ρ (nP + 1) o (κ ++ [(0, T i)]) → Fx I J a → Q (.int (nI 3)) S J L' R) : EvM (d + 5) 174 [.ref 54] S I L R Q := by
  have q1 : ¬ T i = -191 := fun z => h1 (by rw [z]; decide)
  have q5 : ¬ rIh (T i) := fun z => by rcases z with z | z <;> exact h1 (by rw [z]; decide)
  have q6 : ¬ rPw (T i) := fun z => by rcases z with z | z | z | z <;> exact h1 (by rw [z]; decide)
  have qv : (pwv (T i) = -1) = True := eq_true (pwv_n q6)
  have g0 : ¬ I 54 14 = 60 := fun z => by
    have q := (nI_eq (a := nP) (b := 60) (by omega) (by decide)).mp (h.2.2.1.symm.trans z)
    omega
  simp only [M174, E174_0, E174_1, E174_4, E174_6, E174_9, E174_10, E174_13, E174_14, E174_15, E174_16, E174_17, E174_20, E174_21, E174_22, E174_25, pk54 hS, rfs, rfn, cs0, csi, csl, csr, csn, kti, ktl, ktr, ktn, ktv, ktf, true_and, and_true, and_self, ↓reduceIte, Nat.reduceAdd, Nat.reduceSub, Nat.reduceMul, Nat.reduceLT, Nat.reduceLeDiff, Nat.reduceEqDiff, true_or, or_true, false_or, or_false, not_true_eq_false, not_false_eq_true, reduceCtorEq, cmp_lt, cmp_gt, cmp_eq, Int32.reduceAdd, Int32.reduceSub, Int32.reduceMul, Int32.reduceLT, Int32.reduceToNatClampNeg, eq_self, ne_eq, Int64.reduceAdd, Int64.reduceSub, Int64.reduceMul, Int64.reduceLT, g0, pt]
  have hK1 := h.pa hn
  have F0 : Fx I (put I 54 14 (I 54 14 + 1)) a := Fx.p Fx.rf (by decide)
  generalize put I 54 14 (I 54 14 + 1) = K at hK1 F0
  obtain ⟨q, nc, e19, eq, e15, hqn, ha⟩ := hK1.2.2.2.2.1
  have m4 := hK.1
  have m5 := hK.2.1
  have g1 : sgB K L 91 = false := by rw [hK1.1.sg (x := 91) (c := 91) (by decide) rfl]; exact decide_eq_false (fun z => q1 (z.trans (by decide)))
  have hi : i < m := hK1.lt hK (fun z => h1 (by rw [z]; decide))
  have e5 := hK1.1.w5
  have e6 := hK1.1.w6
  rw [decide_eq_false (fun z => q5 (Or.inl z))] at e5
  rw [decide_eq_false (fun z => q5 (Or.inr z))] at e6
  simp only [E174_26, E174_28, E174_31, E174_34, E174_35, E174_36, E174_38, E174_41, E174_42, E174_43, E174_44, E174_47, E174_50, E174_53, E174_54, E174_57, E174_60, E174_98, E174_99, E174_102, E174_103, E174_104, E174_105, E174_120, E174_121, E174_124, isg hS, isw hS, wdE hS hK1.1, pk54 hS, rfs, rfn, cs0, csi, csl, csr, csn, kti, ktl, ktr, ktn, ktv, ktf, true_and, and_true, and_self, ↓reduceIte, Nat.reduceAdd, Nat.reduceSub, Nat.reduceMul, Nat.reduceLT, Nat.reduceLeDiff, Nat.reduceEqDiff, true_or, or_true, false_or, or_false, not_true_eq_false, not_false_eq_true, reduceCtorEq, cmp_lt, cmp_gt, cmp_eq, Int32.reduceAdd, Int32.reduceSub, Int32.reduceMul, Int32.reduceLT, Int32.reduceToNatClampNeg, eq_self, ne_eq, Int64.reduceAdd, Int64.reduceSub, Int64.reduceMul, Int64.reduceLT, g1, e5, e6, bI_f, qv]
  refine nuE_y (d := d) (w := 99) hS hR hK hi hK1.1 hK1.2.1 rfl (by decide) h1 h2 (fun J L' k1 k2 k3 => ?_)
  have j1 := hK1.nx k2 k1 (Nat.le_succ i) hi
  have j15 : J 54 15 = nI nc := (k2.2 15 (by decide)).trans e15
  simp only [E174_124, E174_127, E174_128, E174_129, E174_132, E174_135, E174_136, E174_137, E174_138, E174_141, E174_142, emt hS hR j15 (show nc < 400 by omega), pk54 hS, rfs, rfn, cs0, csi, csl, csr, csn, kti, ktl, ktr, ktn, ktv, ktf, true_and, and_true, and_self, ↓reduceIte, Nat.reduceAdd, Nat.reduceSub, Nat.reduceMul, Nat.reduceLT, Nat.reduceLeDiff, Nat.reduceEqDiff, true_or, or_true, false_or, or_false, not_true_eq_false, not_false_eq_true, reduceCtorEq, cmp_lt, cmp_gt, cmp_eq, Int32.reduceAdd, Int32.reduceSub, Int32.reduceMul, Int32.reduceLT, Int32.reduceToNatClampNeg, eq_self, ne_eq, Int64.reduceAdd, Int64.reduceSub, Int64.reduceMul, Int64.reduceLT, k3]
  exact hq _ L' (j1.em ((k2.2 19 (by decide)).trans e19) (by rw [k2.1 62 (by decide)]; exact eq) ha (by omega) j15 (by omega)) (F0.tr (Fx.p (Fx.q (Fx.e k2.m.x ha) (by decide)) (by decide)))
theorem rpA8 (hS : Pm S) (hR : Pr R) (hK : Tks X Y T P n m p) (h : RbS X Y T P n m p a I L i ρ nP o κ) (hn : nP < 60) (q1 : ¬ T i = -191) (q5 : ¬ rIh (T i)) (q6 : ¬ rPw (T i)) (q7 : T i < 0 ∨ 99 < T i) (hq : ∀ J L', BaS P a J i → Fx I J a → Q (.int (nI 3)) S J L' R) : EvM (d + 5) 174 [.ref 54] S I L R Q := by
  have qv : (pwv (T i) = -1) = True := eq_true (pwv_n q6)
  have g0 : ¬ I 54 14 = 60 := fun z => by
    have q := (nI_eq (a := nP) (b := 60) (by omega) (by decide)).mp (h.2.2.1.symm.trans z)
    omega
  simp only [M174, E174_0, E174_1, E174_4, E174_6, E174_9, E174_10, E174_13, E174_14, E174_15, E174_16, E174_17, E174_20, E174_21, E174_22, E174_25, pk54 hS, rfs, rfn, cs0, csi, csl, csr, csn, kti, ktl, ktr, ktn, ktv, ktf, true_and, and_true, and_self, ↓reduceIte, Nat.reduceAdd, Nat.reduceSub, Nat.reduceMul, Nat.reduceLT, Nat.reduceLeDiff, Nat.reduceEqDiff, true_or, or_true, false_or, or_false, not_true_eq_false, not_false_eq_true, reduceCtorEq, cmp_lt, cmp_gt, cmp_eq, Int32.reduceAdd, Int32.reduceSub, Int32.reduceMul, Int32.reduceLT, Int32.reduceToNatClampNeg, eq_self, ne_eq, Int64.reduceAdd, Int64.reduceSub, Int64.reduceMul, Int64.reduceLT, g0, pt]
  have hK1 := h.pa hn
  have F0 : Fx I (put I 54 14 (I 54 14 + 1)) a := Fx.p Fx.rf (by decide)
  generalize put I 54 14 (I 54 14 + 1) = K at hK1 F0
  obtain ⟨q, nc, e19, eq, e15, hqn, ha⟩ := hK1.2.2.2.2.1
  have m4 := hK.1
  have m5 := hK.2.1
  have g1 : sgB K L 91 = false := by rw [hK1.1.sg (x := 91) (c := 91) (by decide) rfl]; exact decide_eq_false (fun z => q1 (z.trans (by decide)))
  have e5 := hK1.1.w5
  have e6 := hK1.1.w6
  rw [decide_eq_false (fun z => q5 (Or.inl z))] at e5
  rw [decide_eq_false (fun z => q5 (Or.inr z))] at e6
  simp only [E174_26, E174_28, E174_31, E174_34, E174_35, E174_36, E174_38, E174_41, E174_42, E174_43, E174_44, E174_47, E174_50, E174_53, E174_54, E174_57, E174_60, E174_98, E174_99, E174_102, E174_103, E174_104, E174_105, E174_120, E174_121, E174_124, isg hS, isw hS, wdE hS hK1.1, pk54 hS, rfs, rfn, cs0, csi, csl, csr, csn, kti, ktl, ktr, ktn, ktv, ktf, true_and, and_true, and_self, ↓reduceIte, Nat.reduceAdd, Nat.reduceSub, Nat.reduceMul, Nat.reduceLT, Nat.reduceLeDiff, Nat.reduceEqDiff, true_or, or_true, false_or, or_false, not_true_eq_false, not_false_eq_true, reduceCtorEq, cmp_lt, cmp_gt, cmp_eq, Int32.reduceAdd, Int32.reduceSub, Int32.reduceMul, Int32.reduceLT, Int32.reduceToNatClampNeg, eq_self, ne_eq, Int64.reduceAdd, Int64.reduceSub, Int64.reduceMul, Int64.reduceLT, g1, e5, e6, bI_f, qv]
  refine nuE_n (d := d) (w := 99) hS hR hK1.1 hK1.2.1 rfl (by decide) q7 (fun J v k1 k2 k3 k4 => ?_)
  simp only [E174_124, E174_127, E174_128, E174_129, E174_132, E174_141, E174_142, pk54 hS, rfs, rfn, cs0, csi, csl, csr, csn, kti, ktl, ktr, ktn, ktv, ktf, true_and, and_true, and_self, ↓reduceIte, Nat.reduceAdd, Nat.reduceSub, Nat.reduceMul, Nat.reduceLT, Nat.reduceLeDiff, Nat.reduceEqDiff, true_or, or_true, false_or, or_false, not_true_eq_false, not_false_eq_true, reduceCtorEq, cmp_lt, cmp_gt, cmp_eq, Int32.reduceAdd, Int32.reduceSub, Int32.reduceMul, Int32.reduceLT, Int32.reduceToNatClampNeg, eq_self, ne_eq, Int64.reduceAdd, Int64.reduceSub, Int64.reduceMul, Int64.reduceLT, k2, n1_0]
  exact hq J L (hK1.ba hK k1 k2 k3) (F0.tr k1.x)
/-- readPlain -/
theorem rlB1 (hS : Pm S) (hR : Pr R) (hK : Tks X Y T P n m p) (h : RbS X Y T P n m p a I L i ρ nP o κ) (q7 : T i = -7) (hq : ∀ J L', RbS X Y T P n m p a J L' (i + 1) (27 :: ρ) nP o κ → Fx I J a → Q (.int (nI 0)) S J L' R) : EvM (d + 6) 175 [.ref 54] S I L R Q := by
  obtain ⟨hT, e13, e14, e20, ⟨q, nc, e19, eq, e15, hqn, ha⟩, hm, hn, ho, e12, hcd⟩ := id h
  have m4 := hK.1
  have m5 := hK.2.1
  have hi : i < m := h.lt hK (by rw [q7]; decide)
  have g1 := hT.w4
  rw [decide_eq_true q7] at g1
  simp only [M175, E175_0, E175_1, E175_4, E175_7, E175_10, E175_11, E175_13, E175_16, E175_17, isw hS, psh_m hS hR e19 (show q < 400 by omega), pk54 hS, rfs, rfn, cs0, csi, csl, csr, csn, kti, ktl, ktr, ktn, ktv, ktf, true_and, and_true, and_self, ↓reduceIte, Nat.reduceAdd, Nat.reduceSub, Nat.reduceMul, Nat.reduceLT, Nat.reduceLeDiff, Nat.reduceEqDiff, true_or, or_true, false_or, or_false, not_true_eq_false, not_false_eq_true, reduceCtorEq, cmp_lt, cmp_gt, cmp_eq, Int32.reduceAdd, Int32.reduceSub, Int32.reduceMul, Int32.reduceLT, Int32.reduceToNatClampNeg, eq_self, ne_eq, Int64.reduceAdd, Int64.reduceSub, Int64.reduceMul, Int64.reduceLT, g1, bI_t, n1_0]
  refine nxT_E hS hR hK hi (hT.cg ?_ (fun k q1 q2 => by rw [pt_f (by omega), pt_m (by decide)])) (fun J L' k1 k2 => ?_)
  · rw [pt_n (by decide), pt_n (by decide)]
  simp only [E175_17, E175_20, E175_21, rfs, rfn, cs0, csi, csl, csr, csn, kti, ktl, ktr, ktn, ktv, ktf, true_and, and_true, and_self, ↓reduceIte, Nat.reduceAdd, Nat.reduceSub, Nat.reduceMul, Nat.reduceLT, Nat.reduceLeDiff, Nat.reduceEqDiff, true_or, or_true, false_or, or_false, not_true_eq_false, not_false_eq_true, reduceCtorEq, cmp_lt, cmp_gt, cmp_eq, Int32.reduceAdd, Int32.reduceSub, Int32.reduceMul, Int32.reduceLT, Int32.reduceToNatClampNeg, eq_self, ne_eq, Int64.reduceAdd, Int64.reduceSub, Int64.reduceMul, Int64.reduceLT]
  refine hq J L' (h.ps (q := q) (nc := nc) (P62 := I 62) k1 ?_ ?_ ?_ ho ?_ ?_ ?_ eq ?_ (by omega) ha hi ?_) (Fx.tr (Fx.p (Fx.q Fx.rf (by decide)) (by decide)) k2.m.x)
  · rw [k2.2 13 (by decide), pt_f (by decide), pt_m (by decide)]; exact e13
  · rw [k2.2 14 (by decide), pt_f (by decide), pt_m (by decide)]; exact e14
  · rw [k2.2 20 (by decide), pt_f (by decide), pt_m (by decide)]; exact e20
  · rw [k2.2 12 (by decide), pt_f (by decide), pt_m (by decide)]; exact e12
  · rw [k2.2 19 (by decide), pt_s]
  · rw [k2.1 62 (by decide), pt_n (by decide), pt_c]
  · rw [k2.2 15 (by decide), pt_f (by decide), pt_m (by decide)]; exact e15
  · refine hcd.cg ?_ ?_ ?_
    · rw [k2.2 15 (by decide), pt_f (by decide), pt_m (by decide)]
    · rw [k2.1 60 (by decide), pt_n (by decide), pt_n (by decide)]
    · rw [k2.1 61 (by decide), pt_n (by decide), pt_n (by decide)]
theorem rlB2 (hS : Pm S) (hR : Pr R) (hK : Tks X Y T P n m p) (h : RbS X Y T P n m p a I L i ρ nP o κ) (q4 : T i = -140) (go : o < 8) (hq : ∀ J L', RbS X Y T P n m p a J L' (i + 1) (30 :: ρ) nP (o + 1) κ → Fx I J a → Q (.int (nI 0)) S J L' R) : EvM (d + 6) 175 [.ref 54] S I L R Q := by
  have g1 := h.1.w4
  rw [decide_eq_false (by rw [q4]; decide)] at g1
  have g2 := h.1.sg (x := 40) (c := 40) (by decide) rfl
  rw [decide_eq_true (show T i = -100 - 40 by rw [q4]; decide)] at g2
  simp only [M175, E175_0, E175_1, E175_4, E175_7, E175_22, E175_23, E175_25, E175_28, E175_31, E175_32, E175_33, E175_35, isg hS, isw hS, pk54 hS, rfs, rfn, cs0, csi, csl, csr, csn, kti, ktl, ktr, ktn, ktv, ktf, true_and, and_true, and_self, ↓reduceIte, Nat.reduceAdd, Nat.reduceSub, Nat.reduceMul, Nat.reduceLT, Nat.reduceLeDiff, Nat.reduceEqDiff, true_or, or_true, false_or, or_false, not_true_eq_false, not_false_eq_true, reduceCtorEq, cmp_lt, cmp_gt, cmp_eq, Int32.reduceAdd, Int32.reduceSub, Int32.reduceMul, Int32.reduceLT, Int32.reduceToNatClampNeg, eq_self, ne_eq, Int64.reduceAdd, Int64.reduceSub, Int64.reduceMul, Int64.reduceLT, g1, g2, bI_f, bI_t, n1_0]
  refine opE_y (d := d + 1) hS hR hK h (h.lt hK (by rw [q4]; decide)) go (fun J L' k1 k2 => ?_)
  simp only [E175_35, E175_38, E175_39, rfs, rfn, cs0, csi, csl, csr, csn, kti, ktl, ktr, ktn, ktv, ktf, true_and, and_true, and_self, ↓reduceIte, Nat.reduceAdd, Nat.reduceSub, Nat.reduceMul, Nat.reduceLT, Nat.reduceLeDiff, Nat.reduceEqDiff, true_or, or_true, false_or, or_false, not_true_eq_false, not_false_eq_true, reduceCtorEq, cmp_lt, cmp_gt, cmp_eq, Int32.reduceAdd, Int32.reduceSub, Int32.reduceMul, Int32.reduceLT, Int32.reduceToNatClampNeg, eq_self, ne_eq, Int64.reduceAdd, Int64.reduceSub, Int64.reduceMul, Int64.reduceLT]
  exact hq J L' k1 k2
theorem rlB3 (hS : Pm S) (hR : Pr R) (hK : Tks X Y T P n m p) (h : RbS X Y T P n m p a I L i ρ nP o κ) (q4 : T i = -140) (go : ¬ o < 8) (hq : ∀ J L', BaS P a J i → Fx I J a → Q (.int (nI 0)) S J L' R) : EvM (d + 6) 175 [.ref 54] S I L R Q := by
  have g1 := h.1.w4
  rw [decide_eq_false (by rw [q4]; decide)] at g1
  have g2 := h.1.sg (x := 40) (c := 40) (by decide) rfl
  rw [decide_eq_true (show T i = -100 - 40 by rw [q4]; decide)] at g2
  simp only [M175, E175_0, E175_1, E175_4, E175_7, E175_22, E175_23, E175_25, E175_28, E175_31, E175_32, E175_33, E175_35, isg hS, isw hS, pk54 hS, rfs, rfn, cs0, csi, csl, csr, csn, kti, ktl, ktr, ktn, ktv, ktf, true_and, and_true, and_self, ↓reduceIte, Nat.reduceAdd, Nat.reduceSub, Nat.reduceMul, Nat.reduceLT, Nat.reduceLeDiff, Nat.reduceEqDiff, true_or, or_true, false_or, or_false, not_true_eq_false, not_false_eq_true, reduceCtorEq, cmp_lt, cmp_gt, cmp_eq, Int32.reduceAdd, Int32.reduceSub, Int32.reduceMul, Int32.reduceLT, Int32.reduceToNatClampNeg, eq_self, ne_eq, Int64.reduceAdd, Int64.reduceSub, Int64.reduceMul, Int64.reduceLT, g1, g2, bI_f, bI_t, n1_0]
  refine opE_n (d := d + 1) (b := true) hS hR hK h (Or.inr go) (fun J L' k1 k2 => ?_)
  simp only [E175_35, E175_38, E175_39, rfs, rfn, cs0, csi, csl, csr, csn, kti, ktl, ktr, ktn, ktv, ktf, true_and, and_true, and_self, ↓reduceIte, Nat.reduceAdd, Nat.reduceSub, Nat.reduceMul, Nat.reduceLT, Nat.reduceLeDiff, Nat.reduceEqDiff, true_or, or_true, false_or, or_false, not_true_eq_false, not_false_eq_true, reduceCtorEq, cmp_lt, cmp_gt, cmp_eq, Int32.reduceAdd, Int32.reduceSub, Int32.reduceMul, Int32.reduceLT, Int32.reduceToNatClampNeg, eq_self, ne_eq, Int64.reduceAdd, Int64.reduceSub, Int64.reduceMul, Int64.reduceLT]
  exact hq J L' k1 k2
theorem rlB4 (hS : Pm S) (h : RbS X Y T P n m p a I L i ρ nP o κ) (q7 : ¬ T i = -7) (q4 : ¬ T i = -140) {Z : Nat → mI → mL → Prop} (hp : ∀ Q : mQ, (∀ v J L', Z v J L' → Q (.int (nI v)) S J L' R) → EvM (d + 5) 174 [.ref 54] S I L R Q) (hq : ∀ v J L', Z v J L' → Q (.int (nI v)) S J L' R) : EvM (d + 6) 175 [.ref 54] S I L R Q := by
  have g1 := h.1.w4
  rw [decide_eq_false q7] at g1
  have g2 := h.1.sg (x := 40) (c := 40) (by decide) rfl
  rw [decide_eq_false (fun z => q4 (z.trans (by decide)))] at g2
  simp only [M175, E175_0, E175_1, E175_4, E175_7, E175_22, E175_23, E175_25, E175_28, E175_40, E175_41, isg hS, isw hS, pk54 hS, rfs, rfn, cs0, csi, csl, csr, csn, kti, ktl, ktr, ktn, ktv, ktf, true_and, and_true, and_self, ↓reduceIte, Nat.reduceAdd, Nat.reduceSub, Nat.reduceMul, Nat.reduceLT, Nat.reduceLeDiff, Nat.reduceEqDiff, true_or, or_true, false_or, or_false, not_true_eq_false, not_false_eq_true, reduceCtorEq, cmp_lt, cmp_gt, cmp_eq, Int32.reduceAdd, Int32.reduceSub, Int32.reduceMul, Int32.reduceLT, Int32.reduceToNatClampNeg, eq_self, ne_eq, Int64.reduceAdd, Int64.reduceSub, Int64.reduceMul, Int64.reduceLT, g1, g2, bI_f]
  refine hp _ (fun v J L' z => ?_)
  simp only [E175_41, E175_44, rfs, rfn, cs0, csi, csl, csr, csn, kti, ktl, ktr, ktn, ktv, ktf, true_and, and_true, and_self, ↓reduceIte, Nat.reduceAdd, Nat.reduceSub, Nat.reduceMul, Nat.reduceLT, Nat.reduceLeDiff, Nat.reduceEqDiff, true_or, or_true, false_or, or_false, not_true_eq_false, not_false_eq_true, reduceCtorEq, cmp_lt, cmp_gt, cmp_eq, Int32.reduceAdd, Int32.reduceSub, Int32.reduceMul, Int32.reduceLT, Int32.reduceToNatClampNeg, eq_self, ne_eq, Int64.reduceAdd, Int64.reduceSub, Int64.reduceMul, Int64.reduceLT]
  exact hq v J L' z
end RQ
