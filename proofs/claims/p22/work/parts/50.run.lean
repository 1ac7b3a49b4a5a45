/-! class Run: what a RUN does, step by step, as functions of the memory. u: the Run, its five rows of ints behind it -/
def RunS (S : mS) (R : mR) (u : Nat) : Prop := ok S u 6 ∧ (ok S (u + 1) 11 ∧ S.2.2.2 (u + 1) = 5 ∧ R u 1 = some (u + 1)) ∧ (ok S (u + 2) 11 ∧ S.2.2.2 (u + 2) = 14 ∧ R u 2 = some (u + 2)) ∧ (ok S (u + 3) 11 ∧ S.2.2.2 (u + 3) = 5 ∧ R u 3 = some (u + 3)) ∧ (ok S (u + 4) 11 ∧ S.2.2.2 (u + 4) = 5 ∧ R u 4 = some (u + 4)) ∧ (ok S (u + 5) 11 ∧ S.2.2.2 (u + 5) = 64 ∧ R u 7 = some (u + 5))
theorem run20 {S : mS} {R : mR} (hS : Pm S) (hR : Pr R) : RunS S R 20 := ⟨of_eq_true (pk20 hS), ⟨of_eq_true (pk21 hS), pl21 hS, pr20_1 hR⟩, ⟨of_eq_true (pk22 hS), pl22 hS, pr20_2 hR⟩, ⟨of_eq_true (pk23 hS), pl23 hS, pr20_3 hR⟩, ⟨of_eq_true (pk24 hS), pl24 hS, pr20_4 hR⟩, ⟨of_eq_true (pk25 hS), pl25 hS, pr20_7 hR⟩⟩
theorem run26 {S : mS} {R : mR} (hS : Pm S) (hR : Pr R) : RunS S R 26 := ⟨of_eq_true (pk26 hS), ⟨of_eq_true (pk27 hS), pl27 hS, pr26_1 hR⟩, ⟨of_eq_true (pk28 hS), pl28 hS, pr26_2 hR⟩, ⟨of_eq_true (pk29 hS), pl29 hS, pr26_3 hR⟩, ⟨of_eq_true (pk30 hS), pl30 hS, pr26_4 hR⟩, ⟨of_eq_true (pk31 hS), pl31 hS, pr26_7 hR⟩⟩
theorem run32 {S : mS} {R : mR} (hS : Pm S) (hR : Pr R) : RunS S R 32 := ⟨of_eq_true (pk32 hS), ⟨of_eq_true (pk33 hS), pl33 hS, pr32_1 hR⟩, ⟨of_eq_true (pk34 hS), pl34 hS, pr32_2 hR⟩, ⟨of_eq_true (pk35 hS), pl35 hS, pr32_3 hR⟩, ⟨of_eq_true (pk36 hS), pl36 hS, pr32_4 hR⟩, ⟨of_eq_true (pk37 hS), pl37 hS, pr32_7 hR⟩⟩
section RU
variable {S : mS} {R : mR} {u : Nat}
theorem ru0 (h : RunS S R u) : ok S u 6 = True := eq_true h.1
theorem ru1 (h : RunS S R u) : ok S (u + 1) 11 = True := eq_true h.2.1.1
theorem rl1 (h : RunS S R u) : S.2.2.2 (u + 1) = 5 := h.2.1.2.1
theorem rr1 (h : RunS S R u) : R u 1 = some (u + 1) := h.2.1.2.2
theorem ri1 (h : RunS S R u) : okI S (u + 1) = True := eq_true ⟨h.2.1.1.1, Or.inl h.2.1.1.2⟩
theorem ra1 (h : RunS S R u) : okA S (u + 1) = True := eq_true ⟨h.2.1.1.1, by rw [h.2.1.1.2]; decide⟩
theorem ru2 (h : RunS S R u) : ok S (u + 2) 11 = True := eq_true h.2.2.1.1
theorem rl2 (h : RunS S R u) : S.2.2.2 (u + 2) = 14 := h.2.2.1.2.1
theorem rr2 (h : RunS S R u) : R u 2 = some (u + 2) := h.2.2.1.2.2
theorem ri2 (h : RunS S R u) : okI S (u + 2) = True := eq_true ⟨h.2.2.1.1.1, Or.inl h.2.2.1.1.2⟩
theorem ra2 (h : RunS S R u) : okA S (u + 2) = True := eq_true ⟨h.2.2.1.1.1, by rw [h.2.2.1.1.2]; decide⟩
theorem ru3 (h : RunS S R u) : ok S (u + 3) 11 = True := eq_true h.2.2.2.1.1
theorem rl3 (h : RunS S R u) : S.2.2.2 (u + 3) = 5 := h.2.2.2.1.2.1
theorem rr3 (h : RunS S R u) : R u 3 = some (u + 3) := h.2.2.2.1.2.2
theorem ri3 (h : RunS S R u) : okI S (u + 3) = True := eq_true ⟨h.2.2.2.1.1.1, Or.inl h.2.2.2.1.1.2⟩
theorem ra3 (h : RunS S R u) : okA S (u + 3) = True := eq_true ⟨h.2.2.2.1.1.1, by rw [h.2.2.2.1.1.2]; decide⟩
theorem ru4 (h : RunS S R u) : ok S (u + 4) 11 = True := eq_true h.2.2.2.2.1.1
theorem rl4 (h : RunS S R u) : S.2.2.2 (u + 4) = 5 := h.2.2.2.2.1.2.1
theorem rr4 (h : RunS S R u) : R u 4 = some (u + 4) := h.2.2.2.2.1.2.2
theorem ri4 (h : RunS S R u) : okI S (u + 4) = True := eq_true ⟨h.2.2.2.2.1.1.1, Or.inl h.2.2.2.2.1.1.2⟩
theorem ra4 (h : RunS S R u) : okA S (u + 4) = True := eq_true ⟨h.2.2.2.2.1.1.1, by rw [h.2.2.2.2.1.1.2]; decide⟩
theorem ru5 (h : RunS S R u) : ok S (u + 5) 11 = True := eq_true h.2.2.2.2.2.1
theorem rl5 (h : RunS S R u) : S.2.2.2 (u + 5) = 64 := h.2.2.2.2.2.2.1
theorem rr5 (h : RunS S R u) : R u 7 = some (u + 5) := h.2.2.2.2.2.2.2
theorem ri5 (h : RunS S R u) : okI S (u + 5) = True := eq_true ⟨h.2.2.2.2.2.1.1, Or.inl h.2.2.2.2.2.1.2⟩
theorem ra5 (h : RunS S R u) : okA S (u + 5) = True := eq_true ⟨h.2.2.2.2.2.1.1, by rw [h.2.2.2.2.2.1.2]; decide⟩
end RU
theorem ud0_1 {u : Nat} : (u = u + 1) = False := eq_false (by omega)
theorem ud0_2 {u : Nat} : (u = u + 2) = False := eq_false (by omega)
theorem ud0_3 {u : Nat} : (u = u + 3) = False := eq_false (by omega)
theorem ud0_4 {u : Nat} : (u = u + 4) = False := eq_false (by omega)
theorem ud0_5 {u : Nat} : (u = u + 5) = False := eq_false (by omega)
theorem ud1_0 {u : Nat} : (u + 1 = u) = False := eq_false (by omega)
theorem ud1_2 {u : Nat} : (u + 1 = u + 2) = False := eq_false (by omega)
theorem ud1_3 {u : Nat} : (u + 1 = u + 3) = False := eq_false (by omega)
theorem ud1_4 {u : Nat} : (u + 1 = u + 4) = False := eq_false (by omega)
theorem ud1_5 {u : Nat} : (u + 1 = u + 5) = False := eq_false (by omega)
theorem ud2_0 {u : Nat} : (u + 2 = u) = False := eq_false (by omega)
theorem ud2_1 {u : Nat} : (u + 2 = u + 1) = False := eq_false (by omega)
theorem ud2_3 {u : Nat} : (u + 2 = u + 3) = False := eq_false (by omega)
theorem ud2_4 {u : Nat} : (u + 2 = u + 4) = False := eq_false (by omega)
theorem ud2_5 {u : Nat} : (u + 2 = u + 5) = False := eq_false (by omega)
theorem ud3_0 {u : Nat} : (u + 3 = u) = False := eq_false (by omega)
theorem ud3_1 {u : Nat} : (u + 3 = u + 1) = False := eq_false (by omega)
theorem ud3_2 {u : Nat} : (u + 3 = u + 2) = False := eq_false (by omega)
theorem ud3_4 {u : Nat} : (u + 3 = u + 4) = False := eq_false (by omega)
theorem ud3_5 {u : Nat} : (u + 3 = u + 5) = False := eq_false (by omega)
theorem ud4_0 {u : Nat} : (u + 4 = u) = False := eq_false (by omega)
theorem ud4_1 {u : Nat} : (u + 4 = u + 1) = False := eq_false (by omega)
theorem ud4_2 {u : Nat} : (u + 4 = u + 2) = False := eq_false (by omega)
theorem ud4_3 {u : Nat} : (u + 4 = u + 3) = False := eq_false (by omega)
theorem ud4_5 {u : Nat} : (u + 4 = u + 5) = False := eq_false (by omega)
theorem ud5_0 {u : Nat} : (u + 5 = u) = False := eq_false (by omega)
theorem ud5_1 {u : Nat} : (u + 5 = u + 1) = False := eq_false (by omega)
theorem ud5_2 {u : Nat} : (u + 5 = u + 2) = False := eq_false (by omega)
theorem ud5_3 {u : Nat} : (u + 5 = u + 3) = False := eq_false (by omega)
theorem ud5_4 {u : Nat} : (u + 5 = u + 4) = False := eq_false (by omega)
theorem ib0_14 : inb 0 14 = True := inb_nI (j := 0) (by decide) (by decide)
theorem ib1_14 : inb 1 14 = True := inb_nI (j := 1) (by decide) (by decide)
theorem ib2_14 : inb 2 14 = True := inb_nI (j := 2) (by decide) (by decide)
theorem ib3_14 : inb 3 14 = True := inb_nI (j := 3) (by decide) (by decide)
theorem ib4_14 : inb 4 14 = True := inb_nI (j := 4) (by decide) (by decide)
theorem ib5_14 : inb 5 14 = True := inb_nI (j := 5) (by decide) (by decide)
theorem ib6_14 : inb 6 14 = True := inb_nI (j := 6) (by decide) (by decide)
theorem ib7_14 : inb 7 14 = True := inb_nI (j := 7) (by decide) (by decide)
theorem ib8_14 : inb 8 14 = True := inb_nI (j := 8) (by decide) (by decide)
theorem ib9_14 : inb 9 14 = True := inb_nI (j := 9) (by decide) (by decide)
theorem ib10_14 : inb 10 14 = True := inb_nI (j := 10) (by decide) (by decide)
theorem ib11_14 : inb 11 14 = True := inb_nI (j := 11) (by decide) (by decide)
theorem ib12_14 : inb 12 14 = True := inb_nI (j := 12) (by decide) (by decide)
theorem ib13_14 : inb 13 14 = True := inb_nI (j := 13) (by decide) (by decide)
theorem ib0_64 : inb 0 64 = True := inb_nI (j := 0) (by decide) (by decide)
theorem ib1_64 : inb 1 64 = True := inb_nI (j := 1) (by decide) (by decide)
def bI (b : Bool) : Int32 := if b then 1 else 0
theorem bI_t : bI true = 1 := rfl
theorem bI_f : bI false = 0 := rfl
theorem bI_0 {b : Bool} : (bI b = 0) = (b = false) := by cases b <;> simp [bI]
def put (I : mI) (a k : Nat) (x : Int32) : mI := va_up I a (va_up (I a) k x)
theorem pt {I : mI} {a k : Nat} {x : Int32} : va_up I a (va_up (I a) k x) = put I a k x := rfl
theorem pt_n {I : mI} {a b k : Nat} {x : Int32} (h : ¬ b = a) : put I a k x b = I b := if_neg h
theorem pt_m {I : mI} {a b j k : Nat} {x : Int32} (h : ¬ b = a) : put I a k x b j = I b j := by rw [pt_n h]
theorem pt_s {I : mI} {a k : Nat} {x : Int32} : put I a k x a k = x := by
  unfold put
  rw [uu_s, uu_s]
theorem pt_f {I : mI} {a j k : Nat} {x : Int32} (h : ¬ j = k) : put I a k x a j = I a j := by
  unfold put
  rw [uu_s, uu_n _ _ h]
def inc (I : mI) (a k : Nat) : mI := put I a k (I a k + 1)
def dcr (I : mI) (a k : Nat) : mI := put I a k (I a k - 1)
def orb (I : mI) (a k : Nat) (c : Int32) : mI := put I a k (I a k ||| 1 <<< (c &&& 31))
def thr (I : mI) (u : Nat) (c : Int32) : Bool := decide (¬ c < 0 ∧ c < I u 0 ∧ c < 5)
def mab (x : Int32) : Int32 := if 0 ≤ x then x else 0 - x
def htB (I : mI) (u : Nat) (c : Int32) : Bool := decide (¬ I u 5 = -1 ∧ thr I u c = true ∧ ¬ 1 < mab (c - I u 5))
def usb (I : mI) (u : Nat) (b : Bool) : Bool := decide (¬ I u 6 < 1 ∧ b = true)
def useF (I : mI) (u : Nat) (c : Int32) (b : Bool) : mI := if usb I u b then inc (dcr I u 6) (u + 2) 1 else orb (inc I (u + 2) 4) (u + 2) 11 c
def losF (I : mI) (u : Nat) (c : Int32) : mI := if 1 < I (u + 1) c.toNatClampNeg then inc (dcr I (u + 1) c.toNatClampNeg) (u + 2) 5 else I
def rem (x y : Int32) : Int32 := x - x / y * y
def drw (I : mI) (u : Nat) : Int32 := rem (I u 10 * 1103 + 12345) 1000003
def slF (I : mI) (u : Nat) : mI := if I u 9 = -1 then I else put I u 10 (drw I u)
def slB (I : mI) (u : Nat) : Bool := decide (¬ I u 9 = -1 ∧ rem (drw I u) 100 < I u 9)
theorem thr_inb {I : mI} {u : Nat} {c : Int32} (h : thr I u c = true) : inb c 5 = True := by
  have g := of_decide_eq_true h
  obtain ⟨n, hn, rfl⟩ : ∃ n, n < 5 ∧ c = nI n := by
    rcases rg0_4 g.1 (fun z => by have := Int32.lt_iff_toInt_lt.mp z; have := Int32.lt_iff_toInt_lt.mp g.2.2; simp at *; omega) with e | e | e | e | e
    · exact ⟨0, by decide, e⟩
    · exact ⟨1, by decide, e⟩
    · exact ⟨2, by decide, e⟩
    · exact ⟨3, by decide, e⟩
    · exact ⟨4, by decide, e⟩
  exact inb_nI hn (by decide)
section RUN
variable {d u : Nat} {S : mS} {I : mI} {L : mL} {R : mR} {Q : mQ}
theorem isT {c : Int32} (h : RunS S R u) : EvM (d + 1) 85 [.ref u, .int c] S I L R Q = Q (.int (bI (thr I u c))) S I L R := by
  have e : thr I u c = decide (¬ c < 0 ∧ c < I u 0 ∧ c < 5) := rfl
  rw [e]
  by_cases h1 : c < 0 <;> by_cases h2 : c < I u 0 <;> by_cases h3 : c < 5 <;> simp only [M85, E85_0, E85_1, E85_4, E85_5, E85_6, E85_9, E85_12, E85_13, E85_14, E85_17, E85_18, E85_21, E85_22, ru0 h, ru1 h, ru2 h, ru3 h, ru4 h, ru5 h, ri1 h, ri2 h, ri3 h, ri4 h, ri5 h, rl1 h, rl2 h, rl3 h, rl4 h, rl5 h, ra1 h, ra2 h, ra3 h, ra4 h, ra5 h, rr1 h, rr2 h, rr3 h, rr4 h, rr5 h, rfs, rfn, cs0, csi, csl, csr, csn, kti, ktl, ktr, ktn, ktv, ktf, true_and, and_true, and_self, ↓reduceIte, Nat.reduceAdd, Nat.reduceSub, Nat.reduceMul, Nat.reduceLT, Nat.reduceLeDiff, Nat.reduceEqDiff, true_or, or_true, false_or, or_false, not_true_eq_false, not_false_eq_true, reduceCtorEq, cmp_lt, cmp_gt, cmp_eq, Int32.reduceAdd, Int32.reduceSub, Int32.reduceMul, Int32.reduceLT, Int32.reduceToNatClampNeg, eq_self, ne_eq, Int64.reduceAdd, Int64.reduceSub, Int64.reduceMul, Int64.reduceLT, h1, h2, h3, decide_true, decide_false, bI_t, bI_f, and_false, false_and]
theorem isH {c : Int32} (h : RunS S R u) : EvM (d + 2) 86 [.ref u, .int c] S I L R Q = Q (.int (bI (htB I u c))) S I L R := by
  have e : htB I u c = decide (¬ I u 5 = -1 ∧ thr I u c = true ∧ ¬ 1 < mab (c - I u 5)) := rfl
  rw [e]
  have em : (if 0 ≤ c - I u 5 then c - I u 5 else 0 - (c - I u 5)) = mab (c - I u 5) := rfl
  have n1 : ((1 : Int32) = 0) = False := eq_false (by decide)
  by_cases h1 : I u 5 = -1 <;> cases h2 : thr I u c <;> by_cases h3 : 1 < mab (c - I u 5) <;> simp only [M86, E86_0, E86_1, E86_4, E86_5, E86_8, E86_9, E86_10, E86_13, E86_16, E86_17, E86_18, E86_21, E86_22, E86_25, E86_26, E86_29, E86_30, E86_33, E86_34, ru0 h, ru1 h, ru2 h, ru3 h, ru4 h, ru5 h, ri1 h, ri2 h, ri3 h, ri4 h, ri5 h, rl1 h, rl2 h, rl3 h, rl4 h, rl5 h, ra1 h, ra2 h, ra3 h, ra4 h, ra5 h, rr1 h, rr2 h, rr3 h, rr4 h, rr5 h, rfs, rfn, cs0, csi, csl, csr, csn, kti, ktl, ktr, ktn, ktv, ktf, true_and, and_true, and_self, ↓reduceIte, Nat.reduceAdd, Nat.reduceSub, Nat.reduceMul, Nat.reduceLT, Nat.reduceLeDiff, Nat.reduceEqDiff, true_or, or_true, false_or, or_false, not_true_eq_false, not_false_eq_true, reduceCtorEq, cmp_lt, cmp_gt, cmp_eq, Int32.reduceAdd, Int32.reduceSub, Int32.reduceMul, Int32.reduceLT, Int32.reduceToNatClampNeg, eq_self, ne_eq, Int64.reduceAdd, Int64.reduceSub, Int64.reduceMul, Int64.reduceLT, isT h, em, h1, h2, h3, n1, decide_true, decide_false, bI_t, bI_f, and_false, false_and, Bool.false_eq_true]
theorem useB {c : Int32} {b : Bool} (h : RunS S R u) : EvM (d + 1) 82 [.ref u, .int c, .int (bI b)] S I L R Q = Q (.int (bI (usb I u b))) S (useF I u c b) L R := by
  have n1 : ((1 : Int32) = 0) = False := eq_false (by decide)
  unfold useF
  have e : usb I u b = decide (¬ I u 6 < 1 ∧ b = true) := rfl
  rw [e]
  cases b <;> by_cases h1 : I u 6 < 1 <;> simp only [M82, E82_0, E82_1, E82_4, E82_5, E82_8, E82_9, E82_12, E82_13, E82_16, E82_17, E82_18, E82_19, E82_20, E82_21, E82_22, E82_23, E82_26, E82_28, E82_29, E82_30, E82_31, E82_32, E82_33, E82_34, E82_35, E82_36, E82_37, E82_38, E82_39, E82_42, E82_43, E82_44, E82_47, E82_48, E82_51, E82_52, E82_53, E82_54, E82_55, E82_56, E82_57, E82_58, ru0 h, ru1 h, ru2 h, ru3 h, ru4 h, ru5 h, ri1 h, ri2 h, ri3 h, ri4 h, ri5 h, rl1 h, rl2 h, rl3 h, rl4 h, rl5 h, ra1 h, ra2 h, ra3 h, ra4 h, ra5 h, rr1 h, rr2 h, rr3 h, rr4 h, rr5 h, rfs, rfn, cs0, csi, csl, csr, csn, kti, ktl, ktr, ktn, ktv, ktf, true_and, and_true, and_self, ↓reduceIte, Nat.reduceAdd, Nat.reduceSub, Nat.reduceMul, Nat.reduceLT, Nat.reduceLeDiff, Nat.reduceEqDiff, true_or, or_true, false_or, or_false, not_true_eq_false, not_false_eq_true, reduceCtorEq, cmp_lt, cmp_gt, cmp_eq, Int32.reduceAdd, Int32.reduceSub, Int32.reduceMul, Int32.reduceLT, Int32.reduceToNatClampNeg, eq_self, ne_eq, Int64.reduceAdd, Int64.reduceSub, Int64.reduceMul, Int64.reduceLT, ud0_1, ud0_2, ud0_3, ud0_4, ud0_5, ud1_0, ud1_2, ud1_3, ud1_4, ud1_5, ud2_0, ud2_1, ud2_3, ud2_4, ud2_5, ud3_0, ud3_1, ud3_2, ud3_4, ud3_5, ud4_0, ud4_1, ud4_2, ud4_3, ud4_5, ud5_0, ud5_1, ud5_2, ud5_3, ud5_4, ib0_14, ib1_14, ib2_14, ib3_14, ib4_14, ib5_14, ib6_14, ib7_14, ib8_14, ib9_14, ib10_14, ib11_14, ib12_14, ib13_14, ib0_64, ib1_64, pt, inc, dcr, orb, h1, n1, decide_true, decide_false, bI_t, bI_f, and_false, false_and, Bool.false_eq_true]
theorem los {c : Int32} (h : RunS S R u) (hc : inb c 5 = True) : EvM (d + 1) 83 [.ref u, .int c] S I L R Q = Q .null S (losF I u c) L R := by
  unfold losF
  by_cases h1 : 1 < I (u + 1) c.toNatClampNeg <;> simp only [M83, E83_0, E83_1, E83_4, E83_5, E83_6, E83_7, E83_10, E83_11, E83_14, E83_15, E83_16, E83_17, E83_18, E83_19, E83_20, E83_21, E83_24, E83_25, E83_26, E83_27, E83_28, E83_29, E83_30, ru0 h, ru1 h, ru2 h, ru3 h, ru4 h, ru5 h, ri1 h, ri2 h, ri3 h, ri4 h, ri5 h, rl1 h, rl2 h, rl3 h, rl4 h, rl5 h, ra1 h, ra2 h, ra3 h, ra4 h, ra5 h, rr1 h, rr2 h, rr3 h, rr4 h, rr5 h, rfs, rfn, cs0, csi, csl, csr, csn, kti, ktl, ktr, ktn, ktv, ktf, true_and, and_true, and_self, ↓reduceIte, Nat.reduceAdd, Nat.reduceSub, Nat.reduceMul, Nat.reduceLT, Nat.reduceLeDiff, Nat.reduceEqDiff, true_or, or_true, false_or, or_false, not_true_eq_false, not_false_eq_true, reduceCtorEq, cmp_lt, cmp_gt, cmp_eq, Int32.reduceAdd, Int32.reduceSub, Int32.reduceMul, Int32.reduceLT, Int32.reduceToNatClampNeg, eq_self, ne_eq, Int64.reduceAdd, Int64.reduceSub, Int64.reduceMul, Int64.reduceLT, ud0_1, ud0_2, ud0_3, ud0_4, ud0_5, ud1_0, ud1_2, ud1_3, ud1_4, ud1_5, ud2_0, ud2_1, ud2_3, ud2_4, ud2_5, ud3_0, ud3_1, ud3_2, ud3_4, ud3_5, ud4_0, ud4_1, ud4_2, ud4_3, ud4_5, ud5_0, ud5_1, ud5_2, ud5_3, ud5_4, ib0_14, ib1_14, ib2_14, ib3_14, ib4_14, ib5_14, ib6_14, ib7_14, ib8_14, ib9_14, ib10_14, ib11_14, ib12_14, ib13_14, ib0_64, ib1_64, pt, inc, dcr, orb, hc, h1]
theorem slp (h : RunS S R u) : EvM (d + 1) 84 [.ref u] S I L R Q = Q (.int (bI (slB I u))) S (slF I u) L R := by
  have n1 : ((1000003 : Int32) = 0) = False := eq_false (by decide)
  have n2 : ((100 : Int32) = 0) = False := eq_false (by decide)
  have e : slB I u = decide (¬ I u 9 = -1 ∧ rem (drw I u) 100 < I u 9) := rfl
  have e1 : ∀ x y : Int32, x - x / y * y = rem x y := fun _ _ => rfl
  have e2 : rem (I u 10 * 1103 + 12345) 1000003 = drw I u := rfl
  rw [e]
  unfold slF
  by_cases h1 : I u 9 = -1 <;> by_cases h2 : rem (drw I u) 100 < I u 9 <;> simp only [M84, E84_0, E84_1, E84_4, E84_5, E84_8, E84_9, E84_10, E84_11, E84_12, E84_15, E84_18, E84_19, E84_22, E84_23, E84_25, E84_26, E84_29, E84_30, E84_33, E84_35, E84_36, E84_37, E84_40, E84_43, E84_44, E84_47, E84_48, ru0 h, ru1 h, ru2 h, ru3 h, ru4 h, ru5 h, ri1 h, ri2 h, ri3 h, ri4 h, ri5 h, rl1 h, rl2 h, rl3 h, rl4 h, rl5 h, ra1 h, ra2 h, ra3 h, ra4 h, ra5 h, rr1 h, rr2 h, rr3 h, rr4 h, rr5 h, rfs, rfn, cs0, csi, csl, csr, csn, kti, ktl, ktr, ktn, ktv, ktf, true_and, and_true, and_self, ↓reduceIte, Nat.reduceAdd, Nat.reduceSub, Nat.reduceMul, Nat.reduceLT, Nat.reduceLeDiff, Nat.reduceEqDiff, true_or, or_true, false_or, or_false, not_true_eq_false, not_false_eq_true, reduceCtorEq, cmp_lt, cmp_gt, cmp_eq, Int32.reduceAdd, Int32.reduceSub, Int32.reduceMul, Int32.reduceLT, Int32.reduceToNatClampNeg, eq_self, ne_eq, Int64.reduceAdd, Int64.reduceSub, Int64.reduceMul, Int64.reduceLT, ud0_1, ud0_2, ud0_3, ud0_4, ud0_5, ud1_0, ud1_2, ud1_3, ud1_4, ud1_5, ud2_0, ud2_1, ud2_3, ud2_4, ud2_5, ud3_0, ud3_1, ud3_2, ud3_4, ud3_5, ud4_0, ud4_1, ud4_2, ud4_3, ud4_5, ud5_0, ud5_1, ud5_2, ud5_3, ud5_4, ib0_14, ib1_14, ib2_14, ib3_14, ib4_14, ib5_14, ib6_14, ib7_14, ib8_14, ib9_14, ib10_14, ib11_14, ib12_14, ib13_14, ib0_64, ib1_64, pt, inc, dcr, orb, n1, n2, h1, h2, e1, e2, pt_s, pt_f, decide_true, decide_false, bI_t, bI_f, and_false, false_and]
end RUN
