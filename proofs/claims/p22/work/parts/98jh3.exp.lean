/-! group B: readExpression: the rules of 98jb hold of the machine -/
section RX
def WX (X : mI) (Y T P : Nat → Int32) (n m : Nat) (p : Nat → Nat) (a d : Nat) (tst : Bool) (I0 : mI) (S : mS) (R : mR) (Q : mQ) : rWT := fun t i ρ nP o κ => ∀ J L, RbS X Y T P n m p a J L i ρ nP o κ → Fx I0 J a → Ev (d + 7) 178 20 [.ref 54, .int (bI tst), .int (nI t)] [] S J L R Q
def WB (P : Nat → Int32) (a d : Nat) (tst : Bool) (I0 : mI) (S : mS) (R : mR) (Q : mQ) : Nat → Prop := fun j => ∀ t J L, t ≤ 4 → BaS P a J j → Fx I0 J a → Ev (d + 7) 178 20 [.ref 54, .int (bI tst), .int (nI t)] [] S J L R Q
variable {d n m i a nP o : Nat} {tst : Bool} {X I0 : mI} {Y T P : Nat → Int32} {p : Nat → Nat} {ρ : List Int32} {κ : List (Int32 × Int32)} {S : mS} {I : mI} {L : mL} {R : mR} {Q : mQ}
theorem tnA {t : Nat} (hS : Pm S) (ht : rTa T t i) (h : RbS X Y T P n m p a I L i ρ nP o κ) {Z : Nat → mI → mL → Prop} (hp : ∀ (d : Nat) (Q : mQ), (∀ v J L', Z v J L' → Q (.int (nI v)) S J L' R) → EvM (d + 5) 174 [.ref 54] S I L R Q) (hq : ∀ v J L', Z v J L' → Ev (d + 7) 178 20 [.ref 54, .int (bI tst), .int (nI v)] [] S J L' R Q) : Ev (d + 7) 178 20 [.ref 54, .int (bI tst), .int (nI t)] [] S I L R Q := by
  have e13 : I 54 13 = 0 := h.2.1
  rcases ht with rfl | ⟨rfl, q7, q4⟩
  · have z : nI 1 = (1 : Int32) := rfl
    simp only [E178_20, E178_21, E178_24, E178_27, E178_28, E178_29, E178_32, E178_33, E178_43, E178_44, E178_45, E178_48, E178_49, pk54 hS, rfs, rfn, cs0, csi, csl, csr, csn, kti, ktl, ktr, ktn, ktv, ktf, true_and, and_true, and_self, ↓reduceIte, Nat.reduceAdd, Nat.reduceSub, Nat.reduceMul, Nat.reduceLT, Nat.reduceLeDiff, Nat.reduceEqDiff, true_or, or_true, false_or, or_false, not_true_eq_false, not_false_eq_true, reduceCtorEq, cmp_lt, cmp_gt, cmp_eq, Int32.reduceAdd, Int32.reduceSub, Int32.reduceMul, Int32.reduceLT, Int32.reduceToNatClampNeg, eq_self, ne_eq, Int64.reduceAdd, Int64.reduceSub, Int64.reduceMul, Int64.reduceLT, e13, z, ne1_4, n1_0]
    refine hp (d + 1) _ (fun v J L' k => ?_)
    simp only [E178_49, E178_52, E178_72, E178_73, rfs, rfn, cs0, csi, csl, csr, csn, kti, ktl, ktr, ktn, ktv, ktf, true_and, and_true, and_self, ↓reduceIte, Nat.reduceAdd, Nat.reduceSub, Nat.reduceMul, Nat.reduceLT, Nat.reduceLeDiff, Nat.reduceEqDiff, true_or, or_true, false_or, or_false, not_true_eq_false, not_false_eq_true, reduceCtorEq, cmp_lt, cmp_gt, cmp_eq, Int32.reduceAdd, Int32.reduceSub, Int32.reduceMul, Int32.reduceLT, Int32.reduceToNatClampNeg, eq_self, ne_eq, Int64.reduceAdd, Int64.reduceSub, Int64.reduceMul, Int64.reduceLT]
    exact hq v J L' k
  · have z : nI 0 = (0 : Int32) := rfl
    simp only [E178_20, E178_21, E178_24, E178_27, E178_28, E178_29, E178_32, E178_33, E178_36, E178_37, pk54 hS, rfs, rfn, cs0, csi, csl, csr, csn, kti, ktl, ktr, ktn, ktv, ktf, true_and, and_true, and_self, ↓reduceIte, Nat.reduceAdd, Nat.reduceSub, Nat.reduceMul, Nat.reduceLT, Nat.reduceLeDiff, Nat.reduceEqDiff, true_or, or_true, false_or, or_false, not_true_eq_false, not_false_eq_true, reduceCtorEq, cmp_lt, cmp_gt, cmp_eq, Int32.reduceAdd, Int32.reduceSub, Int32.reduceMul, Int32.reduceLT, Int32.reduceToNatClampNeg, eq_self, ne_eq, Int64.reduceAdd, Int64.reduceSub, Int64.reduceMul, Int64.reduceLT, e13, z, ne0_4]
    refine rlB4 (d := d) hS h q7 q4 (hp d) (fun v J L' k => ?_)
    simp only [E178_37, E178_40, E178_72, E178_73, rfs, rfn, cs0, csi, csl, csr, csn, kti, ktl, ktr, ktn, ktv, ktf, true_and, and_true, and_self, ↓reduceIte, Nat.reduceAdd, Nat.reduceSub, Nat.reduceMul, Nat.reduceLT, Nat.reduceLeDiff, Nat.reduceEqDiff, true_or, or_true, false_or, or_false, not_true_eq_false, not_false_eq_true, reduceCtorEq, cmp_lt, cmp_gt, cmp_eq, Int32.reduceAdd, Int32.reduceSub, Int32.reduceMul, Int32.reduceLT, Int32.reduceToNatClampNeg, eq_self, ne_eq, Int64.reduceAdd, Int64.reduceSub, Int64.reduceMul, Int64.reduceLT]
    exact hq v J L' k
theorem tnB (h : RbS X Y T P n m p a I L i ρ nP o κ) (hS : Pm S) {Z : Nat → mI → mL → Prop} (hp : ∀ (Q : mQ), (∀ v J L', Z v J L' → Q (.int (nI v)) S J L' R) → EvM (d + 6) 175 [.ref 54] S I L R Q) (hq : ∀ v J L', Z v J L' → Ev (d + 7) 178 20 [.ref 54, .int (bI tst), .int (nI v)] [] S J L' R Q) : Ev (d + 7) 178 20 [.ref 54, .int (bI tst), .int (nI 0)] [] S I L R Q := by
  have e13 : I 54 13 = 0 := h.2.1
  have z : nI 0 = (0 : Int32) := rfl
  simp only [E178_20, E178_21, E178_24, E178_27, E178_28, E178_29, E178_32, E178_33, E178_36, E178_37, pk54 hS, rfs, rfn, cs0, csi, csl, csr, csn, kti, ktl, ktr, ktn, ktv, ktf, true_and, and_true, and_self, ↓reduceIte, Nat.reduceAdd, Nat.reduceSub, Nat.reduceMul, Nat.reduceLT, Nat.reduceLeDiff, Nat.reduceEqDiff, true_or, or_true, false_or, or_false, not_true_eq_false, not_false_eq_true, reduceCtorEq, cmp_lt, cmp_gt, cmp_eq, Int32.reduceAdd, Int32.reduceSub, Int32.reduceMul, Int32.reduceLT, Int32.reduceToNatClampNeg, eq_self, ne_eq, Int64.reduceAdd, Int64.reduceSub, Int64.reduceMul, Int64.reduceLT, e13, z, ne0_4]
  refine hp _ (fun v J L' k => ?_)
  simp only [E178_37, E178_40, E178_72, E178_73, rfs, rfn, cs0, csi, csl, csr, csn, kti, ktl, ktr, ktn, ktv, ktf, true_and, and_true, and_self, ↓reduceIte, Nat.reduceAdd, Nat.reduceSub, Nat.reduceMul, Nat.reduceLT, Nat.reduceLeDiff, Nat.reduceEqDiff, true_or, or_true, false_or, or_false, not_true_eq_false, not_false_eq_true, reduceCtorEq, cmp_lt, cmp_gt, cmp_eq, Int32.reduceAdd, Int32.reduceSub, Int32.reduceMul, Int32.reduceLT, Int32.reduceToNatClampNeg, eq_self, ne_eq, Int64.reduceAdd, Int64.reduceSub, Int64.reduceMul, Int64.reduceLT]
  exact hq v J L' k
theorem tnC (h : RbS X Y T P n m p a I L i ρ nP o κ) (hS : Pm S) {Z : Nat → mI → mL → Prop} (hp : ∀ (Q : mQ), (∀ v J L', Z v J L' → Q (.int (nI v)) S J L' R) → EvM (d + 6) 176 [.ref 54, .int (bI tst)] S I L R Q) (hq : ∀ v J L', Z v J L' → Ev (d + 7) 178 20 [.ref 54, .int (bI tst), .int (nI v)] [] S J L' R Q) : Ev (d + 7) 178 20 [.ref 54, .int (bI tst), .int (nI 3)] [] S I L R Q := by
  have e13 : I 54 13 = 0 := h.2.1
  have z : nI 3 = (3 : Int32) := rfl
  simp only [E178_20, E178_21, E178_24, E178_27, E178_28, E178_29, E178_32, E178_33, E178_43, E178_44, E178_45, E178_55, E178_56, E178_57, E178_60, E178_61, E178_62, pk54 hS, rfs, rfn, cs0, csi, csl, csr, csn, kti, ktl, ktr, ktn, ktv, ktf, true_and, and_true, and_self, ↓reduceIte, Nat.reduceAdd, Nat.reduceSub, Nat.reduceMul, Nat.reduceLT, Nat.reduceLeDiff, Nat.reduceEqDiff, true_or, or_true, false_or, or_false, not_true_eq_false, not_false_eq_true, reduceCtorEq, cmp_lt, cmp_gt, cmp_eq, Int32.reduceAdd, Int32.reduceSub, Int32.reduceMul, Int32.reduceLT, Int32.reduceToNatClampNeg, eq_self, ne_eq, Int64.reduceAdd, Int64.reduceSub, Int64.reduceMul, Int64.reduceLT, e13, z, ne3_4, ne3_0, ne3_1]
  refine hp _ (fun v J L' k => ?_)
  simp only [E178_62, E178_65, E178_72, E178_73, rfs, rfn, cs0, csi, csl, csr, csn, kti, ktl, ktr, ktn, ktv, ktf, true_and, and_true, and_self, ↓reduceIte, Nat.reduceAdd, Nat.reduceSub, Nat.reduceMul, Nat.reduceLT, Nat.reduceLeDiff, Nat.reduceEqDiff, true_or, or_true, false_or, or_false, not_true_eq_false, not_false_eq_true, reduceCtorEq, cmp_lt, cmp_gt, cmp_eq, Int32.reduceAdd, Int32.reduceSub, Int32.reduceMul, Int32.reduceLT, Int32.reduceToNatClampNeg, eq_self, ne_eq, Int64.reduceAdd, Int64.reduceSub, Int64.reduceMul, Int64.reduceLT]
  exact hq v J L' k
theorem tnD (h : RbS X Y T P n m p a I L i ρ nP o κ) (hS : Pm S) {Z : Nat → mI → mL → Prop} (hp : ∀ (Q : mQ), (∀ v J L', Z v J L' → Q (.int (nI v)) S J L' R) → EvM (d + 6) 177 [.ref 54] S I L R Q) (hq : ∀ v J L', Z v J L' → Ev (d + 7) 178 20 [.ref 54, .int (bI tst), .int (nI v)] [] S J L' R Q) : Ev (d + 7) 178 20 [.ref 54, .int (bI tst), .int (nI 2)] [] S I L R Q := by
  have e13 : I 54 13 = 0 := h.2.1
  have z : nI 2 = (2 : Int32) := rfl
  simp only [E178_20, E178_21, E178_24, E178_27, E178_28, E178_29, E178_32, E178_33, E178_43, E178_44, E178_45, E178_55, E178_56, E178_57, E178_68, E178_69, pk54 hS, rfs, rfn, cs0, csi, csl, csr, csn, kti, ktl, ktr, ktn, ktv, ktf, true_and, and_true, and_self, ↓reduceIte, Nat.reduceAdd, Nat.reduceSub, Nat.reduceMul, Nat.reduceLT, Nat.reduceLeDiff, Nat.reduceEqDiff, true_or, or_true, false_or, or_false, not_true_eq_false, not_false_eq_true, reduceCtorEq, cmp_lt, cmp_gt, cmp_eq, Int32.reduceAdd, Int32.reduceSub, Int32.reduceMul, Int32.reduceLT, Int32.reduceToNatClampNeg, eq_self, ne_eq, Int64.reduceAdd, Int64.reduceSub, Int64.reduceMul, Int64.reduceLT, e13, z, ne2_4, ne2_0, ne2_1, ne2_3]
  refine hp _ (fun v J L' k => ?_)
  simp only [E178_69, E178_72, E178_73, rfs, rfn, cs0, csi, csl, csr, csn, kti, ktl, ktr, ktn, ktv, ktf, true_and, and_true, and_self, ↓reduceIte, Nat.reduceAdd, Nat.reduceSub, Nat.reduceMul, Nat.reduceLT, Nat.reduceLeDiff, Nat.reduceEqDiff, true_or, or_true, false_or, or_false, not_true_eq_false, not_false_eq_true, reduceCtorEq, cmp_lt, cmp_gt, cmp_eq, Int32.reduceAdd, Int32.reduceSub, Int32.reduceMul, Int32.reduceLT, Int32.reduceToNatClampNeg, eq_self, ne_eq, Int64.reduceAdd, Int64.reduceSub, Int64.reduceMul, Int64.reduceLT]
  exact hq v J L' k
theorem rTa.le {t : Nat} (h : rTa T t i) : t ≤ 4 := by
  rcases h with h | ⟨h, _⟩ <;> omega
theorem stp_A (hS : Pm S) (hR : Pr R) (hK : Tks X Y T P n m p) : rRA T (WX X Y T P n m p a d tst I0 S R Q) (WB P a d tst I0 S R Q) := by
  intro t i ρ nP o κ ht
  refine ⟨fun e wb J L h F => ?_, fun hn => ⟨fun q1 go wk J L h F => ?_, fun q1 go wb J L h F => ?_, fun q5 g1 go wk J L h F => ?_, fun q5 gq wb J L h F => ?_, fun q6 wk J L h F => ?_, fun h1 h2 wk J L h F => ?_, fun q1 q5 q6 q7 wb J L h F => ?_⟩⟩
  · subst e
    exact tnA hS ht h (Z := fun v J' _ => v = 4 ∧ BaS P a J' i ∧ Fx J J' a) (fun d Q hQ => rpA1 hS hR hK h (fun J' L' k F' => hQ 4 J' L' ⟨rfl, k, F'⟩)) (fun v J' L' z => by obtain ⟨rfl, k, F'⟩ := z; exact wb 4 J' L' (by decide) k (F.tr F'))
  · exact tnA hS ht h (Z := fun v J' L' => v = 1 ∧ RbS X Y T P n m p a J' L' (i + 1) (31 :: ρ) (nP + 1) (o + 1) κ ∧ Fx J J' a) (fun d Q hQ => rpA2 hS hR hK h hn q1 go (fun J' L' k F' => hQ 1 J' L' ⟨rfl, k, F'⟩)) (fun v J' L' z => by obtain ⟨rfl, k, F'⟩ := z; exact wk J' L' k (F.tr F'))
  · exact tnA hS ht h (Z := fun v J' _ => v = 1 ∧ BaS P a J' i ∧ Fx J J' a) (fun d Q hQ => rpA3 hS hR hK h hn q1 go (fun J' L' k F' => hQ 1 J' L' ⟨rfl, k, F'⟩)) (fun v J' L' z => by obtain ⟨rfl, k, F'⟩ := z; exact wb 1 J' L' (by decide) k (F.tr F'))
  · exact tnA hS ht h (Z := fun v J' L' => v = 1 ∧ RbS X Y T P n m p a J' L' (i + 2) ((if T i = -45 then (32 : Int32) else 33) :: ρ) (nP + 1) (o + 1) κ ∧ Fx J J' a) (fun d Q hQ => rpA4 hS hR hK h hn q5 g1 go (fun J' L' k F' => hQ 1 J' L' ⟨rfl, k, F'⟩)) (fun v J' L' z => by obtain ⟨rfl, k, F'⟩ := z; exact wk J' L' k (F.tr F'))
  · exact tnA hS ht h (Z := fun v J' _ => v = 1 ∧ BaS P a J' (i + 1) ∧ Fx J J' a) (fun d Q hQ => rpA5 hS hR hK h hn q5 gq (fun J' L' k F' => hQ 1 J' L' ⟨rfl, k, F'⟩)) (fun v J' L' z => by obtain ⟨rfl, k, F'⟩ := z; exact wb 1 J' L' (by decide) k (F.tr F'))
  · exact tnA hS ht h (Z := fun v J' L' => v = 3 ∧ RbS X Y T P n m p a J' L' (i + 1) ρ (nP + 1) o (κ ++ [(-40 - T i, 0)]) ∧ Fx J J' a) (fun d Q hQ => rpA6 hS hR hK h hn q6 (fun J' L' k F' => hQ 3 J' L' ⟨rfl, k, F'⟩)) (fun v J' L' z => by obtain ⟨rfl, k, F'⟩ := z; exact wk J' L' k (F.tr F'))
  · exact tnA hS ht h (Z := fun v J' L' => v = 3 ∧ RbS X Y T P n m p a J' L' (i + 1) ρ (nP + 1) o (κ ++ [(0, T i)]) ∧ Fx J J' a) (fun d Q hQ => rpA7 hS hR hK h hn h1 h2 (fun J' L' k F' => hQ 3 J' L' ⟨rfl, k, F'⟩)) (fun v J' L' z => by obtain ⟨rfl, k, F'⟩ := z; exact wk J' L' k (F.tr F'))
  · exact tnA hS ht h (Z := fun v J' _ => v = 3 ∧ BaS P a J' i ∧ Fx J J' a) (fun d Q hQ => rpA8 hS hR hK h hn q1 q5 q6 q7 (fun J' L' k F' => hQ 3 J' L' ⟨rfl, k, F'⟩)) (fun v J' L' z => by obtain ⟨rfl, k, F'⟩ := z; exact wb 3 J' L' (by decide) k (F.tr F'))
theorem stp_B (hS : Pm S) (hR : Pr R) (hK : Tks X Y T P n m p) : rRB T (WX X Y T P n m p a d tst I0 S R Q) (WB P a d tst I0 S R Q) := by
  intro i ρ nP o κ
  refine ⟨fun q7 wk J L h F => ?_, fun q4 go wk J L h F => ?_, fun q4 go wb J L h F => ?_⟩
  · exact tnB h hS (Z := fun v J' L' => v = 0 ∧ RbS X Y T P n m p a J' L' (i + 1) (27 :: ρ) nP o κ ∧ Fx J J' a) (fun Q hQ => rlB1 hS hR hK h q7 (fun J' L' k F' => hQ 0 J' L' ⟨rfl, k, F'⟩)) (fun v J' L' z => by obtain ⟨rfl, k, F'⟩ := z; exact wk J' L' k (F.tr F'))
  · exact tnB h hS (Z := fun v J' L' => v = 0 ∧ RbS X Y T P n m p a J' L' (i + 1) (30 :: ρ) nP (o + 1) κ ∧ Fx J J' a) (fun Q hQ => rlB2 hS hR hK h q4 go (fun J' L' k F' => hQ 0 J' L' ⟨rfl, k, F'⟩)) (fun v J' L' z => by obtain ⟨rfl, k, F'⟩ := z; exact wk J' L' k (F.tr F'))
  · exact tnB h hS (Z := fun v J' _ => v = 0 ∧ BaS P a J' i ∧ Fx J J' a) (fun Q hQ => rlB3 hS hR hK h q4 go (fun J' L' k F' => hQ 0 J' L' ⟨rfl, k, F'⟩)) (fun v J' L' z => by obtain ⟨rfl, k, F'⟩ := z; exact wb 0 J' L' (by decide) k (F.tr F'))
theorem stp_C (hS : Pm S) (hR : Pr R) (hK : Tks X Y T P n m p) : rRC T tst (WX X Y T P n m p a d tst I0 S R Q) (WB P a d tst I0 S R Q) := by
  intro i ρ nP o κ
  refine ⟨fun hpl wk J L h F => ?_, fun hpl g3 => ⟨fun r ec er wk J L h F => ?_, fun ec wb J L h F => ?_⟩, fun hpl g4 ht wk J L h F => ?_, fun hpl g3 gt => ⟨fun gc wk J L h F => ?_, fun gc => ⟨fun hc wk J L h F => ?_, fun hc wb J L h F => ?_⟩⟩⟩
  · exact tnC h hS (Z := fun v J' L' => v = 1 ∧ RbS X Y T P n m p a J' L' (i + 1) ((if T i = -143 then (20 : Int32) else 21) :: rSR 5 ρ) nP o (κ ++ rZp (rSP 5 ρ)) ∧ Fx J J' a) (fun Q hQ => bsC1 hS hR hK h hpl (fun J' L' k F' => hQ 1 J' L' ⟨rfl, k, F'⟩)) (fun v J' L' z => by obtain ⟨rfl, k, F'⟩ := z; exact wk J' L' k (F.tr F'))
  · exact tnC h hS (Z := fun v J' L' => v = 3 ∧ RbS X Y T P n m p a J' L' (i + 1) r nP o (κ ++ rZp (rSP 5 ρ) ++ (if rIn ρ = 31 then [] else [(rIn ρ, 0)])) ∧ Fx J J' a) (fun Q hQ => bsC2 hS hR hK h hpl g3 ec er (fun J' L' k F' => hQ 3 J' L' ⟨rfl, k, F'⟩)) (fun v J' L' z => by obtain ⟨rfl, k, F'⟩ := z; exact wk J' L' k (F.tr F'))
  · exact tnC h hS (Z := fun v J' _ => v = 3 ∧ BaS P a J' i ∧ Fx J J' a) (fun Q hQ => bsC3 hS hR hK h hpl g3 ec (fun J' L' k F' => hQ 3 J' L' ⟨rfl, k, F'⟩)) (fun v J' L' z => by obtain ⟨rfl, k, F'⟩ := z; exact wb 3 J' L' (by decide) k (F.tr F'))
  · subst ht
    exact tnC h hS (Z := fun v J' L' => v = 4 ∧ RbS X Y T P n m p a J' L' i ρ nP o κ ∧ Fx J J' a) (fun Q hQ => bsC4 hS hR hK h hpl g4 (fun J' L' k F' => hQ 4 J' L' ⟨rfl, k, F'⟩)) (fun v J' L' z => by obtain ⟨rfl, k, F'⟩ := z; exact wk J' L' k (F.tr F'))
  · exact tnC h hS (Z := fun v J' L' => v = 2 ∧ RbS X Y T P n m p a J' L' i ρ nP o κ ∧ Fx J J' a) (fun Q hQ => bsC5 hS hR hK h hpl g3 gt gc (fun J' L' k F' => hQ 2 J' L' ⟨rfl, k, F'⟩)) (fun v J' L' z => by obtain ⟨rfl, k, F'⟩ := z; exact wk J' L' k (F.tr F'))
  · exact tnC h hS (Z := fun v J' L' => v = 1 ∧ RbS X Y T P n m p a J' L' (i + 1) ((if T i = -160 then (24 : Int32) else if T i = -162 then 25 else 26) :: rSR 5 ρ) nP o (κ ++ rZp (rSP 5 ρ)) ∧ Fx J J' a) (fun Q hQ => bsC6 hS hR hK h hpl g3 gt gc hc (fun J' L' k F' => hQ 1 J' L' ⟨rfl, k, F'⟩)) (fun v J' L' z => by obtain ⟨rfl, k, F'⟩ := z; exact wk J' L' k (F.tr F'))
  · exact tnC h hS (Z := fun v J' _ => v = 1 ∧ BaS P a J' i ∧ Fx J J' a) (fun Q hQ => bsC7 hS hR hK h hpl g3 gt gc hc (fun J' L' k F' => hQ 1 J' L' ⟨rfl, k, F'⟩)) (fun v J' L' z => by obtain ⟨rfl, k, F'⟩ := z; exact wb 1 J' L' (by decide) k (F.tr F'))
theorem stp_D (hS : Pm S) (hR : Pr R) (hK : Tks X Y T P n m p) : rRD T (WX X Y T P n m p a d tst I0 S R Q) (WB P a d tst I0 S R Q) := by
  intro i ρ nP o κ
  refine ⟨fun q wk J L h F => ?_, fun q wk J L h F => ?_, fun q6 q5 => ⟨fun g4 wk J L h F => ?_, fun g4 => ⟨fun x r ec er wk J L h F => ?_, fun ec wb J L h F => ?_⟩⟩⟩
  · exact tnD h hS (Z := fun v J' L' => v = 0 ∧ RbS X Y T P n m p a J' L' (i + 1) (28 :: rSR 2 ρ) nP o (κ ++ rZp (rSP 2 ρ)) ∧ Fx J J' a) (fun Q hQ => btD1 hS hR hK h q (fun J' L' k F' => hQ 0 J' L' ⟨rfl, k, F'⟩)) (fun v J' L' z => by obtain ⟨rfl, k, F'⟩ := z; exact wk J' L' k (F.tr F'))
  · exact tnD h hS (Z := fun v J' L' => v = 0 ∧ RbS X Y T P n m p a J' L' (i + 1) (29 :: rSR 1 ρ) nP o (κ ++ rZp (rSP 1 ρ)) ∧ Fx J J' a) (fun Q hQ => btD2 hS hR hK h q (fun J' L' k F' => hQ 0 J' L' ⟨rfl, k, F'⟩)) (fun v J' L' z => by obtain ⟨rfl, k, F'⟩ := z; exact wk J' L' k (F.tr F'))
  · exact tnD h hS (Z := fun v J' L' => v = 4 ∧ RbS X Y T P n m p a J' L' i ρ nP o κ ∧ Fx J J' a) (fun Q hQ => btD3 hS hR hK h q6 q5 g4 (fun J' L' k F' => hQ 4 J' L' ⟨rfl, k, F'⟩)) (fun v J' L' z => by obtain ⟨rfl, k, F'⟩ := z; exact wk J' L' k (F.tr F'))
  · exact tnD h hS (Z := fun v J' L' => v = 2 ∧ RbS X Y T P n m p a J' L' (i + 1) r nP o (κ ++ rZp (rSP 1 ρ)) ∧ Fx J J' a) (fun Q hQ => btD4 hS hR hK h q6 q5 g4 ec er (fun J' L' k F' => hQ 2 J' L' ⟨rfl, k, F'⟩)) (fun v J' L' z => by obtain ⟨rfl, k, F'⟩ := z; exact wk J' L' k (F.tr F'))
  · exact tnD h hS (Z := fun v J' _ => v = 2 ∧ BaS P a J' i ∧ Fx J J' a) (fun Q hQ => btD5 hS hR hK h q6 q5 g4 ec (fun J' L' k F' => hQ 2 J' L' ⟨rfl, k, F'⟩)) (fun v J' L' z => by obtain ⟨rfl, k, F'⟩ := z; exact wb 2 J' L' (by decide) k (F.tr F'))
theorem stp_x (hS : Pm S) (hR : Pr R) (hK : Tks X Y T P n m p) : rStp T tst (WX X Y T P n m p a d tst I0 S R Q) (WB P a d tst I0 S R Q) := ⟨stp_A hS hR hK, stp_B hS hR hK, stp_C hS hR hK, stp_D hS hR hK⟩
/-- between expressions -/
def ExS (X : mI) (Y T P : Nat → Int32) (n m : Nat) (p : Nat → Nat) (a : Nat) (J : mI) (L : mL) (i nP : Nat) (κ : List (Int32 × Int32)) : Prop := RTi X Y T P n m p J L i ∧ J 54 13 = 0 ∧ J 54 12 = -1 ∧ J 54 14 = nI nP ∧ (∃ nc, J 54 15 = nI nc ∧ nc ≤ i ∧ a ≤ nc) ∧ i ≤ m ∧ nP ≤ 60 ∧ Cde J κ
theorem rxE_ok (hS : Pm S) (hR : Pr R) (hK : Tks X Y T P n m p) (h : RbS X Y T P n m p a I L i ρ nP o κ) (hq : ∀ J, ExS X Y T P n m p a J L i nP (κ ++ rZp (rSP 1 ρ)) → Fx I J a → Q .null S J L R) : Ev (d + 7) 178 20 [.ref 54, .int (bI tst), .int (nI 4)] [] S I L R Q := by
  obtain ⟨hT, e13, e14, e20, ⟨q, nc, e19, eq, e15, hqn, ha⟩, hm, hn, ho, e12, hcd⟩ := id h
  have m4 := hK.1
  have m5 := hK.2.1
  have fin : Ev (d + 7) 178 76 [.ref 54, .int (bI tst), .int (nI 4)] [] S I L R Q := by
    simp only [E178_76, E178_77, E178_78, pk54 hS, rfs, rfn, cs0, csi, csl, csr, csn, kti, ktl, ktr, ktn, ktv, ktf, true_and, and_true, and_self, ↓reduceIte, Nat.reduceAdd, Nat.reduceSub, Nat.reduceMul, Nat.reduceLT, Nat.reduceLeDiff, Nat.reduceEqDiff, true_or, or_true, false_or, or_false, not_true_eq_false, not_false_eq_true, reduceCtorEq, cmp_lt, cmp_gt, cmp_eq, Int32.reduceAdd, Int32.reduceSub, Int32.reduceMul, Int32.reduceLT, Int32.reduceToNatClampNeg, eq_self, ne_eq, Int64.reduceAdd, Int64.reduceSub, Int64.reduceMul, Int64.reduceLT]
    refine stE hS hR h e19 eq e15 (by omega) ha (by decide) (fun J q' nc' k1 k2 k3 k4 k5 k6 F => ?_)
    simp only [E178_78, E178_81, rfs, rfn, cs0, csi, csl, csr, csn, kti, ktl, ktr, ktn, ktv, ktf, true_and, and_true, and_self, ↓reduceIte, Nat.reduceAdd, Nat.reduceSub, Nat.reduceMul, Nat.reduceLT, Nat.reduceLeDiff, Nat.reduceEqDiff, true_or, or_true, false_or, or_false, not_true_eq_false, not_false_eq_true, reduceCtorEq, cmp_lt, cmp_gt, cmp_eq, Int32.reduceAdd, Int32.reduceSub, Int32.reduceMul, Int32.reduceLT, Int32.reduceToNatClampNeg, eq_self, ne_eq, Int64.reduceAdd, Int64.reduceSub, Int64.reduceMul, Int64.reduceLT]
    obtain ⟨jT, j13, j14, j20, _, _, _, _, j12, jcd⟩ := k6 hqn
    exact hq J ⟨jT, j13, j12, j14, ⟨nc', k3, by omega, k5⟩, hm, hn, jcd⟩ F
  have z4 : nI 4 = (4 : Int32) := rfl
  rw [z4] at fin ⊢
  simp only [E178_20, E178_21, E178_24, E178_27, E178_28, E178_29, pk54 hS, rfs, rfn, cs0, csi, csl, csr, csn, kti, ktl, ktr, ktn, ktv, ktf, true_and, and_true, and_self, ↓reduceIte, Nat.reduceAdd, Nat.reduceSub, Nat.reduceMul, Nat.reduceLT, Nat.reduceLeDiff, Nat.reduceEqDiff, true_or, or_true, false_or, or_false, not_true_eq_false, not_false_eq_true, reduceCtorEq, cmp_lt, cmp_gt, cmp_eq, Int32.reduceAdd, Int32.reduceSub, Int32.reduceMul, Int32.reduceLT, Int32.reduceToNatClampNeg, eq_self, ne_eq, Int64.reduceAdd, Int64.reduceSub, Int64.reduceMul, Int64.reduceLT, e13]
  exact fin
theorem rxE_no {j t : Nat} (hS : Pm S) (hR : Pr R) (h : BaS P a I j) (hq : ∀ J, J 54 13 = 1 → J 54 12 = P j → (∃ nc, J 54 15 = nI nc ∧ nc ≤ 400 ∧ a ≤ nc) → Fx I J a → Q .null S J L R) : Ev (d + 7) 178 20 [.ref 54, .int (bI tst), .int (nI t)] [] S I L R Q := by
  obtain ⟨e13, e12, q, nc, e19, e15, hqn, ha⟩ := h
  simp only [E178_20, E178_21, E178_24, E178_76, E178_77, E178_78, pk54 hS, rfs, rfn, cs0, csi, csl, csr, csn, kti, ktl, ktr, ktn, ktv, ktf, true_and, and_true, and_self, ↓reduceIte, Nat.reduceAdd, Nat.reduceSub, Nat.reduceMul, Nat.reduceLT, Nat.reduceLeDiff, Nat.reduceEqDiff, true_or, or_true, false_or, or_false, not_true_eq_false, not_false_eq_true, reduceCtorEq, cmp_lt, cmp_gt, cmp_eq, Int32.reduceAdd, Int32.reduceSub, Int32.reduceMul, Int32.reduceLT, Int32.reduceToNatClampNeg, eq_self, ne_eq, Int64.reduceAdd, Int64.reduceSub, Int64.reduceMul, Int64.reduceLT, e13, n1_0]
  refine set_ (a := a) (v := False) hS hR (by decide) e15 e19 hqn ha (fun z => z.elim) (fun J p' nc' k1 k2 k3 k4 k5 k6 k7 k8 _ k10 => ?_)
  simp only [E178_78, E178_81, rfs, rfn, cs0, csi, csl, csr, csn, kti, ktl, ktr, ktn, ktv, ktf, true_and, and_true, and_self, ↓reduceIte, Nat.reduceAdd, Nat.reduceSub, Nat.reduceMul, Nat.reduceLT, Nat.reduceLeDiff, Nat.reduceEqDiff, true_or, or_true, false_or, or_false, not_true_eq_false, not_false_eq_true, reduceCtorEq, cmp_lt, cmp_gt, cmp_eq, Int32.reduceAdd, Int32.reduceSub, Int32.reduceMul, Int32.reduceLT, Int32.reduceToNatClampNeg, eq_self, ne_eq, Int64.reduceAdd, Int64.reduceSub, Int64.reduceMul, Int64.reduceLT]
  exact hq J ((k10.2.1 13 (by decide) (by decide)).trans e13) ((k10.2.1 12 (by decide) (by decide)).trans e12) ⟨nc', k4, by omega, by omega⟩ (k10.x ha)
def exF (tst : Bool) (C : mI) : mI := if tst = true then testF (plainF 8) C else sumF (partF 8) C
theorem Ve.tb {b : Bool} {n n1 : Nat} {l : List (Int32 × Int32)} {c : List Int32} (h : Ve (if b = true then True else False) n n1 l c) : Ve (b = true) n n1 l c := by
  obtain ⟨a1, a2, a3, f, a4, a5, a6⟩ := h
  exact ⟨a1, a2, a3, f, a4, a5, fun z => a6 (by rw [if_pos z]; trivial)⟩
/-- readExpression -/
theorem rexE {C : mI} {c : Nat} (hS : Pm S) (hR : Pr R) (hK : Tks X Y T P n m p) (hT : TkO T P m) (hC : Cst T P m C i nP 0 c) (h0 : 0 < i) (hE : ExS X Y T P n m p a I L i nP κ) (hok : ∀ J L' i' n' c' l, Cst T P m (exF tst C) i' n' 0 c' → c' + i ≤ c + i' → i < i' → c ≤ c' → Kp c C (exF tst C) → Ve (tst = true) nP n' l (Sg (exF tst C) c c') → ExS X Y T P n m p a J L' i' n' (κ ++ l) → Fx I J a → Q .null S J L' R) (hno : ∀ J L' j, j ≤ m → exF tst C 14 5 = P j → J 54 13 = 1 → J 54 12 = P j → (∃ nc, J 54 15 = nI nc ∧ nc ≤ 400 ∧ a ≤ nc) → Fx I J a → Q .null S J L' R) : EvM (d + 7) 178 [.ref 54, .int (bI tst)] S I L R Q := by
  obtain ⟨eT, e13, e12, e14, ⟨nc, e15, e1, e2⟩, em, en, hcd⟩ := hE
  have K0 : Fx I (put (put I 54 19 0) 54 20 0) a := Fx.p (Fx.p Fx.rf (by decide)) (by decide)
  have r0 : RbS X Y T P n m p a (put (put I 54 19 0) 54 20 0) L i [] nP 0 κ := by
    refine ⟨eT.cg ?_ (fun k h1 h2 => by rw [pt_f (by omega), pt_f (by omega)]), ?_, ?_, ?_, ⟨0, nc, ?_, rfl, ?_, by omega, e2⟩, em, en, by omega, ?_, hcd.cg (by rw [pt_f (by decide), pt_f (by decide)]) (by rw [pt_n (by decide), pt_n (by decide)]) (by rw [pt_n (by decide), pt_n (by decide)])⟩
    · rw [pt_n (by decide), pt_n (by decide)]
    · rw [pt_f (by decide), pt_f (by decide)]; exact e13
    · rw [pt_f (by decide), pt_f (by decide)]; exact e14
    · rw [pt_s]; rfl
    · rw [pt_f (by decide), pt_s]; rfl
    · rw [pt_f (by decide), pt_f (by decide)]; exact e15
    · rw [pt_f (by decide), pt_f (by decide)]; exact e12
  have st := stp_x (a := a) (d := d) (tst := tst) (I0 := I) (Q := Q) hS hR hK
  have wb : ∀ j, j ≤ m → exF tst C 14 5 = P j → WB P a d tst I S R Q j := fun j j1 j2 t J L' ht hb F => rxE_no hS hR hb (fun J2 k1 k2 k3 k4 => hno J2 L' j j1 j2 k1 k2 k3 (F.tr k4))
  have w4 : ∀ i' n' c' ρ o κ' l, Cst T P m (exF tst C) i' n' 0 c' → c' + i ≤ c + i' → i < i' → c ≤ c' → Kp c C (exF tst C) → κ' ++ rZp (rSP 1 ρ) = κ ++ l → Ve (tst = true) nP n' l (Sg (exF tst C) c c') → WX X Y T P n m p a d tst I S R Q 4 i' ρ n' o κ' := fun i' n' c' ρ o κ' l k1 k2 k3 kc kp kl kv J L' hr F => rxE_ok hS hR hK hr (fun J2 z1 z2 => hok J2 L' i' n' c' l k1 k2 k3 kc kp kv (by rw [← kl]; exact z1) (F.tr z2))
  cases tst
  · have go : WX X Y T P n m p a d false I S R Q 1 i [] nP 0 κ := by
      rcases smt_b hT st (b := 8) (o := 0) rfl C i nP c hC with ⟨j, j1, j2, j3⟩ | ⟨i', n', c', k1, k2, k3, k4, kc, kp, k5⟩
      · exact j3 (wb j j1 j2) 1 [] κ (Or.inl rfl) rfl
      · refine k5 1 [] κ (Or.inl rfl) rfl (fun δ l hd hv => ?_)
        refine (st.2.2.1 i' (δ ++ []) n' 0 (κ ++ l)).2.2.1 k4 ((rin_ap hd.l).trans rfl) rfl (w4 i' n' c' _ _ _ (l ++ rZp δ) k1 k2 k3 kc kp ?_ (Ve.tb hv))
        rw [(rsr_bd (β := []) (k := 1) rfl (hd.bd.mo (by decide))).2, List.append_assoc]
    have k := go _ L r0 K0
    simp only [bI_f] at k ⊢
    simp only [M178, E178_0, E178_1, E178_2, E178_5, E178_6, E178_7, E178_10, E178_11, E178_18, E178_19, pk54 hS, rfs, rfn, cs0, csi, csl, csr, csn, kti, ktl, ktr, ktn, ktv, ktf, true_and, and_true, and_self, ↓reduceIte, Nat.reduceAdd, Nat.reduceSub, Nat.reduceMul, Nat.reduceLT, Nat.reduceLeDiff, Nat.reduceEqDiff, true_or, or_true, false_or, or_false, not_true_eq_false, not_false_eq_true, reduceCtorEq, cmp_lt, cmp_gt, cmp_eq, Int32.reduceAdd, Int32.reduceSub, Int32.reduceMul, Int32.reduceLT, Int32.reduceToNatClampNeg, eq_self, ne_eq, Int64.reduceAdd, Int64.reduceSub, Int64.reduceMul, Int64.reduceLT, pt]
    exact k
  · have go : WX X Y T P n m p a d true I S R Q 0 i [] nP 0 κ := by
      rcases tst_b hT st C i nP c h0 hC with ⟨j, j1, j2, j3⟩ | ⟨i', n', c', k1, k2, k3, k4, k5, kc, kp, k6⟩
      · exact j3 (wb j j1 j2) [] κ (Or.inl rfl)
      · refine k6 [] κ (Or.inl rfl) (fun π l hπ hv => ?_)
        refine ((st.2.2.2 i' (π ++ []) n' 0 (κ ++ l)).2.2 k4 k5).1 ((rin_ap hπ.l3).trans rfl) (w4 i' n' c' _ _ _ (l ++ rZp π) k1 k2 k3 kc kp ?_ (Ve.tb hv))
        rw [(rsr_bd (β := []) (k := 1) rfl hπ).2, List.append_assoc]
    have k := go _ L r0 K0
    simp only [bI_t] at k ⊢
    simp only [M178, E178_0, E178_1, E178_2, E178_5, E178_6, E178_7, E178_10, E178_11, E178_14, E178_15, E178_18, E178_19, pk54 hS, rfs, rfn, cs0, csi, csl, csr, csn, kti, ktl, ktr, ktn, ktv, ktf, true_and, and_true, and_self, ↓reduceIte, Nat.reduceAdd, Nat.reduceSub, Nat.reduceMul, Nat.reduceLT, Nat.reduceLeDiff, Nat.reduceEqDiff, true_or, or_true, false_or, or_false, not_true_eq_false, not_false_eq_true, reduceCtorEq, cmp_lt, cmp_gt, cmp_eq, Int32.reduceAdd, Int32.reduceSub, Int32.reduceMul, Int32.reduceLT, Int32.reduceToNatClampNeg, eq_self, ne_eq, Int64.reduceAdd, Int64.reduceSub, Int64.reduceMul, Int64.reduceLT, n1_0, pt]
    exact k
end RX
