/-! the class's calls heats, reached, even, striker, plan: with content -/
/-- all that a Planner knows holds -/
def PqC (c P : Nat) (I : mI) (L : mL) : Prop := PlV (wt c) c (9 ^ c) (nW c) P I L ∧ EvC (wt c) c (9 ^ c) P I L ∧ PpC (wt c) c (9 ^ c) P I L
theorem PqC.cg {c P : Nat} {I J : mI} {L L' : mL} (h : PqC c P I L) (f : ∀ a, P ≤ a → a < P + 54 + 3 * c → J a = I a) (fl : ∀ a, P ≤ a → a < P + 54 + 3 * c → L' a = L a) : PqC c P J L' := by
  have e : pL1 P c = P + 11 + 3 * c := rfl
  obtain ⟨h1, h2, h3⟩ := h
  refine ⟨PlV.mk (h1.1.1.mono (fun a a1 a2 => fl a (by omega) (by omega))) ?_ (fun q hq => ?_), h2.i (by rw [f P (by omega) (by omega)]) (by rw [fl P (by omega) (by omega)]), ?_⟩
  · rw [f (P + 3) (by omega) (by omega)]
    exact h1.1.2.mono (fun a a1 a2 => fl a (by omega) (by omega))
  · have z := lvO_le q hq
    exact LvJ.mono (h1.g hq) (f _ (by omega) (by omega)) (fun b b1 b2 => fl b (by omega) (by omega))
  · unfold PpC
    rw [f P (by omega) (by omega), f (P + 1) (by omega) (by omega), f (P + 2) (by omega) (by omega), fl P (by omega) (by omega)]
    exact h3
theorem PqC.new {c P : Nat} {I0 I : mI} {L0 L : mL} (h : StL I0 I L0 L P c (nW c) (wt c)) (v : LvI I (pL1 P c) 1 0 (-1) 0 0 ∧ LvI I (pL1 P c + 10) 0 0 (-1) 0 0 ∧ LvI I (pL1 P c + 20) 1 0 (-1) 0 0 ∧ LvI I (pL1 P c + 27) 0 0 (-1) 0 0) : PqC c P I L := by
  obtain ⟨⟨h1, h2, h3, h4⟩, h5, h6, h7, h8⟩ := h
  obtain ⟨v1, v2, v3, v4⟩ := v
  refine ⟨⟨⟨h5, by rw [h7]; exact h6⟩, ⟨v1.1, Or.inl v1.2.1⟩, ⟨v2.1, Or.inl v2.2.1⟩, ⟨v3.1, Or.inl v3.2.1⟩, ⟨v4.1, Or.inl v4.2.1⟩⟩, Or.inl h4, Or.inl h3⟩
/-- what a call that asks the Planner of width c leaves -/
def PcK (S : mS) (I : mI) (L : mL) (R : mR) (c : Nat) (S' : mS) (I' : mI) (L' : mL) (R' : mR) : Prop := (S' = S ∧ R' = R ∧ ∃ P, R 39 c = some P ∧ (PlI I' P c (nW c) (wt c) ∧ PqC c P I' L') ∧ Pv P c I I' ∧ ∀ a, (a < P ∨ P + 54 + 3 * c ≤ a) → L' a = L a) ∨ (R 39 c = none ∧ S'.1 = S.1 + 54 + 3 * c ∧ S'.2.1 ≤ S.2.1 + 13 + yW c ∧ Ext S S' ∧ PlS S' R' S.1 c (nW c) ∧ (PlI I' S.1 c (nW c) (wt c) ∧ PqC c S.1 I' L') ∧ (∀ a, a < S.1 → (I' a = I a ∧ L' a = L a) ∧ (¬ a = 39 → R' a = R a)) ∧ R' 39 = va_up (R 39) c (some S.1))
/-- what stands, in the class's own cells -/
def StC (I : mI) (c : Nat) (A A2 : Nat → Nat) (th B : Nat) : Prop := StK I 5 c A A2 (nI th) B ∧ th < 2 ^ 10 ∧ B < 2 ^ 4 ∧ RwK I 3 c (fun _ => 2)
theorem StC.cg {I J : mI} {c th B : Nat} {A A2 : Nat → Nat} (h : StC I c A A2 th B) (f : ∀ a, a < 85 → J a = I a) : StC J c A A2 th B := ⟨h.1.cg (fun a a1 a2 => f a (by omega)), h.2.1, h.2.2.1, h.2.2.2.cg (f 3 (by decide))⟩
section PC
variable {d c th B : Nat} {A A2 : Nat → Nat} {S : mS} {I : mI} {L : mL} {R : mR} {Q K : mQ}
theorem StC.n (h : StC I c A A2 th B) (hc : c = 3 ∨ c = 4 ∨ c = 5) : (rnum (wt c) A c < 9 ^ c ∧ rnum (wt c) A2 c < 9 ^ c) ∧ (irn (wt c) (rnum (wt c) A c) c = isum A c ∧ isum A c < 2 ^ 20) ∧ irn (wt c) (rnum (wt c) A2 c) c = isum A2 c ∧ isum A2 c < 2 ^ 20 := by
  have a := fun i hi => (h.1.2.1 i hi).2
  have b := fun i hi => (h.1.2.2.1 i hi).2
  have c1 := isum_le c a
  have c2 := isum_le c b
  exact ⟨⟨(rn_dg hc a).1, (rn_dg hc b).1⟩, ⟨irn_rn hc a, by omega⟩, irn_rn hc b, by omega⟩
theorem ev_n (hc : c = 3 ∨ c = 4 ∨ c = 5) : ∀ k, 1 ≤ k → k ≤ 9 → evr (wt c) c k < 9 ^ c ∧ irn (wt c) (evr (wt c) c k) c = k * c := fun k k1 k2 => by
  have a : ∀ i, i < c → 1 ≤ (fun _ => k) i ∧ (fun _ => k) i ≤ 9 := fun _ _ => ⟨k1, k2⟩
  exact ⟨(rn_dg hc a).1, (irn_rn hc a).trans (isum_c c)⟩
theorem pl_askK {An : Int32 → Prop} (hS : Pm S) (hR : Pr R) (hc : c = 3 ∨ c = 4 ∨ c = 5) (h5 : I 5 0 = nI c) (hp : ∀ P, R 39 c = some P → PlS S R P c (nW c) ∧ (PlI I P c (nW c) (wt c) ∧ PqC c P I L) ∧ 85 ≤ P) (hK : ∀ (S1 : mS) (I1 : mI) (L1 : mL) (R1 : mR) (P : Nat), Pm S1 → Pr R1 → PlS S1 R1 P c (nW c) → PlI I1 P c (nW c) (wt c) → PqC c P I1 L1 → 85 ≤ P → (∀ a, a < 85 → I1 a = I a) → (∀ v J L', PlI J P c (nW c) (wt c) → PqC c P J L' → Pv P c I1 J → (∀ a, (a < P ∨ P + 54 + 3 * c ≤ a) → L' a = L1 a) → An v → Q (.int v) S1 J L' R1) → K (.ref P) S1 I1 L1 R1) (hq : ∀ v S' I' L' R', PcK S I L R c S' I' L' R' → An v → Q (.int v) S' I' L' R') : EvM (d + 6) 134 [.ref 4] S I L R K := by
  refine planner_c hS hR hc h5 (fun P hr => ?_) (fun hr S' I' L' R' f1 f2 f3 f4 f5 f6 f7 f8 f9 => ?_)
  · obtain ⟨a1, ⟨a2, a4⟩, a3⟩ := hp P hr
    exact hK S I L R P hS hR a1 a2 a4 a3 (fun _ _ => rfl) (fun v J L' hJ hC g gl an => hq _ _ _ _ _ (Or.inl ⟨rfl, rfl, P, hr, ⟨hJ, hC⟩, g, gl⟩) an)
  · have hS' := Pm_ext hS f3.1 f3.2
    have h85 := hS.1
    have hR' : Pr R' := fun q hq => by
      have e := pR85 q hq
      rw [(f6 q.1 (by omega)).2 (pR39 q hq)]
      exact hR q hq
    exact hK S' I' L' R' S.1 hS' hR' f4 f5 (PqC.new f8 f9) hS.1 (fun a ha => (f6 a (by omega)).1) (fun v J L1 hJ hC g gl an => hq _ _ _ _ _ (Or.inr ⟨hr, f1, f2, f3, f4, ⟨hJ, hC⟩, fun a ha => ⟨⟨(g a (Or.inl ha)).trans (f6 a ha).1, (gl a (Or.inl ha)).trans (f8.2.2.2.2 a ha)⟩, (f6 a ha).2⟩, f7⟩) an)
theorem heats_k (hS : Pm S) (hR : Pr R) (hc : c = 3 ∨ c = 4 ∨ c = 5) (hK : StC I c A A2 th B) (hp : ∀ P, R 39 c = some P → PlS S R P c (nW c) ∧ (PlI I P c (nW c) (wt c) ∧ PqC c P I L) ∧ 85 ≤ P) (hq : ∀ v S' I' L' R', PcK S I L R c S' I' L' R' → MinH (wt c) c (nI th) B (rnum (wt c) A c) (rnum (wt c) A2 c) v → Q (.int v) S' I' L' R') : EvM (d + 7) 115 [.ref 4] S I L R Q := by
  obtain ⟨⟨n1, n2⟩, n3, n4⟩ := hK.n hc
  have n5 := n9c hc
  simp only [M115, E115_0, E115_1, E115_4, E115_5, E115_8, E115_11, pk4 hS, pk5 hS, rfs, rfn, cs0, csi, csl, csr, csn, kti, ktl, ktr, ktn, ktv, ktf, true_and, and_true, and_self, ↓reduceIte, Nat.reduceAdd, Nat.reduceSub, Nat.reduceMul, Nat.reduceLT, Nat.reduceLeDiff, Nat.reduceEqDiff, true_or, or_true, false_or, or_false, not_true_eq_false, not_false_eq_true, reduceCtorEq, cmp_lt, cmp_gt, cmp_eq, Int32.reduceAdd, Int32.reduceSub, Int32.reduceMul, Int32.reduceLT, Int32.reduceToNatClampNeg, eq_self, ne_eq, Int64.reduceAdd, Int64.reduceSub, Int64.reduceMul, Int64.reduceLT]
  refine pl_askK hS hR hc hK.1.1 hp (fun S I L R P hS hR a1 a2 a4 a3 fr hk => ?_) hq
  have hK' := hK.cg fr
  simp only [E115_0, E115_1, E115_4, E115_5, E115_8, E115_11, pk4 hS, pk5 hS, pr4_0 hR, rfs, rfn, cs0, csi, csl, csr, csn, kti, ktl, ktr, ktn, ktv, ktf, true_and, and_true, and_self, ↓reduceIte, Nat.reduceAdd, Nat.reduceSub, Nat.reduceMul, Nat.reduceLT, Nat.reduceLeDiff, Nat.reduceEqDiff, true_or, or_true, false_or, or_false, not_true_eq_false, not_false_eq_true, reduceCtorEq, cmp_lt, cmp_gt, cmp_eq, Int32.reduceAdd, Int32.reduceSub, Int32.reduceMul, Int32.reduceLT, Int32.reduceToNatClampNeg, eq_self, ne_eq, Int64.reduceAdd, Int64.reduceSub, Int64.reduceMul, Int64.reduceLT, a1.1.1]
  refine heK (A := A) (A2 := A2) a1 a2 a4.1 (WNc hc) (by omega) nWlt n5.1 (by omega) (smi5 hS hR) (Or.inl (by omega)) hK'.1 n1 n2 n3 n4 (fun v J L hJ hV g an => ?_)
  try simp only [E115_0, E115_1, E115_4, E115_5, E115_8, E115_11, rfs, rfn, cs0, csi, csl, csr, csn, kti, ktl, ktr, ktn, ktv, ktf, true_and, and_true, and_self, ↓reduceIte, Nat.reduceAdd, Nat.reduceSub, Nat.reduceMul, Nat.reduceLT, Nat.reduceLeDiff, Nat.reduceEqDiff, true_or, or_true, false_or, or_false, not_true_eq_false, not_false_eq_true, reduceCtorEq, cmp_lt, cmp_gt, cmp_eq, Int32.reduceAdd, Int32.reduceSub, Int32.reduceMul, Int32.reduceLT, Int32.reduceToNatClampNeg, eq_self, ne_eq, Int64.reduceAdd, Int64.reduceSub, Int64.reduceMul, Int64.reduceLT]
  exact hk _ _ _ hJ ⟨hV, a4.2.1.pf g, a4.2.2.pf g⟩ (fun a ha => g.1 a (by omega)) (fun a ha => g.2 a (by omega)) an
theorem striker_k (hS : Pm S) (hR : Pr R) (hc : c = 3 ∨ c = 4 ∨ c = 5) (hK : StC I c A A2 th B) (hp : ∀ P, R 39 c = some P → PlS S R P c (nW c) ∧ (PlI I P c (nW c) (wt c) ∧ PqC c P I L) ∧ 85 ≤ P) (hq : ∀ v S' I' L' R', PcK S I L R c S' I' L' R' → (∃ v1, MinH (wt c) c (nI th) B (rnum (wt c) A c) (rnum (wt c) A2 c) v1 ∧ ((v1 = -1 ∧ v = -1) ∨ (¬ v1 = -1 ∧ ∃ v2, MinH (wt c) c (nI th) (B + 1) (rnum (wt c) A c) (rnum (wt c) A2 c) v2 ∧ v = if v2 = -1 then -1 else v1 - v2))) → Q (.int v) S' I' L' R') : EvM (d + 7) 124 [.ref 4] S I L R Q := by
  obtain ⟨⟨n1, n2⟩, n3, n4⟩ := hK.n hc
  have n5 := n9c hc
  simp only [M124, E124_0, E124_1, E124_4, E124_5, E124_8, E124_11, pk4 hS, pk5 hS, rfs, rfn, cs0, csi, csl, csr, csn, kti, ktl, ktr, ktn, ktv, ktf, true_and, and_true, and_self, ↓reduceIte, Nat.reduceAdd, Nat.reduceSub, Nat.reduceMul, Nat.reduceLT, Nat.reduceLeDiff, Nat.reduceEqDiff, true_or, or_true, false_or, or_false, not_true_eq_false, not_false_eq_true, reduceCtorEq, cmp_lt, cmp_gt, cmp_eq, Int32.reduceAdd, Int32.reduceSub, Int32.reduceMul, Int32.reduceLT, Int32.reduceToNatClampNeg, eq_self, ne_eq, Int64.reduceAdd, Int64.reduceSub, Int64.reduceMul, Int64.reduceLT]
  refine pl_askK hS hR hc hK.1.1 hp (fun S I L R P hS hR a1 a2 a4 a3 fr hk => ?_) hq
  have hK' := hK.cg fr
  simp only [E124_0, E124_1, E124_4, E124_5, E124_8, E124_11, pk4 hS, pk5 hS, pr4_0 hR, rfs, rfn, cs0, csi, csl, csr, csn, kti, ktl, ktr, ktn, ktv, ktf, true_and, and_true, and_self, ↓reduceIte, Nat.reduceAdd, Nat.reduceSub, Nat.reduceMul, Nat.reduceLT, Nat.reduceLeDiff, Nat.reduceEqDiff, true_or, or_true, false_or, or_false, not_true_eq_false, not_false_eq_true, reduceCtorEq, cmp_lt, cmp_gt, cmp_eq, Int32.reduceAdd, Int32.reduceSub, Int32.reduceMul, Int32.reduceLT, Int32.reduceToNatClampNeg, eq_self, ne_eq, Int64.reduceAdd, Int64.reduceSub, Int64.reduceMul, Int64.reduceLT, a1.1.1]
  refine sbK (A := A) (A2 := A2) a1 a2 a4.1 (WNc hc) (by omega) nWlt n5.1 (by omega) (smi5 hS hR) (Or.inl (by omega)) hK'.1 n1 n2 n3 n4 (fun v J L hJ hV g an => ?_)
  try simp only [E124_0, E124_1, E124_4, E124_5, E124_8, E124_11, rfs, rfn, cs0, csi, csl, csr, csn, kti, ktl, ktr, ktn, ktv, ktf, true_and, and_true, and_self, ↓reduceIte, Nat.reduceAdd, Nat.reduceSub, Nat.reduceMul, Nat.reduceLT, Nat.reduceLeDiff, Nat.reduceEqDiff, true_or, or_true, false_or, or_false, not_true_eq_false, not_false_eq_true, reduceCtorEq, cmp_lt, cmp_gt, cmp_eq, Int32.reduceAdd, Int32.reduceSub, Int32.reduceMul, Int32.reduceLT, Int32.reduceToNatClampNeg, eq_self, ne_eq, Int64.reduceAdd, Int64.reduceSub, Int64.reduceMul, Int64.reduceLT]
  exact hk _ _ _ hJ ⟨hV, a4.2.1.pf g, a4.2.2.pf g⟩ (fun a ha => g.1 a (by omega)) (fun a ha => g.2 a (by omega)) an
theorem even_k (hS : Pm S) (hR : Pr R) (hc : c = 3 ∨ c = 4 ∨ c = 5) (hK : StC I c A A2 th B) (hp : ∀ P, R 39 c = some P → PlS S R P c (nW c) ∧ (PlI I P c (nW c) (wt c) ∧ PqC c P I L) ∧ 85 ≤ P) (hq : ∀ v S' I' L' R', PcK S I L R c S' I' L' R' → EvA (wt c) c (nI th) B (rnum (wt c) A2 c) v → Q (.int v) S' I' L' R') : EvM (d + 7) 118 [.ref 4] S I L R Q := by
  obtain ⟨⟨n1, n2⟩, n3, n4⟩ := hK.n hc
  have n5 := n9c hc
  simp only [M118, E118_0, E118_1, E118_4, E118_5, E118_8, E118_11, pk4 hS, pk5 hS, rfs, rfn, cs0, csi, csl, csr, csn, kti, ktl, ktr, ktn, ktv, ktf, true_and, and_true, and_self, ↓reduceIte, Nat.reduceAdd, Nat.reduceSub, Nat.reduceMul, Nat.reduceLT, Nat.reduceLeDiff, Nat.reduceEqDiff, true_or, or_true, false_or, or_false, not_true_eq_false, not_false_eq_true, reduceCtorEq, cmp_lt, cmp_gt, cmp_eq, Int32.reduceAdd, Int32.reduceSub, Int32.reduceMul, Int32.reduceLT, Int32.reduceToNatClampNeg, eq_self, ne_eq, Int64.reduceAdd, Int64.reduceSub, Int64.reduceMul, Int64.reduceLT]
  refine pl_askK hS hR hc hK.1.1 hp (fun S I L R P hS hR a1 a2 a4 a3 fr hk => ?_) hq
  have hK' := hK.cg fr
  simp only [E118_0, E118_1, E118_4, E118_5, E118_8, E118_11, pk4 hS, pk5 hS, pr4_0 hR, rfs, rfn, cs0, csi, csl, csr, csn, kti, ktl, ktr, ktn, ktv, ktf, true_and, and_true, and_self, ↓reduceIte, Nat.reduceAdd, Nat.reduceSub, Nat.reduceMul, Nat.reduceLT, Nat.reduceLeDiff, Nat.reduceEqDiff, true_or, or_true, false_or, or_false, not_true_eq_false, not_false_eq_true, reduceCtorEq, cmp_lt, cmp_gt, cmp_eq, Int32.reduceAdd, Int32.reduceSub, Int32.reduceMul, Int32.reduceLT, Int32.reduceToNatClampNeg, eq_self, ne_eq, Int64.reduceAdd, Int64.reduceSub, Int64.reduceMul, Int64.reduceLT, a1.1.1]
  refine evK (A := A) (A2 := A2) hS a3 a1 a2 a4.1 (WNc hc) (by omega) nWlt n5.1 (by omega) (smi5 hS hR) (Or.inl (by omega)) hK'.1 hK'.2.1 hK'.2.2.1 n1 n2 hK'.2.2.2 (ev_n hc) n4 a4.2.1 (fun v J L hJ hV g hE an => ?_)
  try simp only [E118_0, E118_1, E118_4, E118_5, E118_8, E118_11, rfs, rfn, cs0, csi, csl, csr, csn, kti, ktl, ktr, ktn, ktv, ktf, true_and, and_true, and_self, ↓reduceIte, Nat.reduceAdd, Nat.reduceSub, Nat.reduceMul, Nat.reduceLT, Nat.reduceLeDiff, Nat.reduceEqDiff, true_or, or_true, false_or, or_false, not_true_eq_false, not_false_eq_true, reduceCtorEq, cmp_lt, cmp_gt, cmp_eq, Int32.reduceAdd, Int32.reduceSub, Int32.reduceMul, Int32.reduceLT, Int32.reduceToNatClampNeg, eq_self, ne_eq, Int64.reduceAdd, Int64.reduceSub, Int64.reduceMul, Int64.reduceLT]
  exact hk _ _ _ hJ ⟨hV, hE, a4.2.2.pe g⟩ (fun a ha => g.1.1 a (by omega)) (fun a ha => g.2.1 a ha) an
theorem reached_k {x : Int32} (hS : Pm S) (hR : Pr R) (hc : c = 3 ∨ c = 4 ∨ c = 5) (hK : StC I c A A2 th B) (hp : ∀ P, R 39 c = some P → PlS S R P c (nW c) ∧ (PlI I P c (nW c) (wt c) ∧ PqC c P I L) ∧ 85 ≤ P) (h0 : (x < 0 ∨ 6 < x) → Q (.int (-1)) S I L R) (hq : ∀ h, h ≤ 6 → x = nI h → ∀ v S' I' L' R', PcK S I L R c S' I' L' R' → (∃ f : Nat → Bool, (∀ k, k < 64 * nW c → (f k = true ↔ LvD true (wt c) c (nI th) B (rnum (wt c) A c) h k)) ∧ v = nI (cnt f (64 * nW c))) → Q (.int v) S' I' L' R') : EvM (d + 7) 117 [.ref 4, .int x] S I L R Q := by
  obtain ⟨⟨n1, n2⟩, n3, n4⟩ := hK.n hc
  have n5 := n9c hc
  by_cases g1 : x < 0
  · simp only [M117, E117_0, E117_1, E117_4, E117_5, E117_7, E117_10, E117_11, E117_12, E117_13, E117_16, E117_17, E117_20, E117_21, E117_24, rfs, rfn, cs0, csi, csl, csr, csn, kti, ktl, ktr, ktn, ktv, ktf, true_and, and_true, and_self, ↓reduceIte, Nat.reduceAdd, Nat.reduceSub, Nat.reduceMul, Nat.reduceLT, Nat.reduceLeDiff, Nat.reduceEqDiff, true_or, or_true, false_or, or_false, not_true_eq_false, not_false_eq_true, reduceCtorEq, cmp_lt, cmp_gt, cmp_eq, Int32.reduceAdd, Int32.reduceSub, Int32.reduceMul, Int32.reduceLT, Int32.reduceToNatClampNeg, eq_self, ne_eq, Int64.reduceAdd, Int64.reduceSub, Int64.reduceMul, Int64.reduceLT, g1]
    exact h0 (Or.inl g1)
  by_cases g2 : 6 < x
  · simp only [M117, E117_0, E117_1, E117_4, E117_5, E117_7, E117_10, E117_11, E117_12, E117_13, E117_16, E117_17, E117_20, E117_21, E117_24, rfs, rfn, cs0, csi, csl, csr, csn, kti, ktl, ktr, ktn, ktv, ktf, true_and, and_true, and_self, ↓reduceIte, Nat.reduceAdd, Nat.reduceSub, Nat.reduceMul, Nat.reduceLT, Nat.reduceLeDiff, Nat.reduceEqDiff, true_or, or_true, false_or, or_false, not_true_eq_false, not_false_eq_true, reduceCtorEq, cmp_lt, cmp_gt, cmp_eq, Int32.reduceAdd, Int32.reduceSub, Int32.reduceMul, Int32.reduceLT, Int32.reduceToNatClampNeg, eq_self, ne_eq, Int64.reduceAdd, Int64.reduceSub, Int64.reduceMul, Int64.reduceLT, g1, g2]
    exact h0 (Or.inr g2)
  obtain ⟨h, hh, rfl⟩ : ∃ h, h ≤ 6 ∧ x = nI h := by
    have a : ¬ x.toInt < 0 := fun z => g1 (Int32.lt_iff_toInt_lt.mpr z)
    have b : ¬ 6 < x.toInt := fun z => g2 (Int32.lt_iff_toInt_lt.mpr z)
    exact ⟨x.toInt.toNat, by omega, ti_nI (z := x.toInt) rfl (by omega) (by omega)⟩
  simp only [M117, E117_0, E117_1, E117_4, E117_5, E117_7, E117_10, E117_11, E117_12, E117_13, E117_16, E117_17, E117_20, E117_21, E117_24, pk4 hS, pk5 hS, rfs, rfn, cs0, csi, csl, csr, csn, kti, ktl, ktr, ktn, ktv, ktf, true_and, and_true, and_self, ↓reduceIte, Nat.reduceAdd, Nat.reduceSub, Nat.reduceMul, Nat.reduceLT, Nat.reduceLeDiff, Nat.reduceEqDiff, true_or, or_true, false_or, or_false, not_true_eq_false, not_false_eq_true, reduceCtorEq, cmp_lt, cmp_gt, cmp_eq, Int32.reduceAdd, Int32.reduceSub, Int32.reduceMul, Int32.reduceLT, Int32.reduceToNatClampNeg, eq_self, ne_eq, Int64.reduceAdd, Int64.reduceSub, Int64.reduceMul, Int64.reduceLT, g1, g2]
  refine pl_askK hS hR hc hK.1.1 hp (fun S I L R P hS hR a1 a2 a4 a3 fr hk => ?_) (hq h hh rfl)
  have hK' := hK.cg fr
  simp only [E117_0, E117_1, E117_4, E117_5, E117_7, E117_10, E117_11, E117_12, E117_13, E117_16, E117_17, E117_20, E117_21, E117_24, pk4 hS, pk5 hS, pr4_0 hR, rfs, rfn, cs0, csi, csl, csr, csn, kti, ktl, ktr, ktn, ktv, ktf, true_and, and_true, and_self, ↓reduceIte, Nat.reduceAdd, Nat.reduceSub, Nat.reduceMul, Nat.reduceLT, Nat.reduceLeDiff, Nat.reduceEqDiff, true_or, or_true, false_or, or_false, not_true_eq_false, not_false_eq_true, reduceCtorEq, cmp_lt, cmp_gt, cmp_eq, Int32.reduceAdd, Int32.reduceSub, Int32.reduceMul, Int32.reduceLT, Int32.reduceToNatClampNeg, eq_self, ne_eq, Int64.reduceAdd, Int64.reduceSub, Int64.reduceMul, Int64.reduceLT, a1.1.1]
  refine rbK (A := A) (A2 := A2) hh a1 a2 a4.1 (WNc hc) (by omega) nWlt n5.1 (by omega) (smi5 hS hR) (Or.inl (by omega)) hK'.1 n1 n2 (fun f J L hJ hV g an => ?_)
  try simp only [E117_0, E117_1, E117_4, E117_5, E117_7, E117_10, E117_11, E117_12, E117_13, E117_16, E117_17, E117_20, E117_21, E117_24, rfs, rfn, cs0, csi, csl, csr, csn, kti, ktl, ktr, ktn, ktv, ktf, true_and, and_true, and_self, ↓reduceIte, Nat.reduceAdd, Nat.reduceSub, Nat.reduceMul, Nat.reduceLT, Nat.reduceLeDiff, Nat.reduceEqDiff, true_or, or_true, false_or, or_false, not_true_eq_false, not_false_eq_true, reduceCtorEq, cmp_lt, cmp_gt, cmp_eq, Int32.reduceAdd, Int32.reduceSub, Int32.reduceMul, Int32.reduceLT, Int32.reduceToNatClampNeg, eq_self, ne_eq, Int64.reduceAdd, Int64.reduceSub, Int64.reduceMul, Int64.reduceLT]
  exact hk _ _ _ hJ ⟨hV, a4.2.1.pf g, a4.2.2.pf g⟩ (fun a ha => g.1 a (by omega)) (fun a ha => g.2 a (by omega)) ⟨f, an, rfl⟩
theorem plan_k {i x : Int32} (hS : Pm S) (hR : Pr R) (hc : c = 3 ∨ c = 4 ∨ c = 5) (hK : StC I c A A2 th B) (hp : ∀ P, R 39 c = some P → PlS S R P c (nW c) ∧ (PlI I P c (nW c) (wt c) ∧ PqC c P I L) ∧ 85 ≤ P) (h0 : (i < 0 ∨ ¬ i < 6 ∨ x < -1 ∨ ¬ x < nI c) → Q (.int (-1)) S I L R) (hq : ¬ i < 0 → i < 6 → ¬ x < -1 → x < nI c → ∀ v S' I' L' R', PcK S I L R c S' I' L' R' → PlT (wt c) c (9 ^ c) (nI th) B (rnum (wt c) A c) (rnum (wt c) A2 c) i x v → Q (.int v) S' I' L' R') : EvM (d + 7) 116 [.ref 4, .int i, .int x] S I L R Q := by
  obtain ⟨⟨n1, n2⟩, n3, n4⟩ := hK.n hc
  have n5 := n9c hc
  have h5 := hK.1.1
  by_cases g1 : i < 0
  · simp only [M116, E116_0, E116_1, E116_4, E116_5, E116_7, E116_10, E116_11, E116_12, E116_15, E116_16, E116_17, E116_20, E116_23, E116_26, E116_27, E116_28, E116_29, E116_32, E116_32n, E116_33, E116_33n, E116_34, E116_35, E116_38, E116_41, E116_41n, E116_42, E116_43, E116_44, E116_47, rfs, rfn, cs0, csi, csl, csr, csn, kti, ktl, ktr, ktn, ktv, ktf, true_and, and_true, and_self, ↓reduceIte, Nat.reduceAdd, Nat.reduceSub, Nat.reduceMul, Nat.reduceLT, Nat.reduceLeDiff, Nat.reduceEqDiff, true_or, or_true, false_or, or_false, not_true_eq_false, not_false_eq_true, reduceCtorEq, cmp_lt, cmp_gt, cmp_eq, Int32.reduceAdd, Int32.reduceSub, Int32.reduceMul, Int32.reduceLT, Int32.reduceToNatClampNeg, eq_self, ne_eq, Int64.reduceAdd, Int64.reduceSub, Int64.reduceMul, Int64.reduceLT, g1]
    exact h0 (Or.inl g1)
  by_cases g2 : i < 6
  · by_cases g3 : x < -1
    · simp only [M116, E116_0, E116_1, E116_4, E116_5, E116_7, E116_10, E116_11, E116_12, E116_15, E116_16, E116_17, E116_20, E116_23, E116_26, E116_27, E116_28, E116_29, E116_32, E116_32n, E116_33, E116_33n, E116_34, E116_35, E116_38, E116_41, E116_41n, E116_42, E116_43, E116_44, E116_47, rfs, rfn, cs0, csi, csl, csr, csn, kti, ktl, ktr, ktn, ktv, ktf, true_and, and_true, and_self, ↓reduceIte, Nat.reduceAdd, Nat.reduceSub, Nat.reduceMul, Nat.reduceLT, Nat.reduceLeDiff, Nat.reduceEqDiff, true_or, or_true, false_or, or_false, not_true_eq_false, not_false_eq_true, reduceCtorEq, cmp_lt, cmp_gt, cmp_eq, Int32.reduceAdd, Int32.reduceSub, Int32.reduceMul, Int32.reduceLT, Int32.reduceToNatClampNeg, eq_self, ne_eq, Int64.reduceAdd, Int64.reduceSub, Int64.reduceMul, Int64.reduceLT, g1, g2, g3]
      exact h0 (Or.inr (Or.inr (Or.inl g3)))
    by_cases g4 : x < nI c
    · simp only [M116, E116_0, E116_1, E116_4, E116_5, E116_7, E116_10, E116_11, E116_12, E116_15, E116_16, E116_17, E116_20, E116_23, E116_26, E116_27, E116_28, E116_29, E116_32, E116_32n, E116_33, E116_33n, E116_34, E116_35, E116_38, E116_41, E116_41n, E116_42, E116_43, E116_44, E116_47, pk4 hS, pk5 hS, pr4_0 hR, rfs, rfn, cs0, csi, csl, csr, csn, kti, ktl, ktr, ktn, ktv, ktf, true_and, and_true, and_self, ↓reduceIte, Nat.reduceAdd, Nat.reduceSub, Nat.reduceMul, Nat.reduceLT, Nat.reduceLeDiff, Nat.reduceEqDiff, true_or, or_true, false_or, or_false, not_true_eq_false, not_false_eq_true, reduceCtorEq, cmp_lt, cmp_gt, cmp_eq, Int32.reduceAdd, Int32.reduceSub, Int32.reduceMul, Int32.reduceLT, Int32.reduceToNatClampNeg, eq_self, ne_eq, Int64.reduceAdd, Int64.reduceSub, Int64.reduceMul, Int64.reduceLT, g1, g2, g3, g4, h5]
      refine pl_askK hS hR hc hK.1.1 hp (fun S I L R P hS hR a1 a2 a4 a3 fr hk => ?_) (hq g1 g2 g3 g4)
      have hK' := hK.cg fr
      simp only [E116_0, E116_1, E116_4, E116_5, E116_7, E116_10, E116_11, E116_12, E116_15, E116_16, E116_17, E116_20, E116_23, E116_26, E116_27, E116_28, E116_29, E116_32, E116_32n, E116_33, E116_33n, E116_34, E116_35, E116_38, E116_41, E116_41n, E116_42, E116_43, E116_44, E116_47, pk4 hS, pk5 hS, pr4_0 hR, rfs, rfn, cs0, csi, csl, csr, csn, kti, ktl, ktr, ktn, ktv, ktf, true_and, and_true, and_self, ↓reduceIte, Nat.reduceAdd, Nat.reduceSub, Nat.reduceMul, Nat.reduceLT, Nat.reduceLeDiff, Nat.reduceEqDiff, true_or, or_true, false_or, or_false, not_true_eq_false, not_false_eq_true, reduceCtorEq, cmp_lt, cmp_gt, cmp_eq, Int32.reduceAdd, Int32.reduceSub, Int32.reduceMul, Int32.reduceLT, Int32.reduceToNatClampNeg, eq_self, ne_eq, Int64.reduceAdd, Int64.reduceSub, Int64.reduceMul, Int64.reduceLT, a1.1.1]
      refine lpK (A := A) (A2 := A2) a1 a2 a4.1 (WNc hc) (by omega) nWlt n5.1 (by omega) (smi5 hS hR) (Or.inl (by omega)) hK'.1 hK'.2.1 hK'.2.2.1 n1 n2 n3 n4 a4.2.1 a4.2.2 (fun J L hJ hV g hE hD hA => ?_)
      simp only [E116_0, E116_1, E116_4, E116_5, E116_7, E116_10, E116_11, E116_12, E116_15, E116_16, E116_17, E116_20, E116_23, E116_26, E116_27, E116_28, E116_29, E116_32, E116_32n, E116_33, E116_33n, E116_34, E116_35, E116_38, E116_41, E116_41n, E116_42, E116_43, E116_44, E116_47, rfs, rfn, cs0, csi, csl, csr, csn, kti, ktl, ktr, ktn, ktv, ktf, true_and, and_true, and_self, ↓reduceIte, Nat.reduceAdd, Nat.reduceSub, Nat.reduceMul, Nat.reduceLT, Nat.reduceLeDiff, Nat.reduceEqDiff, true_or, or_true, false_or, or_false, not_true_eq_false, not_false_eq_true, reduceCtorEq, cmp_lt, cmp_gt, cmp_eq, Int32.reduceAdd, Int32.reduceSub, Int32.reduceMul, Int32.reduceLT, Int32.reduceToNatClampNeg, eq_self, ne_eq, Int64.reduceAdd, Int64.reduceSub, Int64.reduceMul, Int64.reduceLT, a1.1.1]
      have hx : x = -1 ∨ ∃ k, k < c ∧ x = nI k := by
        have a : ¬ x.toInt < -1 := fun z => g3 (Int32.lt_iff_toInt_lt.mpr z)
        have b := Int32.lt_iff_toInt_lt.mp g4
        rw [nI_toInt (by omega)] at b
        by_cases z : x.toInt < 0
        · exact Or.inl (Int32.toInt_inj.mp (by show x.toInt = -1; omega))
        · exact Or.inr ⟨x.toInt.toNat, by omega, ti_nI (z := x.toInt) rfl (by omega) (by omega)⟩
      refine plK a1 hJ (wtO hc) (by omega) (show 9 ^ c < 2 ^ 30 by omega) hA g2 hx (fun v an => ?_)
      try simp only [E116_0, E116_1, E116_4, E116_5, E116_7, E116_10, E116_11, E116_12, E116_15, E116_16, E116_17, E116_20, E116_23, E116_26, E116_27, E116_28, E116_29, E116_32, E116_32n, E116_33, E116_33n, E116_34, E116_35, E116_38, E116_41, E116_41n, E116_42, E116_43, E116_44, E116_47, rfs, rfn, cs0, csi, csl, csr, csn, kti, ktl, ktr, ktn, ktv, ktf, true_and, and_true, and_self, ↓reduceIte, Nat.reduceAdd, Nat.reduceSub, Nat.reduceMul, Nat.reduceLT, Nat.reduceLeDiff, Nat.reduceEqDiff, true_or, or_true, false_or, or_false, not_true_eq_false, not_false_eq_true, reduceCtorEq, cmp_lt, cmp_gt, cmp_eq, Int32.reduceAdd, Int32.reduceSub, Int32.reduceMul, Int32.reduceLT, Int32.reduceToNatClampNeg, eq_self, ne_eq, Int64.reduceAdd, Int64.reduceSub, Int64.reduceMul, Int64.reduceLT]
      exact hk _ _ _ hJ ⟨hV, hE, hD⟩ (fun a ha => g.1 a ha) (fun a ha => g.2 a ha) an
    · simp only [M116, E116_0, E116_1, E116_4, E116_5, E116_7, E116_10, E116_11, E116_12, E116_15, E116_16, E116_17, E116_20, E116_23, E116_26, E116_27, E116_28, E116_29, E116_32, E116_32n, E116_33, E116_33n, E116_34, E116_35, E116_38, E116_41, E116_41n, E116_42, E116_43, E116_44, E116_47, pk4 hS, pk5 hS, pr4_0 hR, rfs, rfn, cs0, csi, csl, csr, csn, kti, ktl, ktr, ktn, ktv, ktf, true_and, and_true, and_self, ↓reduceIte, Nat.reduceAdd, Nat.reduceSub, Nat.reduceMul, Nat.reduceLT, Nat.reduceLeDiff, Nat.reduceEqDiff, true_or, or_true, false_or, or_false, not_true_eq_false, not_false_eq_true, reduceCtorEq, cmp_lt, cmp_gt, cmp_eq, Int32.reduceAdd, Int32.reduceSub, Int32.reduceMul, Int32.reduceLT, Int32.reduceToNatClampNeg, eq_self, ne_eq, Int64.reduceAdd, Int64.reduceSub, Int64.reduceMul, Int64.reduceLT, g1, g2, g3, g4, h5]
      exact h0 (Or.inr (Or.inr (Or.inr g4)))
  · simp only [M116, E116_0, E116_1, E116_4, E116_5, E116_7, E116_10, E116_11, E116_12, E116_15, E116_16, E116_17, E116_20, E116_23, E116_26, E116_27, E116_28, E116_29, E116_32, E116_32n, E116_33, E116_33n, E116_34, E116_35, E116_38, E116_41, E116_41n, E116_42, E116_43, E116_44, E116_47, rfs, rfn, cs0, csi, csl, csr, csn, kti, ktl, ktr, ktn, ktv, ktf, true_and, and_true, and_self, ↓reduceIte, Nat.reduceAdd, Nat.reduceSub, Nat.reduceMul, Nat.reduceLT, Nat.reduceLeDiff, Nat.reduceEqDiff, true_or, or_true, false_or, or_false, not_true_eq_false, not_false_eq_true, reduceCtorEq, cmp_lt, cmp_gt, cmp_eq, Int32.reduceAdd, Int32.reduceSub, Int32.reduceMul, Int32.reduceLT, Int32.reduceToNatClampNeg, eq_self, ne_eq, Int64.reduceAdd, Int64.reduceSub, Int64.reduceMul, Int64.reduceLT, g1, g2]
    exact h0 (Or.inr (Or.inl g2))
end PC
