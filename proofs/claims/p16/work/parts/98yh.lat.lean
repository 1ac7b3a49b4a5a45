/-! group E: the latest RUN on both sides -/
def LatR (I : mI) : Prop := (I 4 6 = 0 ∧ I 54 45 = 0) ∨ (¬ I 4 6 = 0 ∧ ∃ w, 3 ≤ w ∧ w ≤ 5 ∧ I 20 0 = nI w ∧ I 54 45 = nI w ∧ (∀ c, c < 5 → I 21 c = I 68 c ∧ I 24 c = I 70 c ∧ ∃ h, h ≤ 100 ∧ I 24 c = nI h) ∧ I 22 9 = I 69 9 ∧ ∃ b, b < 16 ∧ I 22 9 = nI b)
section LT
variable {d t u q n m i : Nat} {S S1 : mS} {I I1 C J : mI} {L : mL} {R R1 : mR} {Q : mQ} {k v : Int32}
theorem LatR.go (h : LatR I) (f : RuF I I1) (o1 : OutX I I1) (o2 : OutM I1 J) (l : LsN I1 J) : LatR J := by
  have e46 : J 4 6 = I 4 6 := by rw [o2 4 (by decide)]; exact f.2.1
  have e20 : ∀ a, 20 ≤ a → a ≤ 25 → J a = I a := fun a h1 h2 => by rw [o2 a (by omega)]; exact f.1 a h1 h2
  have e45 : J 54 45 = I 54 45 := l.1.trans (by rw [o1 54 (by decide)])
  have e68 : J 68 = I 68 := l.2.1.trans (o1 68 (by decide))
  have e69 : J 69 = I 69 := l.2.2.1.trans (o1 69 (by decide))
  have e70 : J 70 = I 70 := l.2.2.2.trans (o1 70 (by decide))
  unfold LatR
  rw [e46, e45, e68, e69, e70, e20 20 (by decide) (by decide), e20 21 (by decide) (by decide), e20 22 (by decide) (by decide), e20 24 (by decide) (by decide)]
  exact h
/-- iron: both answer alike -/
theorem ironE {x : Int32} (hS : Pm S) (hR : Pr R) (h : LatR I) (hq : ∀ J L', Q (.int (if I 4 6 = 0 ∨ x < 0 ∨ ¬ x < I 20 0 ∨ ¬ x < 5 then -1 else I 21 x.toNatClampNeg)) S J L' R) : EvM (d + 2) 199 [.ref 54, .int x] S I L R Q := by
  have no : ∀ c, c ≤ 5 → I 54 45 = nI c → inB x.toInt64 0 ((nI c).toInt64 - 1) = false → (I 4 6 = 0 ∨ x < 0 ∨ ¬ x < I 20 0 ∨ ¬ x < 5) → EvM (d + 2) 199 [.ref 54, .int x] S I L R Q := fun c c5 ec g z => by
    rw [if_pos z] at hq
    simp only [M199, E199_0, E199_1, E199_2, E199_5, E199_6, E199_7, E199_8, E199_9, E199_12, E199_13, E199_14, E199_15, E199_18, E199_21, E199_22, E199_25, E199_26, E199_27, E199_30, E199_31, inn, ec, g, bI_f, pk54 hS, rfs, rfn, cs0, csi, csl, csr, csn, kti, ktl, ktr, ktn, ktv, ktf, true_and, and_true, and_self, ↓reduceIte, Nat.reduceAdd, Nat.reduceSub, Nat.reduceMul, Nat.reduceLT, Nat.reduceLeDiff, Nat.reduceEqDiff, true_or, or_true, false_or, or_false, not_true_eq_false, not_false_eq_true, reduceCtorEq, cmp_lt, cmp_gt, cmp_eq, Int32.reduceAdd, Int32.reduceSub, Int32.reduceMul, Int32.reduceLT, Int32.reduceToNatClampNeg, eq_self, ne_eq, Int64.reduceAdd, Int64.reduceSub, Int64.reduceMul, Int64.reduceLT, pt, pt_f]
    exact hq _ _
  rcases h with ⟨h0, ec⟩ | ⟨h0, c, c3, c5, e20, ec, hc, _⟩
  · refine no 0 (by decide) ec ?_ (Or.inl h0)
    rw [Bool.eq_false_iff]
    intro z
    obtain ⟨a, b⟩ := (inBu (x := x) (a := 0) (lo := 0) (w := 0) rfl (by decide)).mp z
    exact a b
  · have ib := inBu (x := x) (a := 0) (lo := 0) (w := c) rfl (by omega)
    cases g : inB x.toInt64 0 ((nI c).toInt64 - 1)
    · refine no c c5 ec g ?_
      by_cases a : x < 0
      · exact Or.inr (Or.inl a)
      · refine Or.inr (Or.inr (Or.inl (fun b => ?_)))
        rw [e20] at b
        rw [ib.mpr ⟨a, b⟩] at g
        cases g
    · obtain ⟨i, i1, rfl⟩ := inC (by omega) g
      have a4 : inb (nI i) 5 = True := inb_nI (by omega) (by decide)
      have z : ¬ (I 4 6 = 0 ∨ nI i < 0 ∨ ¬ nI i < I 20 0 ∨ ¬ nI i < 5) := by
        rintro (a | a | a | a)
        · exact h0 a
        · exact nI_pos (by omega) a
        · rw [e20] at a
          exact a (nI_lt i1 (by omega))
        · exact a (nI_lt (a := i) (b := 5) (by omega) (by decide))
      rw [if_neg z, nI_clamp (by omega), (hc i (by omega)).1] at hq
      have b4 : (nI i).toNatClampNeg = i := nI_clamp (by omega)
      simp only [M199, E199_0, E199_1, E199_2, E199_5, E199_6, E199_7, E199_8, E199_9, E199_12, E199_13, E199_14, E199_15, E199_18, E199_21, E199_22, E199_25, E199_26, E199_27, E199_30, E199_31, inn, ec, g, bI_t, n1_0, pk54 hS, pk68 hS, pl68 hS, pa68 hS, pi68 hS, pr54_46 hR, rfs, rfn, cs0, csi, csl, csr, csn, kti, ktl, ktr, ktn, ktv, ktf, true_and, and_true, and_self, ↓reduceIte, Nat.reduceAdd, Nat.reduceSub, Nat.reduceMul, Nat.reduceLT, Nat.reduceLeDiff, Nat.reduceEqDiff, true_or, or_true, false_or, or_false, not_true_eq_false, not_false_eq_true, reduceCtorEq, cmp_lt, cmp_gt, cmp_eq, Int32.reduceAdd, Int32.reduceSub, Int32.reduceMul, Int32.reduceLT, Int32.reduceToNatClampNeg, eq_self, ne_eq, Int64.reduceAdd, Int64.reduceSub, Int64.reduceMul, Int64.reduceLT, pt, pt_f, pt_m, a4, b4]
      exact hq _ _
/-- the greatest common part -/
theorem half {a b : Nat} (h0 : 0 < a) (h : a < b) : 2 * (b % a) < b := by
  have h1 := Nat.mod_lt b h0
  have e := Nat.div_add_mod b a
  have q : a * 1 ≤ a * (b / a) := Nat.mul_le_mul_left a (Nat.div_pos (Nat.le_of_lt h) h0)
  omega
theorem l0_of {b : Int64} (h : b.toInt = ((0 : Nat) : Int)) : b = 0 := Int64.toInt_inj.mp h
theorem cd_0 {a : Int64} : ∀ N, cdF N a 0 = a
  | 0 => rfl
  | _ + 1 => if_pos rfl
theorem cd_s {a b : Int64} {N : Nat} (h : ¬ b = 0) : cdF (N + 1) a b = cdF N b (a - a / b * b) := if_neg h
theorem rem_t {a b : Int64} {A B : Nat} (ha : a.toInt = (A : Int)) (hb : b.toInt = (B : Int)) : (a - a / b * b).toInt = ((A % B : Nat) : Int) := by
  rw [lrem_eq, Int64.toInt_mod, ha, hb]
  rfl
theorem l_ne {b : Int64} {B : Nat} (hb : b.toInt = (B : Int)) (h : ¬ B = 0) : ¬ b = 0 := fun z => by
  rw [z] at hb
  have : (0 : Int) = B := hb
  omega
theorem l_pos {b : Int64} {B : Nat} (hb : b.toInt = (B : Int)) (h : ¬ B = 0) : 0 < b := by
  rw [Int64.lt_iff_toInt_lt, hb]
  show (0 : Int) < B
  omega
theorem gcdE {x : Int32} {u v G : Int64} (hq : ∀ b y z, Ev (d + 1) 200 113 [.ref 54, .int x, .long u, nv, .long v, nv, .long G, nv, .long b, nv, y, z] [] S I L R Q) : ∀ (k A B N : Nat) (a b : Int64) (y z : Value), a.toInt = (A : Int) → b.toInt = (B : Int) → B < 2 ^ k → 2 * k ≤ N → cdF N a b = G → Ev (d + 1) 200 88 [.ref 54, .int x, .long u, nv, .long v, nv, .long a, nv, .long b, nv, y, z] [] S I L R Q := by
  have st0 : ∀ (N : Nat) (a : Int64) (y z : Value), cdF N a 0 = G → Ev (d + 1) 200 88 [.ref 54, .int x, .long u, nv, .long v, nv, .long a, nv, .long 0, nv, y, z] [] S I L R Q := fun N a y z h => by
    have g : ¬ (0 : Int64) < 0 := by decide
    rw [cd_0] at h
    subst h
    rw [E200_88]
    simp only [E200_90, E200_91, E200_92, rfs, rfn, cs0, csi, csl, csr, csn, kti, ktl, ktr, ktn, ktv, ktf, true_and, and_true, and_self, ↓reduceIte, Nat.reduceAdd, Nat.reduceSub, Nat.reduceMul, Nat.reduceLT, Nat.reduceLeDiff, Nat.reduceEqDiff, true_or, or_true, false_or, or_false, not_true_eq_false, not_false_eq_true, reduceCtorEq, cmp_lt, cmp_gt, cmp_eq, Int32.reduceAdd, Int32.reduceSub, Int32.reduceMul, Int32.reduceLT, Int32.reduceToNatClampNeg, eq_self, ne_eq, Int64.reduceAdd, Int64.reduceSub, Int64.reduceMul, Int64.reduceLT, g]
    exact hq 0 y z
  have st1 : ∀ (a b : Int64) (y z : Value), 0 < b → (∀ y z, Ev (d + 1) 200 88 [.ref 54, .int x, .long u, nv, .long v, nv, .long b, nv, .long (a - a / b * b), nv, y, z] [] S I L R Q) → Ev (d + 1) 200 88 [.ref 54, .int x, .long u, nv, .long v, nv, .long a, nv, .long b, nv, y, z] [] S I L R Q := fun a b y z g hn => by
    have e := l_ne0 g
    rw [E200_88]
    simp only [E200_90, E200_91, E200_92, E200_95, E200_97, E200_99, E200_100, E200_102, E200_104, E200_106, E200_108, E200_110, rfs, rfn, cs0, csi, csl, csr, csn, kti, ktl, ktr, ktn, ktv, ktf, true_and, and_true, and_self, ↓reduceIte, Nat.reduceAdd, Nat.reduceSub, Nat.reduceMul, Nat.reduceLT, Nat.reduceLeDiff, Nat.reduceEqDiff, true_or, or_true, false_or, or_false, not_true_eq_false, not_false_eq_true, reduceCtorEq, cmp_lt, cmp_gt, cmp_eq, Int32.reduceAdd, Int32.reduceSub, Int32.reduceMul, Int32.reduceLT, Int32.reduceToNatClampNeg, eq_self, ne_eq, Int64.reduceAdd, Int64.reduceSub, Int64.reduceMul, Int64.reduceLT, g, e]
    exact hn _ _
  intro k
  induction k with
  | zero =>
    intro A B N a b y z ha hb hB hN h
    have hB' : B < 1 := hB
    obtain rfl : B = 0 := by omega
    obtain rfl := l0_of hb
    exact st0 N a y z h
  | succ k ih =>
    intro A B N a b y z ha hb hB hN h
    obtain ⟨N, rfl⟩ : ∃ n, N = n + 2 := ⟨N - 2, by omega⟩
    by_cases e : B = 0
    · subst e
      obtain rfl := l0_of hb
      exact st0 _ a y z h
    rw [cd_s (l_ne hb e)] at h
    refine st1 a b y z (l_pos hb e) (fun y z => ?_)
    have hr := rem_t ha hb
    generalize a - a / b * b = r at h hr ⊢
    by_cases e1 : A % B = 0
    · rw [e1] at hr
      obtain rfl := l0_of hr
      exact st0 _ b _ _ h
    rw [cd_s (l_ne hr e1)] at h
    refine st1 b r _ _ (l_pos hr e1) (fun y z => ?_)
    have hf := half (Nat.pos_of_ne_zero e1) (Nat.mod_lt A (Nat.pos_of_ne_zero e))
    have p : 2 ^ (k + 1) = 2 * 2 ^ k := by rw [Nat.pow_succ]; omega
    exact ih (A % B) (B % (A % B)) N r _ _ _ hr (rem_t hb hr) (by omega) (by omega) h
theorem cd_p : ∀ (N A B : Nat) (a b : Int64), a.toInt = (A : Int) → b.toInt = (B : Int) → ((0 < B ∧ 0 < N) ∨ 0 < A) → 0 < (cdF N a b).toInt
  | 0, A, B, a, b, ha, hb, h => by
    show 0 < a.toInt
    omega
  | N + 1, A, B, a, b, ha, hb, h => by
    by_cases e : B = 0
    · subst e
      obtain rfl := l0_of hb
      rw [cd_0]
      omega
    · rw [cd_s (l_ne hb e)]
      exact cd_p N B (A % B) b _ hb (rem_t ha hb) (Or.inr (by omega))
/-- the product of the WELDS -/
theorem lmul {a : Int64} {A h : Nat} (ha : a.toInt = (A : Int)) (hb : A * h ≤ 100000000) : (a * (nI h).toInt64).toInt = ((A * h : Nat) : Int) ∨ ¬ h < 2 ^ 31 := by
  by_cases g : h < 2 ^ 31
  · refine Or.inl ?_
    rw [Int64.toInt_mul, Int32.toInt_toInt64, nI_toInt g, ha, ← Int.natCast_mul]
    exact Int.bmod_eq_of_le_mul_two (by omega) (by omega)
  · exact Or.inr g
theorem lmul1 {a : Int64} {A : Nat} (ha : a.toInt = (A : Int)) (hb : A * 100 ≤ 100000000) : (a * 100).toInt = ((A * 100 : Nat) : Int) := by
  rw [Int64.toInt_mul, ha, show (100 : Int64).toInt = ((100 : Nat) : Int) from rfl, ← Int.natCast_mul]
  exact Int.bmod_eq_of_le_mul_two (by omega) (by omega)
theorem p100p : ∀ k, k ≤ 4 → 0 < 100 ^ k := by decide
theorem p100 : ∀ k, k ≤ 4 → 100 ^ k ≤ 100000000 := by decide
theorem chB (hc : ∀ c, c < 5 → ∃ h, h ≤ 100 ∧ I 24 c = nI h) : ∀ (N i K A : Nat) (a b : Int64), i + N ≤ 4 → K ≤ i → a.toInt = (A : Int) → A ≤ 100 ^ K → b.toInt = ((100 ^ K : Nat) : Int) → ∃ K' A', K' ≤ 4 ∧ (chF I 20 N i a b).1.toInt = ((A' : Nat) : Int) ∧ A' ≤ 100 ^ K' ∧ (chF I 20 N i a b).2.toInt = ((100 ^ K' : Nat) : Int)
  | 0, i, K, A, a, b, hi, hK, ha, hA, hb => ⟨K, A, by omega, ha, hA, hb⟩
  | N + 1, i, K, A, a, b, hi, hK, ha, hA, hb => by
    have e : chF I 20 (N + 1) i a b = if (I 22 9 >>> (nI i &&& 31)) &&& 1 = 0 then chF I 20 N (i + 1) a b else chF I 20 N (i + 1) (a * (I 24 i).toInt64) (b * 100) := rfl
    rw [e]
    by_cases g : (I 22 9 >>> (nI i &&& 31)) &&& 1 = 0
    · rw [if_pos g]
      exact chB hc N (i + 1) K A a b (by omega) (by omega) ha hA hb
    · rw [if_neg g]
      obtain ⟨h, h1, eh⟩ := hc i (by omega)
      have p1 : A * h ≤ 100 ^ (K + 1) := by
        rw [Nat.pow_succ]
        exact Nat.mul_le_mul hA h1
      have p2 := p100 (K + 1) (by omega)
      refine chB hc N (i + 1) (K + 1) (A * h) _ _ (by omega) (by omega) ?_ p1 ?_
      · rw [eh]
        exact (lmul ha (by omega)).resolve_right (fun z => z (by omega))
      · rw [Nat.pow_succ]
        exact lmul1 hb (by rw [← Nat.pow_succ]; exact p2)
theorem chS : ∀ (N i : Nat) (a b : Int64), (I 22 9 >>> (nI (i + N) &&& 31)) &&& 1 = 0 → chF I 20 (N + 1) i a b = chF I 20 N i a b
  | 0, i, a, b, h => if_pos h
  | N + 1, i, a, b, h => by
    have h' : (I 22 9 >>> (nI (i + 1 + N) &&& 31)) &&& 1 = 0 := by rw [show i + 1 + N = i + (N + 1) by omega]; exact h
    have e : chF I 20 (N + 1 + 1) i a b = if (I 22 9 >>> (nI i &&& 31)) &&& 1 = 0 then chF I 20 (N + 1) (i + 1) a b else chF I 20 (N + 1) (i + 1) (a * (I 24 i).toInt64) (b * 100) := rfl
    rw [e, chS N (i + 1) _ _ h', chS N (i + 1) _ _ h']
    rfl
theorem bit4 : ∀ b, b < 16 → (nI b >>> (nI 4 &&& 31)) &&& 1 = 0 := by decide +kernel
theorem mwE {x : Int32} (hS : Pm S) (hR : Pr R) (e9 : I 69 9 = I 22 9) (e70 : ∀ c, c < 5 → I 70 c = I 24 c) {G : Int64 × Int64} (hq : ∀ y z, Ev (d + 1) 200 81 [.ref 54, .int x, .long G.1, nv, .long G.2, nv, y, z, nv, nv, nv, nv] [] S I L R Q) : ∀ (q i : Nat) (u v : Int64) (z : Value), i + q = 4 → chF I 20 q i u v = G → Ev (d + 1) 200 34 [.ref 54, .int x, .long u, nv, .long v, nv, .int (nI i), z, nv, nv, nv, nv] [] S I L R Q := by
  have y9 : inb 9 12 = True := inb_nI (j := 9) (by decide) (by decide)
  have z01 : ((0 : Int32) = 1) = False := eq_false (by decide)
  intro q
  induction q with
  | zero =>
    intro i u v z hi hv
    obtain rfl : i = 4 := by omega
    have e1 : (nI 4 < (4 : Int32)) = False := eq_false (by decide)
    have ev : (u, v) = G := hv
    subst ev
    rw [E200_34]
    simp only [E200_36, E200_37, rfs, rfn, cs0, csi, csl, csr, csn, kti, ktl, ktr, ktn, ktv, ktf, true_and, and_true, and_self, ↓reduceIte, Nat.reduceAdd, Nat.reduceSub, Nat.reduceMul, Nat.reduceLT, Nat.reduceLeDiff, Nat.reduceEqDiff, true_or, or_true, false_or, or_false, not_true_eq_false, not_false_eq_true, reduceCtorEq, cmp_lt, cmp_gt, cmp_eq, Int32.reduceAdd, Int32.reduceSub, Int32.reduceMul, Int32.reduceLT, Int32.reduceToNatClampNeg, eq_self, ne_eq, Int64.reduceAdd, Int64.reduceSub, Int64.reduceMul, Int64.reduceLT, e1]
    exact hq _ _
  | succ q ih =>
    intro i u v z hi hv
    have e1 : (nI i < (4 : Int32)) = True := eq_true (nI_lt (a := i) (b := 4) (by omega) (by decide))
    have a4 : inb (nI i) 5 = True := inb_nI (by omega) (by decide)
    have b4 : (nI i).toNatClampNeg = i := nI_clamp (by omega)
    have e : chF I 20 (q + 1) i u v = if (I 22 9 >>> (nI i &&& 31)) &&& 1 = 0 then chF I 20 q (i + 1) u v else chF I 20 q (i + 1) (u * (I 24 i).toInt64) (v * 100) := rfl
    rw [e] at hv
    rw [E200_34]
    rcases and01 (I 22 9 >>> (nI i &&& 31)) with g | g
    · rw [if_pos g] at hv
      simp only [E200_36, E200_37, E200_40, E200_41, E200_44, E200_46, E200_47, E200_49, E200_50, E200_51, E200_52, E200_53, E200_56, E200_57, E200_58, E200_61, E200_63, E200_64, E200_65, E200_66, E200_67, E200_69, E200_72, E200_73, E200_75, E200_78, pk54 hS, pk69 hS, pl69 hS, pa69 hS, pi69 hS, pk70 hS, pl70 hS, pa70 hS, pi70 hS, pr54_47 hR, pr54_48 hR, rfs, rfn, cs0, csi, csl, csr, csn, kti, ktl, ktr, ktn, ktv, ktf, true_and, and_true, and_self, ↓reduceIte, Nat.reduceAdd, Nat.reduceSub, Nat.reduceMul, Nat.reduceLT, Nat.reduceLeDiff, Nat.reduceEqDiff, true_or, or_true, false_or, or_false, not_true_eq_false, not_false_eq_true, reduceCtorEq, cmp_lt, cmp_gt, cmp_eq, Int32.reduceAdd, Int32.reduceSub, Int32.reduceMul, Int32.reduceLT, Int32.reduceToNatClampNeg, eq_self, ne_eq, Int64.reduceAdd, Int64.reduceSub, Int64.reduceMul, Int64.reduceLT, e1, y9, a4, b4, nI_1, e9, e70 i (by omega), g, z01]
      exact ih (i + 1) _ _ _ (by omega) hv
    · rw [if_neg (fun z => by rw [g] at z; exact absurd z (by decide))] at hv
      simp only [E200_36, E200_37, E200_40, E200_41, E200_44, E200_46, E200_47, E200_49, E200_50, E200_51, E200_52, E200_53, E200_56, E200_57, E200_58, E200_61, E200_63, E200_64, E200_65, E200_66, E200_67, E200_69, E200_72, E200_73, E200_75, E200_78, pk54 hS, pk69 hS, pl69 hS, pa69 hS, pi69 hS, pk70 hS, pl70 hS, pa70 hS, pi70 hS, pr54_47 hR, pr54_48 hR, rfs, rfn, cs0, csi, csl, csr, csn, kti, ktl, ktr, ktn, ktv, ktf, true_and, and_true, and_self, ↓reduceIte, Nat.reduceAdd, Nat.reduceSub, Nat.reduceMul, Nat.reduceLT, Nat.reduceLeDiff, Nat.reduceEqDiff, true_or, or_true, false_or, or_false, not_true_eq_false, not_false_eq_true, reduceCtorEq, cmp_lt, cmp_gt, cmp_eq, Int32.reduceAdd, Int32.reduceSub, Int32.reduceMul, Int32.reduceLT, Int32.reduceToNatClampNeg, eq_self, ne_eq, Int64.reduceAdd, Int64.reduceSub, Int64.reduceMul, Int64.reduceLT, e1, y9, a4, b4, nI_1, e9, e70 i (by omega), g]
      exact ih (i + 1) _ _ _ (by omega) hv
/-- welds: both answer alike -/
theorem weldsE {x : Int32} (hS : Pm S) (hR : Pr R) (h : LatR I) (hq : ∀ J L', Q (.long (if I 4 6 = 0 ∨ x < 0 ∨ 1 < x then -1 else chaF I 20 (if x = 0 then 1 else 0))) S J L' R) : EvM (d + 2) 200 [.ref 54, .int x] S I L R Q := by
  rcases h with ⟨h0, ec⟩ | ⟨h0, c, c3, c5, e20, ec, hc, e9, b, b16, eb⟩
  · rw [if_pos (Or.inl h0)] at hq
    have g0' : (I 54 45 = 0) = True := eq_true ec
    simp only [M200, E200_0, E200_1, E200_2, E200_5, E200_6, E200_9, E200_22, E200_25, pk54 hS, rfs, rfn, cs0, csi, csl, csr, csn, kti, ktl, ktr, ktn, ktv, ktf, true_and, and_true, and_self, ↓reduceIte, Nat.reduceAdd, Nat.reduceSub, Nat.reduceMul, Nat.reduceLT, Nat.reduceLeDiff, Nat.reduceEqDiff, true_or, or_true, false_or, or_false, not_true_eq_false, not_false_eq_true, reduceCtorEq, cmp_lt, cmp_gt, cmp_eq, Int32.reduceAdd, Int32.reduceSub, Int32.reduceMul, Int32.reduceLT, Int32.reduceToNatClampNeg, eq_self, ne_eq, Int64.reduceAdd, Int64.reduceSub, Int64.reduceMul, Int64.reduceLT, pt, pt_f, g0']
    exact hq _ _
  have g0 : ¬ I 54 45 = 0 := by rw [ec]; exact nI_ne0 (by omega) (by omega)
  have ib : inB x.toInt64 0 1 = true ↔ ¬ x < 0 ∧ ¬ 1 < x := inBc rfl rfl
  cases g : inB x.toInt64 0 1
  · have z : I 4 6 = 0 ∨ x < 0 ∨ 1 < x := by
      by_cases a : x < 0
      · exact Or.inr (Or.inl a)
      · by_cases a2 : 1 < x
        · exact Or.inr (Or.inr a2)
        · rw [ib.mpr ⟨a, a2⟩] at g
          cases g
    rw [if_pos z] at hq
    simp only [M200, E200_0, E200_1, E200_2, E200_5, E200_6, E200_9, E200_12, E200_13, E200_14, E200_15, E200_16, E200_19, E200_22, E200_25, inn, g, bI_f, pk54 hS, rfs, rfn, cs0, csi, csl, csr, csn, kti, ktl, ktr, ktn, ktv, ktf, true_and, and_true, and_self, ↓reduceIte, Nat.reduceAdd, Nat.reduceSub, Nat.reduceMul, Nat.reduceLT, Nat.reduceLeDiff, Nat.reduceEqDiff, true_or, or_true, false_or, or_false, not_true_eq_false, not_false_eq_true, reduceCtorEq, cmp_lt, cmp_gt, cmp_eq, Int32.reduceAdd, Int32.reduceSub, Int32.reduceMul, Int32.reduceLT, Int32.reduceToNatClampNeg, eq_self, ne_eq, Int64.reduceAdd, Int64.reduceSub, Int64.reduceMul, Int64.reduceLT, pt, pt_f, g0]
    exact hq _ _
  have z : ¬ (I 4 6 = 0 ∨ x < 0 ∨ 1 < x) := fun a => a.elim h0 (fun a => a.elim (ib.mp g).1 (ib.mp g).2)
  rw [if_neg z] at hq
  simp only [M200, E200_0, E200_1, E200_2, E200_5, E200_6, E200_9, E200_12, E200_13, E200_14, E200_15, E200_16, E200_19, E200_22, E200_25, E200_26, E200_27, E200_28, E200_29, E200_31, E200_32, inn, g, bI_t, n1_0, pk54 hS, rfs, rfn, cs0, csi, csl, csr, csn, kti, ktl, ktr, ktn, ktv, ktf, true_and, and_true, and_self, ↓reduceIte, Nat.reduceAdd, Nat.reduceSub, Nat.reduceMul, Nat.reduceLT, Nat.reduceLeDiff, Nat.reduceEqDiff, true_or, or_true, false_or, or_false, not_true_eq_false, not_false_eq_true, reduceCtorEq, cmp_lt, cmp_gt, cmp_eq, Int32.reduceAdd, Int32.reduceSub, Int32.reduceMul, Int32.reduceLT, Int32.reduceToNatClampNeg, eq_self, ne_eq, Int64.reduceAdd, Int64.reduceSub, Int64.reduceMul, Int64.reduceLT, pt, pt_f, g0]
  obtain ⟨K, A, K4, hA, hAK, hB⟩ := chB (I := I) (fun c hc5 => (hc c hc5).2.2) 4 0 0 1 1 1 (by decide) (by decide) rfl (by decide) rfl
  have e5 : chF I 20 5 0 1 1 = chF I 20 4 0 1 1 := chS 4 0 1 1 (by rw [eb]; exact bit4 b b16)
  have ch0 : ∀ u v : Int64, chF (put I 54 0 0) 20 4 0 u v = chF I 20 4 0 u v := fun u v => by
    have e1 : put I 54 0 0 22 = I 22 := pt_n (by decide)
    have e2 : put I 54 0 0 24 = I 24 := pt_n (by decide)
    unfold chF chF chF chF chF
    rw [show (20 : Nat) + 2 = 22 from rfl, show (20 : Nat) + 4 = 24 from rfl, e1, e2]
  unfold chaF at hq
  rw [e5] at hq
  have pB : 0 < 100 ^ K := p100p K K4
  have gp : 0 < (cdF 200 (chF I 20 4 0 1 1).1 (chF I 20 4 0 1 1).2).toInt := cd_p 200 A (100 ^ K) _ _ hA hB (Or.inl ⟨pB, by decide⟩)
  have g1 : ¬ cdF 200 (chF I 20 4 0 1 1).1 (chF I 20 4 0 1 1).2 < 1 := by
    rw [Int64.lt_iff_toInt_lt]
    show ¬ _ < (1 : Int)
    omega
  have gn : (cdF 200 (chF I 20 4 0 1 1).1 (chF I 20 4 0 1 1).2 = 0) = False := eq_false (fun z => by
    rw [z] at gp
    exact absurd gp (by decide))
  rw [if_neg g1] at hq
  refine mwE (d := d + 1) (G := chF I 20 4 0 1 1) hS hR (by rw [pt_n (by decide), pt_n (by decide)]; exact e9.symm) (fun c hc5 => by rw [pt_n (by decide), pt_n (by decide)]; exact (hc c hc5).2.1.symm) (fun y z => ?_) 4 0 1 1 _ (by omega) (ch0 1 1)
  simp only [E200_81, E200_82, E200_84, E200_86, rfs, rfn, cs0, csi, csl, csr, csn, kti, ktl, ktr, ktn, ktv, ktf, true_and, and_true, and_self, ↓reduceIte, Nat.reduceAdd, Nat.reduceSub, Nat.reduceMul, Nat.reduceLT, Nat.reduceLeDiff, Nat.reduceEqDiff, true_or, or_true, false_or, or_false, not_true_eq_false, not_false_eq_true, reduceCtorEq, cmp_lt, cmp_gt, cmp_eq, Int32.reduceAdd, Int32.reduceSub, Int32.reduceMul, Int32.reduceLT, Int32.reduceToNatClampNeg, eq_self, ne_eq, Int64.reduceAdd, Int64.reduceSub, Int64.reduceMul, Int64.reduceLT]
  refine gcdE (d := d + 1) (fun b y z => ?_) 27 A (100 ^ K) 200 _ _ _ _ hA hB (Nat.lt_of_le_of_lt (p100 K K4) (by decide)) (by decide) rfl
  by_cases gx : x = 0
  · rw [if_pos gx, if_neg (by decide)] at hq
    simp only [E200_113, E200_114, E200_117, E200_118, E200_120, E200_121, E200_124, E200_126, E200_128, E200_129, rfs, rfn, cs0, csi, csl, csr, csn, kti, ktl, ktr, ktn, ktv, ktf, true_and, and_true, and_self, ↓reduceIte, Nat.reduceAdd, Nat.reduceSub, Nat.reduceMul, Nat.reduceLT, Nat.reduceLeDiff, Nat.reduceEqDiff, true_or, or_true, false_or, or_false, not_true_eq_false, not_false_eq_true, reduceCtorEq, cmp_lt, cmp_gt, cmp_eq, Int32.reduceAdd, Int32.reduceSub, Int32.reduceMul, Int32.reduceLT, Int32.reduceToNatClampNeg, eq_self, ne_eq, Int64.reduceAdd, Int64.reduceSub, Int64.reduceMul, Int64.reduceLT, gx, gn]
    exact hq _ _
  · rw [if_neg gx, if_pos rfl] at hq
    simp only [E200_113, E200_114, E200_117, E200_118, E200_120, E200_121, E200_124, E200_126, E200_128, E200_129, rfs, rfn, cs0, csi, csl, csr, csn, kti, ktl, ktr, ktn, ktv, ktf, true_and, and_true, and_self, ↓reduceIte, Nat.reduceAdd, Nat.reduceSub, Nat.reduceMul, Nat.reduceLT, Nat.reduceLeDiff, Nat.reduceEqDiff, true_or, or_true, false_or, or_false, not_true_eq_false, not_false_eq_true, reduceCtorEq, cmp_lt, cmp_gt, cmp_eq, Int32.reduceAdd, Int32.reduceSub, Int32.reduceMul, Int32.reduceLT, Int32.reduceToNatClampNeg, eq_self, ne_eq, Int64.reduceAdd, Int64.reduceSub, Int64.reduceMul, Int64.reduceLT, gx, gn]
    exact hq _ _
theorem iron_law (M : InvM I1 t) (h : LatR I) (f : RuF I I1) (hS : Pm S1) (hR : Pr R1) (o1 : OutX I I1) (e : v = (if I 4 6 = 0 ∨ k < 0 ∨ ¬ k < I 20 0 ∨ ¬ k < 5 then -1 else I 21 k.toNatClampNeg)) (hq : ∀ J L', InvM J t → OutM I1 J → RlN I1 J → Q (.int v) S1 J L' R1) : EvM (d + 2) 199 [.ref 54, .int k] S1 I1 L R1 Q := by
  have h1 : LatR I1 := h.go f o1 OutM.rf LkN.rf.2
  have k1 := m_iron (d := d) (L := L) (x := k) (Q := fun v S' J L' R' => ∃ x, v = .int x ∧ S' = S1 ∧ R' = R1 ∧ InvM J t ∧ OutM I1 J ∧ RlN I1 J) hS hR M (fun v J L' a b c => ⟨v, rfl, rfl, rfl, a, b, c⟩)
  have k2 := ironE (d := d) (L := L) (x := k) (Q := fun w _ _ _ _ => w = .int v) hS hR h1 (fun _ _ => by
    rw [e, f.2.1, f.1 20 (by decide) (by decide), f.1 21 (by decide) (by decide)])
  refine evm_mono (evm_and k1 k2) (fun v' S' J L' R' k => ?_)
  obtain ⟨⟨x, rfl, rfl, rfl, a, b, c⟩, e'⟩ := k
  injection e' with e'
  subst e'
  exact hq J L' a b c
theorem welds_law {v : Int64} (M : InvM I1 t) (h : LatR I) (f : RuF I I1) (hS : Pm S1) (hR : Pr R1) (o1 : OutX I I1) (e : v = (if I 4 6 = 0 ∨ k < 0 ∨ 1 < k then -1 else chaF I 20 (if k = 0 then 1 else 0))) (hq : ∀ J L', InvM J t → OutM I1 J → RlN I1 J → Q (.long v) S1 J L' R1) : EvM (d + 2) 200 [.ref 54, .int k] S1 I1 L R1 Q := by
  have h1 : LatR I1 := h.go f o1 OutM.rf LkN.rf.2
  have k1 := m_welds (d := d) (L := L) (x := k) (Q := fun v S' J L' R' => ∃ x, v = .long x ∧ S' = S1 ∧ R' = R1 ∧ InvM J t ∧ OutM I1 J ∧ RlN I1 J) hS hR M (fun v J L' a b c => ⟨v, rfl, rfl, rfl, a, b, c⟩)
  have ch1 : ∀ x : Int32, chaF I1 20 x = chaF I 20 x := fun x => by
    unfold chaF chF chF chF chF chF chF
    rw [show (20 : Nat) + 2 = 22 from rfl, show (20 : Nat) + 4 = 24 from rfl, f.1 22 (by decide) (by decide), f.1 24 (by decide) (by decide)]
  have k2 := weldsE (d := d) (L := L) (x := k) (Q := fun w _ _ _ _ => w = .long v) hS hR h1 (fun _ _ => by
    rw [e, f.2.1, ch1])
  refine evm_mono (evm_and k1 k2) (fun v' S' J L' R' k => ?_)
  obtain ⟨⟨x, rfl, rfl, rfl, a, b, c⟩, e'⟩ := k
  injection e' with e'
  subst e'
  exact hq J L' a b c
end LT
