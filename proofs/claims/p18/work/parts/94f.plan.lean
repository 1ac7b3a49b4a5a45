/-! the class's Planner: the PLAN laid: with content -/
theorem low_bit {x : Int64} {j : Nat} (hj : j < 64) (h1 : x.toBitVec.getLsbD j = true) (h2 : ∀ i, i < j → x.toBitVec.getLsbD i = false) : ∀ i, i < 64 → ((x &&& -x) - 1).toBitVec.getLsbD i = decide (i < j) := by
  have e : (x &&& -x).toBitVec = BitVec.twoPow 64 j := BitVec.eq_of_getLsbD_eq (fun i hi => by
    rw [Int64.toBitVec_and, Int64.toBitVec_neg, BitVec.getLsbD_and, BitVec.getLsbD_neg, BitVec.getLsbD_twoPow, decide_eq_true hi, decide_eq_true hj, Bool.true_and, Bool.true_and]
    by_cases g : i < j
    · rw [h2 i g, Bool.false_and, decide_eq_false (by omega)]
    · by_cases g2 : j = i
      · subst g2
        have : decide (∃ i, i < j ∧ x.toBitVec.getLsbD i = true) = false := decide_eq_false (fun ⟨i, i1, i2⟩ => by rw [h2 i i1] at i2; cases i2)
        rw [h1, this, decide_eq_true rfl]
        rfl
      · have : decide (∃ k, k < i ∧ x.toBitVec.getLsbD k = true) = true := decide_eq_true ⟨j, by omega, h1⟩
        rw [this, decide_eq_false g2]
        cases x.toBitVec.getLsbD i <;> rfl)
  intro i hi
  have hp : 2 ^ j < 2 ^ 64 := Nat.pow_lt_pow_right (by decide) hj
  have hp1 : 1 ≤ 2 ^ j := Nat.one_le_two_pow
  have t : ((x &&& -x) - 1).toBitVec.toNat = 2 ^ j - 1 := by
    rw [Int64.toBitVec_sub, e, show (1 : Int64).toBitVec = 1#64 from rfl, BitVec.toNat_sub, BitVec.toNat_twoPow]
    rw [Nat.mod_eq_of_lt hp]
    show (2 ^ 64 - 1 + 2 ^ j) % 2 ^ 64 = _
    omega
  rw [← BitVec.testBit_toNat, t, Nat.testBit_two_pow_sub_one]
theorem cnt_ltd {j : Nat} : ∀ n, cnt (fun i => decide (i < j)) n = if n < j then n else j := by
  intro n
  induction n with
  | zero =>
    show 0 = _
    split <;> omega
  | succ n ih =>
    show cnt (fun i => decide (i < j)) n + (if decide (n < j) = true then 1 else 0) = _
    rw [ih]
    by_cases g : n < j
    · rw [if_pos g, if_pos (decide_eq_true g)]
      split <;> omega
    · rw [if_neg g, if_neg (fun z => g (of_decide_eq_true z))]
      split <;> omega
/-- the rows that can stand behind i HEATS, where the CELLS pc are heated and H HEATS lead from r to t -/
def Wy (w : Nat → Nat) (c : Nat) (nu : Int32) (B r t H : Nat) (pc : Nat → Nat) : Nat → Nat → Prop
  | 0, x => x = r
  | i + 1, x => (∃ v, Wy w c nu B r t H pc i v ∧ ld w c nu B (pc i) v x) ∧ LvD false w c nu B t (H - (i + 1)) x
/-- those of them from which the CELLS still lead to t: m HEATS from the end -/
def Gy (w : Nat → Nat) (c : Nat) (nu : Int32) (B r t H : Nat) (pc : Nat → Nat) : Nat → Nat → Prop
  | 0, x => Wy w c nu B r t H pc H x
  | m + 1, x => Wy w c nu B r t H pc (H - (m + 1)) x ∧ ∃ y, ld w c nu B (pc (H - (m + 1))) x y ∧ Gy w c nu B r t H pc m y
/-- no HEAT at p leads on from the rows behind i HEATS -/
def noC (w : Nat → Nat) (c : Nat) (nu : Int32) (B r t H : Nat) (pc : Nat → Nat) (i p : Nat) : Prop := ∀ v x, Wy w c nu B r t H pc i v → ld w c nu B p v x → ¬ LvD false w c nu B t (H - (i + 1)) x
/-- the PLAN: CELLS and rows -/
def PlnS (w : Nat → Nat) (c : Nat) (nu : Int32) (B r t H : Nat) (pc pr : Nat → Nat) : Prop := (∀ i, i < H → pc i < c ∧ ¬ noC w c nu B r t H pc i (pc i) ∧ ∀ p, p < pc i → noC w c nu B r t H pc i p) ∧ ∀ i, i < H → (ld w c nu B (pc i) (if i = 0 then r else pr (i - 1)) (pr i) ∧ Gy w c nu B r t H pc (H - (i + 1)) (pr i)) ∧ ∀ y, y < pr i → ld w c nu B (pc i) (if i = 0 then r else pr (i - 1)) y → ¬ Gy w c nu B r t H pc (H - (i + 1)) y
theorem Wy_cg {w : Nat → Nat} {c B r t H : Nat} {nu : Int32} {pc pd : Nat → Nat} : ∀ i x, (∀ k, k < i → pc k = pd k) → (Wy w c nu B r t H pc i x ↔ Wy w c nu B r t H pd i x) := by
  intro i
  induction i with
  | zero => exact fun _ _ => Iff.rfl
  | succ i ih =>
    intro x h
    have e := h i (by omega)
    constructor
    · rintro ⟨⟨v, v1, v2⟩, z⟩
      exact ⟨⟨v, (ih v (fun k hk => h k (by omega))).mp v1, by rw [← e]; exact v2⟩, z⟩
    · rintro ⟨⟨v, v1, v2⟩, z⟩
      exact ⟨⟨v, (ih v (fun k hk => h k (by omega))).mpr v1, by rw [e]; exact v2⟩, z⟩
theorem Gy_cg {w : Nat → Nat} {c B r t H : Nat} {nu : Int32} {pc pd : Nat → Nat} (h : ∀ k, k < H → pc k = pd k) : ∀ m x, m ≤ H → (Gy w c nu B r t H pc m x ↔ Gy w c nu B r t H pd m x) := by
  intro m
  induction m with
  | zero => exact fun x _ => Wy_cg H x h
  | succ m ih =>
    intro x hm
    have e := h (H - (m + 1)) (by omega)
    have W := Wy_cg (w := w) (c := c) (B := B) (r := r) (t := t) (H := H) (nu := nu) (H - (m + 1)) x (fun k hk => h k (by omega))
    constructor
    · rintro ⟨g1, y, y1, y2⟩
      exact ⟨W.mp g1, y, by rw [← e]; exact y1, (ih y (by omega)).mp y2⟩
    · rintro ⟨g1, y, y1, y2⟩
      exact ⟨W.mpr g1, y, by rw [e]; exact y1, (ih y (by omega)).mpr y2⟩
theorem noC_cg {w : Nat → Nat} {c B r t H i p : Nat} {nu : Int32} {pc pd : Nat → Nat} (h : ∀ k, k < i → pc k = pd k) : noC w c nu B r t H pc i p ↔ noC w c nu B r t H pd i p := ⟨fun z v x v1 => z v x ((Wy_cg i v h).mpr v1), fun z v x v1 => z v x ((Wy_cg i v h).mp v1)⟩
/-- there is one PLAN alone -/
theorem PlnS.eq {w : Nat → Nat} {c B r t H : Nat} {nu : Int32} {pc pr pd ps : Nat → Nat} (h : PlnS w c nu B r t H pc pr) (k : PlnS w c nu B r t H pd ps) : ∀ i, i < H → pc i = pd i ∧ pr i = ps i := by
  have e : ∀ m, m ≤ H → ∀ i, i < m → pc i = pd i := by
    intro m
    induction m with
    | zero => exact fun _ i hi => absurd hi (by omega)
    | succ m ih =>
      intro hm i hi
      have ih' := ih (by omega)
      by_cases g : i < m
      · exact ih' i g
      · obtain rfl : i = m := by omega
        obtain ⟨a1, a2, a3⟩ := h.1 i (by omega)
        obtain ⟨b1, b2, b3⟩ := k.1 i (by omega)
        refine Nat.le_antisymm (Nat.le_of_not_lt (fun z => ?_)) (Nat.le_of_not_lt (fun z => ?_))
        · exact b2 ((noC_cg ih').mp (a3 _ z))
        · exact a2 ((noC_cg ih').mpr (b3 _ z))
  have e' := e H (Nat.le_refl _)
  have f : ∀ m, m ≤ H → ∀ i, i < m → pr i = ps i := by
    intro m
    induction m with
    | zero => exact fun _ i hi => absurd hi (by omega)
    | succ m ih =>
      intro hm i hi
      have ih' := ih (by omega)
      by_cases g : i < m
      · exact ih' i g
      · obtain rfl : i = m := by omega
        have pv : (if i = 0 then r else pr (i - 1)) = if i = 0 then r else ps (i - 1) := by
          by_cases z : i = 0
          · rw [if_pos z, if_pos z]
          · rw [if_neg z, if_neg z, ih' (i - 1) (by omega)]
        obtain ⟨⟨a1, a2⟩, a3⟩ := h.2 i (by omega)
        obtain ⟨⟨b1, b2⟩, b3⟩ := k.2 i (by omega)
        rw [pv, e' i (by omega)] at a1 a3
        have G := fun y => Gy_cg (w := w) (c := c) (B := B) (r := r) (t := t) (H := H) (nu := nu) e' (H - (i + 1)) y (by omega)
        refine Nat.le_antisymm (Nat.le_of_not_lt (fun z => ?_)) (Nat.le_of_not_lt (fun z => ?_))
        · exact a3 _ z b1 ((G _).mpr b2)
        · exact b3 _ z a1 ((G _).mp a2)
  exact fun i hi => ⟨e' i hi, f H (Nat.le_refl _) i hi⟩
theorem Wy_lt {w : Nat → Nat} {c B r t H N : Nat} {nu : Int32} {pc : Nat → Nat} (hW : WN w c N) (hr : r < N) : ∀ i, (∀ k, k < i → pc k < c) → ∀ x, Wy w c nu B r t H pc i x → x < N := by
  intro i
  induction i with
  | zero =>
    intro _ x h
    have e : x = r := h
    omega
  | succ i ih =>
    rintro hp x ⟨⟨v, v1, v2⟩, _⟩
    exact (ld_lt hW (hp i (by omega)) v2).1 (ih (fun k hk => hp k (by omega)) v v1)
theorem Gy_w {w : Nat → Nat} {c B r t H : Nat} {nu : Int32} {pc : Nat → Nat} {m x : Nat} (h : Gy w c nu B r t H pc m x) : Wy w c nu B r t H pc (H - m) x := by
  cases m with
  | zero => exact h
  | succ m => exact h.1
/-- rows behind i HEATS lead to t, and there are such rows, so some CELL leads on -/
theorem Wy_on {w : Nat → Nat} {c B r t H i : Nat} {nu : Int32} {pc : Nat → Nat} (hr : LvD false w c nu B t H r) (hi : i < H) (hx : ∃ x, Wy w c nu B r t H pc i x) : ∃ p, p < c ∧ ¬ noC w c nu B r t H pc i p := by
  obtain ⟨x, hx⟩ := hx
  have b : LvD false w c nu B t (H - i) x := by
    cases i with
    | zero =>
      have e : x = r := hx
      rw [e]
      exact hr
    | succ i => exact hx.2
  obtain ⟨k, hk⟩ : ∃ k, H - i = k + 1 := ⟨H - i - 1, by omega⟩
  rw [hk] at b
  obtain ⟨p, p1, v, v1, v2⟩ := b
  refine ⟨p, p1, fun z => z x v hx v2 ?_⟩
  rw [show H - (i + 1) = k by omega]
  exact v1
section FK
variable {d P c n N B z th : Nat} {w : Nat → Nat} {nu : Int32} {A A2 : Nat → Nat} {S : mS} {I : mI} {L : mL} {R : mR} {Q : mQ}
theorem loK_lp {a k0 : Nat} (la : lon S a n) (hn : n < 2 ^ 24) (h0 : k0 < 64 * n) (h1 : gb (L a) k0 = true) (h2 : ∀ k, k < k0 → ¬ gb (L a) k = true) (hq : Q (.int (nI k0)) S I L R) : ∀ (m i : Nat), i + m = n → 64 * i ≤ k0 → Ev (d + 2) 10 2 [.ref a, .int (nI i)] [] S I L R Q := by
  have A := lonA la
  intro m
  induction m with
  | zero =>
    intro i hi hk
    omega
  | succ m ih =>
    intro i hi hk
    have e1 : (nI i < nI n) = True := eq_true (nI_lt (by omega) (by omega))
    have e3 : inb (nI i) n = True := inb_nI (by omega) (by omega)
    have e4 : (nI i).toNatClampNeg = i := nI_clamp (by omega)
    rw [E10_2]
    by_cases g : L a i = 0
    · simp only [E10_0, E10_1, E10_3, E10_4, E10_5, E10_8, E10_9, E10_10, E10_11, E10_12, E10_13, E10_16, E10_17, E10_19, E10_20, E10_21, E10_22, E10_23, E10_24, E10_25, E10_26, E10_27, E10_28, E10_29, E10_30, E10_33, E10_34, E10_35, E10_38, E10_41, E10_42, rfs, rfn, cs0, csi, csl, csr, csn, kti, ktl, ktr, ktn, ktv, ktf, true_and, and_true, and_self, ↓reduceIte, Nat.reduceAdd, Nat.reduceSub, Nat.reduceMul, Nat.reduceLT, Nat.reduceLeDiff, Nat.reduceEqDiff, true_or, or_true, false_or, or_false, not_true_eq_false, not_false_eq_true, reduceCtorEq, cmp_lt, cmp_gt, cmp_eq, Int32.reduceAdd, Int32.reduceSub, Int32.reduceMul, Int32.reduceLT, Int32.reduceToNatClampNeg, eq_self, ne_eq, Int64.reduceAdd, Int64.reduceSub, Int64.reduceMul, Int64.reduceLT, A, la.1, la.2, e1, e3, e4, g, nI_1]
      refine ih (i + 1) (by omega) (Nat.le_of_not_lt (fun z => ?_))
      unfold gb at h1
      rw [show k0 / 64 = i by omega, g, zero_bit] at h1
      cases h1
    · obtain ⟨t, t1, t2⟩ := bit_of_ne g
      have hk2 : k0 < 64 * (i + 1) := Nat.lt_of_not_le (fun z => h2 (64 * i + t) (by omega) (by
        unfold gb
        rw [show (64 * i + t) / 64 = i by omega, show (64 * i + t) % 64 = t by omega]
        exact t2))
      have ki : k0 / 64 = i := by omega
      have b1 : (L a i).toBitVec.getLsbD (k0 % 64) = true := by
        unfold gb at h1
        rw [ki] at h1
        exact h1
      have b2 : ∀ j, j < k0 % 64 → (L a i).toBitVec.getLsbD j = false := fun j hj => by
        have q := h2 (64 * i + j) (by omega)
        unfold gb at q
        rw [show (64 * i + j) / 64 = i by omega, show (64 * i + j) % 64 = j by omega] at q
        exact eq_false_of_ne_true q
      have ec : cnt (fun t => ((L a i &&& -L a i) - 1).toBitVec.getLsbD t) 64 = k0 % 64 := by
        rw [cnt_cong (low_bit (Nat.mod_lt _ (by decide)) b1 b2), cnt_ltd, if_neg (by omega)]
      have er : nI i * 64 + nI (k0 % 64) = nI k0 := by
        rw [show (64 : Int32) = nI 64 from rfl, pk_mul, nI_add]
        congr 1
        omega
      simp only [E10_0, E10_1, E10_3, E10_4, E10_5, E10_8, E10_9, E10_10, E10_11, E10_12, E10_13, E10_16, E10_17, E10_19, E10_20, E10_21, E10_22, E10_23, E10_24, E10_25, E10_26, E10_27, E10_28, E10_29, E10_30, E10_33, E10_34, E10_35, E10_38, E10_41, E10_42, rfs, rfn, cs0, csi, csl, csr, csn, kti, ktl, ktr, ktn, ktv, ktf, true_and, and_true, and_self, ↓reduceIte, Nat.reduceAdd, Nat.reduceSub, Nat.reduceMul, Nat.reduceLT, Nat.reduceLeDiff, Nat.reduceEqDiff, true_or, or_true, false_or, or_false, not_true_eq_false, not_false_eq_true, reduceCtorEq, cmp_lt, cmp_gt, cmp_eq, Int32.reduceAdd, Int32.reduceSub, Int32.reduceMul, Int32.reduceLT, Int32.reduceToNatClampNeg, eq_self, ne_eq, Int64.reduceAdd, Int64.reduceSub, Int64.reduceMul, Int64.reduceLT, A, la.1, la.2, e1, e3, e4, g, bitC (d := d), ec, er]
      exact hq
/-- the lowest row of a set -/
theorem loK {a k0 : Nat} (la : lon S a n) (hn : n < 2 ^ 24) (h0 : k0 < 64 * n) (h1 : gb (L a) k0 = true) (h2 : ∀ k, k < k0 → ¬ gb (L a) k = true) (hq : Q (.int (nI k0)) S I L R) : EvM (d + 2) 10 [.ref a] S I L R Q := by
  have k := loK_lp (d := d) la hn h0 h1 h2 hq n 0 (by omega) (by omega)
  rw [show nI 0 = 0 from rfl] at k
  simp only [M10, E10_0, E10_1, E10_3, E10_4, E10_5, E10_8, E10_9, E10_10, E10_11, E10_12, E10_13, E10_16, E10_17, E10_19, E10_20, E10_21, E10_22, E10_23, E10_24, E10_25, E10_26, E10_27, E10_28, E10_29, E10_30, E10_33, E10_34, E10_35, E10_38, E10_41, E10_42, rfs, rfn, cs0, csi, csl, csr, csn, kti, ktl, ktr, ktn, ktv, ktf, true_and, and_true, and_self, ↓reduceIte, Nat.reduceAdd, Nat.reduceSub, Nat.reduceMul, Nat.reduceLT, Nat.reduceLeDiff, Nat.reduceEqDiff, true_or, or_true, false_or, or_false, not_true_eq_false, not_false_eq_true, reduceCtorEq, cmp_lt, cmp_gt, cmp_eq, Int32.reduceAdd, Int32.reduceSub, Int32.reduceMul, Int32.reduceLT, Int32.reduceToNatClampNeg, eq_self, ne_eq, Int64.reduceAdd, Int64.reduceSub, Int64.reduceMul, Int64.reduceLT]
  exact k
theorem least {p : Nat → Prop} (h : ∃ k, p k) : ∃ k, p k ∧ ∀ j, j < k → ¬ p j := by
  obtain ⟨k, hk⟩ := h
  have go : ∀ m, (∃ j, j < m ∧ p j) → ∃ k, p k ∧ ∀ j, j < k → ¬ p j := by
    intro m
    induction m with
    | zero => exact fun ⟨j, hj, _⟩ => absurd hj (by omega)
    | succ m ih =>
      rintro ⟨j, hj, hp⟩
      by_cases g : ∃ j, j < m ∧ p j
      · exact ih g
      · exact ⟨j, hp, fun i hi q => g ⟨i, by omega, q⟩⟩
  exact go (k + 1) ⟨k, by omega, hk⟩
end FK
