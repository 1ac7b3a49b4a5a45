/-! group C: the reference's RUN beside the class's. C: the class's memory, u its Run; J: the reference's; w: how many CELLS -/
def hbL (p : Nat) : Nat → Int32
  | 0 => 0
  | k + 1 => hbL p k ||| (if k ≤ p + 1 ∧ p ≤ k + 1 then 1 <<< (nI k &&& 31) else 0)
def HtR (w : Nat) (p h q : Int32) : Prop := q = p ∧ ((p = -1 ∧ h = 0) ∨ ∃ i, i < w ∧ p = nI i ∧ h = hbL i w)
def CeR (a b p q r s : Int32) : Prop := (∃ x, 1 ≤ x ∧ x ≤ 9 ∧ a = nI x ∧ b = nI x) ∧ p = q ∧ r = s
def SR (u w : Nat) (C J : mI) : Prop := C u 0 = nI w ∧ 3 ≤ w ∧ w ≤ 5 ∧ J 56 0 = nI w ∧ (∀ c, c < 5 → CeR (C (u + 1) c) (J 64 c) (C (u + 3) c) (J 65 c) (C (u + 4) c) (J 66 c)) ∧ HtR w (C u 5) (J 54 26) (J 54 28) ∧ (∃ l, l ≤ 4 ∧ C u 6 = nI l ∧ J 54 27 = nI l) ∧ ∀ k, k < 12 → C (u + 2) k = J 54 (29 + k)
/-- the hand: by how much it slips, what was drawn -/
def SlR (u : Nat) (C J : mI) (L : mL) : Prop := C u 9 = J 54 42 ∧ (C u 9 = -1 ∨ ∃ s, s < 1000003 ∧ C u 10 = nI s ∧ L 54 43 = (nI s).toInt64)
section SRA
variable {u w c i k m n a : Nat} {C J C' J' : mI} {L : mL} {x y : Int32}
theorem HtR.e {p h q p' h' q' : Int32} (g : HtR w p h q) (e1 : p' = p) (e2 : h' = h) (e3 : q' = q) : HtR w p' h' q' := by
  rw [e1, e2, e3]; exact g
theorem CeR.e {a b p q r s a' b' p' q' r' s' : Int32} (g : CeR a b p q r s) (e1 : a' = a) (e2 : b' = b) (e3 : p' = p) (e4 : q' = q) (e5 : r' = r) (e6 : s' = s) : CeR a' b' p' q' r' s' := by
  rw [e1, e2, e3, e4, e5, e6]; exact g
theorem SR.g (h : SR u w C J) (c0 : ∀ k, (k = 0 ∨ k = 5 ∨ k = 6) → C' u k = C u k) (ca : ∀ a, u < a → a ≤ u + 4 → C' a = C a) (j0 : J' 56 0 = J 56 0) (ja : ∀ a, 64 ≤ a → a ≤ 66 → J' a = J a) (jf : ∀ k, 26 ≤ k → k ≤ 40 → J' 54 k = J 54 k) : SR u w C' J' := by
  obtain ⟨h0, h1, h2, h3, hc, hh, ⟨l, l1, l2, l3⟩, ho⟩ := h
  refine ⟨(c0 0 (Or.inl rfl)).trans h0, h1, h2, j0.trans h3, fun c hc5 => ?_, ?_, ⟨l, l1, (c0 6 (Or.inr (Or.inr rfl))).trans l2, (jf 27 (by decide) (by decide)).trans l3⟩, fun k hk => ?_⟩
  · rw [ca (u + 1) (by omega) (by omega), ca (u + 3) (by omega) (by omega), ca (u + 4) (by omega) (by omega), ja 64 (by decide) (by decide), ja 65 (by decide) (by decide), ja 66 (by decide) (by decide)]
    exact hc c hc5
  · rw [c0 5 (Or.inr (Or.inl rfl)), jf 26 (by decide) (by decide), jf 28 (by decide) (by decide)]
    exact hh
  · rw [ca (u + 2) (by omega) (by omega), jf (29 + k) (by omega) (by omega)]
    exact ho k hk
theorem SR.o (h : SR u w C J) (hk : k < 12) (hm : m = 29 + k) (e : y = x) : SR u w (put C (u + 2) k x) (put J 54 m y) := by
  subst hm
  subst e
  obtain ⟨h0, h1, h2, h3, hc, hh, ⟨l, l1, l2, l3⟩, ho⟩ := h
  refine ⟨(pt_m (by omega)).trans h0, h1, h2, (pt_m (by decide)).trans h3, fun c hc5 => (hc c hc5).e (pt_m (by omega)) (pt_m (by decide)) (pt_m (by omega)) (pt_m (by decide)) (pt_m (by omega)) (pt_m (by decide)), hh.e (pt_m (by omega)) (pt_f (by omega)) (pt_f (by omega)), ⟨l, l1, (pt_m (by omega)).trans l2, (pt_f (by omega)).trans l3⟩, fun k' hk' => ?_⟩
  by_cases e : k' = k
  · subst e
    exact pt_s.trans pt_s.symm
  · exact (pt_f e).trans ((ho k' hk').trans (pt_f (show ¬ 29 + k' = 29 + k by omega)).symm)
theorem SR.ic (h : SR u w C J) (hk : k < 12) (hm : m = 29 + k) (hy : y = J 54 m + 1) : SR u w (inc C (u + 2) k) (put J 54 m y) := h.o hk hm (by rw [hy, hm, ← h.2.2.2.2.2.2.2 k hk])
theorem SR.b (h : SR u w C J) (hk : k < 12) (hm : m = 29 + k) (hy : y = J 54 m ||| 1 <<< (x &&& 31)) : SR u w (orb C (u + 2) k x) (put J 54 m y) := h.o hk hm (by rw [hy, hm, ← h.2.2.2.2.2.2.2 k hk])
theorem SR.j (h : SR u w C J) (hm : 26 ≤ m) (e : y = J 54 m) : SR u w C (put J 54 m y) := h.g (fun _ _ => rfl) (fun _ _ _ => rfl) (pt_m (by decide)) (fun a h1 h2 => pt_n (by omega)) (fun k h1 h2 => by
  by_cases g : k = m
  · subst g
    exact pt_s.trans e
  · exact pt_f g)
theorem SR.f (h : SR u w C J) (hc : c < 5) (n : Nat) (n1 : 1 ≤ n) (n9 : n ≤ 9) (ex : x = nI n) (ey : y = nI n) : SR u w (put C (u + 1) c x) (put J 64 c y) := by
  obtain ⟨h0, h1, h2, h3, hd, hh, ⟨l, l1, l2, l3⟩, ho⟩ := h
  refine ⟨(pt_m (by omega)).trans h0, h1, h2, (pt_m (by decide)).trans h3, fun c' hc5 => ?_, hh.e (pt_m (by omega)) (pt_m (by decide)) (pt_m (by decide)), ⟨l, l1, (pt_m (by omega)).trans l2, (pt_m (by decide)).trans l3⟩, fun k' hk' => (pt_m (by omega)).trans ((ho k' hk').trans (pt_m (by decide)).symm)⟩
  by_cases e : c' = c
  · subst e
    obtain ⟨_, g2, g3⟩ := hd c' hc5
    exact ⟨⟨n, n1, n9, pt_s.trans ex, pt_s.trans ey⟩, (pt_m (by omega)).trans (g2.trans (pt_m (by decide)).symm), (pt_m (by omega)).trans (g3.trans (pt_m (by decide)).symm)⟩
  · exact (hd c' hc5).e (pt_f e) (pt_f e) (pt_m (by omega)) (pt_m (by decide)) (pt_m (by omega)) (pt_m (by decide))
theorem SR.p (h : SR u w C J) (e : y = x) : SR u w (put C (u + 3) c x) (put J 65 c y) := by
  subst e
  obtain ⟨h0, h1, h2, h3, hd, hh, ⟨l, l1, l2, l3⟩, ho⟩ := h
  refine ⟨(pt_m (by omega)).trans h0, h1, h2, (pt_m (by decide)).trans h3, fun c' hc5 => ?_, hh.e (pt_m (by omega)) (pt_m (by decide)) (pt_m (by decide)), ⟨l, l1, (pt_m (by omega)).trans l2, (pt_m (by decide)).trans l3⟩, fun k' hk' => (pt_m (by omega)).trans ((ho k' hk').trans (pt_m (by decide)).symm)⟩
  obtain ⟨⟨n, n1, n9, g1, g0⟩, g2, g3⟩ := hd c' hc5
  refine ⟨⟨n, n1, n9, (pt_m (by omega)).trans g1, (pt_m (by decide)).trans g0⟩, ?_, (pt_m (by omega)).trans (g3.trans (pt_m (by decide)).symm)⟩
  by_cases e : c' = c
  · subst e
    exact pt_s.trans pt_s.symm
  · exact (pt_f e).trans (g2.trans (pt_f e).symm)
theorem SR.q (h : SR u w C J) (e : y = x) : SR u w (put C (u + 4) c x) (put J 66 c y) := by
  subst e
  obtain ⟨h0, h1, h2, h3, hd, hh, ⟨l, l1, l2, l3⟩, ho⟩ := h
  refine ⟨(pt_m (by omega)).trans h0, h1, h2, (pt_m (by decide)).trans h3, fun c' hc5 => ?_, hh.e (pt_m (by omega)) (pt_m (by decide)) (pt_m (by decide)), ⟨l, l1, (pt_m (by omega)).trans l2, (pt_m (by decide)).trans l3⟩, fun k' hk' => (pt_m (by omega)).trans ((ho k' hk').trans (pt_m (by decide)).symm)⟩
  obtain ⟨⟨n, n1, n9, g1, g0⟩, g2, g3⟩ := hd c' hc5
  refine ⟨⟨n, n1, n9, (pt_m (by omega)).trans g1, (pt_m (by decide)).trans g0⟩, (pt_m (by omega)).trans (g2.trans (pt_m (by decide)).symm), ?_⟩
  by_cases e : c' = c
  · subst e
    exact pt_s.trans pt_s.symm
  · exact (pt_f e).trans (g3.trans (pt_f e).symm)
theorem SR.l (h : SR u w C J) (n : Nat) (n4 : n ≤ 4) (ex : x = nI n) (ey : y = nI n) : SR u w (put C u 6 x) (put J 54 27 y) := by
  obtain ⟨h0, h1, h2, h3, hd, hh, _, ho⟩ := h
  exact ⟨(pt_f (by decide)).trans h0, h1, h2, (pt_m (by decide)).trans h3, fun c hc5 => (hd c hc5).e (pt_m (by omega)) (pt_m (by decide)) (pt_m (by omega)) (pt_m (by decide)) (pt_m (by omega)) (pt_m (by decide)), hh.e (pt_f (by decide)) (pt_f (by decide)) (pt_f (by decide)), ⟨n, n4, pt_s.trans ex, pt_s.trans ey⟩, fun k hk => (pt_m (by omega)).trans ((ho k hk).trans (pt_f (by omega)).symm)⟩
theorem SR.out (h : SR u w C J) (hk : k < 12) : C (u + 2) k = J 54 (29 + k) := h.2.2.2.2.2.2.2 k hk
theorem SR.w5 (h : SR u w C J) : w ≤ 5 := h.2.2.1
theorem SR.ir (h : SR u w C J) (hc : c < 5) : ∃ x, 1 ≤ x ∧ x ≤ 9 ∧ C (u + 1) c = nI x ∧ J 64 c = nI x := (h.2.2.2.2.1 c hc).1
theorem SR.pc (h : SR u w C J) (hc : c < 5) : C (u + 3) c = J 65 c := (h.2.2.2.2.1 c hc).2.1
theorem SR.lf (h : SR u w C J) : ∃ l, l ≤ 4 ∧ C u 6 = nI l ∧ J 54 27 = nI l := h.2.2.2.2.2.2.1
theorem SR.th (h : SR u w C J) (hi : i < w) : thr C u (nI i) = true := by
  have w5 := h.w5
  unfold thr
  rw [h.1]
  exact decide_eq_true ⟨nI_pos (by omega), nI_lt hi (by omega), nI_lt (a := i) (b := 5) (by omega) (by decide)⟩
theorem SR.tb (h : SR u w C J) (x : Int32) : thr C u x = inB x.toInt64 0 ((nI w).toInt64 - 1) := by
  have w5 := h.w5
  have a := inBu (x := x) (a := 0) (lo := 0) (w := w) rfl (by omega)
  unfold thr
  rw [h.1, Bool.eq_iff_iff, decide_eq_true_iff, a]
  refine ⟨fun z => ⟨z.1, z.2.1⟩, fun z => ⟨z.1, z.2, ?_⟩⟩
  have b := Int32.lt_iff_toInt_lt.mp z.2
  rw [nI_toInt (by omega)] at b
  rw [Int32.lt_iff_toInt_lt]
  show x.toInt < 5
  omega
theorem ht_0 : ∀ i, i < 5 → decide (((0 : Int32) >>> (nI i &&& 31)) &&& 1 = 1) = false := by decide +kernel
theorem ht_1 : ∀ w, w < 6 → ∀ j, j < w → ∀ i, i < w → decide (¬ nI j = -1 ∧ true = true ∧ ¬ 1 < mab (nI i - nI j)) = decide ((hbL j w >>> (nI i &&& 31)) &&& 1 = 1) := by decide +kernel
theorem SR.ht (h : SR u w C J) (hi : i < w) : htB C u (nI i) = decide ((J 54 26 >>> (nI i &&& 31)) &&& 1 = 1) := by
  have w5 := h.w5
  unfold htB
  rw [h.th hi]
  obtain ⟨_, ⟨e1, e2⟩ | ⟨j, hj, e1, e2⟩⟩ := h.2.2.2.2.2.1
  · rw [e1, e2, ht_0 i (by omega)]
    exact decide_eq_false (fun z => z.1 rfl)
  · rw [e1, e2]
    exact ht_1 w (by omega) j hj i hi
theorem SlR.pc (h : SlR u C J L) (hk : ¬ a = u ∨ (¬ k = 9 ∧ ¬ k = 10)) : SlR u (put C a k x) J L := by
  have f : ∀ j, (j = 9 ∨ j = 10) → put C a k x u j = C u j := fun j hj => by
    rcases hk with hk | hk
    · exact pt_m (fun z => hk z.symm)
    · by_cases e : u = a
      · subst e
        exact pt_f (by omega)
      · exact pt_m e
  unfold SlR
  rw [f 9 (Or.inl rfl), f 10 (Or.inr rfl)]
  exact h
theorem SlR.pj (h : SlR u C J L) (hk : ¬ a = 54 ∨ ¬ k = 42) : SlR u C (put J a k x) L := by
  have f : put J a k x 54 42 = J 54 42 := by
    rcases hk with hk | hk
    · exact pt_m (fun z => hk z.symm)
    · by_cases e : 54 = a
      · subst e
        exact pt_f (fun z => hk z.symm)
      · exact pt_m e
  unfold SlR
  rw [f]
  exact h
theorem SlR.e (h : SlR u C J L) (e1 : C' u 9 = C u 9) (e2 : C' u 10 = C u 10) (e3 : J' 54 42 = J 54 42) : SlR u C' J' L := by
  unfold SlR
  rw [e1, e2, e3]
  exact h
theorem useF_n {b : Bool} (e : usb C u b = false) : useF C u x b = orb (inc C (u + 2) 4) (u + 2) 11 x := by
  unfold useF
  rw [e]
  rfl
theorem useF_y {b : Bool} (e : usb C u b = true) : useF C u x b = inc (dcr C u 6) (u + 2) 1 := by
  unfold useF
  rw [e]
  rfl
theorem mab1 : ∀ i, i < 5 → ∀ j, j < 5 → mab (nI i - nI j) = 1 → ¬ i = j := by decide +kernel
theorem and01 (x : Int32) : x &&& 1 = 0 ∨ x &&& 1 = 1 := by
  obtain ⟨v, hv, e⟩ : ∃ v, v < 2 ∧ x &&& 1 = nI v := ⟨_, Nat.mod_lt _ (by decide), pk_and x 1 (by decide)⟩
  rw [e]
  match v, hv with
  | 0, _ => exact Or.inl rfl
  | 1, _ => exact Or.inr rfl
  | k + 2, h => exact absurd h (by omega)
/-- what is drawn -/
def drN (s : Nat) : Nat := (s * 1103 + 12345) % 1000003
theorem drN_lt {s : Nat} : drN s < 1000003 := Nat.mod_lt _ (by decide)
theorem dr_c {s : Nat} (hs : s < 1000003) (e : C u 10 = nI s) : drw C u = nI (drN s) := by
  unfold drw rem
  rw [e, show (1103 : Int32) = nI 1103 from rfl, show (12345 : Int32) = nI 12345 from rfl, show (1000003 : Int32) = nI 1000003 from rfl, pk_mul, nI_add]
  exact pk_rem (by omega) (by decide) (by decide)
theorem rem_100 {s : Nat} : rem (nI (drN s)) 100 = nI (drN s % 100) := by
  have := drN_lt (s := s)
  unfold rem
  rw [show (100 : Int32) = nI 100 from rfl]
  exact pk_rem (by omega) (by decide) (by decide)
theorem lI_t {n : Nat} (h : n < 2 ^ 31) : ((nI n).toInt64).toInt = n := by rw [Int32.toInt_toInt64, nI_toInt h]
theorem lI_e {z : Int64} {n : Nat} (h : n < 2 ^ 31) (e : z.toInt = n) : z = (nI n).toInt64 := Int64.toInt_inj.mp (e.trans (lI_t h).symm)
theorem dr_m {s : Nat} (hs : s < 1000003) : (nI s).toInt64 * 1103 + 12345 - ((nI s).toInt64 * 1103 + 12345) / 1000003 * 1000003 = (nI (drN s)).toInt64 := by
  have hd := drN_lt (s := s)
  have e0 := lI_t (n := s) (by omega)
  have e1 : ((nI s).toInt64 * 1103).toInt = (s : Int) * 1103 := by
    rw [Int64.toInt_mul, e0, show (1103 : Int64).toInt = 1103 from rfl]
    exact Int.bmod_eq_of_le_mul_two (by omega) (by omega)
  have e2 : ((nI s).toInt64 * 1103 + 12345).toInt = (s : Int) * 1103 + 12345 := by
    rw [Int64.toInt_add, e1, show (12345 : Int64).toInt = 12345 from rfl]
    exact Int.bmod_eq_of_le_mul_two (by omega) (by omega)
  rw [lrem_eq]
  refine lI_e (by omega) ?_
  rw [Int64.toInt_mod, e2, show (1000003 : Int64).toInt = ((1000003 : Nat) : Int) from rfl, show (s : Int) * 1103 + 12345 = ((s * 1103 + 12345 : Nat) : Int) by omega]
  exact (Int.ofNat_tmod (s * 1103 + 12345) 1000003).symm
theorem dr_100 {s : Nat} : ((nI (drN s)).toInt64 - (nI (drN s)).toInt64 / (100 : Int32).toInt64 * (100 : Int32).toInt64).toInt32 = nI (drN s % 100) := by
  have hd := drN_lt (s := s)
  have e0 := lI_t (n := drN s) (by omega)
  rw [lrem_eq]
  have e1 : ((nI (drN s)).toInt64 % (100 : Int32).toInt64) = (nI (drN s % 100)).toInt64 := by
    refine lI_e (by omega) ?_
    rw [Int64.toInt_mod, e0, show ((100 : Int32).toInt64).toInt = ((100 : Nat) : Int) from rfl]
    exact (Int.ofNat_tmod (drN s) 100).symm
  rw [e1, Int32.toInt32_toInt64]
end SRA
section SRW
variable {d u w i j k : Nat} {S : mS} {C J : mI} {L : mL} {R : mR} {Q : mQ}
theorem isR (hS : Pm S) (h : SR u w C J) (hi : i < w) : EvM (d + 1) 187 [.ref 54, .int (nI i)] S J L R Q = Q (.int (bI (htB C u (nI i)))) S J L R := by rw [ish hS, ← h.ht hi]
theorem mdrE {s : Nat} (hS : Pm S) (hs : s < 1000003) (e : L 54 43 = (nI s).toInt64) (hq : ∀ L', L' 54 43 = (nI (drN s)).toInt64 → Q (.int (nI (drN s % 100))) S J L' R) : EvM (d + 1) 185 [.ref 54, .int 100] S J L R Q := by
  have e1 : ((1000003 : Int64) = 0) = False := eq_false (by decide)
  have e2 : ((100 : Int32).toInt64 = 0) = False := eq_false (by decide)
  simp only [M185, E185_0, E185_1, E185_2, E185_5, E185_8, E185_9, E185_12, E185_13, E185_16, E185_17, E185_20, E185_21, E185_24, E185_25, E185_26, E185_27, E185_28, pk54 hS, rfs, rfn, cs0, csi, csl, csr, csn, kti, ktl, ktr, ktn, ktv, ktf, true_and, and_true, and_self, ↓reduceIte, Nat.reduceAdd, Nat.reduceSub, Nat.reduceMul, Nat.reduceLT, Nat.reduceLeDiff, Nat.reduceEqDiff, true_or, or_true, false_or, or_false, not_true_eq_false, not_false_eq_true, reduceCtorEq, cmp_lt, cmp_gt, cmp_eq, Int32.reduceAdd, Int32.reduceSub, Int32.reduceMul, Int32.reduceLT, Int32.reduceToNatClampNeg, eq_self, ne_eq, Int64.reduceAdd, Int64.reduceSub, Int64.reduceMul, Int64.reduceLT, uu_s, e, e1, e2, dr_m hs, dr_100]
  exact hq _ (by rw [uu_s, uu_s])
theorem losR (hS : Pm S) (hR : Pr R) (h : SR u w C J) (hs : SlR u C J L) (hi : i < 5) (hq : ∀ J', SR u w (losF C u (nI i)) J' → SlR u (losF C u (nI i)) J' L → Gr J J' → Q .null S J' L R) : EvM (d + 1) 189 [.ref 54, .int (nI i)] S J L R Q := by
  obtain ⟨x, x1, x9, e1, e2⟩ := h.ir hi
  have a0 : inb (nI i) 5 = True := inb_nI (by omega) (by decide)
  have b0 : (nI i).toNatClampNeg = i := nI_clamp (by omega)
  by_cases g : x = 1
  · have g' : ((1 : Int32) < J 64 i) = False := by rw [e2, g]; exact eq_false (by decide)
    have g2 : losF C u (nI i) = C := by
      unfold losF
      rw [b0, e1, g]
      exact if_neg (by decide)
    rw [g2] at hq
    simp only [M189, E189_0, E189_1, E189_4, E189_5, E189_6, E189_7, E189_10, E189_11, E189_14, E189_15, E189_16, E189_17, E189_18, E189_19, E189_20, E189_21, E189_22, E189_25, E189_26, E189_27, E189_30, pk54 hS, pk64 hS, pl64 hS, pa64 hS, pi64 hS, pr54_23 hR, rfs, rfn, cs0, csi, csl, csr, csn, kti, ktl, ktr, ktn, ktv, ktf, true_and, and_true, and_self, ↓reduceIte, Nat.reduceAdd, Nat.reduceSub, Nat.reduceMul, Nat.reduceLT, Nat.reduceLeDiff, Nat.reduceEqDiff, true_or, or_true, false_or, or_false, not_true_eq_false, not_false_eq_true, reduceCtorEq, cmp_lt, cmp_gt, cmp_eq, Int32.reduceAdd, Int32.reduceSub, Int32.reduceMul, Int32.reduceLT, Int32.reduceToNatClampNeg, eq_self, ne_eq, Int64.reduceAdd, Int64.reduceSub, Int64.reduceMul, Int64.reduceLT, pt, a0, b0, g']
    exact hq _ h hs Gr.rf
  · obtain ⟨y, rfl⟩ : ∃ y, x = y + 1 := ⟨x - 1, by omega⟩
    have g3 : (1 : Int32) < nI (y + 1) := nI_lt (a := 1) (b := y + 1) (by omega) (by omega)
    have g' : ((1 : Int32) < J 64 i) = True := by rw [e2]; exact eq_true g3
    have g2 : losF C u (nI i) = inc (put C (u + 1) i (C (u + 1) i - 1)) (u + 2) 5 := by
      unfold losF
      rw [b0, if_pos (by rw [e1]; exact g3)]
      rfl
    rw [g2] at hq
    simp only [M189, E189_0, E189_1, E189_4, E189_5, E189_6, E189_7, E189_10, E189_11, E189_14, E189_15, E189_16, E189_17, E189_18, E189_19, E189_20, E189_21, E189_22, E189_25, E189_26, E189_27, E189_30, pk54 hS, pk64 hS, pl64 hS, pa64 hS, pi64 hS, pr54_23 hR, rfs, rfn, cs0, csi, csl, csr, csn, kti, ktl, ktr, ktn, ktv, ktf, true_and, and_true, and_self, ↓reduceIte, Nat.reduceAdd, Nat.reduceSub, Nat.reduceMul, Nat.reduceLT, Nat.reduceLeDiff, Nat.reduceEqDiff, true_or, or_true, false_or, or_false, not_true_eq_false, not_false_eq_true, reduceCtorEq, cmp_lt, cmp_gt, cmp_eq, Int32.reduceAdd, Int32.reduceSub, Int32.reduceMul, Int32.reduceLT, Int32.reduceToNatClampNeg, eq_self, ne_eq, Int64.reduceAdd, Int64.reduceSub, Int64.reduceMul, Int64.reduceLT, pt, a0, b0, g']
    refine hq _ ?_ (by repeat (first | assumption | refine SlR.pj ?_ (by omega) | refine SlR.pc ?_ (by omega))) (by repeat (first | exact Gr.rf | assumption | refine Gr.p4 ?_ (by decide) | refine Gr.pa ?_ (by decide)))
    exact (h.f hi y (by omega) (by omega) (by rw [e1]; exact nI_m1 y) (by rw [e2]; exact nI_m1 y)).ic (k := 5) (m := 34) (by decide) rfl (by first | rfl | (simp (disch := omega) only [pt_s, pt_f, pt_m]))
theorem useR {b : Bool} {x : Int32} (hS : Pm S) (h : SR u w C J) (hs : SlR u C J L) (hq : ∀ J', SR u w (useF C u x b) J' → SlR u (useF C u x b) J' L → Gr J J' → Q (.int (bI (usb C u b))) S J' L R) : EvM (d + 1) 190 [.ref 54, .int (bI b), .int x] S J L R Q := by
  obtain ⟨l, l4, e1, e2⟩ := h.lf
  have eu : usb C u b = decide (¬ nI l < 1 ∧ b = true) := by
    unfold usb
    rw [e1]
  by_cases g : l = 0
  · subst g
    have g' : (J 54 27 = 0) = True := eq_true e2
    have e : usb C u b = false := by rw [eu]; exact decide_eq_false (fun z => z.1 (by decide))
    rw [e, useF_n e] at hq
    simp only [M190, E190_0, E190_1, E190_4, E190_7, E190_8, E190_11, E190_12, E190_13, E190_16, E190_17, E190_18, E190_21, E190_22, E190_23, E190_26, E190_27, E190_28, E190_29, E190_30, E190_33, E190_34, E190_35, E190_36, E190_37, E190_40, E190_41, E190_42, E190_45, E190_46, E190_47, E190_50, E190_51, E190_52, E190_55, E190_56, pk54 hS, rfs, rfn, cs0, csi, csl, csr, csn, kti, ktl, ktr, ktn, ktv, ktf, true_and, and_true, and_self, ↓reduceIte, Nat.reduceAdd, Nat.reduceSub, Nat.reduceMul, Nat.reduceLT, Nat.reduceLeDiff, Nat.reduceEqDiff, true_or, or_true, false_or, or_false, not_true_eq_false, not_false_eq_true, reduceCtorEq, cmp_lt, cmp_gt, cmp_eq, Int32.reduceAdd, Int32.reduceSub, Int32.reduceMul, Int32.reduceLT, Int32.reduceToNatClampNeg, eq_self, ne_eq, Int64.reduceAdd, Int64.reduceSub, Int64.reduceMul, Int64.reduceLT, pt, g']
    refine hq _ ?_ (by repeat (first | assumption | refine SlR.pj ?_ (by omega) | refine SlR.pc ?_ (by omega))) (by repeat (first | exact Gr.rf | assumption | refine Gr.p4 ?_ (by decide) | refine Gr.pa ?_ (by decide)))
    exact (h.ic (k := 4) (m := 33) (by decide) rfl (by first | rfl | (simp (disch := omega) only [pt_s, pt_f, pt_m]))).b (k := 11) (m := 40) (by decide) rfl (by first | rfl | (simp (disch := omega) only [pt_s, pt_f, pt_m]))
  · obtain ⟨y, rfl⟩ : ∃ y, l = y + 1 := ⟨l - 1, by omega⟩
    have g' : (J 54 27 = 0) = False := eq_false (fun z => by
      rw [e2] at z
      exact absurd ((nI_eq (a := y + 1) (b := 0) (by omega) (by decide)).mp z) (by omega))
    cases b
    · have e : usb C u false = false := by rw [eu]; exact decide_eq_false (fun z => by cases z.2)
      rw [e, useF_n e] at hq
      simp only [M190, E190_0, E190_1, E190_4, E190_7, E190_8, E190_11, E190_12, E190_13, E190_16, E190_17, E190_18, E190_21, E190_22, E190_23, E190_26, E190_27, E190_28, E190_29, E190_30, E190_33, E190_34, E190_35, E190_36, E190_37, E190_40, E190_41, E190_42, E190_45, E190_46, E190_47, E190_50, E190_51, E190_52, E190_55, E190_56, pk54 hS, rfs, rfn, cs0, csi, csl, csr, csn, kti, ktl, ktr, ktn, ktv, ktf, true_and, and_true, and_self, ↓reduceIte, Nat.reduceAdd, Nat.reduceSub, Nat.reduceMul, Nat.reduceLT, Nat.reduceLeDiff, Nat.reduceEqDiff, true_or, or_true, false_or, or_false, not_true_eq_false, not_false_eq_true, reduceCtorEq, cmp_lt, cmp_gt, cmp_eq, Int32.reduceAdd, Int32.reduceSub, Int32.reduceMul, Int32.reduceLT, Int32.reduceToNatClampNeg, eq_self, ne_eq, Int64.reduceAdd, Int64.reduceSub, Int64.reduceMul, Int64.reduceLT, pt, g', bI_f]
      refine hq _ ?_ (by repeat (first | assumption | refine SlR.pj ?_ (by omega) | refine SlR.pc ?_ (by omega))) (by repeat (first | exact Gr.rf | assumption | refine Gr.p4 ?_ (by decide) | refine Gr.pa ?_ (by decide)))
      exact (h.ic (k := 4) (m := 33) (by decide) rfl (by first | rfl | (simp (disch := omega) only [pt_s, pt_f, pt_m]))).b (k := 11) (m := 40) (by decide) rfl (by first | rfl | (simp (disch := omega) only [pt_s, pt_f, pt_m]))
    · have e : usb C u true = true := by rw [eu]; exact decide_eq_true ⟨nI_nlt (a := y + 1) (b := 1) (by omega) (by omega), rfl⟩
      rw [e, useF_y e] at hq
      simp only [M190, E190_0, E190_1, E190_4, E190_7, E190_8, E190_11, E190_12, E190_13, E190_16, E190_17, E190_18, E190_21, E190_22, E190_23, E190_26, E190_27, E190_28, E190_29, E190_30, E190_33, E190_34, E190_35, E190_36, E190_37, E190_40, E190_41, E190_42, E190_45, E190_46, E190_47, E190_50, E190_51, E190_52, E190_55, E190_56, pk54 hS, rfs, rfn, cs0, csi, csl, csr, csn, kti, ktl, ktr, ktn, ktv, ktf, true_and, and_true, and_self, ↓reduceIte, Nat.reduceAdd, Nat.reduceSub, Nat.reduceMul, Nat.reduceLT, Nat.reduceLeDiff, Nat.reduceEqDiff, true_or, or_true, false_or, or_false, not_true_eq_false, not_false_eq_true, reduceCtorEq, cmp_lt, cmp_gt, cmp_eq, Int32.reduceAdd, Int32.reduceSub, Int32.reduceMul, Int32.reduceLT, Int32.reduceToNatClampNeg, eq_self, ne_eq, Int64.reduceAdd, Int64.reduceSub, Int64.reduceMul, Int64.reduceLT, pt, g', bI_t, n1_0]
      refine hq _ ?_ (by repeat (first | assumption | refine SlR.pj ?_ (by omega) | refine SlR.pc ?_ (by omega))) (by repeat (first | exact Gr.rf | assumption | refine Gr.p4 ?_ (by decide) | refine Gr.pa ?_ (by decide)))
      exact (h.l y (by omega) (by rw [e1]; exact nI_m1 y) (by rw [e2]; exact nI_m1 y)).ic (k := 1) (m := 30) (by decide) rfl (by first | rfl | (simp (disch := omega) only [pt_s, pt_f, pt_m]))
theorem punR (hS : Pm S) (hR : Pr R) (h : SR u w C J) (hs : SlR u C J L) (hi : i < w) (hq : ∀ J', SR u w (punF C u (nI i)) J' → SlR u (punF C u (nI i)) J' L → Gr J J' → Q .null S J' L R) : EvM (d + 2) 192 [.ref 54, .int (nI i)] S J L R Q := by
  have w5 := h.w5
  have a0 : inb (nI i) 5 = True := inb_nI (by omega) (by decide)
  have b0 : (nI i).toNatClampNeg = i := nI_clamp (by omega)
  simp only [M192, E192_0, E192_1, E192_2, E192_3, E192_6, E192_7, isR hS h hi, pk54 hS, rfs, rfn, cs0, csi, csl, csr, csn, kti, ktl, ktr, ktn, ktv, ktf, true_and, and_true, and_self, ↓reduceIte, Nat.reduceAdd, Nat.reduceSub, Nat.reduceMul, Nat.reduceLT, Nat.reduceLeDiff, Nat.reduceEqDiff, true_or, or_true, false_or, or_false, not_true_eq_false, not_false_eq_true, reduceCtorEq, cmp_lt, cmp_gt, cmp_eq, Int32.reduceAdd, Int32.reduceSub, Int32.reduceMul, Int32.reduceLT, Int32.reduceToNatClampNeg, eq_self, ne_eq, Int64.reduceAdd, Int64.reduceSub, Int64.reduceMul, Int64.reduceLT]
  refine useR hS h hs (fun J1 k1 s1 g1 => ?_)
  cases e : usb C u (htB C u (nI i))
  · have ep : punF C u (nI i) = useF C u (nI i) (htB C u (nI i)) := by
      unfold punF
      rw [if_pos (h.th hi), e]
      rfl
    rw [ep] at hq
    simp only [E192_10, E192_13, rfs, rfn, cs0, csi, csl, csr, csn, kti, ktl, ktr, ktn, ktv, ktf, true_and, and_true, and_self, ↓reduceIte, Nat.reduceAdd, Nat.reduceSub, Nat.reduceMul, Nat.reduceLT, Nat.reduceLeDiff, Nat.reduceEqDiff, true_or, or_true, false_or, or_false, not_true_eq_false, not_false_eq_true, reduceCtorEq, cmp_lt, cmp_gt, cmp_eq, Int32.reduceAdd, Int32.reduceSub, Int32.reduceMul, Int32.reduceLT, Int32.reduceToNatClampNeg, eq_self, ne_eq, Int64.reduceAdd, Int64.reduceSub, Int64.reduceMul, Int64.reduceLT, bI_f]
    exact hq J1 k1 s1 g1
  · have ep : punF C u (nI i) = pu1 (inc (useF C u (nI i) (htB C u (nI i))) (u + 3) i) u (nI i) := by
      unfold punF
      rw [if_pos (h.th hi), e, b0]
      rfl
    rw [ep] at hq
    generalize useF C u (nI i) (htB C u (nI i)) = C1 at k1 s1 hq
    have pc := k1.pc (c := i) (by omega)
    have k2 : SR u w (inc C1 (u + 3) i) (put J1 65 i (J1 65 i + 1)) := k1.p (by rw [pc])
    have s2 : SlR u (inc C1 (u + 3) i) (put J1 65 i (J1 65 i + 1)) L := (by repeat (first | assumption | refine SlR.pj ?_ (by omega) | refine SlR.pc ?_ (by omega)))
    have g2 : Gr J (put J1 65 i (J1 65 i + 1)) := Gr.pa g1 (by decide)
    have ev : inc C1 (u + 3) i (u + 3) i = J1 65 i + 1 := by
      unfold inc
      rw [pt_s, pc]
    unfold pu1 at hq
    rw [b0, ev] at hq
    by_cases g : J1 65 i + 1 = 2
    · rw [if_pos g] at hq
      have gt : (J1 65 i + 1 = 2) = True := eq_true g
      simp only [E192_10, E192_13, E192_14, E192_15, E192_18, E192_19, E192_20, E192_21, E192_22, E192_23, E192_24, E192_25, E192_28, E192_29, E192_30, E192_31, E192_34, E192_35, E192_36, E192_39, E192_40, E192_41, E192_42, E192_43, E192_46, E192_47, E192_48, pk54 hS, pk65 hS, pl65 hS, pa65 hS, pi65 hS, pr54_24 hR, rfs, rfn, cs0, csi, csl, csr, csn, kti, ktl, ktr, ktn, ktv, ktf, true_and, and_true, and_self, ↓reduceIte, Nat.reduceAdd, Nat.reduceSub, Nat.reduceMul, Nat.reduceLT, Nat.reduceLeDiff, Nat.reduceEqDiff, true_or, or_true, false_or, or_false, not_true_eq_false, not_false_eq_true, reduceCtorEq, cmp_lt, cmp_gt, cmp_eq, Int32.reduceAdd, Int32.reduceSub, Int32.reduceMul, Int32.reduceLT, Int32.reduceToNatClampNeg, eq_self, ne_eq, Int64.reduceAdd, Int64.reduceSub, Int64.reduceMul, Int64.reduceLT, bI_t, n1_0, pt, pt_s, a0, b0, gt]
      refine losR (i := i) (L := L) (C := orb (inc C1 (u + 3) i) (u + 2) 8 (nI i)) hS hR (k2.b (k := 8) (m := 37) (by decide) rfl (by first | rfl | (simp (disch := omega) only [pt_s, pt_f, pt_m]))) (by repeat (first | assumption | refine SlR.pj ?_ (by omega) | refine SlR.pc ?_ (by omega))) (by omega) (fun J3 k3 s3 g3 => ?_)
      try simp only [E192_51, rfs, rfn, cs0, csi, csl, csr, csn, kti, ktl, ktr, ktn, ktv, ktf, true_and, and_true, and_self, ↓reduceIte, Nat.reduceAdd, Nat.reduceSub, Nat.reduceMul, Nat.reduceLT, Nat.reduceLeDiff, Nat.reduceEqDiff, true_or, or_true, false_or, or_false, not_true_eq_false, not_false_eq_true, reduceCtorEq, cmp_lt, cmp_gt, cmp_eq, Int32.reduceAdd, Int32.reduceSub, Int32.reduceMul, Int32.reduceLT, Int32.reduceToNatClampNeg, eq_self, ne_eq, Int64.reduceAdd, Int64.reduceSub, Int64.reduceMul, Int64.reduceLT]
      exact hq J3 k3 s3 (Gr.tr (Gr.p4 g2 (by decide)) g3)
    · rw [if_neg g] at hq
      simp only [E192_10, E192_13, E192_14, E192_15, E192_18, E192_19, E192_20, E192_21, E192_22, E192_23, E192_24, E192_25, E192_28, E192_29, E192_30, E192_31, E192_51, pk54 hS, pk65 hS, pl65 hS, pa65 hS, pi65 hS, pr54_24 hR, rfs, rfn, cs0, csi, csl, csr, csn, kti, ktl, ktr, ktn, ktv, ktf, true_and, and_true, and_self, ↓reduceIte, Nat.reduceAdd, Nat.reduceSub, Nat.reduceMul, Nat.reduceLT, Nat.reduceLeDiff, Nat.reduceEqDiff, true_or, or_true, false_or, or_false, not_true_eq_false, not_false_eq_true, reduceCtorEq, cmp_lt, cmp_gt, cmp_eq, Int32.reduceAdd, Int32.reduceSub, Int32.reduceMul, Int32.reduceLT, Int32.reduceToNatClampNeg, eq_self, ne_eq, Int64.reduceAdd, Int64.reduceSub, Int64.reduceMul, Int64.reduceLT, bI_t, n1_0, pt, pt_s, a0, b0, g]
      exact hq _ k2 s2 g2
/-- what a STRIKE comes to behind its BLOW -/
theorem stR2 {y3 y4 : Value} (hS : Pm S) (hR : Pr R) (h : SR u w C J) (hs : SlR u C J L) (hi : i < w) (hj : j < w) (hn : ¬ i = j) (hq : ∀ J' L', SR u w (stA C u (nI i) (nI j)) J' → SlR u (stA C u (nI i) (nI j)) J' L' → Gr J J' → Q .null S J' L' R) : Ev (d + 2) 191 30 [.ref 54, .int (nI i), .int (nI j), y3, y4] [] S J L R Q := by
  have w5 := h.w5
  have a0 : inb (nI i) 5 = True := inb_nI (by omega) (by decide)
  have b0 : (nI i).toNatClampNeg = i := nI_clamp (by omega)
  have a1 : inb (nI j) 5 = True := inb_nI (by omega) (by decide)
  have b1 : (nI j).toNatClampNeg = j := nI_clamp (by omega)
  obtain ⟨x, x1, x9, e1, e2⟩ := h.ir (c := i) (by omega)
  obtain ⟨y, y1, y9, f1, f2⟩ := h.ir (c := j) (by omega)
  have o7 := h.out (k := 7) (by decide)
  have dud : SR u w (inc C (u + 2) 3) (put J 54 32 (J 54 32 + 1)) := h.ic (by decide) rfl rfl
  have duds : SlR u (inc C (u + 2) 3) (put J 54 32 (J 54 32 + 1)) L := (by repeat (first | assumption | refine SlR.pj ?_ (by omega) | refine SlR.pc ?_ (by omega)))
  have dudg : Gr J (put J 54 32 (J 54 32 + 1)) := (by repeat (first | exact Gr.rf | assumption | refine Gr.p4 ?_ (by decide) | refine Gr.pa ?_ (by decide)))
  obtain ⟨m, em⟩ : ∃ m : Int32, (if nI j < nI i then nI j else nI i) = m := ⟨_, rfl⟩
  have ep : prt C u (nI i) (nI j) = (J 54 36 >>> (m &&& 31)) &&& 1 := by
    unfold prt
    rw [em, o7]
  have go : ∀ (v : Value), Ev (d + 2) 191 41 [.ref 54, .int (nI i), .int (nI j), .int m, v] [] S J L R Q := by
    intro v
    by_cases g1 : x = 1
    · have g1' : (nI x < (2 : Int32)) = True := by rw [g1]; exact eq_true (by decide)
      have es : stA C u (nI i) (nI j) = inc C (u + 2) 3 := by
        unfold stA
        rw [b0, e1, if_pos (of_eq_true g1')]
      rw [es] at hq
      simp only [E191_41, E191_42, E191_45, E191_46, E191_47, E191_48, E191_77, E191_78, E191_80, E191_82, E191_106, E191_107, E191_108, E191_111, E191_112, E191_113, E191_116, pk54 hS, pk64 hS, pl64 hS, pa64 hS, pi64 hS, pr54_23 hR, rfs, rfn, cs0, csi, csl, csr, csn, kti, ktl, ktr, ktn, ktv, ktf, true_and, and_true, and_self, ↓reduceIte, Nat.reduceAdd, Nat.reduceSub, Nat.reduceMul, Nat.reduceLT, Nat.reduceLeDiff, Nat.reduceEqDiff, true_or, or_true, false_or, or_false, not_true_eq_false, not_false_eq_true, reduceCtorEq, cmp_lt, cmp_gt, cmp_eq, Int32.reduceAdd, Int32.reduceSub, Int32.reduceMul, Int32.reduceLT, Int32.reduceToNatClampNeg, eq_self, ne_eq, Int64.reduceAdd, Int64.reduceSub, Int64.reduceMul, Int64.reduceLT, a0, b0, e2, g1', pt]
      exact hq _ _ dud duds dudg
    have g1' : (nI x < (2 : Int32)) = False := eq_false (nI_nlt (a := x) (b := 2) (by omega) (by omega))
    by_cases g2 : y = 9
    · have g2' : (nI y = (9 : Int32)) = True := by rw [g2]; exact eq_true rfl
      have es : stA C u (nI i) (nI j) = inc C (u + 2) 3 := by
        unfold stA
        rw [b0, b1, e1, if_neg (of_eq_false g1'), f1, if_neg (by rw [g2]; decide)]
      rw [es] at hq
      simp only [E191_41, E191_42, E191_45, E191_46, E191_47, E191_48, E191_51, E191_52, E191_55, E191_56, E191_57, E191_59, E191_77, E191_78, E191_80, E191_82, E191_106, E191_107, E191_108, E191_111, E191_112, E191_113, E191_116, pk54 hS, pk64 hS, pl64 hS, pa64 hS, pi64 hS, pr54_23 hR, rfs, rfn, cs0, csi, csl, csr, csn, kti, ktl, ktr, ktn, ktv, ktf, true_and, and_true, and_self, ↓reduceIte, Nat.reduceAdd, Nat.reduceSub, Nat.reduceMul, Nat.reduceLT, Nat.reduceLeDiff, Nat.reduceEqDiff, true_or, or_true, false_or, or_false, not_true_eq_false, not_false_eq_true, reduceCtorEq, cmp_lt, cmp_gt, cmp_eq, Int32.reduceAdd, Int32.reduceSub, Int32.reduceMul, Int32.reduceLT, Int32.reduceToNatClampNeg, eq_self, ne_eq, Int64.reduceAdd, Int64.reduceSub, Int64.reduceMul, Int64.reduceLT, a0, b0, a1, b1, e2, f2, g1', g2', pt]
      exact hq _ _ dud duds dudg
    have g2' : (nI y = (9 : Int32)) = False := eq_false (fun z => g2 ((nI_eq (a := y) (b := 9) (by omega) (by decide)).mp z))
    have g2c : nI y < (9 : Int32) := nI_lt (a := y) (b := 9) (by omega) (by decide)
    by_cases g3 : (J 54 36 >>> (m &&& 31)) &&& 1 = 0
    · have g3' : ((J 54 36 >>> (m &&& 31)) &&& 1 = 0) = True := eq_true g3
      have es : stA C u (nI i) (nI j) = stB C u (nI i) (nI j) := by
        unfold stA
        rw [b0, b1, e1, if_neg (of_eq_false g1'), f1, if_pos g2c, ep, if_pos g3]
      rw [es] at hq
      obtain ⟨y', rfl⟩ : ∃ y', x = y' + 1 := ⟨x - 1, by omega⟩
      obtain ⟨hs1, hs2⟩ := id hs
      have move : ∀ (K : mI) (L1 : mL), SR u w K J → SlR u K J L1 → K (u + 1) = C (u + 1) → (∀ J' L', SR u w (movF K u (nI i) (nI j)) J' → SlR u (movF K u (nI i) (nI j)) J' L' → Gr J J' → Q .null S J' L' R) → ∀ v v2, Ev (d + 2) 191 117 [.ref 54, .int (nI i), .int (nI j), v, v2] [] S J L1 R Q := by
        intro K L1 hK hsK eK hq v v2
        have c1 : SR u w (put K (u + 1) i (K (u + 1) i - 1)) (put J 64 i (J 64 i - 1)) := hK.f (by omega) y' (by omega) (by omega) (by rw [eK, e1]; exact nI_m1 y') (by rw [e2]; exact nI_m1 y')
        have c2 : SR u w (put (put K (u + 1) i (K (u + 1) i - 1)) (u + 1) j (put K (u + 1) i (K (u + 1) i - 1) (u + 1) j + 1)) (put (put J 64 i (J 64 i - 1)) 64 j (put J 64 i (J 64 i - 1) 64 j + 1)) := c1.f (by omega) (y + 1) (by omega) (by omega) (by rw [pt_f (fun z => hn z.symm), eK, f1]; exact nI_1 y) (by rw [pt_f (fun z => hn z.symm), f2]; exact nI_1 y)
        have q1 : mv1 K u (nI i) (nI j) (u + 1) i = nI y' := by
          unfold mv1 inc dcr
          rw [b0, b1, pt_m (by omega), pt_f hn, pt_s, eK, e1]
          exact nI_m1 y'
        have q2 : mv1 K u (nI i) (nI j) (u + 1) j = nI (y + 1) := by
          unfold mv1 inc dcr
          rw [b0, b1, pt_m (by omega), pt_s, pt_f (fun z => hn z.symm), eK, f1]
          exact nI_1 y
        have em : mv1 K u (nI i) (nI j) = inc (put (put K (u + 1) i (K (u + 1) i - 1)) (u + 1) j (put K (u + 1) i (K (u + 1) i - 1) (u + 1) j + 1)) (u + 2) 2 := by
          unfold mv1
          rw [b0, b1]
          rfl
        have e3 : nI (y' + 1) - 1 = nI y' := nI_m1 y'
        have p64 : ∀ (v0 : Int32), put J 64 i v0 64 j = nI y := fun v0 => (pt_f (fun z => hn z.symm)).trans f2
        by_cases g : 2 * y' < y + 1
        · have gC : 2 * nI y' < nI (y + 1) := by
            rw [show (2 : Int32) = nI 2 from rfl, pk_mul]
            exact nI_lt g (by omega)
          have es : movF K u (nI i) (nI j) = orb (mv1 K u (nI i) (nI j)) (u + 2) 10 (nI j) := by
            unfold movF
            rw [b0, b1, q1, q2, if_pos gC]
          rw [es, em] at hq
          have gC' : (2 * nI y' < nI (y + 1)) = True := eq_true gC
          simp (disch := omega) only [E191_117, E191_118, E191_121, E191_122, E191_123, E191_124, E191_125, E191_126, E191_127, E191_128, E191_131, E191_132, E191_133, E191_134, E191_135, E191_136, E191_137, E191_138, E191_139, E191_142, E191_143, E191_144, E191_147, E191_148, E191_149, E191_152, E191_153, E191_156, E191_157, E191_158, E191_159, E191_160, E191_163, E191_164, E191_165, E191_166, E191_169, E191_170, E191_171, E191_172, E191_175, E191_176, E191_177, E191_180, pk54 hS, pk64 hS, pl64 hS, pa64 hS, pi64 hS, pr54_23 hR, rfs, rfn, cs0, csi, csl, csr, csn, kti, ktl, ktr, ktn, ktv, ktf, true_and, and_true, and_self, ↓reduceIte, Nat.reduceAdd, Nat.reduceSub, Nat.reduceMul, Nat.reduceLT, Nat.reduceLeDiff, Nat.reduceEqDiff, true_or, or_true, false_or, or_false, not_true_eq_false, not_false_eq_true, reduceCtorEq, cmp_lt, cmp_gt, cmp_eq, Int32.reduceAdd, Int32.reduceSub, Int32.reduceMul, Int32.reduceLT, Int32.reduceToNatClampNeg, eq_self, ne_eq, Int64.reduceAdd, Int64.reduceSub, Int64.reduceMul, Int64.reduceLT, a0, b0, a1, b1, pt, pt_s, pt_f, pt_m, e2, f2, e3, nI_1, gC']
          refine hq _ _ ?_ ?_ ?_
          · rw [e2] at c2
            have c3 := (c2.ic (k := 2) (m := 31) (y := J 54 31 + 1) (by decide) rfl (by first | rfl | (simp (disch := omega) only [pt_s, pt_f, pt_m]))).b (k := 10) (m := 39) (x := nI j) (y := J 54 39 ||| 1 <<< (nI j &&& 31)) (by decide) rfl (by first | rfl | (simp (disch := omega) only [pt_s, pt_f, pt_m]))
            rw [e3, p64, nI_1] at c3
            exact c3
          · exact (by repeat (first | assumption | refine SlR.pj ?_ (by omega) | refine SlR.pc ?_ (by omega)))
          · exact (by repeat (first | exact Gr.rf | assumption | refine Gr.p4 ?_ (by decide) | refine Gr.pa ?_ (by decide)))
        · have gC : ¬ 2 * nI y' < nI (y + 1) := by
            rw [show (2 : Int32) = nI 2 from rfl, pk_mul]
            exact nI_nlt (by omega) (by omega)
          have es : movF K u (nI i) (nI j) = mv1 K u (nI i) (nI j) := by
            unfold movF
            rw [b0, b1, q1, q2, if_neg gC]
          rw [es, em] at hq
          have gC' : (2 * nI y' < nI (y + 1)) = False := eq_false gC
          simp (disch := omega) only [E191_117, E191_118, E191_121, E191_122, E191_123, E191_124, E191_125, E191_126, E191_127, E191_128, E191_131, E191_132, E191_133, E191_134, E191_135, E191_136, E191_137, E191_138, E191_139, E191_142, E191_143, E191_144, E191_147, E191_148, E191_149, E191_152, E191_153, E191_156, E191_157, E191_158, E191_159, E191_160, E191_163, E191_164, E191_165, E191_166, E191_169, E191_170, E191_171, E191_172, E191_175, E191_176, E191_177, E191_180, pk54 hS, pk64 hS, pl64 hS, pa64 hS, pi64 hS, pr54_23 hR, rfs, rfn, cs0, csi, csl, csr, csn, kti, ktl, ktr, ktn, ktv, ktf, true_and, and_true, and_self, ↓reduceIte, Nat.reduceAdd, Nat.reduceSub, Nat.reduceMul, Nat.reduceLT, Nat.reduceLeDiff, Nat.reduceEqDiff, true_or, or_true, false_or, or_false, not_true_eq_false, not_false_eq_true, reduceCtorEq, cmp_lt, cmp_gt, cmp_eq, Int32.reduceAdd, Int32.reduceSub, Int32.reduceMul, Int32.reduceLT, Int32.reduceToNatClampNeg, eq_self, ne_eq, Int64.reduceAdd, Int64.reduceSub, Int64.reduceMul, Int64.reduceLT, a0, b0, a1, b1, pt, pt_s, pt_f, pt_m, e2, f2, e3, nI_1, gC']
          refine hq _ _ ?_ ?_ ?_
          · rw [e2] at c2
            have c3 := (c2.ic (k := 2) (m := 31) (y := J 54 31 + 1) (by decide) rfl (by first | rfl | (simp (disch := omega) only [pt_s, pt_f, pt_m]))).j (m := 39) (y := J 54 39 ||| 0) (by decide) (by rw [Int32.or_zero]; first | rfl | simp (disch := omega) only [pt_s, pt_f, pt_m])
            rw [e3, p64, nI_1] at c3
            exact c3
          · exact (by repeat (first | assumption | refine SlR.pj ?_ (by omega) | refine SlR.pc ?_ (by omega)))
          · exact (by repeat (first | exact Gr.rf | assumption | refine Gr.p4 ?_ (by decide) | refine Gr.pa ?_ (by decide)))
      by_cases g4 : C u 9 = -1
      · have g4' : (J 54 42 = -1) = True := eq_true (hs1.symm.trans g4)
        have es : stB C u (nI i) (nI j) = movF C u (nI i) (nI j) := by
          have z1 : slB C u = false := decide_eq_false (fun z => z.1 g4)
          have z2 : slF C u = C := if_pos g4
          unfold stB
          rw [z1, z2]
          rfl
        rw [es] at hq
        simp only [E191_41, E191_42, E191_45, E191_46, E191_47, E191_48, E191_51, E191_52, E191_55, E191_56, E191_57, E191_59, E191_62, E191_63, E191_66, E191_67, E191_68, E191_69, E191_70, E191_73, E191_74, E191_77, E191_78, E191_80, E191_82, E191_85, E191_86, E191_89, E191_90, pk54 hS, pk64 hS, pl64 hS, pa64 hS, pi64 hS, pr54_23 hR, rfs, rfn, cs0, csi, csl, csr, csn, kti, ktl, ktr, ktn, ktv, ktf, true_and, and_true, and_self, ↓reduceIte, Nat.reduceAdd, Nat.reduceSub, Nat.reduceMul, Nat.reduceLT, Nat.reduceLeDiff, Nat.reduceEqDiff, true_or, or_true, false_or, or_false, not_true_eq_false, not_false_eq_true, reduceCtorEq, cmp_lt, cmp_gt, cmp_eq, Int32.reduceAdd, Int32.reduceSub, Int32.reduceMul, Int32.reduceLT, Int32.reduceToNatClampNeg, eq_self, ne_eq, Int64.reduceAdd, Int64.reduceSub, Int64.reduceMul, Int64.reduceLT, a0, b0, a1, b1, e2, f2, g1', g2', g3', g4', n1_0]
        exact move C L h hs rfl hq _ _
      · have g4' : (J 54 42 = -1) = False := eq_false (fun z => g4 (hs1.trans z))
        obtain ⟨s, s1, s2, s3⟩ := hs2.resolve_left g4
        have dw := dr_c (u := u) s1 s2
        have z2 : slF C u = put C u 10 (nI (drN s)) := by
          unfold slF
          rw [if_neg g4, dw]
        have kC : SR u w (put C u 10 (nI (drN s))) J := h.g (fun k hk => pt_f (by omega)) (fun a h1 h2 => pt_n (by omega)) rfl (fun _ _ _ => rfl) (fun _ _ _ => rfl)
        simp only [E191_41, E191_42, E191_45, E191_46, E191_47, E191_48, E191_51, E191_52, E191_55, E191_56, E191_57, E191_59, E191_62, E191_63, E191_66, E191_67, E191_68, E191_69, E191_70, E191_73, E191_74, E191_77, E191_78, E191_80, E191_82, E191_85, E191_86, E191_89, E191_90, E191_93, E191_94, E191_96, pk54 hS, pk64 hS, pl64 hS, pa64 hS, pi64 hS, pr54_23 hR, rfs, rfn, cs0, csi, csl, csr, csn, kti, ktl, ktr, ktn, ktv, ktf, true_and, and_true, and_self, ↓reduceIte, Nat.reduceAdd, Nat.reduceSub, Nat.reduceMul, Nat.reduceLT, Nat.reduceLeDiff, Nat.reduceEqDiff, true_or, or_true, false_or, or_false, not_true_eq_false, not_false_eq_true, reduceCtorEq, cmp_lt, cmp_gt, cmp_eq, Int32.reduceAdd, Int32.reduceSub, Int32.reduceMul, Int32.reduceLT, Int32.reduceToNatClampNeg, eq_self, ne_eq, Int64.reduceAdd, Int64.reduceSub, Int64.reduceMul, Int64.reduceLT, a0, b0, a1, b1, e2, f2, g1', g2', g3', g4', n1_0]
        refine mdrE hS s1 s3 (fun L' eL => ?_)
        have sC : SlR u (put C u 10 (nI (drN s))) J L' := ⟨(pt_f (by decide)).trans hs1, Or.inr ⟨drN s, drN_lt, pt_s, eL⟩⟩
        by_cases g5 : nI (drN s % 100) < J 54 42
        · have g5' : (nI (drN s % 100) < J 54 42) = True := eq_true g5
          have es : stB C u (nI i) (nI j) = inc (put C u 10 (nI (drN s))) (u + 2) 3 := by
            have z1 : slB C u = true := decide_eq_true ⟨g4, by rw [dw, rem_100, hs1]; exact g5⟩
            unfold stB
            rw [z1, z2]
            rfl
          rw [es] at hq
          simp only [E191_99, E191_100, E191_103, E191_106, E191_107, E191_108, E191_111, E191_112, E191_113, E191_116, pk54 hS, pk64 hS, pl64 hS, pa64 hS, pi64 hS, pr54_23 hR, rfs, rfn, cs0, csi, csl, csr, csn, kti, ktl, ktr, ktn, ktv, ktf, true_and, and_true, and_self, ↓reduceIte, Nat.reduceAdd, Nat.reduceSub, Nat.reduceMul, Nat.reduceLT, Nat.reduceLeDiff, Nat.reduceEqDiff, true_or, or_true, false_or, or_false, not_true_eq_false, not_false_eq_true, reduceCtorEq, cmp_lt, cmp_gt, cmp_eq, Int32.reduceAdd, Int32.reduceSub, Int32.reduceMul, Int32.reduceLT, Int32.reduceToNatClampNeg, eq_self, ne_eq, Int64.reduceAdd, Int64.reduceSub, Int64.reduceMul, Int64.reduceLT, g5', pt]
          exact hq _ _ (kC.ic (k := 3) (m := 32) (by decide) rfl rfl) (by repeat (first | assumption | refine SlR.pj ?_ (by omega) | refine SlR.pc ?_ (by omega))) dudg
        · have g5' : (nI (drN s % 100) < J 54 42) = False := eq_false g5
          have es : stB C u (nI i) (nI j) = movF (put C u 10 (nI (drN s))) u (nI i) (nI j) := by
            have z1 : slB C u = false := decide_eq_false (fun z => g5 (by
              have := z.2
              rw [dw, rem_100, hs1] at this
              exact this))
            unfold stB
            rw [z1, z2]
            rfl
          rw [es] at hq
          simp only [E191_99, E191_100, E191_103, pk54 hS, pk64 hS, pl64 hS, pa64 hS, pi64 hS, pr54_23 hR, rfs, rfn, cs0, csi, csl, csr, csn, kti, ktl, ktr, ktn, ktv, ktf, true_and, and_true, and_self, ↓reduceIte, Nat.reduceAdd, Nat.reduceSub, Nat.reduceMul, Nat.reduceLT, Nat.reduceLeDiff, Nat.reduceEqDiff, true_or, or_true, false_or, or_false, not_true_eq_false, not_false_eq_true, reduceCtorEq, cmp_lt, cmp_gt, cmp_eq, Int32.reduceAdd, Int32.reduceSub, Int32.reduceMul, Int32.reduceLT, Int32.reduceToNatClampNeg, eq_self, ne_eq, Int64.reduceAdd, Int64.reduceSub, Int64.reduceMul, Int64.reduceLT, g5']
          exact move _ L' kC sC (pt_n (by omega)) hq _ _
    · have g3' : ((J 54 36 >>> (m &&& 31)) &&& 1 = 0) = False := eq_false g3
      have es : stA C u (nI i) (nI j) = inc C (u + 2) 3 := by
        unfold stA
        rw [b0, b1, e1, if_neg (of_eq_false g1'), f1, if_pos g2c, ep, if_neg g3]
      rw [es] at hq
      simp only [E191_41, E191_42, E191_45, E191_46, E191_47, E191_48, E191_51, E191_52, E191_55, E191_56, E191_57, E191_59, E191_62, E191_63, E191_66, E191_67, E191_68, E191_69, E191_70, E191_73, E191_74, E191_77, E191_78, E191_80, E191_82, E191_106, E191_107, E191_108, E191_111, E191_112, E191_113, E191_116, pk54 hS, pk64 hS, pl64 hS, pa64 hS, pi64 hS, pr54_23 hR, rfs, rfn, cs0, csi, csl, csr, csn, kti, ktl, ktr, ktn, ktv, ktf, true_and, and_true, and_self, ↓reduceIte, Nat.reduceAdd, Nat.reduceSub, Nat.reduceMul, Nat.reduceLT, Nat.reduceLeDiff, Nat.reduceEqDiff, true_or, or_true, false_or, or_false, not_true_eq_false, not_false_eq_true, reduceCtorEq, cmp_lt, cmp_gt, cmp_eq, Int32.reduceAdd, Int32.reduceSub, Int32.reduceMul, Int32.reduceLT, Int32.reduceToNatClampNeg, eq_self, ne_eq, Int64.reduceAdd, Int64.reduceSub, Int64.reduceMul, Int64.reduceLT, a0, b0, a1, b1, e2, f2, g1', g2', g3', pt]
      exact hq _ _ dud duds dudg
  by_cases gl : nI i < nI j
  · have g' : (nI i < nI j) = True := eq_true gl
    have em' : nI i = m := by
      rw [← em]
      refine (if_neg (fun z => ?_)).symm
      rw [Int32.lt_iff_toInt_lt] at gl z
      omega
    subst em'
    simp only [E191_30, E191_31, E191_32, E191_35, E191_36, E191_39, E191_40, rfs, rfn, cs0, csi, csl, csr, csn, kti, ktl, ktr, ktn, ktv, ktf, true_and, and_true, and_self, ↓reduceIte, Nat.reduceAdd, Nat.reduceSub, Nat.reduceMul, Nat.reduceLT, Nat.reduceLeDiff, Nat.reduceEqDiff, true_or, or_true, false_or, or_false, not_true_eq_false, not_false_eq_true, reduceCtorEq, cmp_lt, cmp_gt, cmp_eq, Int32.reduceAdd, Int32.reduceSub, Int32.reduceMul, Int32.reduceLT, Int32.reduceToNatClampNeg, eq_self, ne_eq, Int64.reduceAdd, Int64.reduceSub, Int64.reduceMul, Int64.reduceLT, g']
    exact go _
  · have g' : (nI i < nI j) = False := eq_false gl
    have em' : nI j = m := by
      rw [← em]
      refine (if_pos ?_).symm
      have n1 := nI_toInt (n := i) (by omega)
      have n2 := nI_toInt (n := j) (by omega)
      rw [Int32.lt_iff_toInt_lt] at gl ⊢
      omega
    subst em'
    simp only [E191_30, E191_31, E191_32, E191_35, E191_36, E191_39, E191_40, rfs, rfn, cs0, csi, csl, csr, csn, kti, ktl, ktr, ktn, ktv, ktf, true_and, and_true, and_self, ↓reduceIte, Nat.reduceAdd, Nat.reduceSub, Nat.reduceMul, Nat.reduceLT, Nat.reduceLeDiff, Nat.reduceEqDiff, true_or, or_true, false_or, or_false, not_true_eq_false, not_false_eq_true, reduceCtorEq, cmp_lt, cmp_gt, cmp_eq, Int32.reduceAdd, Int32.reduceSub, Int32.reduceMul, Int32.reduceLT, Int32.reduceToNatClampNeg, eq_self, ne_eq, Int64.reduceAdd, Int64.reduceSub, Int64.reduceMul, Int64.reduceLT, g']
    exact go _
theorem strR (hS : Pm S) (hR : Pr R) (h : SR u w C J) (hs : SlR u C J L) (hi : i < w) (hj : j < w) (hn : mab (nI i - nI j) = 1) (hq : ∀ J' L', SR u w (strF C u (nI i) (nI j)) J' → SlR u (strF C u (nI i) (nI j)) J' L' → Gr J J' → Q .null S J' L' R) : EvM (d + 2) 191 [.ref 54, .int (nI i), .int (nI j)] S J L R Q := by
  have w5 := h.w5
  have hne := mab1 i (by omega) j (by omega) hn
  have es : strF C u (nI i) (nI j) = (if usb C u (htB C u (nI i) || htB C u (nI j)) = true then stA (useF C u (nI i) (htB C u (nI i) || htB C u (nI j))) u (nI i) (nI j) else useF C u (nI i) (htB C u (nI i) || htB C u (nI j))) := by
    unfold strF
    rw [if_pos (h.th hi), if_pos (h.th hj), if_pos hn]
  rw [es] at hq
  have tail : ∀ (t : Bool) (y3 y4 : Value), t = (htB C u (nI i) || htB C u (nI j)) → Ev (d + 2) 191 22 [.ref 54, .int (nI i), .int (nI j), y3, y4] [.int (bI t), .ref 54] S J L R Q := by
    intro t y3 y4 et
    rw [← et] at hq
    simp only [E191_22, E191_23, pk54 hS, rfs, rfn, cs0, csi, csl, csr, csn, kti, ktl, ktr, ktn, ktv, ktf, true_and, and_true, and_self, ↓reduceIte, Nat.reduceAdd, Nat.reduceSub, Nat.reduceMul, Nat.reduceLT, Nat.reduceLeDiff, Nat.reduceEqDiff, true_or, or_true, false_or, or_false, not_true_eq_false, not_false_eq_true, reduceCtorEq, cmp_lt, cmp_gt, cmp_eq, Int32.reduceAdd, Int32.reduceSub, Int32.reduceMul, Int32.reduceLT, Int32.reduceToNatClampNeg, eq_self, ne_eq, Int64.reduceAdd, Int64.reduceSub, Int64.reduceMul, Int64.reduceLT]
    refine useR hS h hs (fun J1 k1 s1 g1 => ?_)
    cases e : usb C u t
    · rw [e, if_neg (by decide)] at hq
      simp only [E191_26, E191_29, rfs, rfn, cs0, csi, csl, csr, csn, kti, ktl, ktr, ktn, ktv, ktf, true_and, and_true, and_self, ↓reduceIte, Nat.reduceAdd, Nat.reduceSub, Nat.reduceMul, Nat.reduceLT, Nat.reduceLeDiff, Nat.reduceEqDiff, true_or, or_true, false_or, or_false, not_true_eq_false, not_false_eq_true, reduceCtorEq, cmp_lt, cmp_gt, cmp_eq, Int32.reduceAdd, Int32.reduceSub, Int32.reduceMul, Int32.reduceLT, Int32.reduceToNatClampNeg, eq_self, ne_eq, Int64.reduceAdd, Int64.reduceSub, Int64.reduceMul, Int64.reduceLT, bI_f]
      exact hq J1 L k1 s1 g1
    · rw [e, if_pos rfl] at hq
      simp only [E191_26, rfs, rfn, cs0, csi, csl, csr, csn, kti, ktl, ktr, ktn, ktv, ktf, true_and, and_true, and_self, ↓reduceIte, Nat.reduceAdd, Nat.reduceSub, Nat.reduceMul, Nat.reduceLT, Nat.reduceLeDiff, Nat.reduceEqDiff, true_or, or_true, false_or, or_false, not_true_eq_false, not_false_eq_true, reduceCtorEq, cmp_lt, cmp_gt, cmp_eq, Int32.reduceAdd, Int32.reduceSub, Int32.reduceMul, Int32.reduceLT, Int32.reduceToNatClampNeg, eq_self, ne_eq, Int64.reduceAdd, Int64.reduceSub, Int64.reduceMul, Int64.reduceLT, bI_t, n1_0]
      exact stR2 hS hR k1 s1 hi hj hne (fun J' L' a b c => hq J' L' a b (g1.tr c))
  cases b1 : htB C u (nI i)
  · cases b2 : htB C u (nI j)
    · have k := tail false nv nv (by simp [b1, b2])
      rw [bI_f] at k
      simp only [M191, E191_0, E191_1, E191_2, E191_3, E191_6, E191_9, E191_10, E191_11, E191_14, E191_17, E191_18, E191_21, isR hS h hi, isR hS h hj, pk54 hS, rfs, rfn, cs0, csi, csl, csr, csn, kti, ktl, ktr, ktn, ktv, ktf, true_and, and_true, and_self, ↓reduceIte, Nat.reduceAdd, Nat.reduceSub, Nat.reduceMul, Nat.reduceLT, Nat.reduceLeDiff, Nat.reduceEqDiff, true_or, or_true, false_or, or_false, not_true_eq_false, not_false_eq_true, reduceCtorEq, cmp_lt, cmp_gt, cmp_eq, Int32.reduceAdd, Int32.reduceSub, Int32.reduceMul, Int32.reduceLT, Int32.reduceToNatClampNeg, eq_self, ne_eq, Int64.reduceAdd, Int64.reduceSub, Int64.reduceMul, Int64.reduceLT, b1, b2, bI_f]
      exact k
    · have k := tail true nv nv (by simp [b1, b2])
      rw [bI_t] at k
      simp only [M191, E191_0, E191_1, E191_2, E191_3, E191_6, E191_9, E191_10, E191_11, E191_14, E191_17, E191_18, E191_21, isR hS h hi, isR hS h hj, pk54 hS, rfs, rfn, cs0, csi, csl, csr, csn, kti, ktl, ktr, ktn, ktv, ktf, true_and, and_true, and_self, ↓reduceIte, Nat.reduceAdd, Nat.reduceSub, Nat.reduceMul, Nat.reduceLT, Nat.reduceLeDiff, Nat.reduceEqDiff, true_or, or_true, false_or, or_false, not_true_eq_false, not_false_eq_true, reduceCtorEq, cmp_lt, cmp_gt, cmp_eq, Int32.reduceAdd, Int32.reduceSub, Int32.reduceMul, Int32.reduceLT, Int32.reduceToNatClampNeg, eq_self, ne_eq, Int64.reduceAdd, Int64.reduceSub, Int64.reduceMul, Int64.reduceLT, b1, b2, bI_f, bI_t, n1_0]
      exact k
  · have k := tail true nv nv (by simp [b1])
    rw [bI_t] at k
    simp only [M191, E191_0, E191_1, E191_2, E191_3, E191_6, E191_9, E191_10, E191_11, E191_14, E191_17, E191_18, E191_21, isR hS h hi, pk54 hS, rfs, rfn, cs0, csi, csl, csr, csn, kti, ktl, ktr, ktn, ktv, ktf, true_and, and_true, and_self, ↓reduceIte, Nat.reduceAdd, Nat.reduceSub, Nat.reduceMul, Nat.reduceLT, Nat.reduceLeDiff, Nat.reduceEqDiff, true_or, or_true, false_or, or_false, not_true_eq_false, not_false_eq_true, reduceCtorEq, cmp_lt, cmp_gt, cmp_eq, Int32.reduceAdd, Int32.reduceSub, Int32.reduceMul, Int32.reduceLT, Int32.reduceToNatClampNeg, eq_self, ne_eq, Int64.reduceAdd, Int64.reduceSub, Int64.reduceMul, Int64.reduceLT, b1, bI_t, n1_0]
    exact k
end SRW
