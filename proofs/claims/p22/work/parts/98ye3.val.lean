/-! group C: what a code comes to, on both sides -/
def Stk (F : Nat → Int32) : List Int32 → Prop
  | [] => True
  | v :: s => F s.length = v ∧ Stk F s
theorem Stk.cg {F G : Nat → Int32} : ∀ {st : List Int32}, (∀ k, k < st.length → G k = F k) → Stk F st → Stk G st
  | [], _, _ => trivial
  | v :: s, e, h => ⟨(e s.length (Nat.lt_succ_self _)).trans h.1, Stk.cg (fun k hk => e k (Nat.lt_succ_of_lt hk)) h.2⟩
def StkR (u : Nat) (C : mI) (st : List Int32) : Prop := C u 8 = nI st.length ∧ Stk (C (u + 5)) st
/-- the class's stack alone has changed -/
def Sk (u : Nat) (C D : mI) : Prop := (∀ a, ¬ a = u → ¬ a = u + 5 → D a = C a) ∧ ∀ k, ¬ k = 8 → D u k = C u k
section VAL
variable {u k m w : Nat} {C D E : mI} {v x y : Int32} {st s : List Int32} {pv : rPv} {cv : rCv}
theorem Sk.rf : Sk u C C := ⟨fun _ _ _ => rfl, fun _ _ => rfl⟩
theorem Sk.tr (h : Sk u C D) (g : Sk u D E) : Sk u C E := ⟨fun a h1 h2 => (g.1 a h1 h2).trans (h.1 a h1 h2), fun k hk => (g.2 k hk).trans (h.2 k hk)⟩
theorem Sk.p8 (h : Sk u C D) : Sk u C (put D u 8 x) := ⟨fun a h1 h2 => (pt_n h1).trans (h.1 a h1 h2), fun k hk => (pt_f hk).trans (h.2 k hk)⟩
theorem Sk.p5 (h : Sk u C D) : Sk u C (put D (u + 5) k x) := ⟨fun a h1 h2 => (pt_n h2).trans (h.1 a h1 h2), fun k hk => (pt_m (by omega)).trans (h.2 k hk)⟩
theorem Sk.pvE (h : Sk u C D) : pvF D u = pvF C u := by
  funext w
  unfold pvF
  rw [h.1 (u + 2) (by omega) (by omega), h.2 6 (by decide), h.2 0 (by decide)]
theorem Sk.tB (h : Sk u C D) : thr D u x = thr C u x := by
  unfold thr
  rw [h.2 0 (by decide)]
theorem Sk.hB (h : Sk u C D) : htB D u x = htB C u x := by
  unfold htB
  rw [h.tB, h.2 5 (by decide)]
theorem Sk.cvE (h : Sk u C D) : cvF D u = cvF C u := by
  funext w c
  unfold cvF
  rw [h.tB, h.hB, h.1 (u + 1) (by omega) (by omega)]
theorem puF_R (h : StkR u C st) (hl : st.length < 64) : StkR u (puF C u v) (v :: st) ∧ Sk u C (puF C u v) := by
  have e : puF C u v = put (put C (u + 5) st.length v) u 8 (nI (st.length + 1)) := by
    unfold puF
    rw [h.1, if_pos (show nI st.length < (64 : Int32) from nI_lt (a := st.length) (b := 64) hl (by decide)), nI_clamp (by omega), nI_1]
  rw [e]
  exact ⟨⟨pt_s, (pt_m (by omega)).trans pt_s, h.2.cg (fun k hk => (pt_m (by omega)).trans (pt_f (by omega)))⟩, Sk.rf.p5.p8⟩
theorem poV_R (h : StkR u C (v :: st)) (hl : st.length < 64) : poV C u = v := by
  have e8 : C u 8 = nI (st.length + 1) := h.1
  unfold poV
  rw [e8, if_neg (show ¬ nI (st.length + 1) < (1 : Int32) from nI_nlt (a := st.length + 1) (b := 1) (by omega) (by omega)), nI_m1, nI_clamp (by omega)]
  exact h.2.1
theorem poF_R (h : StkR u C (v :: st)) (hl : st.length < 64) : StkR u (poF C u) st ∧ Sk u C (poF C u) := by
  have e8 : C u 8 = nI (st.length + 1) := h.1
  have e : poF C u = put C u 8 (nI st.length) := by
    unfold poF
    rw [e8, if_neg (show ¬ nI (st.length + 1) < (1 : Int32) from nI_nlt (a := st.length + 1) (b := 1) (by omega) (by omega)), nI_m1]
  rw [e]
  exact ⟨⟨pt_s, h.2.2.cg (fun k hk => pt_m (by omega))⟩, Sk.rf.p8⟩
theorem stF_R (h : StkR u C st) (hl : st.length + (if y < -4 then 0 else 1) ≤ 64) (hp : y < -4 → 1 ≤ st.length ∧ (y < -7 → 2 ≤ st.length)) : StkR u (stF C u y) (stv (pvF C u) (cvF C u) y st) ∧ Sk u C (stF C u y) := by
  unfold stF
  by_cases h4 : y < -4
  · rw [if_pos h4] at hl ⊢
    obtain ⟨l1, l2⟩ := hp h4
    by_cases h7 : y < -7
    · rw [if_pos h7]
      match st, h, hl, l2 h7 with
      | b :: a :: s, h, hl, _ =>
        have hl' : s.length + 1 + 1 ≤ 64 := hl
        have q1 : poV C u = b := poV_R h (by show s.length + 1 < 64; omega)
        obtain ⟨p1, k1⟩ := poF_R h (by show s.length + 1 < 64; omega)
        have q2 : poV (poF C u) u = a := poV_R p1 (by omega)
        obtain ⟨p2, k2⟩ := poF_R p1 (by omega)
        obtain ⟨p3, k3⟩ := puF_R (v := jnF y a b) p2 (by omega)
        rw [q1, q2, stv_b h7]
        exact ⟨p3, (k1.tr k2).tr k3⟩
      | [_], _, _, z => exact absurd z (by show ¬ 2 ≤ 1; omega)
      | [], _, _, z => exact absurd z (by show ¬ 2 ≤ 0; omega)
    · rw [if_neg h7]
      match st, h, hl, l1 with
      | a :: s, h, hl, _ =>
        have hl' : s.length + 1 ≤ 64 := hl
        have q1 : poV C u = a := poV_R h (by omega)
        obtain ⟨p1, k1⟩ := poF_R h (by omega)
        obtain ⟨p3, k3⟩ := puF_R (v := if y = -7 then 1 - a else cvF C u y a) p1 (by omega)
        rw [q1, k1.cvE, stv_u h4 h7]
        exact ⟨p3, k1.tr k3⟩
      | [], _, _, z => exact absurd z (by show ¬ 1 ≤ 0; omega)
  · rw [if_neg h4] at hl ⊢
    rw [stv_p h4]
    exact puF_R h (by omega)
theorem stv_le : (stv pv cv y st).length ≤ st.length + (if y < -4 then 0 else 1) := by
  unfold stv
  by_cases h4 : y < -4
  · rw [if_pos h4, if_pos h4]
    by_cases h7 : y < -7
    · rw [if_pos h7]
      match st with
      | b :: a :: s => show s.length + 1 ≤ s.length + 1 + 1 + 0; omega
      | [_] => exact Nat.le_refl _
      | [] => exact Nat.le_refl _
    · rw [if_neg h7]
      match st with
      | a :: s => exact Nat.le_refl _
      | [] => exact Nat.le_refl _
  · rw [if_neg h4, if_neg h4]
    exact Nat.le_refl _
theorem rk_R (h1 : ¬ k = u) (h5 : ¬ k = u + 5) (hm : m ≤ 416) : ∀ (N x : Nat) (C : mI) (st : List Int32), StkR u C st → st.length + pshL (sgc (C k) x N) ≤ 64 → evP (pvF C u) (cvF C u) (sgc (C k) x N) st → x + N ≤ 416 → (∀ x, m ≤ x → x < 416 → C k x = 0) → StkR u (rkF u k m N (nI x) C) (evX (pvF C u) (cvF C u) (sgc (C k) x N) st) ∧ Sk u C (rkF u k m N (nI x) C) := by
  intro N
  induction N with
  | zero => exact fun x C st h _ _ _ _ => ⟨h, Sk.rf⟩
  | succ N ih =>
    intro x C st h hl he hx hz
    have ew : wcF C k m (nI x) = C k x := by
      unfold wcF
      rw [if_neg (nI_pos (by omega)), nI_clamp (by omega)]
      by_cases g : x < m
      · rw [if_pos (nI_lt g (by omega))]
      · rw [if_neg (nI_nlt (by omega) (by omega)), hz x (by omega) (by omega)]
    have hl' : st.length + ((if C k x < -4 then 0 else 1) + pshL (sgc (C k) (x + 1) N)) ≤ 64 := hl
    have he' : (C k x < -4 → 1 ≤ st.length ∧ (C k x < -7 → 2 ≤ st.length)) ∧ evP (pvF C u) (cvF C u) (sgc (C k) (x + 1) N) (stv (pvF C u) (cvF C u) (C k x) st) := he
    obtain ⟨p, sk⟩ := stF_R h (y := C k x) (by omega) he'.1
    have ek : stF C u (C k x) k = C k := sk.1 k h1 h5
    have ih' := ih (x + 1) (stF C u (C k x)) (stv (pvF C u) (cvF C u) (C k x) st) p (by
      rw [ek]
      have := stv_le (pv := pvF C u) (cv := cvF C u) (y := C k x) (st := st)
      omega) (by rw [ek, sk.pvE, sk.cvE]; exact he'.2) (by omega) (by rw [ek]; exact hz)
    rw [ek, sk.pvE, sk.cvE] at ih'
    show StkR u (rkF u k m N (nI x + 1) (stF C u (wcF C k m (nI x)))) (evX (pvF C u) (cvF C u) (sgc (C k) (x + 1) N) (stv (pvF C u) (cvF C u) (C k x) st)) ∧ Sk u C (rkF u k m N (nI x + 1) (stF C u (wcF C k m (nI x))))
    rw [ew, nI_1]
    exact ⟨ih'.1, sk.tr ih'.2⟩
/-- the class's stack behind a STEP's code -/
theorem re_R {k2 k3 s x y : Nat} (e1 : C k2 s = nI x) (e2 : C k2 (s + 1) = nI y) (hxy : x ≤ y) (hy : y ≤ 400) (hm : m ≤ 416) (hz : ∀ x, m ≤ x → x < 416 → C k3 x = 0) (h1 : ¬ k3 = u) (h5 : ¬ k3 = u + 5) (hl : pshL (sgc (C k3) x (y - x)) ≤ 64) (he : evP (pvF C u) (cvF C u) (sgc (C k3) x (y - x)) []) : StkR u (reF C u k2 k3 m s) (evX (pvF C u) (cvF C u) (sgc (C k3) x (y - x)) []) ∧ Sk u C (reF C u k2 k3 m s) := by
  have e : reF C u k2 k3 m s = rkF u k3 m (y - x) (nI x) (put C u 8 0) := by
    unfold reF
    rw [e1, e2, nI_toInt (by omega), nI_toInt (by omega), show ((y : Int) - (x : Int)).toNat = y - x by omega]
  have sk : Sk u C (put C u 8 0) := Sk.rf.p8
  have ek : put C u 8 0 k3 = C k3 := pt_n h1
  have r := rk_R (k := k3) (m := m) h1 h5 hm (y - x) x (put C u 8 0) [] ⟨pt_s, trivial⟩ (by rw [ek]; show 0 + _ ≤ 64; omega) (by rw [ek, sk.pvE, sk.cvE]; exact he) (by omega) (by rw [ek]; exact hz)
  rw [ek, sk.pvE, sk.cvE] at r
  rw [e]
  exact ⟨r.1, sk.tr r.2⟩
end VAL
section VAM
variable {d u w : Nat} {S : mS} {C J : mI} {L : mL} {R : mR} {Q : mQ} {y : Int32 × Int32}
def Bin (o : Int32) : Prop := o = 20 ∨ o = 21 ∨ o = 24 ∨ o = 25 ∨ o = 26 ∨ o = 28 ∨ o = 29
theorem Bin.f {o : Int32} (h : Bin o) : 4 < o ∧ ¬ o = 27 ∧ o < 32 := by
  rcases h with rfl | rfl | rfl | rfl | rfl | rfl | rfl <;> decide
theorem Bin.wv (h : Bin y.1) : cM y < -7 := by
  unfold cM
  rcases h with e | e | e | e | e | e | e <;> (rw [e, if_neg (by decide)]; decide)
theorem mjE {a b : Int32} (h : Bin y.1) : EvM (d + 1) 184 [.int y.1, .int a, .int b] S J L R Q = Q (.int (jnF (cM y) a b)) S J L R := by
  obtain ⟨o, x⟩ := y
  have h' : Bin o := h
  show EvM (d + 1) 184 [.int o, .int a, .int b] S J L R Q = _
  rcases h' with rfl | rfl | rfl | rfl | rfl | rfl | rfl
  · have e : jnF (cM (20, x)) a b = a + b := rfl
    rw [e]
    simp only [M184, E184_0, E184_1, rfs, rfn, cs0, csi, csl, csr, csn, kti, ktl, ktr, ktn, ktv, ktf, true_and, and_true, and_self, ↓reduceIte, Nat.reduceAdd, Nat.reduceSub, Nat.reduceMul, Nat.reduceLT, Nat.reduceLeDiff, Nat.reduceEqDiff, true_or, or_true, false_or, or_false, not_true_eq_false, not_false_eq_true, reduceCtorEq, cmp_lt, cmp_gt, cmp_eq, Int32.reduceAdd, Int32.reduceSub, Int32.reduceMul, Int32.reduceLT, Int32.reduceToNatClampNeg, eq_self, ne_eq, Int64.reduceAdd, Int64.reduceSub, Int64.reduceMul, Int64.reduceLT]
    rw [show (if (20 : Int32).toInt < 20 ∨ 20 + (([52, 56, 97, 97, 60, 71, 82, 97, 93] : List Int).length : Int) ≤ (20 : Int32).toInt then 97 else (([52, 56, 97, 97, 60, 71, 82, 97, 93] : List Int).getD ((20 : Int32).toInt - 20).toNat 0).toNat) = 52 by decide]
    simp only [E184_0, E184_1, E184_52, E184_53, E184_54, E184_55, E184_56, E184_57, E184_58, E184_59, E184_60, E184_61, E184_62, E184_65, E184_66, E184_69, E184_70, E184_71, E184_72, E184_73, E184_76, E184_77, E184_80, E184_81, E184_82, E184_83, E184_84, E184_87, E184_88, E184_91, E184_92, E184_93, E184_94, E184_95, E184_96, E184_97, E184_98, E184_99, E184_100, rfs, rfn, cs0, csi, csl, csr, csn, kti, ktl, ktr, ktn, ktv, ktf, true_and, and_true, and_self, ↓reduceIte, Nat.reduceAdd, Nat.reduceSub, Nat.reduceMul, Nat.reduceLT, Nat.reduceLeDiff, Nat.reduceEqDiff, true_or, or_true, false_or, or_false, not_true_eq_false, not_false_eq_true, reduceCtorEq, cmp_lt, cmp_gt, cmp_eq, Int32.reduceAdd, Int32.reduceSub, Int32.reduceMul, Int32.reduceLT, Int32.reduceToNatClampNeg, eq_self, ne_eq, Int64.reduceAdd, Int64.reduceSub, Int64.reduceMul, Int64.reduceLT]
  · have e : jnF (cM (21, x)) a b = a - b := rfl
    rw [e]
    simp only [M184, E184_0, E184_1, rfs, rfn, cs0, csi, csl, csr, csn, kti, ktl, ktr, ktn, ktv, ktf, true_and, and_true, and_self, ↓reduceIte, Nat.reduceAdd, Nat.reduceSub, Nat.reduceMul, Nat.reduceLT, Nat.reduceLeDiff, Nat.reduceEqDiff, true_or, or_true, false_or, or_false, not_true_eq_false, not_false_eq_true, reduceCtorEq, cmp_lt, cmp_gt, cmp_eq, Int32.reduceAdd, Int32.reduceSub, Int32.reduceMul, Int32.reduceLT, Int32.reduceToNatClampNeg, eq_self, ne_eq, Int64.reduceAdd, Int64.reduceSub, Int64.reduceMul, Int64.reduceLT]
    rw [show (if (21 : Int32).toInt < 20 ∨ 20 + (([52, 56, 97, 97, 60, 71, 82, 97, 93] : List Int).length : Int) ≤ (21 : Int32).toInt then 97 else (([52, 56, 97, 97, 60, 71, 82, 97, 93] : List Int).getD ((21 : Int32).toInt - 20).toNat 0).toNat) = 56 by decide]
    simp only [E184_0, E184_1, E184_52, E184_53, E184_54, E184_55, E184_56, E184_57, E184_58, E184_59, E184_60, E184_61, E184_62, E184_65, E184_66, E184_69, E184_70, E184_71, E184_72, E184_73, E184_76, E184_77, E184_80, E184_81, E184_82, E184_83, E184_84, E184_87, E184_88, E184_91, E184_92, E184_93, E184_94, E184_95, E184_96, E184_97, E184_98, E184_99, E184_100, rfs, rfn, cs0, csi, csl, csr, csn, kti, ktl, ktr, ktn, ktv, ktf, true_and, and_true, and_self, ↓reduceIte, Nat.reduceAdd, Nat.reduceSub, Nat.reduceMul, Nat.reduceLT, Nat.reduceLeDiff, Nat.reduceEqDiff, true_or, or_true, false_or, or_false, not_true_eq_false, not_false_eq_true, reduceCtorEq, cmp_lt, cmp_gt, cmp_eq, Int32.reduceAdd, Int32.reduceSub, Int32.reduceMul, Int32.reduceLT, Int32.reduceToNatClampNeg, eq_self, ne_eq, Int64.reduceAdd, Int64.reduceSub, Int64.reduceMul, Int64.reduceLT]
  · have e : jnF (cM (24, x)) a b = bI (decide (a < b)) := rfl
    rw [e]
    simp only [M184, E184_0, E184_1, rfs, rfn, cs0, csi, csl, csr, csn, kti, ktl, ktr, ktn, ktv, ktf, true_and, and_true, and_self, ↓reduceIte, Nat.reduceAdd, Nat.reduceSub, Nat.reduceMul, Nat.reduceLT, Nat.reduceLeDiff, Nat.reduceEqDiff, true_or, or_true, false_or, or_false, not_true_eq_false, not_false_eq_true, reduceCtorEq, cmp_lt, cmp_gt, cmp_eq, Int32.reduceAdd, Int32.reduceSub, Int32.reduceMul, Int32.reduceLT, Int32.reduceToNatClampNeg, eq_self, ne_eq, Int64.reduceAdd, Int64.reduceSub, Int64.reduceMul, Int64.reduceLT]
    rw [show (if (24 : Int32).toInt < 20 ∨ 20 + (([52, 56, 97, 97, 60, 71, 82, 97, 93] : List Int).length : Int) ≤ (24 : Int32).toInt then 97 else (([52, 56, 97, 97, 60, 71, 82, 97, 93] : List Int).getD ((24 : Int32).toInt - 20).toNat 0).toNat) = 60 by decide]
    by_cases g : a < b <;> simp only [E184_0, E184_1, E184_52, E184_53, E184_54, E184_55, E184_56, E184_57, E184_58, E184_59, E184_60, E184_61, E184_62, E184_65, E184_66, E184_69, E184_70, E184_71, E184_72, E184_73, E184_76, E184_77, E184_80, E184_81, E184_82, E184_83, E184_84, E184_87, E184_88, E184_91, E184_92, E184_93, E184_94, E184_95, E184_96, E184_97, E184_98, E184_99, E184_100, rfs, rfn, cs0, csi, csl, csr, csn, kti, ktl, ktr, ktn, ktv, ktf, true_and, and_true, and_self, ↓reduceIte, Nat.reduceAdd, Nat.reduceSub, Nat.reduceMul, Nat.reduceLT, Nat.reduceLeDiff, Nat.reduceEqDiff, true_or, or_true, false_or, or_false, not_true_eq_false, not_false_eq_true, reduceCtorEq, cmp_lt, cmp_gt, cmp_eq, Int32.reduceAdd, Int32.reduceSub, Int32.reduceMul, Int32.reduceLT, Int32.reduceToNatClampNeg, eq_self, ne_eq, Int64.reduceAdd, Int64.reduceSub, Int64.reduceMul, Int64.reduceLT, g, decide_true, decide_false, bI_t, bI_f]
  · have e : jnF (cM (25, x)) a b = bI (decide (b < a)) := rfl
    rw [e]
    simp only [M184, E184_0, E184_1, rfs, rfn, cs0, csi, csl, csr, csn, kti, ktl, ktr, ktn, ktv, ktf, true_and, and_true, and_self, ↓reduceIte, Nat.reduceAdd, Nat.reduceSub, Nat.reduceMul, Nat.reduceLT, Nat.reduceLeDiff, Nat.reduceEqDiff, true_or, or_true, false_or, or_false, not_true_eq_false, not_false_eq_true, reduceCtorEq, cmp_lt, cmp_gt, cmp_eq, Int32.reduceAdd, Int32.reduceSub, Int32.reduceMul, Int32.reduceLT, Int32.reduceToNatClampNeg, eq_self, ne_eq, Int64.reduceAdd, Int64.reduceSub, Int64.reduceMul, Int64.reduceLT]
    rw [show (if (25 : Int32).toInt < 20 ∨ 20 + (([52, 56, 97, 97, 60, 71, 82, 97, 93] : List Int).length : Int) ≤ (25 : Int32).toInt then 97 else (([52, 56, 97, 97, 60, 71, 82, 97, 93] : List Int).getD ((25 : Int32).toInt - 20).toNat 0).toNat) = 71 by decide]
    by_cases g : b < a <;> simp only [E184_0, E184_1, E184_52, E184_53, E184_54, E184_55, E184_56, E184_57, E184_58, E184_59, E184_60, E184_61, E184_62, E184_65, E184_66, E184_69, E184_70, E184_71, E184_72, E184_73, E184_76, E184_77, E184_80, E184_81, E184_82, E184_83, E184_84, E184_87, E184_88, E184_91, E184_92, E184_93, E184_94, E184_95, E184_96, E184_97, E184_98, E184_99, E184_100, rfs, rfn, cs0, csi, csl, csr, csn, kti, ktl, ktr, ktn, ktv, ktf, true_and, and_true, and_self, ↓reduceIte, Nat.reduceAdd, Nat.reduceSub, Nat.reduceMul, Nat.reduceLT, Nat.reduceLeDiff, Nat.reduceEqDiff, true_or, or_true, false_or, or_false, not_true_eq_false, not_false_eq_true, reduceCtorEq, cmp_lt, cmp_gt, cmp_eq, Int32.reduceAdd, Int32.reduceSub, Int32.reduceMul, Int32.reduceLT, Int32.reduceToNatClampNeg, eq_self, ne_eq, Int64.reduceAdd, Int64.reduceSub, Int64.reduceMul, Int64.reduceLT, g, decide_true, decide_false, bI_t, bI_f]
  · have e : jnF (cM (26, x)) a b = bI (decide (a = b)) := rfl
    rw [e]
    simp only [M184, E184_0, E184_1, rfs, rfn, cs0, csi, csl, csr, csn, kti, ktl, ktr, ktn, ktv, ktf, true_and, and_true, and_self, ↓reduceIte, Nat.reduceAdd, Nat.reduceSub, Nat.reduceMul, Nat.reduceLT, Nat.reduceLeDiff, Nat.reduceEqDiff, true_or, or_true, false_or, or_false, not_true_eq_false, not_false_eq_true, reduceCtorEq, cmp_lt, cmp_gt, cmp_eq, Int32.reduceAdd, Int32.reduceSub, Int32.reduceMul, Int32.reduceLT, Int32.reduceToNatClampNeg, eq_self, ne_eq, Int64.reduceAdd, Int64.reduceSub, Int64.reduceMul, Int64.reduceLT]
    rw [show (if (26 : Int32).toInt < 20 ∨ 20 + (([52, 56, 97, 97, 60, 71, 82, 97, 93] : List Int).length : Int) ≤ (26 : Int32).toInt then 97 else (([52, 56, 97, 97, 60, 71, 82, 97, 93] : List Int).getD ((26 : Int32).toInt - 20).toNat 0).toNat) = 82 by decide]
    by_cases g : a = b <;> simp only [E184_0, E184_1, E184_52, E184_53, E184_54, E184_55, E184_56, E184_57, E184_58, E184_59, E184_60, E184_61, E184_62, E184_65, E184_66, E184_69, E184_70, E184_71, E184_72, E184_73, E184_76, E184_77, E184_80, E184_81, E184_82, E184_83, E184_84, E184_87, E184_88, E184_91, E184_92, E184_93, E184_94, E184_95, E184_96, E184_97, E184_98, E184_99, E184_100, rfs, rfn, cs0, csi, csl, csr, csn, kti, ktl, ktr, ktn, ktv, ktf, true_and, and_true, and_self, ↓reduceIte, Nat.reduceAdd, Nat.reduceSub, Nat.reduceMul, Nat.reduceLT, Nat.reduceLeDiff, Nat.reduceEqDiff, true_or, or_true, false_or, or_false, not_true_eq_false, not_false_eq_true, reduceCtorEq, cmp_lt, cmp_gt, cmp_eq, Int32.reduceAdd, Int32.reduceSub, Int32.reduceMul, Int32.reduceLT, Int32.reduceToNatClampNeg, eq_self, ne_eq, Int64.reduceAdd, Int64.reduceSub, Int64.reduceMul, Int64.reduceLT, g, decide_true, decide_false, bI_t, bI_f]
  · have e : jnF (cM (28, x)) a b = a &&& b := rfl
    rw [e]
    simp only [M184, E184_0, E184_1, rfs, rfn, cs0, csi, csl, csr, csn, kti, ktl, ktr, ktn, ktv, ktf, true_and, and_true, and_self, ↓reduceIte, Nat.reduceAdd, Nat.reduceSub, Nat.reduceMul, Nat.reduceLT, Nat.reduceLeDiff, Nat.reduceEqDiff, true_or, or_true, false_or, or_false, not_true_eq_false, not_false_eq_true, reduceCtorEq, cmp_lt, cmp_gt, cmp_eq, Int32.reduceAdd, Int32.reduceSub, Int32.reduceMul, Int32.reduceLT, Int32.reduceToNatClampNeg, eq_self, ne_eq, Int64.reduceAdd, Int64.reduceSub, Int64.reduceMul, Int64.reduceLT]
    rw [show (if (28 : Int32).toInt < 20 ∨ 20 + (([52, 56, 97, 97, 60, 71, 82, 97, 93] : List Int).length : Int) ≤ (28 : Int32).toInt then 97 else (([52, 56, 97, 97, 60, 71, 82, 97, 93] : List Int).getD ((28 : Int32).toInt - 20).toNat 0).toNat) = 93 by decide]
    simp only [E184_0, E184_1, E184_52, E184_53, E184_54, E184_55, E184_56, E184_57, E184_58, E184_59, E184_60, E184_61, E184_62, E184_65, E184_66, E184_69, E184_70, E184_71, E184_72, E184_73, E184_76, E184_77, E184_80, E184_81, E184_82, E184_83, E184_84, E184_87, E184_88, E184_91, E184_92, E184_93, E184_94, E184_95, E184_96, E184_97, E184_98, E184_99, E184_100, rfs, rfn, cs0, csi, csl, csr, csn, kti, ktl, ktr, ktn, ktv, ktf, true_and, and_true, and_self, ↓reduceIte, Nat.reduceAdd, Nat.reduceSub, Nat.reduceMul, Nat.reduceLT, Nat.reduceLeDiff, Nat.reduceEqDiff, true_or, or_true, false_or, or_false, not_true_eq_false, not_false_eq_true, reduceCtorEq, cmp_lt, cmp_gt, cmp_eq, Int32.reduceAdd, Int32.reduceSub, Int32.reduceMul, Int32.reduceLT, Int32.reduceToNatClampNeg, eq_self, ne_eq, Int64.reduceAdd, Int64.reduceSub, Int64.reduceMul, Int64.reduceLT]
  · have e : jnF (cM (29, x)) a b = a ||| b := rfl
    rw [e]
    simp only [M184, E184_0, E184_1, rfs, rfn, cs0, csi, csl, csr, csn, kti, ktl, ktr, ktn, ktv, ktf, true_and, and_true, and_self, ↓reduceIte, Nat.reduceAdd, Nat.reduceSub, Nat.reduceMul, Nat.reduceLT, Nat.reduceLeDiff, Nat.reduceEqDiff, true_or, or_true, false_or, or_false, not_true_eq_false, not_false_eq_true, reduceCtorEq, cmp_lt, cmp_gt, cmp_eq, Int32.reduceAdd, Int32.reduceSub, Int32.reduceMul, Int32.reduceLT, Int32.reduceToNatClampNeg, eq_self, ne_eq, Int64.reduceAdd, Int64.reduceSub, Int64.reduceMul, Int64.reduceLT]
    rw [show (if (29 : Int32).toInt < 20 ∨ 20 + (([52, 56, 97, 97, 60, 71, 82, 97, 93] : List Int).length : Int) ≤ (29 : Int32).toInt then 97 else (([52, 56, 97, 97, 60, 71, 82, 97, 93] : List Int).getD ((29 : Int32).toInt - 20).toNat 0).toNat) = 97 by decide]
    simp only [E184_0, E184_1, E184_52, E184_53, E184_54, E184_55, E184_56, E184_57, E184_58, E184_59, E184_60, E184_61, E184_62, E184_65, E184_66, E184_69, E184_70, E184_71, E184_72, E184_73, E184_76, E184_77, E184_80, E184_81, E184_82, E184_83, E184_84, E184_87, E184_88, E184_91, E184_92, E184_93, E184_94, E184_95, E184_96, E184_97, E184_98, E184_99, E184_100, rfs, rfn, cs0, csi, csl, csr, csn, kti, ktl, ktr, ktn, ktv, ktf, true_and, and_true, and_self, ↓reduceIte, Nat.reduceAdd, Nat.reduceSub, Nat.reduceMul, Nat.reduceLT, Nat.reduceLeDiff, Nat.reduceEqDiff, true_or, or_true, false_or, or_false, not_true_eq_false, not_false_eq_true, reduceCtorEq, cmp_lt, cmp_gt, cmp_eq, Int32.reduceAdd, Int32.reduceSub, Int32.reduceMul, Int32.reduceLT, Int32.reduceToNatClampNeg, eq_self, ne_eq, Int64.reduceAdd, Int64.reduceSub, Int64.reduceMul, Int64.reduceLT]
theorem cM_1 (h : y.1 = 1) : cM y = -1 := by
  unfold cM
  rw [h, if_neg (by decide)]
  decide
theorem cM_2 (h : y.1 = 2) : cM y = -2 := by
  unfold cM
  rw [h, if_neg (by decide)]
  decide
theorem cM_3 (h : y.1 = 3) : cM y = -3 := by
  unfold cM
  rw [h, if_neg (by decide)]
  decide
theorem cM_4 (h : y.1 = 4) : cM y = -4 := by
  unfold cM
  rw [h, if_neg (by decide)]
  decide
theorem cM_27 (h : y.1 = 27) : cM y = -7 := by
  unfold cM
  rw [h, if_neg (by decide)]
  decide
theorem cM_32 (h : y.1 = 32) : cM y = -5 := by
  unfold cM
  rw [h, if_neg (by decide)]
  decide
theorem cM_33 (h : y.1 = 33) : cM y = -6 := by
  unfold cM
  rw [h, if_neg (by decide)]
  decide
theorem pv_n {x : Int32} (h : ¬ x < 0) : pvF C u x = x := by
  unfold pvF
  rw [if_neg (fun z => h (by rw [z]; decide)), if_neg (fun z => h (by rw [z]; decide)), if_neg (fun z => h (by rw [z]; decide)), if_neg (fun z => h (by rw [z]; decide))]
theorem RdC.tl {ρ : Nat → Int32} {k b : Nat} {x : Int32 × Int32} {l : List (Int32 × Int32)} (h : RdC ρ k b (x :: l)) : RdC ρ (k + 1) b l := by
  have e : b = k + (l.length + 1) := h.1
  refine ⟨by omega, fun j y hy => ?_⟩
  have g := h.2 (j + 1) y (by rw [List.getElem?_cons_succ]; exact hy)
  rw [show k + (j + 1) = k + 1 + j by omega] at g
  exact g
theorem rkJ {t a b : Nat} {v : Int32} (hS : Pm S) (hR : Pr R) (h : SR u w C J) (ht : t ≤ 7060) (hb : b ≤ 400) : ∀ (l : List (Int32 × Int32)) (k : Nat) (st : List Int32) (J1 : mI) (y6 y7 : Value), RdC (fun j => J 56 (t + j)) k b l → (∀ y, y ∈ l → Okq y) → evP (pvF C u) (cvF C u) (rCM l) st → Stk (J1 67) st → st.length + l.length ≤ 400 → (∀ a, ¬ a = 67 → J1 a = J a) → evX (pvF C u) (cvF C u) (rCM l) st = [v] → (∀ J', (∀ a, ¬ a = 67 → J' a = J a) → Q (.int v) S J' L R) → Ev (d + 3) 183 6 [.ref 54, .int (nI t), .int (nI a), .int (nI b), .int (nI st.length), .int (nI k), y6, y7] [] S J1 L R Q := by
  have w5 := h.w5
  have z0 : inb 0 8060 = True := inb_nI (j := 0) (by decide) (by decide)
  intro l
  induction l with
  | nil =>
    intro k st J1 y6 y7 hd _ _ hs _ hJ hv hq
    obtain rfl : b = k := hd.1
    have e1 : (nI b < nI b) = False := eq_false (nI_nlt (by omega) (by omega))
    have es : st = [v] := hv
    subst es
    have z1 : inb 0 400 = True := inb_nI (j := 0) (by decide) (by decide)
    have n1 : (nI [v].length = 0) = False := eq_false (by show ¬ nI 1 = 0; decide)
    have r0 : J1 67 0 = v := hs.1
    rw [E183_6]
    simp only [E183_0, E183_1, E183_3, E183_4, E183_8, E183_9, E183_12, E183_13, E183_16, E183_17, E183_20, E183_21, E183_22, E183_24, E183_25, E183_26, E183_27, E183_29, E183_31, E183_32, E183_35, E183_36, E183_39, E183_41, E183_43, E183_46, E183_47, E183_50, E183_51, E183_54, E183_55, E183_56, E183_58, E183_59, E183_60, E183_61, E183_62, E183_63, E183_66, E183_68, E183_69, E183_72, E183_73, E183_76, E183_77, E183_78, E183_81, E183_83, E183_84, E183_87, E183_88, E183_91, E183_94, E183_96, E183_97, E183_100, E183_101, E183_104, E183_107, E183_108, E183_111, E183_112, E183_115, E183_118, E183_120, E183_122, E183_125, E183_126, E183_129, E183_131, E183_132, E183_133, E183_134, E183_135, E183_138, E183_140, E183_141, E183_142, E183_143, E183_144, E183_145, E183_148, E183_150, E183_152, E183_155, E183_156, E183_159, E183_161, E183_162, E183_163, E183_164, E183_166, E183_167, E183_170, E183_172, E183_173, E183_174, E183_175, E183_177, E183_178, E183_181, E183_184, E183_185, E183_188, E183_190, E183_192, E183_195, E183_196, E183_199, E183_201, E183_202, E183_205, E183_206, E183_209, E183_211, E183_212, E183_213, E183_214, E183_215, E183_218, E183_221, E183_222, E183_225, E183_227, E183_228, E183_229, E183_231, E183_232, E183_235, E183_237, E183_238, E183_239, E183_240, E183_241, E183_244, E183_246, E183_247, E183_250, E183_251, E183_254, E183_257, E183_259, E183_262, E183_263, E183_266, E183_267, E183_270, E183_271, E183_272, pk54 hS, pk67 hS, pl67 hS, pa67 hS, pi67 hS, pr54_44 hR, rfs, rfn, cs0, csi, csl, csr, csn, kti, ktl, ktr, ktn, ktv, ktf, true_and, and_true, and_self, ↓reduceIte, Nat.reduceAdd, Nat.reduceSub, Nat.reduceMul, Nat.reduceLT, Nat.reduceLeDiff, Nat.reduceEqDiff, true_or, or_true, false_or, or_false, not_true_eq_false, not_false_eq_true, reduceCtorEq, cmp_lt, cmp_gt, cmp_eq, Int32.reduceAdd, Int32.reduceSub, Int32.reduceMul, Int32.reduceLT, Int32.reduceToNatClampNeg, eq_self, ne_eq, Int64.reduceAdd, Int64.reduceSub, Int64.reduceMul, Int64.reduceLT, e1, z1, n1, r0]
    exact hq J1 hJ
  | cons x l ih =>
    intro k st J1 y6 y7 hd hok he hs hl hJ hv hq
    have hd' := hd.tl
    have hk : b = k + (l.length + 1) := hd.1
    have hl' : st.length + (l.length + 1) ≤ 400 := hl
    obtain ⟨he1, he2⟩ : (cM x < -4 → 1 ≤ st.length ∧ (cM x < -7 → 2 ≤ st.length)) ∧ evP (pvF C u) (cvF C u) (rCM l) (stv (pvF C u) (cvF C u) (cM x) st) := he
    have e1 : (nI k < nI b) = True := eq_true (nI_lt (by omega) (by omega))
    have e2 : nI t + 180 + 2 * nI k = nI (t + (180 + 2 * k)) := by rw [show (180 : Int32) = nI 180 from rfl, show (2 : Int32) = nI 2 from rfl, pk_mul, nI_add, nI_add, Nat.add_assoc]
    have a0 : inb (nI (t + (180 + 2 * k))) 8060 = True := inb_nI (by omega) (by decide)
    have b0 : (nI (t + (180 + 2 * k))).toNatClampNeg = t + (180 + 2 * k) := nI_clamp (by omega)
    have a1 : inb (nI (t + (180 + 2 * k) + 1)) 8060 = True := inb_nI (by omega) (by decide)
    have b1 : (nI (t + (180 + 2 * k) + 1)).toNatClampNeg = t + (180 + 2 * k) + 1 := nI_clamp (by omega)
    have rd : J 56 (t + (180 + 2 * k)) = x.1 ∧ J 56 (t + (181 + 2 * k)) = x.2 := hd.2 0 x rfl
    have hop : J1 56 (t + (180 + 2 * k)) = x.1 := by rw [hJ 56 (by decide)]; exact rd.1
    have hx : Okq x := hok x (List.mem_cons_self ..)
    have key : ∀ (J2 : mI) (st' : List Int32) (y6 y7 : Value), stv (pvF C u) (cvF C u) (cM x) st = st' → Stk (J2 67) st' → st'.length ≤ st.length + 1 → (∀ a, ¬ a = 67 → J2 a = J a) → Ev (d + 3) 183 6 [.ref 54, .int (nI t), .int (nI a), .int (nI b), .int (nI st'.length), .int (nI (k + 1)), y6, y7] [] S J2 L R Q := fun J2 st' y6 y7 e g1 g2 g3 => ih (k + 1) st' J2 y6 y7 hd' (fun y hy => hok y (List.mem_cons_of_mem _ hy)) (by rw [← e]; exact he2) g1 (by omega) g3 (by rw [← e]; exact hv) hq
    have fr : ∀ (m : Nat) (x : Int32) (a : Nat), ¬ a = 67 → put J1 67 m x a = J a := fun m x a ha => (pt_n ha).trans (hJ a ha)
    rcases hx with ⟨o1, o2⟩ | o1 | o1 | o1
    · have em : cM x = x.2 := if_pos o1
      have h4 : ¬ x.2 < -4 := fun z => o2 (Int32.lt_trans z (by decide))
      have a2 : inb (nI st.length) 400 = True := inb_nI (by omega) (by decide)
      have b2 : (nI st.length).toNatClampNeg = st.length := nI_clamp (by omega)
      have harg : J1 56 (t + (180 + 2 * k) + 1) = x.2 := by
        rw [hJ 56 (by decide), show t + (180 + 2 * k) + 1 = t + (181 + 2 * k) by omega]
        exact rd.2
      have p1 : ((4 : Int32) < x.1) = False := by rw [o1]; exact eq_false (by decide)
      have p2 : (x.1 = 0) = True := eq_true o1
      have r := fun y6 y7 => key (put J1 67 st.length x.2) (x.2 :: st) y6 y7 (by rw [em, stv_p h4, pv_n o2]) ⟨pt_s, hs.cg (fun k hk => pt_f (by omega))⟩ (Nat.le_refl _) (fr _ _)
      rw [E183_6]
      simp only [E183_0, E183_1, E183_3, E183_4, E183_8, E183_9, E183_12, E183_13, E183_16, E183_17, E183_20, E183_21, E183_22, E183_24, E183_25, E183_26, E183_27, E183_29, E183_31, E183_32, E183_35, E183_36, E183_39, E183_41, E183_43, E183_46, E183_47, E183_50, E183_51, E183_54, E183_55, E183_56, E183_58, E183_59, E183_60, E183_61, E183_62, E183_63, E183_66, E183_68, E183_69, E183_72, E183_73, E183_76, E183_77, E183_78, E183_81, E183_83, E183_84, E183_87, E183_88, E183_91, E183_94, E183_96, E183_97, E183_100, E183_101, E183_104, E183_107, E183_108, E183_111, E183_112, E183_115, E183_118, E183_120, E183_122, E183_125, E183_126, E183_129, E183_131, E183_132, E183_133, E183_134, E183_135, E183_138, E183_140, E183_141, E183_142, E183_143, E183_144, E183_145, E183_148, E183_150, E183_152, E183_155, E183_156, E183_159, E183_161, E183_162, E183_163, E183_164, E183_166, E183_167, E183_170, E183_172, E183_173, E183_174, E183_175, E183_177, E183_178, E183_181, E183_184, E183_185, E183_188, E183_190, E183_192, E183_195, E183_196, E183_199, E183_201, E183_202, E183_205, E183_206, E183_209, E183_211, E183_212, E183_213, E183_214, E183_215, E183_218, E183_221, E183_222, E183_225, E183_227, E183_228, E183_229, E183_231, E183_232, E183_235, E183_237, E183_238, E183_239, E183_240, E183_241, E183_244, E183_246, E183_247, E183_250, E183_251, E183_254, E183_257, E183_259, E183_262, E183_263, E183_266, E183_267, E183_270, E183_271, E183_272, pk54 hS, pk56 hS, pl56 hS, pa56 hS, pi56 hS, pk67 hS, pl67 hS, pa67 hS, pi67 hS, pr54_3 hR, pr54_44 hR, rfs, rfn, cs0, csi, csl, csr, csn, kti, ktl, ktr, ktn, ktv, ktf, true_and, and_true, and_self, ↓reduceIte, Nat.reduceAdd, Nat.reduceSub, Nat.reduceMul, Nat.reduceLT, Nat.reduceLeDiff, Nat.reduceEqDiff, true_or, or_true, false_or, or_false, not_true_eq_false, not_false_eq_true, reduceCtorEq, cmp_lt, cmp_gt, cmp_eq, Int32.reduceAdd, Int32.reduceSub, Int32.reduceMul, Int32.reduceLT, Int32.reduceToNatClampNeg, eq_self, ne_eq, Int64.reduceAdd, Int64.reduceSub, Int64.reduceMul, Int64.reduceLT, e1, e2, a0, b0, a1, b1, a2, b2, hop, p1, p2, harg, nI_1, pt]
      exact r _ _
    · have a2 : inb (nI st.length) 400 = True := inb_nI (by omega) (by decide)
      have b2 : (nI st.length).toNatClampNeg = st.length := nI_clamp (by omega)
      have psh' : ∀ v0, ¬ cM x < -4 → v0 = pvF C u (cM x) → ∀ y6 y7, Ev (d + 3) 183 6 [.ref 54, .int (nI t), .int (nI a), .int (nI b), .int (nI (st.length + 1)), .int (nI (k + 1)), y6, y7] [] S (put J1 67 st.length v0) L R Q := fun v0 g1 g2 y6 y7 => key (put J1 67 st.length v0) (v0 :: st) y6 y7 (by rw [stv_p g1, g2]) ⟨pt_s, hs.cg (fun k hk => pt_f (by omega))⟩ (Nat.le_refl _) (fr _ _)
      have j54 : J1 54 = J 54 := hJ 54 (by decide)
      have j56 : J1 56 = J 56 := hJ 56 (by decide)
      rcases o1 with o1 | o1 | o1 | o1
      · have em := cM_1 o1
        have p1 : ((4 : Int32) < x.1) = False := by rw [o1]; exact eq_false (by decide)
        have p2 : (x.1 = 0) = False := by rw [o1]; exact eq_false (by decide)
        have p3 : (x.1 = 1) = True := eq_true o1
        have r := psh' (J1 56 0) (by rw [em]; decide) (by rw [em, j56]; exact h.2.2.2.1.trans h.1.symm)
        rw [E183_6]
        simp only [E183_0, E183_1, E183_3, E183_4, E183_8, E183_9, E183_12, E183_13, E183_16, E183_17, E183_20, E183_21, E183_22, E183_24, E183_25, E183_26, E183_27, E183_29, E183_31, E183_32, E183_35, E183_36, E183_39, E183_41, E183_43, E183_46, E183_47, E183_50, E183_51, E183_54, E183_55, E183_56, E183_58, E183_59, E183_60, E183_61, E183_62, E183_63, E183_66, E183_68, E183_69, E183_72, E183_73, E183_76, E183_77, E183_78, E183_81, E183_83, E183_84, E183_87, E183_88, E183_91, E183_94, E183_96, E183_97, E183_100, E183_101, E183_104, E183_107, E183_108, E183_111, E183_112, E183_115, E183_118, E183_120, E183_122, E183_125, E183_126, E183_129, E183_131, E183_132, E183_133, E183_134, E183_135, E183_138, E183_140, E183_141, E183_142, E183_143, E183_144, E183_145, E183_148, E183_150, E183_152, E183_155, E183_156, E183_159, E183_161, E183_162, E183_163, E183_164, E183_166, E183_167, E183_170, E183_172, E183_173, E183_174, E183_175, E183_177, E183_178, E183_181, E183_184, E183_185, E183_188, E183_190, E183_192, E183_195, E183_196, E183_199, E183_201, E183_202, E183_205, E183_206, E183_209, E183_211, E183_212, E183_213, E183_214, E183_215, E183_218, E183_221, E183_222, E183_225, E183_227, E183_228, E183_229, E183_231, E183_232, E183_235, E183_237, E183_238, E183_239, E183_240, E183_241, E183_244, E183_246, E183_247, E183_250, E183_251, E183_254, E183_257, E183_259, E183_262, E183_263, E183_266, E183_267, E183_270, E183_271, E183_272, pk54 hS, pk56 hS, pl56 hS, pa56 hS, pi56 hS, pk67 hS, pl67 hS, pa67 hS, pi67 hS, pr54_3 hR, pr54_44 hR, rfs, rfn, cs0, csi, csl, csr, csn, kti, ktl, ktr, ktn, ktv, ktf, true_and, and_true, and_self, ↓reduceIte, Nat.reduceAdd, Nat.reduceSub, Nat.reduceMul, Nat.reduceLT, Nat.reduceLeDiff, Nat.reduceEqDiff, true_or, or_true, false_or, or_false, not_true_eq_false, not_false_eq_true, reduceCtorEq, cmp_lt, cmp_gt, cmp_eq, Int32.reduceAdd, Int32.reduceSub, Int32.reduceMul, Int32.reduceLT, Int32.reduceToNatClampNeg, eq_self, ne_eq, Int64.reduceAdd, Int64.reduceSub, Int64.reduceMul, Int64.reduceLT, e1, e2, a0, b0, z0, a2, b2, hop, p1, p2, p3, nI_1, pt]
        exact r _ _
      · have em := cM_2 o1
        have p1 : ((4 : Int32) < x.1) = False := by rw [o1]; exact eq_false (by decide)
        have p2 : (x.1 = 0) = False := by rw [o1]; exact eq_false (by decide)
        have p3 : (x.1 = 1) = False := by rw [o1]; exact eq_false (by decide)
        have p4 : (x.1 = 2) = True := eq_true o1
        obtain ⟨q, _, q1, q2⟩ := h.lf
        have r := psh' (J1 54 27) (by rw [em]; decide) (by rw [em, j54]; exact q2.trans q1.symm)
        rw [E183_6]
        simp only [E183_0, E183_1, E183_3, E183_4, E183_8, E183_9, E183_12, E183_13, E183_16, E183_17, E183_20, E183_21, E183_22, E183_24, E183_25, E183_26, E183_27, E183_29, E183_31, E183_32, E183_35, E183_36, E183_39, E183_41, E183_43, E183_46, E183_47, E183_50, E183_51, E183_54, E183_55, E183_56, E183_58, E183_59, E183_60, E183_61, E183_62, E183_63, E183_66, E183_68, E183_69, E183_72, E183_73, E183_76, E183_77, E183_78, E183_81, E183_83, E183_84, E183_87, E183_88, E183_91, E183_94, E183_96, E183_97, E183_100, E183_101, E183_104, E183_107, E183_108, E183_111, E183_112, E183_115, E183_118, E183_120, E183_122, E183_125, E183_126, E183_129, E183_131, E183_132, E183_133, E183_134, E183_135, E183_138, E183_140, E183_141, E183_142, E183_143, E183_144, E183_145, E183_148, E183_150, E183_152, E183_155, E183_156, E183_159, E183_161, E183_162, E183_163, E183_164, E183_166, E183_167, E183_170, E183_172, E183_173, E183_174, E183_175, E183_177, E183_178, E183_181, E183_184, E183_185, E183_188, E183_190, E183_192, E183_195, E183_196, E183_199, E183_201, E183_202, E183_205, E183_206, E183_209, E183_211, E183_212, E183_213, E183_214, E183_215, E183_218, E183_221, E183_222, E183_225, E183_227, E183_228, E183_229, E183_231, E183_232, E183_235, E183_237, E183_238, E183_239, E183_240, E183_241, E183_244, E183_246, E183_247, E183_250, E183_251, E183_254, E183_257, E183_259, E183_262, E183_263, E183_266, E183_267, E183_270, E183_271, E183_272, pk54 hS, pk56 hS, pl56 hS, pa56 hS, pi56 hS, pk67 hS, pl67 hS, pa67 hS, pi67 hS, pr54_3 hR, pr54_44 hR, rfs, rfn, cs0, csi, csl, csr, csn, kti, ktl, ktr, ktn, ktv, ktf, true_and, and_true, and_self, ↓reduceIte, Nat.reduceAdd, Nat.reduceSub, Nat.reduceMul, Nat.reduceLT, Nat.reduceLeDiff, Nat.reduceEqDiff, true_or, or_true, false_or, or_false, not_true_eq_false, not_false_eq_true, reduceCtorEq, cmp_lt, cmp_gt, cmp_eq, Int32.reduceAdd, Int32.reduceSub, Int32.reduceMul, Int32.reduceLT, Int32.reduceToNatClampNeg, eq_self, ne_eq, Int64.reduceAdd, Int64.reduceSub, Int64.reduceMul, Int64.reduceLT, e1, e2, a0, b0, z0, a2, b2, hop, p1, p2, p3, p4, nI_1, pt]
        exact r _ _
      · have em := cM_3 o1
        have p1 : ((4 : Int32) < x.1) = False := by rw [o1]; exact eq_false (by decide)
        have p2 : (x.1 = 0) = False := by rw [o1]; exact eq_false (by decide)
        have p3 : (x.1 = 1) = False := by rw [o1]; exact eq_false (by decide)
        have p4 : (x.1 = 2) = False := by rw [o1]; exact eq_false (by decide)
        have p5 : (x.1 = 3) = True := eq_true o1
        have r := psh' (J1 54 29) (by rw [em]; decide) (by rw [em, j54]; exact (h.out (k := 0) (by decide)).symm)
        rw [E183_6]
        simp only [E183_0, E183_1, E183_3, E183_4, E183_8, E183_9, E183_12, E183_13, E183_16, E183_17, E183_20, E183_21, E183_22, E183_24, E183_25, E183_26, E183_27, E183_29, E183_31, E183_32, E183_35, E183_36, E183_39, E183_41, E183_43, E183_46, E183_47, E183_50, E183_51, E183_54, E183_55, E183_56, E183_58, E183_59, E183_60, E183_61, E183_62, E183_63, E183_66, E183_68, E183_69, E183_72, E183_73, E183_76, E183_77, E183_78, E183_81, E183_83, E183_84, E183_87, E183_88, E183_91, E183_94, E183_96, E183_97, E183_100, E183_101, E183_104, E183_107, E183_108, E183_111, E183_112, E183_115, E183_118, E183_120, E183_122, E183_125, E183_126, E183_129, E183_131, E183_132, E183_133, E183_134, E183_135, E183_138, E183_140, E183_141, E183_142, E183_143, E183_144, E183_145, E183_148, E183_150, E183_152, E183_155, E183_156, E183_159, E183_161, E183_162, E183_163, E183_164, E183_166, E183_167, E183_170, E183_172, E183_173, E183_174, E183_175, E183_177, E183_178, E183_181, E183_184, E183_185, E183_188, E183_190, E183_192, E183_195, E183_196, E183_199, E183_201, E183_202, E183_205, E183_206, E183_209, E183_211, E183_212, E183_213, E183_214, E183_215, E183_218, E183_221, E183_222, E183_225, E183_227, E183_228, E183_229, E183_231, E183_232, E183_235, E183_237, E183_238, E183_239, E183_240, E183_241, E183_244, E183_246, E183_247, E183_250, E183_251, E183_254, E183_257, E183_259, E183_262, E183_263, E183_266, E183_267, E183_270, E183_271, E183_272, pk54 hS, pk56 hS, pl56 hS, pa56 hS, pi56 hS, pk67 hS, pl67 hS, pa67 hS, pi67 hS, pr54_3 hR, pr54_44 hR, rfs, rfn, cs0, csi, csl, csr, csn, kti, ktl, ktr, ktn, ktv, ktf, true_and, and_true, and_self, ↓reduceIte, Nat.reduceAdd, Nat.reduceSub, Nat.reduceMul, Nat.reduceLT, Nat.reduceLeDiff, Nat.reduceEqDiff, true_or, or_true, false_or, or_false, not_true_eq_false, not_false_eq_true, reduceCtorEq, cmp_lt, cmp_gt, cmp_eq, Int32.reduceAdd, Int32.reduceSub, Int32.reduceMul, Int32.reduceLT, Int32.reduceToNatClampNeg, eq_self, ne_eq, Int64.reduceAdd, Int64.reduceSub, Int64.reduceMul, Int64.reduceLT, e1, e2, a0, b0, z0, a2, b2, hop, p1, p2, p3, p4, p5, nI_1, pt]
        exact r _ _
      · have em := cM_4 o1
        have p1 : ((4 : Int32) < x.1) = False := by rw [o1]; exact eq_false (by decide)
        have p2 : (x.1 = 0) = False := by rw [o1]; exact eq_false (by decide)
        have p3 : (x.1 = 1) = False := by rw [o1]; exact eq_false (by decide)
        have p4 : (x.1 = 2) = False := by rw [o1]; exact eq_false (by decide)
        have p5 : (x.1 = 3) = False := by rw [o1]; exact eq_false (by decide)
        have r := psh' (J1 54 30) (by rw [em]; decide) (by rw [em, j54]; exact (h.out (k := 1) (by decide)).symm)
        rw [E183_6]
        simp only [E183_0, E183_1, E183_3, E183_4, E183_8, E183_9, E183_12, E183_13, E183_16, E183_17, E183_20, E183_21, E183_22, E183_24, E183_25, E183_26, E183_27, E183_29, E183_31, E183_32, E183_35, E183_36, E183_39, E183_41, E183_43, E183_46, E183_47, E183_50, E183_51, E183_54, E183_55, E183_56, E183_58, E183_59, E183_60, E183_61, E183_62, E183_63, E183_66, E183_68, E183_69, E183_72, E183_73, E183_76, E183_77, E183_78, E183_81, E183_83, E183_84, E183_87, E183_88, E183_91, E183_94, E183_96, E183_97, E183_100, E183_101, E183_104, E183_107, E183_108, E183_111, E183_112, E183_115, E183_118, E183_120, E183_122, E183_125, E183_126, E183_129, E183_131, E183_132, E183_133, E183_134, E183_135, E183_138, E183_140, E183_141, E183_142, E183_143, E183_144, E183_145, E183_148, E183_150, E183_152, E183_155, E183_156, E183_159, E183_161, E183_162, E183_163, E183_164, E183_166, E183_167, E183_170, E183_172, E183_173, E183_174, E183_175, E183_177, E183_178, E183_181, E183_184, E183_185, E183_188, E183_190, E183_192, E183_195, E183_196, E183_199, E183_201, E183_202, E183_205, E183_206, E183_209, E183_211, E183_212, E183_213, E183_214, E183_215, E183_218, E183_221, E183_222, E183_225, E183_227, E183_228, E183_229, E183_231, E183_232, E183_235, E183_237, E183_238, E183_239, E183_240, E183_241, E183_244, E183_246, E183_247, E183_250, E183_251, E183_254, E183_257, E183_259, E183_262, E183_263, E183_266, E183_267, E183_270, E183_271, E183_272, pk54 hS, pk56 hS, pl56 hS, pa56 hS, pi56 hS, pk67 hS, pl67 hS, pa67 hS, pi67 hS, pr54_3 hR, pr54_44 hR, rfs, rfn, cs0, csi, csl, csr, csn, kti, ktl, ktr, ktn, ktv, ktf, true_and, and_true, and_self, ↓reduceIte, Nat.reduceAdd, Nat.reduceSub, Nat.reduceMul, Nat.reduceLT, Nat.reduceLeDiff, Nat.reduceEqDiff, true_or, or_true, false_or, or_false, not_true_eq_false, not_false_eq_true, reduceCtorEq, cmp_lt, cmp_gt, cmp_eq, Int32.reduceAdd, Int32.reduceSub, Int32.reduceMul, Int32.reduceLT, Int32.reduceToNatClampNeg, eq_self, ne_eq, Int64.reduceAdd, Int64.reduceSub, Int64.reduceMul, Int64.reduceLT, e1, e2, a0, b0, z0, a2, b2, hop, p1, p2, p3, p4, p5, nI_1, pt]
        exact r _ _
    · have p1 : ((4 : Int32) < x.1) = True := by rcases o1 with e | e | e <;> (rw [e]; exact eq_true (by decide))
      have h4 : cM x < -4 := by
        rcases o1 with e | e | e
        · rw [cM_27 e]; decide
        · rw [cM_32 e]; decide
        · rw [cM_33 e]; decide
      have h7 : ¬ cM x < -7 := by
        rcases o1 with e | e | e
        · rw [cM_27 e]; decide
        · rw [cM_32 e]; decide
        · rw [cM_33 e]; decide
      obtain ⟨c, s, rfl⟩ : ∃ c s, st = c :: s := by
        match st, (he1 h4).1 with
        | c :: s, _ => exact ⟨c, s, rfl⟩
        | [], z => exact absurd z (by show ¬ 1 ≤ 0; omega)
      have hs1 : J1 67 s.length = c := hs.1
      have hl2 : s.length + 1 + (l.length + 1) ≤ 400 := hl'
      have a3 : inb (nI s.length) 400 = True := inb_nI (by omega) (by decide)
      have b3 : (nI s.length).toNatClampNeg = s.length := nI_clamp (by omega)
      have en : nI (c :: s).length - 1 = nI s.length := nI_m1 s.length
      have un : ∀ v0, v0 = (if cM x = -7 then 1 - c else cvF C u (cM x) c) → ∀ y6 y7, Ev (d + 3) 183 6 [.ref 54, .int (nI t), .int (nI a), .int (nI b), .int (nI (c :: s).length), .int (nI (k + 1)), y6, y7] [] S (put J1 67 s.length v0) L R Q := fun v0 g2 y6 y7 => key (put J1 67 s.length v0) (v0 :: s) y6 y7 (by rw [stv_u h4 h7, g2]) ⟨pt_s, hs.2.cg (fun k hk => pt_f (by omega))⟩ (by show s.length + 1 ≤ s.length + 1 + 1; omega) (fr _ _)
      have j56 : J1 56 0 = nI w := by rw [hJ 56 (by decide)]; exact h.2.2.2.1
      by_cases q7 : x.1 = 27
      · have q7' : (x.1 = 27) = True := eq_true q7
        have r := un (1 - c) (by rw [cM_27 q7]; exact (if_pos rfl).symm)
        rw [E183_6]
        simp only [E183_0, E183_1, E183_3, E183_4, E183_8, E183_9, E183_12, E183_13, E183_16, E183_17, E183_20, E183_21, E183_22, E183_24, E183_25, E183_26, E183_27, E183_29, E183_31, E183_32, E183_35, E183_36, E183_39, E183_41, E183_43, E183_46, E183_47, E183_50, E183_51, E183_54, E183_55, E183_56, E183_58, E183_59, E183_60, E183_61, E183_62, E183_63, E183_66, E183_68, E183_69, E183_72, E183_73, E183_76, E183_77, E183_78, E183_81, E183_83, E183_84, E183_87, E183_88, E183_91, E183_94, E183_96, E183_97, E183_100, E183_101, E183_104, E183_107, E183_108, E183_111, E183_112, E183_115, E183_118, E183_120, E183_122, E183_125, E183_126, E183_129, E183_131, E183_132, E183_133, E183_134, E183_135, E183_138, E183_140, E183_141, E183_142, E183_143, E183_144, E183_145, E183_148, E183_150, E183_152, E183_155, E183_156, E183_159, E183_161, E183_162, E183_163, E183_164, E183_166, E183_167, E183_170, E183_172, E183_173, E183_174, E183_175, E183_177, E183_178, E183_181, E183_184, E183_185, E183_188, E183_190, E183_192, E183_195, E183_196, E183_199, E183_201, E183_202, E183_205, E183_206, E183_209, E183_211, E183_212, E183_213, E183_214, E183_215, E183_218, E183_221, E183_222, E183_225, E183_227, E183_228, E183_229, E183_231, E183_232, E183_235, E183_237, E183_238, E183_239, E183_240, E183_241, E183_244, E183_246, E183_247, E183_250, E183_251, E183_254, E183_257, E183_259, E183_262, E183_263, E183_266, E183_267, E183_270, E183_271, E183_272, pk54 hS, pk56 hS, pl56 hS, pa56 hS, pi56 hS, pk67 hS, pl67 hS, pa67 hS, pi67 hS, pr54_3 hR, pr54_44 hR, rfs, rfn, cs0, csi, csl, csr, csn, kti, ktl, ktr, ktn, ktv, ktf, true_and, and_true, and_self, ↓reduceIte, Nat.reduceAdd, Nat.reduceSub, Nat.reduceMul, Nat.reduceLT, Nat.reduceLeDiff, Nat.reduceEqDiff, true_or, or_true, false_or, or_false, not_true_eq_false, not_false_eq_true, reduceCtorEq, cmp_lt, cmp_gt, cmp_eq, Int32.reduceAdd, Int32.reduceSub, Int32.reduceMul, Int32.reduceLT, Int32.reduceToNatClampNeg, eq_self, ne_eq, Int64.reduceAdd, Int64.reduceSub, Int64.reduceMul, Int64.reduceLT, e1, e2, a0, b0, hop, p1, q7', en, a3, b3, hs1, nI_1, pt]
        exact r _ _
      · have o2 := o1.resolve_left q7
        have q8 : (x.1 < 32) = False := by rcases o2 with e | e <;> (rw [e]; exact eq_false (by decide))
        have n7 : ¬ cM x = -7 := by
          rcases o2 with e | e
          · rw [cM_32 e]; decide
          · rw [cM_33 e]; decide
        cases g : thr C u c
        · have g' : inB c.toInt64 0 ((nI w).toInt64 - 1) = false := (h.tb c).symm.trans g
          have ht0 : htB C u c = false := by
            unfold htB
            rw [g]
            exact decide_eq_false (fun z => by cases z.2.1)
          have r := un 0 (by
            rw [if_neg n7]
            unfold cvF
            rw [g, ht0]
            by_cases z : cM x = -6
            · rw [if_pos z]; rfl
            · rw [if_neg z]; rfl)
          rw [E183_6]
          simp only [E183_0, E183_1, E183_3, E183_4, E183_8, E183_9, E183_12, E183_13, E183_16, E183_17, E183_20, E183_21, E183_22, E183_24, E183_25, E183_26, E183_27, E183_29, E183_31, E183_32, E183_35, E183_36, E183_39, E183_41, E183_43, E183_46, E183_47, E183_50, E183_51, E183_54, E183_55, E183_56, E183_58, E183_59, E183_60, E183_61, E183_62, E183_63, E183_66, E183_68, E183_69, E183_72, E183_73, E183_76, E183_77, E183_78, E183_81, E183_83, E183_84, E183_87, E183_88, E183_91, E183_94, E183_96, E183_97, E183_100, E183_101, E183_104, E183_107, E183_108, E183_111, E183_112, E183_115, E183_118, E183_120, E183_122, E183_125, E183_126, E183_129, E183_131, E183_132, E183_133, E183_134, E183_135, E183_138, E183_140, E183_141, E183_142, E183_143, E183_144, E183_145, E183_148, E183_150, E183_152, E183_155, E183_156, E183_159, E183_161, E183_162, E183_163, E183_164, E183_166, E183_167, E183_170, E183_172, E183_173, E183_174, E183_175, E183_177, E183_178, E183_181, E183_184, E183_185, E183_188, E183_190, E183_192, E183_195, E183_196, E183_199, E183_201, E183_202, E183_205, E183_206, E183_209, E183_211, E183_212, E183_213, E183_214, E183_215, E183_218, E183_221, E183_222, E183_225, E183_227, E183_228, E183_229, E183_231, E183_232, E183_235, E183_237, E183_238, E183_239, E183_240, E183_241, E183_244, E183_246, E183_247, E183_250, E183_251, E183_254, E183_257, E183_259, E183_262, E183_263, E183_266, E183_267, E183_270, E183_271, E183_272, isc hS hR, pk54 hS, pk56 hS, pl56 hS, pa56 hS, pi56 hS, pk67 hS, pl67 hS, pa67 hS, pi67 hS, pr54_3 hR, pr54_44 hR, rfs, rfn, cs0, csi, csl, csr, csn, kti, ktl, ktr, ktn, ktv, ktf, true_and, and_true, and_self, ↓reduceIte, Nat.reduceAdd, Nat.reduceSub, Nat.reduceMul, Nat.reduceLT, Nat.reduceLeDiff, Nat.reduceEqDiff, true_or, or_true, false_or, or_false, not_true_eq_false, not_false_eq_true, reduceCtorEq, cmp_lt, cmp_gt, cmp_eq, Int32.reduceAdd, Int32.reduceSub, Int32.reduceMul, Int32.reduceLT, Int32.reduceToNatClampNeg, eq_self, ne_eq, Int64.reduceAdd, Int64.reduceSub, Int64.reduceMul, Int64.reduceLT, e1, e2, a0, b0, hop, p1, q7, q8, en, a3, b3, hs1, nI_1, pt, j56, g', bI_f]
          exact r _ _
        · have g' : inB c.toInt64 0 ((nI w).toInt64 - 1) = true := (h.tb c).symm.trans g
          obtain ⟨i, i1, rfl⟩ := inC (by omega) g'
          have a5 : inb (nI i) 5 = True := inb_nI (by omega) (by decide)
          have b5 : (nI i).toNatClampNeg = i := nI_clamp (by omega)
          by_cases q9 : x.1 = 32
          · have q9' : (x.1 = 32) = True := eq_true q9
            obtain ⟨n, _, _, n1, n2⟩ := h.ir (c := i) (by omega)
            have r := un (J1 64 i) (by
              rw [cM_32 q9, if_neg (by decide), hJ 64 (by decide)]
              unfold cvF
              rw [if_neg (by decide), if_pos g, b5, n1, n2])
            rw [E183_6]
            simp only [E183_0, E183_1, E183_3, E183_4, E183_8, E183_9, E183_12, E183_13, E183_16, E183_17, E183_20, E183_21, E183_22, E183_24, E183_25, E183_26, E183_27, E183_29, E183_31, E183_32, E183_35, E183_36, E183_39, E183_41, E183_43, E183_46, E183_47, E183_50, E183_51, E183_54, E183_55, E183_56, E183_58, E183_59, E183_60, E183_61, E183_62, E183_63, E183_66, E183_68, E183_69, E183_72, E183_73, E183_76, E183_77, E183_78, E183_81, E183_83, E183_84, E183_87, E183_88, E183_91, E183_94, E183_96, E183_97, E183_100, E183_101, E183_104, E183_107, E183_108, E183_111, E183_112, E183_115, E183_118, E183_120, E183_122, E183_125, E183_126, E183_129, E183_131, E183_132, E183_133, E183_134, E183_135, E183_138, E183_140, E183_141, E183_142, E183_143, E183_144, E183_145, E183_148, E183_150, E183_152, E183_155, E183_156, E183_159, E183_161, E183_162, E183_163, E183_164, E183_166, E183_167, E183_170, E183_172, E183_173, E183_174, E183_175, E183_177, E183_178, E183_181, E183_184, E183_185, E183_188, E183_190, E183_192, E183_195, E183_196, E183_199, E183_201, E183_202, E183_205, E183_206, E183_209, E183_211, E183_212, E183_213, E183_214, E183_215, E183_218, E183_221, E183_222, E183_225, E183_227, E183_228, E183_229, E183_231, E183_232, E183_235, E183_237, E183_238, E183_239, E183_240, E183_241, E183_244, E183_246, E183_247, E183_250, E183_251, E183_254, E183_257, E183_259, E183_262, E183_263, E183_266, E183_267, E183_270, E183_271, E183_272, isc hS hR, pk54 hS, pk56 hS, pl56 hS, pa56 hS, pi56 hS, pk64 hS, pl64 hS, pa64 hS, pi64 hS, pk67 hS, pl67 hS, pa67 hS, pi67 hS, pr54_3 hR, pr54_23 hR, pr54_44 hR, rfs, rfn, cs0, csi, csl, csr, csn, kti, ktl, ktr, ktn, ktv, ktf, true_and, and_true, and_self, ↓reduceIte, Nat.reduceAdd, Nat.reduceSub, Nat.reduceMul, Nat.reduceLT, Nat.reduceLeDiff, Nat.reduceEqDiff, true_or, or_true, false_or, or_false, not_true_eq_false, not_false_eq_true, reduceCtorEq, cmp_lt, cmp_gt, cmp_eq, Int32.reduceAdd, Int32.reduceSub, Int32.reduceMul, Int32.reduceLT, Int32.reduceToNatClampNeg, eq_self, ne_eq, Int64.reduceAdd, Int64.reduceSub, Int64.reduceMul, Int64.reduceLT, e1, e2, a0, b0, hop, p1, q7, q8, en, a3, b3, hs1, nI_1, pt, j56, g', bI_t, n1_0, a5, b5, q9']
            exact r _ _
          · have q33 := o2.resolve_left q9
            have r := un ((J1 54 26 >>> (nI i &&& 31)) &&& 1) (by
              rw [cM_33 q33, if_neg (by decide), hJ 54 (by decide)]
              unfold cvF
              rw [if_pos rfl, h.ht i1]
              rcases and01 (J 54 26 >>> (nI i &&& 31)) with z | z
              · rw [z]; decide
              · rw [z]; decide)
            rw [E183_6]
            simp only [E183_0, E183_1, E183_3, E183_4, E183_8, E183_9, E183_12, E183_13, E183_16, E183_17, E183_20, E183_21, E183_22, E183_24, E183_25, E183_26, E183_27, E183_29, E183_31, E183_32, E183_35, E183_36, E183_39, E183_41, E183_43, E183_46, E183_47, E183_50, E183_51, E183_54, E183_55, E183_56, E183_58, E183_59, E183_60, E183_61, E183_62, E183_63, E183_66, E183_68, E183_69, E183_72, E183_73, E183_76, E183_77, E183_78, E183_81, E183_83, E183_84, E183_87, E183_88, E183_91, E183_94, E183_96, E183_97, E183_100, E183_101, E183_104, E183_107, E183_108, E183_111, E183_112, E183_115, E183_118, E183_120, E183_122, E183_125, E183_126, E183_129, E183_131, E183_132, E183_133, E183_134, E183_135, E183_138, E183_140, E183_141, E183_142, E183_143, E183_144, E183_145, E183_148, E183_150, E183_152, E183_155, E183_156, E183_159, E183_161, E183_162, E183_163, E183_164, E183_166, E183_167, E183_170, E183_172, E183_173, E183_174, E183_175, E183_177, E183_178, E183_181, E183_184, E183_185, E183_188, E183_190, E183_192, E183_195, E183_196, E183_199, E183_201, E183_202, E183_205, E183_206, E183_209, E183_211, E183_212, E183_213, E183_214, E183_215, E183_218, E183_221, E183_222, E183_225, E183_227, E183_228, E183_229, E183_231, E183_232, E183_235, E183_237, E183_238, E183_239, E183_240, E183_241, E183_244, E183_246, E183_247, E183_250, E183_251, E183_254, E183_257, E183_259, E183_262, E183_263, E183_266, E183_267, E183_270, E183_271, E183_272, isc hS hR, pk54 hS, pk56 hS, pl56 hS, pa56 hS, pi56 hS, pk64 hS, pl64 hS, pa64 hS, pi64 hS, pk67 hS, pl67 hS, pa67 hS, pi67 hS, pr54_3 hR, pr54_23 hR, pr54_44 hR, rfs, rfn, cs0, csi, csl, csr, csn, kti, ktl, ktr, ktn, ktv, ktf, true_and, and_true, and_self, ↓reduceIte, Nat.reduceAdd, Nat.reduceSub, Nat.reduceMul, Nat.reduceLT, Nat.reduceLeDiff, Nat.reduceEqDiff, true_or, or_true, false_or, or_false, not_true_eq_false, not_false_eq_true, reduceCtorEq, cmp_lt, cmp_gt, cmp_eq, Int32.reduceAdd, Int32.reduceSub, Int32.reduceMul, Int32.reduceLT, Int32.reduceToNatClampNeg, eq_self, ne_eq, Int64.reduceAdd, Int64.reduceSub, Int64.reduceMul, Int64.reduceLT, e1, e2, a0, b0, hop, p1, q7, q8, en, a3, b3, hs1, nI_1, pt, j56, g', bI_t, n1_0, a5, b5, q9]
            exact r _ _
    · have ob : Bin x.1 := o1
      obtain ⟨f1, f2, f3⟩ := ob.f
      have h7 := ob.wv
      have h4 : cM x < -4 := Int32.lt_trans h7 (by decide)
      obtain ⟨c2, c1, s, rfl⟩ : ∃ c2 c1 s, st = c2 :: c1 :: s := by
        match st, (he1 h4).2 h7 with
        | c2 :: c1 :: s, _ => exact ⟨c2, c1, s, rfl⟩
        | [_], z => exact absurd z (by show ¬ 2 ≤ 1; omega)
        | [], z => exact absurd z (by show ¬ 2 ≤ 0; omega)
      have hs2 : J1 67 (s.length + 1) = c2 := hs.1
      have hs1 : J1 67 s.length = c1 := hs.2.1
      have hl2 : s.length + 1 + 1 + (l.length + 1) ≤ 400 := hl'
      have a3 : inb (nI s.length) 400 = True := inb_nI (by omega) (by decide)
      have b3 : (nI s.length).toNatClampNeg = s.length := nI_clamp (by omega)
      have a4 : inb (nI (s.length + 1)) 400 = True := inb_nI (by omega) (by decide)
      have b4 : (nI (s.length + 1)).toNatClampNeg = s.length + 1 := nI_clamp (by omega)
      have en : nI (c2 :: c1 :: s).length = nI (s.length + 1 + 1) := rfl
      have p1 : ((4 : Int32) < x.1) = True := eq_true f1
      have p3 : (x.1 < 32) = True := eq_true f3
      have r := fun y6 y7 => key (put J1 67 s.length (jnF (cM x) c1 c2)) (jnF (cM x) c1 c2 :: s) y6 y7 (stv_b h7) ⟨pt_s, hs.2.2.cg (fun k hk => pt_f (by omega))⟩ (by show s.length + 1 ≤ s.length + 1 + 1 + 1; omega) (fr _ _)
      rw [E183_6, en]
      simp only [E183_0, E183_1, E183_3, E183_4, E183_8, E183_9, E183_12, E183_13, E183_16, E183_17, E183_20, E183_21, E183_22, E183_24, E183_25, E183_26, E183_27, E183_29, E183_31, E183_32, E183_35, E183_36, E183_39, E183_41, E183_43, E183_46, E183_47, E183_50, E183_51, E183_54, E183_55, E183_56, E183_58, E183_59, E183_60, E183_61, E183_62, E183_63, E183_66, E183_68, E183_69, E183_72, E183_73, E183_76, E183_77, E183_78, E183_81, E183_83, E183_84, E183_87, E183_88, E183_91, E183_94, E183_96, E183_97, E183_100, E183_101, E183_104, E183_107, E183_108, E183_111, E183_112, E183_115, E183_118, E183_120, E183_122, E183_125, E183_126, E183_129, E183_131, E183_132, E183_133, E183_134, E183_135, E183_138, E183_140, E183_141, E183_142, E183_143, E183_144, E183_145, E183_148, E183_150, E183_152, E183_155, E183_156, E183_159, E183_161, E183_162, E183_163, E183_164, E183_166, E183_167, E183_170, E183_172, E183_173, E183_174, E183_175, E183_177, E183_178, E183_181, E183_184, E183_185, E183_188, E183_190, E183_192, E183_195, E183_196, E183_199, E183_201, E183_202, E183_205, E183_206, E183_209, E183_211, E183_212, E183_213, E183_214, E183_215, E183_218, E183_221, E183_222, E183_225, E183_227, E183_228, E183_229, E183_231, E183_232, E183_235, E183_237, E183_238, E183_239, E183_240, E183_241, E183_244, E183_246, E183_247, E183_250, E183_251, E183_254, E183_257, E183_259, E183_262, E183_263, E183_266, E183_267, E183_270, E183_271, E183_272, mjE ob, pk54 hS, pk56 hS, pl56 hS, pa56 hS, pi56 hS, pk67 hS, pl67 hS, pa67 hS, pi67 hS, pr54_3 hR, pr54_44 hR, rfs, rfn, cs0, csi, csl, csr, csn, kti, ktl, ktr, ktn, ktv, ktf, true_and, and_true, and_self, ↓reduceIte, Nat.reduceAdd, Nat.reduceSub, Nat.reduceMul, Nat.reduceLT, Nat.reduceLeDiff, Nat.reduceEqDiff, true_or, or_true, false_or, or_false, not_true_eq_false, not_false_eq_true, reduceCtorEq, cmp_lt, cmp_gt, cmp_eq, Int32.reduceAdd, Int32.reduceSub, Int32.reduceMul, Int32.reduceLT, Int32.reduceToNatClampNeg, eq_self, ne_eq, Int64.reduceAdd, Int64.reduceSub, Int64.reduceMul, Int64.reduceLT, e1, e2, a0, b0, hop, p1, f2, p3, nI_a1, nI_m1, a3, b3, a4, b4, hs1, hs2, nI_1, pt]
      exact r _ _
theorem rckJ {t a b : Nat} {v : Int32} {l : List (Int32 × Int32)} (hS : Pm S) (hR : Pr R) (h : SR u w C J) (ht : t ≤ 7060) (hb : b ≤ 400) (hd : RdC (fun j => J 56 (t + j)) a b l) (hok : ∀ y, y ∈ l → Okq y) (he : evP (pvF C u) (cvF C u) (rCM l) []) (hv : evX (pvF C u) (cvF C u) (rCM l) [] = [v]) (hq : ∀ J', (∀ a, ¬ a = 67 → J' a = J a) → Q (.int v) S J' L R) : EvM (d + 3) 183 [.ref 54, .int (nI t), .int (nI a), .int (nI b)] S J L R Q := by
  have hl := hd.1
  simp only [M183, E183_0, E183_1, E183_3, E183_4, E183_8, E183_9, E183_12, E183_13, E183_16, E183_17, E183_20, E183_21, E183_22, E183_24, E183_25, E183_26, E183_27, E183_29, E183_31, E183_32, E183_35, E183_36, E183_39, E183_41, E183_43, E183_46, E183_47, E183_50, E183_51, E183_54, E183_55, E183_56, E183_58, E183_59, E183_60, E183_61, E183_62, E183_63, E183_66, E183_68, E183_69, E183_72, E183_73, E183_76, E183_77, E183_78, E183_81, E183_83, E183_84, E183_87, E183_88, E183_91, E183_94, E183_96, E183_97, E183_100, E183_101, E183_104, E183_107, E183_108, E183_111, E183_112, E183_115, E183_118, E183_120, E183_122, E183_125, E183_126, E183_129, E183_131, E183_132, E183_133, E183_134, E183_135, E183_138, E183_140, E183_141, E183_142, E183_143, E183_144, E183_145, E183_148, E183_150, E183_152, E183_155, E183_156, E183_159, E183_161, E183_162, E183_163, E183_164, E183_166, E183_167, E183_170, E183_172, E183_173, E183_174, E183_175, E183_177, E183_178, E183_181, E183_184, E183_185, E183_188, E183_190, E183_192, E183_195, E183_196, E183_199, E183_201, E183_202, E183_205, E183_206, E183_209, E183_211, E183_212, E183_213, E183_214, E183_215, E183_218, E183_221, E183_222, E183_225, E183_227, E183_228, E183_229, E183_231, E183_232, E183_235, E183_237, E183_238, E183_239, E183_240, E183_241, E183_244, E183_246, E183_247, E183_250, E183_251, E183_254, E183_257, E183_259, E183_262, E183_263, E183_266, E183_267, E183_270, E183_271, E183_272, rfs, rfn, cs0, csi, csl, csr, csn, kti, ktl, ktr, ktn, ktv, ktf, true_and, and_true, and_self, ↓reduceIte, Nat.reduceAdd, Nat.reduceSub, Nat.reduceMul, Nat.reduceLT, Nat.reduceLeDiff, Nat.reduceEqDiff, true_or, or_true, false_or, or_false, not_true_eq_false, not_false_eq_true, reduceCtorEq, cmp_lt, cmp_gt, cmp_eq, Int32.reduceAdd, Int32.reduceSub, Int32.reduceMul, Int32.reduceLT, Int32.reduceToNatClampNeg, eq_self, ne_eq, Int64.reduceAdd, Int64.reduceSub, Int64.reduceMul, Int64.reduceLT]
  exact rkJ (d := d) hS hR h ht hb l a [] J _ _ hd hok he trivial (by show 0 + l.length ≤ 400; omega) (fun _ _ => rfl) hv hq
end VAM
