/-! group B: the STEPS, a whole TEXT, exactly -/
def rRes (N s : Nat) (C : mI) : mI × Bool := if seeB C (-1) = true then (C, true) else unL N s (takF C (-159))
theorem unL_f {x : Int32} (hx : ¬ x = -1) {C : mI} (h : Fl x C) : ∀ N s, (unL N s C).2 = false ∧ (unL N s C).1 14 5 = x
  | 0, s => ⟨rfl, (Fl.cl hx).fa h⟩
  | N + 1, s => by
    have e : unL (N + 1) s C = (faiF C, false) := if_neg (fun z => hx (h.symm.trans z))
    rw [e]
    exact ⟨rfl, (Fl.cl hx).fa h⟩
theorem rRes_f {x : Int32} (hx : ¬ x = -1) {C : mI} (h : Fl x C) (N s : Nat) : (rRes N s C).2 = false ∧ (rRes N s C).1 14 5 = x := by
  have e : rRes N s C = unL N s (takF C (-159)) := if_neg (fun z => by
    have g : rokB C = true ∧ tok C = -1 := of_decide_eq_true z
    exact hx (h.symm.trans (rok_is g.1).1))
  rw [e]
  exact unL_f hx ((Fl.cl hx).ta h) N s
theorem unL_s {N s : Nat} {C : mI} (h : C 14 5 = -1) : unL (N + 1) s C = rRes N (s + 1) (rsF C s) := if_pos h
theorem rsF_4 {C : mI} {s i n c m : Nat} {T P : Nat → Int32} (hC : Cst T P m C i n 0 c) (hT : TkO T P m) (h : ¬ rsF C s 14 5 = P i) : rsF C s 14 4 = nI (s + 1) := by
  by_cases q : stw (T i) = -1
  · exact absurd (rsF_n hC hT q) h
  · rw [rsF_y hC hT q]
    unfold rs5
    exact pt_s
def StA (C J : mI) (c nc s : Nat) : Prop := (0 < s → C 16 s = nI c) ∧ ∀ s', s' < s → StM C J c nc s'
/-- one STEP's code in a RECIPE's rows: class's kinds, starts, code; ρ the reference's row from the TEXT's first place on -/
def RdC (ρ : Nat → Int32) (a b : Nat) (l : List (Int32 × Int32)) : Prop := b = a + l.length ∧ ∀ k x, l[k]? = some x → ρ (180 + 2 * (a + k)) = x.1 ∧ ρ (181 + 2 * (a + k)) = x.2
def TxS (kd st cd ρ : Nat → Int32) (s : Nat) : Prop := ∃ (x y f1 f2 f3 f4 : Nat) (l1 l2 l3 : List (Int32 × Int32)), st s = nI x ∧ st (s + 1) = nI y ∧ x ≤ y ∧ y ≤ 400 ∧ ρ (10 + 10 * s) = kd s ∧ ρ (11 + 10 * s) = nI f1 ∧ ρ (12 + 10 * s) = nI f2 ∧ ρ (13 + 10 * s) = nI f3 ∧ ρ (14 + 10 * s) = nI f4 ∧ f4 ≤ 400 ∧ RdC ρ f1 f2 l1 ∧ RdC ρ f2 f3 l2 ∧ RdC ρ f3 f4 l3 ∧ ¬ kd s < 0 ∧ ¬ 5 < kd s ∧ StR (kd s) (ρ (17 + 10 * s)) l1 l2 l3 (sgc cd x (y - x))
def TxR (kd st cd ρ : Nat → Int32) (ns : Nat) : Prop := ∀ s, s < ns → TxS kd st cd ρ s
theorem RdC.le {ρ : Nat → Int32} {a b : Nat} {l : List (Int32 × Int32)} (h : RdC ρ a b l) : a ≤ b := by
  have := h.1
  omega
theorem TxS.cg {kd st cd ρ kd' st' cd' ρ' : Nat → Int32} {s : Nat} (h : TxS kd st cd ρ s) (hs : s < 16) (e1 : kd' s = kd s) (e2 : ∀ k, k ≤ s + 1 → st' k = st k) (e3 : ∀ x y, st s = nI x → st (s + 1) = nI y → x ≤ y → y ≤ 400 → ∀ k, k < y → cd' k = cd k) (e4 : ∀ k, k < 1000 → ρ' k = ρ k) : TxS kd' st' cd' ρ' s := by
  obtain ⟨x, y, f1, f2, f3, f4, l1, l2, l3, a1, a2, a3, a4, b0, b1, b2, b3, b4, b5, r1, r2, r3, g1, g2, sr⟩ := h
  have q1 := r1.le
  have q2 := r2.le
  have q3 := r3.le
  have rg : ∀ {a b : Nat} {l : List (Int32 × Int32)}, b ≤ 400 → RdC ρ a b l → RdC ρ' a b l := fun {a b l} hb h => by
    refine ⟨h.1, fun k x hx => ?_⟩
    have hk : k < l.length := by
      refine Classical.byContradiction (fun z => ?_)
      rw [List.getElem?_eq_none (by omega)] at hx
      cases hx
    have hl := h.1
    rw [e4 _ (by omega), e4 _ (by omega)]
    exact h.2 k x hx
  refine ⟨x, y, f1, f2, f3, f4, l1, l2, l3, (e2 s (by omega)).trans a1, (e2 (s + 1) (by omega)).trans a2, a3, a4, ?_, ?_, ?_, ?_, ?_, b5, rg (by omega) r1, rg (by omega) r2, rg (by omega) r3, by rw [e1]; exact g1, by rw [e1]; exact g2, ?_⟩
  · rw [e4 _ (by omega), e1]; exact b0
  · rw [e4 _ (by omega)]; exact b1
  · rw [e4 _ (by omega)]; exact b2
  · rw [e4 _ (by omega)]; exact b3
  · rw [e4 _ (by omega)]; exact b4
  · rw [e4 _ (by omega), e1]
    have e : sgc cd' x (y - x) = sgc cd x (y - x) := sgc_cg (fun j h1 h2 => e3 x y a1 a2 a3 a4 j (by omega))
    rw [e]
    exact sr
theorem StM.tx {C J : mI} {c nc s : Nat} {ρ : Nat → Int32} (h : StM C J c nc s) (hc : c ≤ 400) (hn : nc ≤ 400) (e63 : ∀ j, j < 10 → ρ (10 + 10 * s + j) = J 63 (10 * s + j)) (e60 : ∀ k, k < nc → ρ (180 + 2 * k) = J 60 k ∧ ρ (181 + 2 * k) = J 61 k) : TxS (C 17) (C 16) (C 15) ρ s := by
  obtain ⟨x, y, f1, f2, f3, f4, l1, l2, l3, a1, a2, a3, a4, b0, b1, b2, b3, b4, b5, r1, r2, r3, g1, g2, sr⟩ := h
  have q1 := r1.le
  have q2 := r2.le
  have q3 := r3.le
  have rg : ∀ {a b : Nat} {l : List (Int32 × Int32)}, b ≤ nc → RdJ J a b l → RdC ρ a b l := fun {a b l} hb h => by
    refine ⟨h.1, fun k x hx => ?_⟩
    have hk : k < l.length := by
      refine Classical.byContradiction (fun z => ?_)
      rw [List.getElem?_eq_none (by omega)] at hx
      cases hx
    have hl := h.1
    obtain ⟨u1, u2⟩ := e60 (a + k) (by omega)
    rw [u1, u2]
    exact h.2 k x hx
  refine ⟨x, y, f1, f2, f3, f4, l1, l2, l3, a1, a2, a3, by omega, ?_, ?_, ?_, ?_, ?_, by omega, rg (by omega) r1, rg (by omega) r2, rg (by omega) r3, g1, g2, ?_⟩
  · have := e63 0 (by omega); rw [Nat.add_zero, Nat.add_zero] at this; rw [this]; exact b0
  · have := e63 1 (by omega); rw [show 11 + 10 * s = 10 + 10 * s + 1 by omega, this]; exact b1
  · have := e63 2 (by omega); rw [show 12 + 10 * s = 10 + 10 * s + 2 by omega, this]; exact b2
  · have := e63 3 (by omega); rw [show 13 + 10 * s = 10 + 10 * s + 3 by omega, this]; exact b3
  · have := e63 4 (by omega); rw [show 14 + 10 * s = 10 + 10 * s + 4 by omega, this]; exact b4
  · have := e63 7 (by omega); rw [show 17 + 10 * s = 10 + 10 * s + 7 by omega, this]; exact sr
/-- the code is laid into the row, both ints of each place -/
theorem rc2C {d w nc : Nat} {S : mS} {L : mL} {R : mR} {Q : mQ} (hS : Pm S) (hR : Pr R) (hw : w < 8) (hn : nc ≤ 400) : ∀ (q k : Nat) (I : mI), k + q = nc → I 54 15 = nI nc → (∀ J : mI, (∀ a, ¬ a = 56 → J a = I a) → (∀ m, (m < 60 + 1000 * w + (180 + 2 * k) ∨ 60 + 1000 * w + (180 + 2 * nc) ≤ m) → J 56 m = I 56 m) → (∀ j, k ≤ j → j < nc → J 56 (60 + 1000 * w + (180 + 2 * j)) = I 60 j ∧ J 56 (60 + 1000 * w + (181 + 2 * j)) = I 61 j) → Ev (d + 1) 181 233 [.ref 54, .int (nI (60 + 1000 * w)), .int (nI nc)] [] S J L R Q) → Ev (d + 1) 181 177 [.ref 54, .int (nI (60 + 1000 * w)), .int (nI k)] [] S I L R Q := by
  intro q
  induction q with
  | zero =>
    intro k I hk e15 h
    obtain rfl : k = nc := by omega
    have e1 : (nI k < nI k) = False := eq_false (nI_nlt (by omega) (by omega))
    simp only [E181_177, E181_178, E181_179, E181_182, pk54 hS, rfs, rfn, cs0, csi, csl, csr, csn, kti, ktl, ktr, ktn, ktv, ktf, true_and, and_true, and_self, ↓reduceIte, Nat.reduceAdd, Nat.reduceSub, Nat.reduceMul, Nat.reduceLT, Nat.reduceLeDiff, Nat.reduceEqDiff, true_or, or_true, false_or, or_false, not_true_eq_false, not_false_eq_true, reduceCtorEq, cmp_lt, cmp_gt, cmp_eq, Int32.reduceAdd, Int32.reduceSub, Int32.reduceMul, Int32.reduceLT, Int32.reduceToNatClampNeg, eq_self, ne_eq, Int64.reduceAdd, Int64.reduceSub, Int64.reduceMul, Int64.reduceLT, e15, e1]
    exact h I (fun _ _ => rfl) (fun _ _ => rfl) (fun j h1 h2 => absurd h2 (by omega))
  | succ q ih =>
    intro k I hk e15 h
    have e1 : (nI k < nI nc) = True := eq_true (nI_lt (by omega) (by omega))
    have p1 : nI (60 + 1000 * w) + 180 + 2 * nI k = nI (60 + 1000 * w + (180 + 2 * k)) := by rw [show (180 : Int32) = nI 180 from rfl, show (2 : Int32) = nI 2 from rfl, pk_mul, nI_add, nI_add, Nat.add_assoc]
    have a1 : inb (nI (60 + 1000 * w + (180 + 2 * k))) 8060 = True := inb_nI (by omega) (by decide)
    have b1 : (nI (60 + 1000 * w + (180 + 2 * k))).toNatClampNeg = 60 + 1000 * w + (180 + 2 * k) := nI_clamp (by omega)
    have a3 : inb (nI (60 + 1000 * w + (180 + 2 * k) + 1)) 8060 = True := inb_nI (by omega) (by decide)
    have b3 : (nI (60 + 1000 * w + (180 + 2 * k) + 1)).toNatClampNeg = 60 + 1000 * w + (180 + 2 * k) + 1 := nI_clamp (by omega)
    have a2 : inb (nI k) 400 = True := inb_nI (by omega) (by decide)
    have b2 : (nI k).toNatClampNeg = k := nI_clamp (by omega)
    rw [E181_177]
    simp only [E181_178, E181_179, E181_182, E181_185, E181_186, E181_189, E181_190, E181_193, E181_194, E181_195, E181_196, E181_197, E181_198, E181_199, E181_202, E181_203, E181_204, E181_205, E181_206, E181_209, E181_210, E181_213, E181_214, E181_215, E181_216, E181_217, E181_218, E181_219, E181_220, E181_221, E181_224, E181_225, E181_226, E181_227, E181_230, pk54 hS, pk56 hS, pl56 hS, pa56 hS, pi56 hS, pk60 hS, pl60 hS, pa60 hS, pi60 hS, pk61 hS, pl61 hS, pa61 hS, pi61 hS, pr54_3 hR, pr54_16 hR, pr54_17 hR, rfs, rfn, cs0, csi, csl, csr, csn, kti, ktl, ktr, ktn, ktv, ktf, true_and, and_true, and_self, ↓reduceIte, Nat.reduceAdd, Nat.reduceSub, Nat.reduceMul, Nat.reduceLT, Nat.reduceLeDiff, Nat.reduceEqDiff, true_or, or_true, false_or, or_false, not_true_eq_false, not_false_eq_true, reduceCtorEq, cmp_lt, cmp_gt, cmp_eq, Int32.reduceAdd, Int32.reduceSub, Int32.reduceMul, Int32.reduceLT, Int32.reduceToNatClampNeg, eq_self, ne_eq, Int64.reduceAdd, Int64.reduceSub, Int64.reduceMul, Int64.reduceLT, e15, e1, p1, a1, b1, a2, b2, a3, b3, nI_1, pt, pt_m]
    refine ih (k + 1) _ (by omega) (by rw [pt_m (by decide), pt_m (by decide)]; exact e15) (fun J h1 h2 h3 => h J (fun a ha => by rw [h1 a ha, pt_n ha, pt_n ha]) (fun m hm => ?_) (fun j j1 j2 => ?_))
    · rw [h2 m (by omega), pt_f (by omega), pt_f (by omega)]
    · by_cases g : j = k
      · subst g
        refine ⟨?_, ?_⟩
        · rw [h2 _ (by omega), pt_f (by omega), pt_s]
        · rw [h2 _ (by omega), show 60 + 1000 * w + (181 + 2 * j) = 60 + 1000 * w + (180 + 2 * j) + 1 by omega, pt_s]
      · obtain ⟨u1, u2⟩ := h3 j (by omega) j2
        rw [u1, u2]
        exact ⟨by rw [pt_m (by decide), pt_m (by decide)], by rw [pt_m (by decide), pt_m (by decide)]⟩
section RY
variable {d n m : Nat} {X I0 : mI} {Y T P : Nat → Int32} {p : Nat → Nat} {S : mS} {I : mI} {L : mL} {R : mR} {Q : mQ}
def rOut (X : mI) (Y T P : Nat → Int32) (n m : Nat) (p : Nat → Nat) (I0 : mI) (U : mI × Bool) (J : mI) (L : mL) : Prop := Fy I0 J ∧ ((∃ i nP s κ c, U.2 = true ∧ U.1 14 5 = -1 ∧ U.1 14 4 = nI s ∧ s ≤ 16 ∧ T i = -1 ∧ SsS X Y T P n m p J L i nP s κ ∧ StA U.1 J c κ.length s ∧ c ≤ 400 ∧ U.1 14 1 = nI c) ∨ (∃ j, j ≤ m ∧ U.2 = false ∧ U.1 14 5 = P j ∧ J 54 13 = 1 ∧ J 54 12 = P j) ∨ (∃ i nP s κ, U.2 = false ∧ U.1 14 5 = P i ∧ ¬ T i = -1 ∧ SsS X Y T P n m p J L i nP s κ))
theorem rlE {y1 y2 : Value} (hS : Pm S) (hR : Pr R) (hK : Tks X Y T P n m p) (hT : TkO T P m) : ∀ (N s : Nat) (C : mI) (i nP c : Nat) (κ : List (Int32 × Int32)) (I : mI) (L : mL), s + N = 16 → Cst T P m C i nP 0 c → C 14 4 = nI s → SsS X Y T P n m p I L i nP s κ → StA C I c κ.length s → Fy I0 I → (∀ J L', rOut X Y T P n m p I0 (rRes N s C) J L' → Ev (d + 9) 181 78 [.ref 54, y1, y2] [] S J L' R Q) → Ev (d + 9) 181 51 [.ref 54, y1, y2] [] S I L R Q := by
  intro N
  induction N with
  | zero =>
    intro s C i nP c κ I L hN hC h4 h hA hF hq
    have hc400 : c ≤ 400 := by
      have := hC.le
      have := hT.1
      omega
    obtain rfl : s = 16 := by omega
    obtain ⟨hE, e22⟩ := id h
    have e13 := hE.2.1
    have em : i ≤ m := hE.2.2.2.2.2.1
    have g59 := hE.1.sg (x := 59) (c := 59) (by decide) rfl
    by_cases q : T i = -1
    · rw [decide_eq_false (by rw [q]; decide)] at g59
      have eR : rRes 0 16 C = (C, true) := if_pos (hC.sy hT q)
      rw [eR] at hq
      simp only [E181_51, E181_52, E181_55, E181_58, E181_59, E181_61, E181_64, isg hS, pk54 hS, rfs, rfn, cs0, csi, csl, csr, csn, kti, ktl, ktr, ktn, ktv, ktf, true_and, and_true, and_self, ↓reduceIte, Nat.reduceAdd, Nat.reduceSub, Nat.reduceMul, Nat.reduceLT, Nat.reduceLeDiff, Nat.reduceEqDiff, true_or, or_true, false_or, or_false, not_true_eq_false, not_false_eq_true, reduceCtorEq, cmp_lt, cmp_gt, cmp_eq, Int32.reduceAdd, Int32.reduceSub, Int32.reduceMul, Int32.reduceLT, Int32.reduceToNatClampNeg, eq_self, ne_eq, Int64.reduceAdd, Int64.reduceSub, Int64.reduceMul, Int64.reduceLT, e13, bI_f, g59]
      exact hq I L ⟨hF, Or.inl ⟨i, nP, 16, κ, c, rfl, hC.2.2.1, h4, Nat.le_refl _, q, h, hA, hc400, hC.2.2.2.2.2.2.1⟩⟩
    · have eR : rRes 0 16 C = unL 0 16 (takF C (-159)) := if_neg (hC.sn hT q)
      by_cases q9 : T i = -159
      · rw [decide_eq_true (show T i = -100 - 59 by rw [q9]; decide)] at g59
        have hi : i < m := hE.lt hK q
        rw [hC.ty hT q9] at eR
        simp only [E181_51, E181_52, E181_55, E181_58, E181_59, E181_61, E181_64, E181_67, E181_68, isg hS, pk54 hS, rfs, rfn, cs0, csi, csl, csr, csn, kti, ktl, ktr, ktn, ktv, ktf, true_and, and_true, and_self, ↓reduceIte, Nat.reduceAdd, Nat.reduceSub, Nat.reduceMul, Nat.reduceLT, Nat.reduceLeDiff, Nat.reduceEqDiff, true_or, or_true, false_or, or_false, not_true_eq_false, not_false_eq_true, reduceCtorEq, cmp_lt, cmp_gt, cmp_eq, Int32.reduceAdd, Int32.reduceSub, Int32.reduceMul, Int32.reduceLT, Int32.reduceToNatClampNeg, eq_self, ne_eq, Int64.reduceAdd, Int64.reduceSub, Int64.reduceMul, Int64.reduceLT, e13, bI_t, n1_0, g59]
        refine nxT_E hS hR hK hi hE.1 (fun J L' k1 k2 => ?_)
        simp only [E181_68, E181_71, E181_72, pk54 hS, rfs, rfn, cs0, csi, csl, csr, csn, kti, ktl, ktr, ktn, ktv, ktf, true_and, and_true, and_self, ↓reduceIte, Nat.reduceAdd, Nat.reduceSub, Nat.reduceMul, Nat.reduceLT, Nat.reduceLeDiff, Nat.reduceEqDiff, true_or, or_true, false_or, or_false, not_true_eq_false, not_false_eq_true, reduceCtorEq, cmp_lt, cmp_gt, cmp_eq, Int32.reduceAdd, Int32.reduceSub, Int32.reduceMul, Int32.reduceLT, Int32.reduceToNatClampNeg, eq_self, ne_eq, Int64.reduceAdd, Int64.reduceSub, Int64.reduceMul, Int64.reduceLT]
        have j := hE.nx k2 k1 (Nat.le_succ i) hi
        refine stE16 (d := d) hS hR ⟨j, (k2.2 22 (by decide)).trans e22⟩ (fun J2 w1 w2 w3 => ?_)
        simp only [E181_72, E181_75, rfs, rfn, cs0, csi, csl, csr, csn, kti, ktl, ktr, ktn, ktv, ktf, true_and, and_true, and_self, ↓reduceIte, Nat.reduceAdd, Nat.reduceSub, Nat.reduceMul, Nat.reduceLT, Nat.reduceLeDiff, Nat.reduceEqDiff, true_or, or_true, false_or, or_false, not_true_eq_false, not_false_eq_true, reduceCtorEq, cmp_lt, cmp_gt, cmp_eq, Int32.reduceAdd, Int32.reduceSub, Int32.reduceMul, Int32.reduceLT, Int32.reduceToNatClampNeg, eq_self, ne_eq, Int64.reduceAdd, Int64.reduceSub, Int64.reduceMul, Int64.reduceLT]
        simp only [E181_51, E181_52, E181_55, pk54 hS, rfs, rfn, cs0, csi, csl, csr, csn, kti, ktl, ktr, ktn, ktv, ktf, true_and, and_true, and_self, ↓reduceIte, Nat.reduceAdd, Nat.reduceSub, Nat.reduceMul, Nat.reduceLT, Nat.reduceLeDiff, Nat.reduceEqDiff, true_or, or_true, false_or, or_false, not_true_eq_false, not_false_eq_true, reduceCtorEq, cmp_lt, cmp_gt, cmp_eq, Int32.reduceAdd, Int32.reduceSub, Int32.reduceMul, Int32.reduceLT, Int32.reduceToNatClampNeg, eq_self, ne_eq, Int64.reduceAdd, Int64.reduceSub, Int64.reduceMul, Int64.reduceLT, w1, n1_0]
        refine hq J2 L' ⟨(hF.tr k2.m.y).tr w3, Or.inr (Or.inl ⟨i + 1, hi, ?_, ?_, w1, w2⟩)⟩
        · rw [eR]; rfl
        · rw [eR]
          exact (hC.ad hT q).fa hT
      · rw [decide_eq_false (fun z => q9 (z.trans (by decide)))] at g59
        simp only [E181_51, E181_52, E181_55, E181_58, E181_59, E181_61, E181_64, isg hS, pk54 hS, rfs, rfn, cs0, csi, csl, csr, csn, kti, ktl, ktr, ktn, ktv, ktf, true_and, and_true, and_self, ↓reduceIte, Nat.reduceAdd, Nat.reduceSub, Nat.reduceMul, Nat.reduceLT, Nat.reduceLeDiff, Nat.reduceEqDiff, true_or, or_true, false_or, or_false, not_true_eq_false, not_false_eq_true, reduceCtorEq, cmp_lt, cmp_gt, cmp_eq, Int32.reduceAdd, Int32.reduceSub, Int32.reduceMul, Int32.reduceLT, Int32.reduceToNatClampNeg, eq_self, ne_eq, Int64.reduceAdd, Int64.reduceSub, Int64.reduceMul, Int64.reduceLT, e13, bI_f, g59]
        have u := unL_f (hT.2.2.2 i em) (C := takF C (-159)) (hC.tn hT q9) 0 16
        rw [← eR] at u
        exact hq I L ⟨hF, Or.inr (Or.inr ⟨i, nP, 16, κ, u.1, u.2, q, h⟩)⟩
  | succ N ih =>
    intro s C i nP c κ I L hN hC h4 h hA hF hq
    have hc400 : c ≤ 400 := by
      have := hC.le
      have := hT.1
      omega
    obtain ⟨hE, e22⟩ := id h
    have e13 := hE.2.1
    have em : i ≤ m := hE.2.2.2.2.2.1
    have g59 := hE.1.sg (x := 59) (c := 59) (by decide) rfl
    by_cases q : T i = -1
    · rw [decide_eq_false (by rw [q]; decide)] at g59
      have eR : rRes (N + 1) s C = (C, true) := if_pos (hC.sy hT q)
      rw [eR] at hq
      simp only [E181_51, E181_52, E181_55, E181_58, E181_59, E181_61, E181_64, isg hS, pk54 hS, rfs, rfn, cs0, csi, csl, csr, csn, kti, ktl, ktr, ktn, ktv, ktf, true_and, and_true, and_self, ↓reduceIte, Nat.reduceAdd, Nat.reduceSub, Nat.reduceMul, Nat.reduceLT, Nat.reduceLeDiff, Nat.reduceEqDiff, true_or, or_true, false_or, or_false, not_true_eq_false, not_false_eq_true, reduceCtorEq, cmp_lt, cmp_gt, cmp_eq, Int32.reduceAdd, Int32.reduceSub, Int32.reduceMul, Int32.reduceLT, Int32.reduceToNatClampNeg, eq_self, ne_eq, Int64.reduceAdd, Int64.reduceSub, Int64.reduceMul, Int64.reduceLT, e13, bI_f, g59]
      exact hq I L ⟨hF, Or.inl ⟨i, nP, s, κ, c, rfl, hC.2.2.1, h4, by omega, q, h, hA, hc400, hC.2.2.2.2.2.2.1⟩⟩
    · have eR : rRes (N + 1) s C = unL (N + 1) s (takF C (-159)) := if_neg (hC.sn hT q)
      by_cases q9 : T i = -159
      · rw [decide_eq_true (show T i = -100 - 59 by rw [q9]; decide)] at g59
        have hi : i < m := hE.lt hK q
        have ca := hC.ad hT q
        rw [hC.ty hT q9, unL_s ca.2.2.1] at eR
        rw [eR] at hq
        simp only [E181_51, E181_52, E181_55, E181_58, E181_59, E181_61, E181_64, E181_67, E181_68, isg hS, pk54 hS, rfs, rfn, cs0, csi, csl, csr, csn, kti, ktl, ktr, ktn, ktv, ktf, true_and, and_true, and_self, ↓reduceIte, Nat.reduceAdd, Nat.reduceSub, Nat.reduceMul, Nat.reduceLT, Nat.reduceLeDiff, Nat.reduceEqDiff, true_or, or_true, false_or, or_false, not_true_eq_false, not_false_eq_true, reduceCtorEq, cmp_lt, cmp_gt, cmp_eq, Int32.reduceAdd, Int32.reduceSub, Int32.reduceMul, Int32.reduceLT, Int32.reduceToNatClampNeg, eq_self, ne_eq, Int64.reduceAdd, Int64.reduceSub, Int64.reduceMul, Int64.reduceLT, e13, bI_t, n1_0, g59]
        refine nxT_E hS hR hK hi hE.1 (fun J L' k1 k2 => ?_)
        simp only [E181_68, E181_71, E181_72, pk54 hS, rfs, rfn, cs0, csi, csl, csr, csn, kti, ktl, ktr, ktn, ktv, ktf, true_and, and_true, and_self, ↓reduceIte, Nat.reduceAdd, Nat.reduceSub, Nat.reduceMul, Nat.reduceLT, Nat.reduceLeDiff, Nat.reduceEqDiff, true_or, or_true, false_or, or_false, not_true_eq_false, not_false_eq_true, reduceCtorEq, cmp_lt, cmp_gt, cmp_eq, Int32.reduceAdd, Int32.reduceSub, Int32.reduceMul, Int32.reduceLT, Int32.reduceToNatClampNeg, eq_self, ne_eq, Int64.reduceAdd, Int64.reduceSub, Int64.reduceMul, Int64.reduceLT]
        have j := hE.nx k2 k1 (Nat.le_succ i) hi
        refine stpE (d := d) hS hR hK hT (show s < 16 by omega) ca ⟨j, (k2.2 22 (by decide)).trans e22⟩ (fun J2 L2 i' n' c' l w1 w2 w3 w4 wc wp d1 d2 d3 d4 d63 wm => ?_) (fun J2 L2 j' w1 w2 w3 w4 w5 => ?_)
        · simp only [E181_72, E181_75, rfs, rfn, cs0, csi, csl, csr, csn, kti, ktl, ktr, ktn, ktv, ktf, true_and, and_true, and_self, ↓reduceIte, Nat.reduceAdd, Nat.reduceSub, Nat.reduceMul, Nat.reduceLT, Nat.reduceLeDiff, Nat.reduceEqDiff, true_or, or_true, false_or, or_false, not_true_eq_false, not_false_eq_true, reduceCtorEq, cmp_lt, cmp_gt, cmp_eq, Int32.reduceAdd, Int32.reduceSub, Int32.reduceMul, Int32.reduceLT, Int32.reduceToNatClampNeg, eq_self, ne_eq, Int64.reduceAdd, Int64.reduceSub, Int64.reduceMul, Int64.reduceLT]
          refine ih (s + 1) _ i' n' c' _ J2 L2 (by omega) w1 (rsF_4 ca hT (fun z => hT.2.2.2 (i + 1) hi (z.symm.trans w1.2.2.1))) w3 ⟨fun _ => d4, fun s' hs' => ?_⟩ ((hF.tr k2.m.y).tr w4) hq
          by_cases z : s' = s
          · subst z
            exact wm
          · have kj := j.2.2.2.2.2.2.2.kp w3.1.2.2.2.2.2.2.2
            have a16 : advF C 16 = C 16 := pt_n (by decide)
            have a17 : advF C 17 = C 17 := pt_n (by decide)
            refine (hA.2 s' (by omega)).kp wc ?_ ?_ ?_ ?_ ((Kp.e ad15).tr wp (Nat.le_refl c)) (fun k hk => ?_) (fun j j1 j2 => ?_)
            · rw [List.length_append]; omega
            · rw [d1 s' (by omega) (by omega), a16]
            · by_cases z2 : s' + 1 = s
              · rw [z2, d2]
                exact (hA.1 (by omega)).symm
              · rw [d1 (s' + 1) (by omega) (by omega), a16]
            · rw [d3 s' (by omega), a17]
            · rw [(kj k hk).1, (kj k hk).2, k2.1 60 (by decide), k2.1 61 (by decide)]
              exact ⟨rfl, rfl⟩
            · rw [d63 j (by omega), k2.1 63 (by decide)]
        · simp only [E181_72, E181_75, rfs, rfn, cs0, csi, csl, csr, csn, kti, ktl, ktr, ktn, ktv, ktf, true_and, and_true, and_self, ↓reduceIte, Nat.reduceAdd, Nat.reduceSub, Nat.reduceMul, Nat.reduceLT, Nat.reduceLeDiff, Nat.reduceEqDiff, true_or, or_true, false_or, or_false, not_true_eq_false, not_false_eq_true, reduceCtorEq, cmp_lt, cmp_gt, cmp_eq, Int32.reduceAdd, Int32.reduceSub, Int32.reduceMul, Int32.reduceLT, Int32.reduceToNatClampNeg, eq_self, ne_eq, Int64.reduceAdd, Int64.reduceSub, Int64.reduceMul, Int64.reduceLT]
          simp only [E181_51, E181_52, E181_55, pk54 hS, rfs, rfn, cs0, csi, csl, csr, csn, kti, ktl, ktr, ktn, ktv, ktf, true_and, and_true, and_self, ↓reduceIte, Nat.reduceAdd, Nat.reduceSub, Nat.reduceMul, Nat.reduceLT, Nat.reduceLeDiff, Nat.reduceEqDiff, true_or, or_true, false_or, or_false, not_true_eq_false, not_false_eq_true, reduceCtorEq, cmp_lt, cmp_gt, cmp_eq, Int32.reduceAdd, Int32.reduceSub, Int32.reduceMul, Int32.reduceLT, Int32.reduceToNatClampNeg, eq_self, ne_eq, Int64.reduceAdd, Int64.reduceSub, Int64.reduceMul, Int64.reduceLT, w3, n1_0]
          have u := rRes_f (hT.2.2.2 j' w1) (C := rsF (advF C) s) w2 N (s + 1)
          exact hq J2 L2 ⟨(hF.tr k2.m.y).tr w5, Or.inr (Or.inl ⟨j', w1, u.1, u.2, w3, w4⟩)⟩
      · rw [decide_eq_false (fun z => q9 (z.trans (by decide)))] at g59
        simp only [E181_51, E181_52, E181_55, E181_58, E181_59, E181_61, E181_64, isg hS, pk54 hS, rfs, rfn, cs0, csi, csl, csr, csn, kti, ktl, ktr, ktn, ktv, ktf, true_and, and_true, and_self, ↓reduceIte, Nat.reduceAdd, Nat.reduceSub, Nat.reduceMul, Nat.reduceLT, Nat.reduceLeDiff, Nat.reduceEqDiff, true_or, or_true, false_or, or_false, not_true_eq_false, not_false_eq_true, reduceCtorEq, cmp_lt, cmp_gt, cmp_eq, Int32.reduceAdd, Int32.reduceSub, Int32.reduceMul, Int32.reduceLT, Int32.reduceToNatClampNeg, eq_self, ne_eq, Int64.reduceAdd, Int64.reduceSub, Int64.reduceMul, Int64.reduceLT, e13, bI_f, g59]
        have u := unL_f (hT.2.2.2 i em) (C := takF C (-159)) (hC.tn hT q9) (N + 1) s
        rw [← eR] at u
        exact hq I L ⟨hF, Or.inr (Or.inr ⟨i, nP, s, κ, u.1, u.2, q, h⟩)⟩
theorem c0_ok {T P : Nat → Int32} {Z : mI} {n m : Nat} (e18 : splF (un0 Z) 13 n 18 = T) (e19 : splF (un0 Z) 13 n 19 = P) : Cst T P m (splF (un0 Z) 13 n) 0 0 0 0 := by
  have fr : ∀ k, splF (un0 Z) 13 n 14 k = un0 Z 14 k := fun k => by
    have go : ∀ N f q (J : mI), (spL 13 n N f q J).1 14 k = J 14 k := by
      intro N
      induction N with
      | zero => exact fun f q J => rfl
      | succ N ih =>
        intro f q J
        unfold spL
        split
        · split
          · exact ih _ _ _
          · rw [ih]
            unfold tkP
            rw [pt_m (by decide), pt_m (by decide)]
        · rfl
    unfold splF tkP
    rw [pt_m (by decide), pt_m (by decide)]
    exact go _ _ _ _
  refine ⟨e18, e19, ?_, ?_, ?_, ?_, ?_, by omega, by omega, by omega, by omega⟩
  all_goals rw [fr]
  all_goals unfold un0
  all_goals simp only [pt_s, pt_f, rfs, rfn, cs0, csi, csl, csr, csn, kti, ktl, ktr, ktn, ktv, ktf, true_and, and_true, and_self, ↓reduceIte, Nat.reduceAdd, Nat.reduceSub, Nat.reduceMul, Nat.reduceLT, Nat.reduceLeDiff, Nat.reduceEqDiff, true_or, or_true, false_or, or_false, not_true_eq_false, not_false_eq_true, reduceCtorEq, cmp_lt, cmp_gt, cmp_eq, Int32.reduceAdd, Int32.reduceSub, Int32.reduceMul, Int32.reduceLT, Int32.reduceToNatClampNeg, eq_self, ne_eq, Int64.reduceAdd, Int64.reduceSub, Int64.reduceMul, Int64.reduceLT]
  all_goals rfl
/-- what recipe does, beside the class's reader at the same TEXT: U -/
def rRec (I J : mI) (w : Nat) (U : mI × Bool) (v : Int32) : Prop := (w = 8 ∧ v = -5 ∧ J 56 = I 56 ∧ J 54 12 = I 54 12) ∨ (w < 8 ∧ U.2 = false ∧ v = -6 ∧ J 56 = I 56 ∧ J 54 12 = U.1 14 5) ∨ (w < 8 ∧ U.2 = true ∧ v = nI w ∧ J 54 12 = U.1 14 5 ∧ J 56 1 = nI (w + 1) ∧ J 56 (60 + 1000 * w) = U.1 14 4 ∧ (∃ s c, U.1 14 4 = nI s ∧ s ≤ 16 ∧ U.1 14 1 = nI c ∧ c ≤ 400 ∧ TxR (U.1 17) (U.1 16) (U.1 15) (fun k => J 56 (60 + 1000 * w + k)) s ∧ ∀ s', s' < s → ∃ y, U.1 16 (s' + 1) = nI y ∧ y ≤ c) ∧ ∀ k, k < 60 + 1000 * w → ¬ k = 1 → J 56 k = I 56 k)
theorem recE {w : Nat} {Z : mI} (hS : Pm S) (hR : Pr R) (hw : w ≤ 8) (e1 : I 56 1 = nI w) (hn : n ≤ 400) (e7 : I 54 7 = nI n) (hb : Byt Z (I 59) n) (hq : ∀ J L' v, rRec I J w (undF Z 13 n) v → (∃ M, (∀ k, M 55 k = I 55 k) ∧ J 55 = telF M v 55 ∧ J 54 1 = telF M v 54 1) → Q (.int v) S J L' R) : EvM (d + 9) 181 [.ref 54] S I L R Q := by
  have y1 : inb 1 8060 = True := inb_nI (j := 1) (by decide) (by decide)
  by_cases g : w = 8
  · subst g
    have e1' : I 56 1 = 8 := e1
    simp only [M181, E181_0, E181_1, E181_2, E181_5, E181_6, E181_9, E181_10, E181_11, E181_13, E181_16, E181_17, E181_18, E181_21, E181_22, E181_24, E181_27, pk54 hS, pk56 hS, pl56 hS, pa56 hS, pi56 hS, pr54_3 hR, tel5 hS hR, rfs, rfn, cs0, csi, csl, csr, csn, kti, ktl, ktr, ktn, ktv, ktf, true_and, and_true, and_self, ↓reduceIte, Nat.reduceAdd, Nat.reduceSub, Nat.reduceMul, Nat.reduceLT, Nat.reduceLeDiff, Nat.reduceEqDiff, true_or, or_true, false_or, or_false, not_true_eq_false, not_false_eq_true, reduceCtorEq, cmp_lt, cmp_gt, cmp_eq, Int32.reduceAdd, Int32.reduceSub, Int32.reduceMul, Int32.reduceLT, Int32.reduceToNatClampNeg, eq_self, ne_eq, Int64.reduceAdd, Int64.reduceSub, Int64.reduceMul, Int64.reduceLT, pt, pt_m, y1, e1']
    refine hq _ _ _ (Or.inl ⟨rfl, rfl, ?_, ?_⟩) ⟨put (put I 54 0 0) 54 7 0, fun k => by rw [pt_m (by decide), pt_m (by decide)], rfl, rfl⟩
    · rw [telF_n (by decide) (by decide), pt_n (by decide), pt_n (by decide)]
    · rw [telF_f (by decide), pt_f (by decide), pt_f (by decide)]
  have w8 : w < 8 := by omega
  have g' : (nI w = 8) = False := eq_false (fun z => g ((nI_eq (a := w) (b := 8) (by omega) (by decide)).mp z))
  obtain ⟨m, p, hK, hT⟩ := spl_ok (X := un0 Z) (Y := I 59) hn (fun k hk => by
    obtain ⟨u, u1, u2, u3⟩ := hb k hk
    exact ⟨u, u1, by rw [un0_f (by decide)]; exact u2, u3⟩)
  generalize eT : splF (un0 Z) 13 n 18 = T at hK hT
  generalize eP : splF (un0 Z) 13 n 19 = P at hK hT
  have c0 := c0_ok (m := m) eT eP
  simp only [M181, E181_0, E181_1, E181_2, E181_5, E181_6, E181_9, E181_10, E181_11, E181_13, E181_28, E181_29, pk54 hS, pk56 hS, pl56 hS, pa56 hS, pi56 hS, pr54_3 hR, rfs, rfn, cs0, csi, csl, csr, csn, kti, ktl, ktr, ktn, ktv, ktf, true_and, and_true, and_self, ↓reduceIte, Nat.reduceAdd, Nat.reduceSub, Nat.reduceMul, Nat.reduceLT, Nat.reduceLeDiff, Nat.reduceEqDiff, true_or, or_true, false_or, or_false, not_true_eq_false, not_false_eq_true, reduceCtorEq, cmp_lt, cmp_gt, cmp_eq, Int32.reduceAdd, Int32.reduceSub, Int32.reduceMul, Int32.reduceLT, Int32.reduceToNatClampNeg, eq_self, ne_eq, Int64.reduceAdd, Int64.reduceSub, Int64.reduceMul, Int64.reduceLT, pt, pt_m, y1, e1, g']
  refine bgE (Y := I 59) hS hR hK ((pt_f (by decide)).trans e7) (pt_n (by decide)) (fun J L' k1 k2 k3 k4 => ?_)
  simp only [E181_29, E181_32, E181_33, E181_34, E181_37, E181_38, E181_39, E181_42, E181_43, E181_44, E181_47, E181_48, pk54 hS, rfs, rfn, cs0, csi, csl, csr, csn, kti, ktl, ktr, ktn, ktv, ktf, true_and, and_true, and_self, ↓reduceIte, Nat.reduceAdd, Nat.reduceSub, Nat.reduceMul, Nat.reduceLT, Nat.reduceLeDiff, Nat.reduceEqDiff, true_or, or_true, false_or, or_false, not_true_eq_false, not_false_eq_true, reduceCtorEq, cmp_lt, cmp_gt, cmp_eq, Int32.reduceAdd, Int32.reduceSub, Int32.reduceMul, Int32.reduceLT, Int32.reduceToNatClampNeg, eq_self, ne_eq, Int64.reduceAdd, Int64.reduceSub, Int64.reduceMul, Int64.reduceLT, pt]
  have F0 : Fy (put I 54 0 0) (put (put (put J 54 22 0) 54 15 0) 54 14 0) := Fy.p (Fy.p (Fy.p k4.y (by decide)) (by decide)) (by decide)
  have s0 : SsS (un0 Z) (I 59) T P n m p (put (put (put J 54 22 0) 54 15 0) 54 14 0) L' 0 0 0 [] := by
    refine ⟨⟨k1.cg ?_ (fun k h1 h2 => ?_), ?_, ?_, pt_s, ⟨0, ?_, by omega, by omega⟩, by omega, by omega, ⟨?_, by decide, fun k x hx => by cases hx⟩⟩, ?_⟩
    · rw [pt_n (by decide), pt_n (by decide), pt_n (by decide)]
    · rw [pt_f (by omega), pt_f (by omega), pt_f (by omega)]
    · rw [pt_f (by decide), pt_f (by decide), pt_f (by decide)]; exact k2
    · rw [pt_f (by decide), pt_f (by decide), pt_f (by decide)]; exact k3
    · rw [pt_f (by decide), pt_s]; rfl
    · rw [pt_f (by decide), pt_s]; rfl
    · rw [pt_f (by decide), pt_f (by decide), pt_s]; rfl
  generalize put (put (put J 54 22 0) 54 15 0) 54 14 0 = K0 at F0 s0
  have eU : undF Z 13 n = rRes 15 1 (rsF (splF (un0 Z) 13 n) 0) := unL_s c0.2.2.1
  have tail : ∀ J L', rOut (un0 Z) (I 59) T P n m p (put I 54 0 0) (undF Z 13 n) J L' → Ev (d + 9) 181 78 [.ref 54, nv, nv] [] S J L' R Q := by
    intro J L' ho
    obtain ⟨FJ, ho⟩ := ho
    have J6 : J 56 = I 56 := by rw [FJ.1 56 (by decide) (by decide), pt_n (by decide)]
    have J5 : J 55 = I 55 := by rw [FJ.1 55 (by decide) (by decide), pt_n (by decide)]
    have no : ∀ (K : mI), K 54 13 = 1 → K 56 = I 56 → K 55 = I 55 → K 54 12 = (undF Z 13 n).1 14 5 → (undF Z 13 n).2 = false → Ev (d + 9) 181 96 [.ref 54, nv, nv] [] S K L' R Q := by
      intro K e13 e56 e55 e12 eb
      simp only [E181_96, E181_97, E181_98, E181_101, E181_102, E181_105, E181_108, E181_109, E181_111, E181_114, pk54 hS, tel6 hS hR, rfs, rfn, cs0, csi, csl, csr, csn, kti, ktl, ktr, ktn, ktv, ktf, true_and, and_true, and_self, ↓reduceIte, Nat.reduceAdd, Nat.reduceSub, Nat.reduceMul, Nat.reduceLT, Nat.reduceLeDiff, Nat.reduceEqDiff, true_or, or_true, false_or, or_false, not_true_eq_false, not_false_eq_true, reduceCtorEq, cmp_lt, cmp_gt, cmp_eq, Int32.reduceAdd, Int32.reduceSub, Int32.reduceMul, Int32.reduceLT, Int32.reduceToNatClampNeg, eq_self, ne_eq, Int64.reduceAdd, Int64.reduceSub, Int64.reduceMul, Int64.reduceLT, pt, pt_f, e13, n1_0]
      refine hq _ _ _ (Or.inr (Or.inl ⟨w8, eb, rfl, ?_, ?_⟩)) ⟨put K 54 7 0, fun k => by rw [pt_m (by decide), e55], rfl, rfl⟩
      · rw [telF_n (by decide) (by decide), pt_n (by decide)]; exact e56
      · rw [telF_f (by decide), pt_f (by decide)]; exact e12
    rcases ho with ⟨i, nP, s, κ, c, u1, u2, u3, u4, u5, ⟨hE, e22⟩, hA, hc4, hc1⟩ | ⟨j, j1, u1, u2, e13, e12⟩ | ⟨i, nP, s, κ, u1, u2, u3, hE, e22⟩
    · obtain ⟨eT', e13, e12, e14, ⟨nc, e15, l1, l2⟩, em, en, hcd⟩ := id hE
      have m4 := hK.1
      have m5 := hK.2.1
      have so : (J 54 10 = 0) = True := eq_true (eT'.2.2.2.2.z.mpr u5)
      have m0 : (60 : Int32) + 1000 * nI w = nI (60 + 1000 * w) := by rw [show (1000 : Int32) = nI 1000 from rfl, show (60 : Int32) = nI 60 from rfl, pk_mul, nI_add]
      have a0 : inb (nI (60 + 1000 * w)) 8060 = True := inb_nI (by omega) (by decide)
      have b0 : (nI (60 + 1000 * w)).toNatClampNeg = 60 + 1000 * w := nI_clamp (by omega)
      simp only [E181_78, E181_79, E181_82, E181_85, E181_86, E181_89, pk54 hS, rfs, rfn, cs0, csi, csl, csr, csn, kti, ktl, ktr, ktn, ktv, ktf, true_and, and_true, and_self, ↓reduceIte, Nat.reduceAdd, Nat.reduceSub, Nat.reduceMul, Nat.reduceLT, Nat.reduceLeDiff, Nat.reduceEqDiff, true_or, or_true, false_or, or_false, not_true_eq_false, not_false_eq_true, reduceCtorEq, cmp_lt, cmp_gt, cmp_eq, Int32.reduceAdd, Int32.reduceSub, Int32.reduceMul, Int32.reduceLT, Int32.reduceToNatClampNeg, eq_self, ne_eq, Int64.reduceAdd, Int64.reduceSub, Int64.reduceMul, Int64.reduceLT, e13, so]
      simp only [E181_96, E181_97, E181_98, E181_101, E181_102, E181_105, E181_115, E181_117, E181_120, E181_121, E181_124, E181_125, E181_126, E181_127, E181_128, E181_129, E181_130, E181_133, E181_134, E181_135, E181_138, E181_139, E181_140, pk54 hS, pk56 hS, pl56 hS, pa56 hS, pi56 hS, pr54_3 hR, rfs, rfn, cs0, csi, csl, csr, csn, kti, ktl, ktr, ktn, ktv, ktf, true_and, and_true, and_self, ↓reduceIte, Nat.reduceAdd, Nat.reduceSub, Nat.reduceMul, Nat.reduceLT, Nat.reduceLeDiff, Nat.reduceEqDiff, true_or, or_true, false_or, or_false, not_true_eq_false, not_false_eq_true, reduceCtorEq, cmp_lt, cmp_gt, cmp_eq, Int32.reduceAdd, Int32.reduceSub, Int32.reduceMul, Int32.reduceLT, Int32.reduceToNatClampNeg, eq_self, ne_eq, Int64.reduceAdd, Int64.reduceSub, Int64.reduceMul, Int64.reduceLT, pt, pt_m, pt_f, y1, e13, J6, e1, e22, m0, a0, b0]
      refine rc1_lp (d := d + 8) hS hR (w := w) (ns := s) (by omega) u4 (10 * s) 0 _ (by omega) (by rw [pt_m (by decide), pt_f (by decide)]; exact e22) (fun A p1 p2 p3 => ?_)
      simp only [E181_175, E181_176, rfs, rfn, cs0, csi, csl, csr, csn, kti, ktl, ktr, ktn, ktv, ktf, true_and, and_true, and_self, ↓reduceIte, Nat.reduceAdd, Nat.reduceSub, Nat.reduceMul, Nat.reduceLT, Nat.reduceLeDiff, Nat.reduceEqDiff, true_or, or_true, false_or, or_false, not_true_eq_false, not_false_eq_true, reduceCtorEq, cmp_lt, cmp_gt, cmp_eq, Int32.reduceAdd, Int32.reduceSub, Int32.reduceMul, Int32.reduceLT, Int32.reduceToNatClampNeg, eq_self, ne_eq, Int64.reduceAdd, Int64.reduceSub, Int64.reduceMul, Int64.reduceLT]
      have enc := hcd.nc e15 (by omega)
      refine rc2C (d := d + 8) hS hR (w := w) (nc := nc) (by omega) (by omega) nc 0 _ (by omega) (by rw [p1 54 (by decide), pt_m (by decide), pt_f (by decide)]; exact e15) (fun B r1 r2 r4 => ?_)
      have B1 : B 56 1 = nI w := by rw [r2 1 (by omega), p2 1 (by omega), pt_f (by omega), pt_m (by decide), J6]; exact e1
      simp only [E181_233, E181_234, E181_237, E181_238, E181_239, E181_240, E181_241, E181_242, E181_243, E181_244, E181_245, E181_248, E181_249, E181_250, E181_251, E181_252, E181_255, pk54 hS, pk56 hS, pl56 hS, pa56 hS, pi56 hS, pr54_3 hR, telI hS hR (n := w) (by omega), rfs, rfn, cs0, csi, csl, csr, csn, kti, ktl, ktr, ktn, ktv, ktf, true_and, and_true, and_self, ↓reduceIte, Nat.reduceAdd, Nat.reduceSub, Nat.reduceMul, Nat.reduceLT, Nat.reduceLeDiff, Nat.reduceEqDiff, true_or, or_true, false_or, or_false, not_true_eq_false, not_false_eq_true, reduceCtorEq, cmp_lt, cmp_gt, cmp_eq, Int32.reduceAdd, Int32.reduceSub, Int32.reduceMul, Int32.reduceLT, Int32.reduceToNatClampNeg, eq_self, ne_eq, Int64.reduceAdd, Int64.reduceSub, Int64.reduceMul, Int64.reduceLT, pt, pt_s, y1, B1, nI_1, nI_m1]
      refine hq _ _ _ (Or.inr (Or.inr ⟨w8, u1, rfl, ?_, ?_, ?_, ⟨s, c, u3, u4, hc1, hc4, fun s' hs' => ?_, fun s' hs' => ?_⟩, fun k h1 h2 => ?_⟩)) ⟨put B 56 1 (nI (w + 1)), fun k => by rw [pt_m (by decide), r1 55 (by decide), p1 55 (by decide), pt_m (by decide), pt_m (by decide), J5], rfl, rfl⟩
      · rw [telF_f (by decide), pt_m (by decide), r1 54 (by decide), p1 54 (by decide), pt_m (by decide), pt_f (by decide), e12, u2]
      · rw [telF_n (by decide) (by decide), pt_s]
      · rw [telF_n (by decide) (by decide), pt_f (by omega), r2 _ (by omega), p2 _ (by omega), pt_s, u3]
      · refine (hA.2 s' hs').tx hc4 (by omega) (fun j hj => ?_) (fun k hk => ⟨?_, ?_⟩)
        · show telF (put B 56 1 (nI (w + 1))) (nI w) 56 (60 + 1000 * w + (10 + 10 * s' + j)) = _
          rw [telF_n (by decide) (by decide), pt_f (by omega), r2 _ (by omega), show 60 + 1000 * w + (10 + 10 * s' + j) = 60 + 1000 * w + (10 + (10 * s' + j)) by omega, p3 _ (by omega) (by omega), pt_m (by decide), pt_m (by decide)]
        · show telF (put B 56 1 (nI (w + 1))) (nI w) 56 (60 + 1000 * w + (180 + 2 * k)) = _
          rw [telF_n (by decide) (by decide), pt_f (by omega), (r4 k (by omega) (by omega)).1, p1 60 (by decide), pt_n (by decide), pt_n (by decide)]
        · show telF (put B 56 1 (nI (w + 1))) (nI w) 56 (60 + 1000 * w + (181 + 2 * k)) = _
          rw [telF_n (by decide) (by decide), pt_f (by omega), (r4 k (by omega) (by omega)).2, p1 61 (by decide), pt_n (by decide), pt_n (by decide)]
      · obtain ⟨_, y, _, _, _, _, _, _, _, _, y1, _, y2, _⟩ := hA.2 s' hs'
        exact ⟨y, y1, y2⟩
      · rw [telF_n (by decide) (by decide), pt_f h2, r2 k (by omega), p2 k (by omega), pt_f (by omega), pt_m (by decide), J6]
    · simp only [E181_78, E181_79, E181_82, pk54 hS, rfs, rfn, cs0, csi, csl, csr, csn, kti, ktl, ktr, ktn, ktv, ktf, true_and, and_true, and_self, ↓reduceIte, Nat.reduceAdd, Nat.reduceSub, Nat.reduceMul, Nat.reduceLT, Nat.reduceLeDiff, Nat.reduceEqDiff, true_or, or_true, false_or, or_false, not_true_eq_false, not_false_eq_true, reduceCtorEq, cmp_lt, cmp_gt, cmp_eq, Int32.reduceAdd, Int32.reduceSub, Int32.reduceMul, Int32.reduceLT, Int32.reduceToNatClampNeg, eq_self, ne_eq, Int64.reduceAdd, Int64.reduceSub, Int64.reduceMul, Int64.reduceLT, e13, n1_0]
      exact no J e13 J6 J5 (e12.trans u2.symm) u1
    · have so : ¬ J 54 10 = 0 := fun z => u3 (hE.1.2.2.2.2.z.mp z)
      have e13 := hE.2.1
      simp only [E181_78, E181_79, E181_82, E181_85, E181_86, E181_89, E181_92, E181_93, pk54 hS, rfs, rfn, cs0, csi, csl, csr, csn, kti, ktl, ktr, ktn, ktv, ktf, true_and, and_true, and_self, ↓reduceIte, Nat.reduceAdd, Nat.reduceSub, Nat.reduceMul, Nat.reduceLT, Nat.reduceLeDiff, Nat.reduceEqDiff, true_or, or_true, false_or, or_false, not_true_eq_false, not_false_eq_true, reduceCtorEq, cmp_lt, cmp_gt, cmp_eq, Int32.reduceAdd, Int32.reduceSub, Int32.reduceMul, Int32.reduceLT, Int32.reduceToNatClampNeg, eq_self, ne_eq, Int64.reduceAdd, Int64.reduceSub, Int64.reduceMul, Int64.reduceLT, e13, so]
      refine wrE hS e13 (fun K z1 z2 z3 _ => ?_)
      try simp only [E181_93, rfs, rfn, cs0, csi, csl, csr, csn, kti, ktl, ktr, ktn, ktv, ktf, true_and, and_true, and_self, ↓reduceIte, Nat.reduceAdd, Nat.reduceSub, Nat.reduceMul, Nat.reduceLT, Nat.reduceLeDiff, Nat.reduceEqDiff, true_or, or_true, false_or, or_false, not_true_eq_false, not_false_eq_true, reduceCtorEq, cmp_lt, cmp_gt, cmp_eq, Int32.reduceAdd, Int32.reduceSub, Int32.reduceMul, Int32.reduceLT, Int32.reduceToNatClampNeg, eq_self, ne_eq, Int64.reduceAdd, Int64.reduceSub, Int64.reduceMul, Int64.reduceLT]
      exact no K z2 ((z1.1 56 (by decide)).trans J6) ((z1.1 55 (by decide)).trans J5) (z3.trans (hE.1.2.2.1.trans u2.symm)) u1
  refine stpE (d := d) hS hR hK hT (by decide) c0 s0 (fun J2 L2 i' n' c' l w1 w2 w3 w4 wc wp d1 d2 d3 d4 d63 wm => ?_) (fun J2 L2 j' w1 w2 w3 w4 w5 => ?_)
  · try simp only [E181_48, rfs, rfn, cs0, csi, csl, csr, csn, kti, ktl, ktr, ktn, ktv, ktf, true_and, and_true, and_self, ↓reduceIte, Nat.reduceAdd, Nat.reduceSub, Nat.reduceMul, Nat.reduceLT, Nat.reduceLeDiff, Nat.reduceEqDiff, true_or, or_true, false_or, or_false, not_true_eq_false, not_false_eq_true, reduceCtorEq, cmp_lt, cmp_gt, cmp_eq, Int32.reduceAdd, Int32.reduceSub, Int32.reduceMul, Int32.reduceLT, Int32.reduceToNatClampNeg, eq_self, ne_eq, Int64.reduceAdd, Int64.reduceSub, Int64.reduceMul, Int64.reduceLT]
    refine rlE (d := d) hS hR hK hT 15 1 _ i' n' c' _ J2 L2 (by omega) w1 (rsF_4 c0 hT (fun z => hT.2.2.2 0 (Nat.zero_le m) (z.symm.trans w1.2.2.1))) w3 ⟨fun _ => d4, fun s' hs' => match s', hs' with
      | 0, _ => wm
      | _ + 1, h => absurd h (by omega)⟩ (F0.tr w4) (fun J3 L3 ho => tail J3 L3 ?_)
    rw [eU]
    exact ho
  · try simp only [E181_48, rfs, rfn, cs0, csi, csl, csr, csn, kti, ktl, ktr, ktn, ktv, ktf, true_and, and_true, and_self, ↓reduceIte, Nat.reduceAdd, Nat.reduceSub, Nat.reduceMul, Nat.reduceLT, Nat.reduceLeDiff, Nat.reduceEqDiff, true_or, or_true, false_or, or_false, not_true_eq_false, not_false_eq_true, reduceCtorEq, cmp_lt, cmp_gt, cmp_eq, Int32.reduceAdd, Int32.reduceSub, Int32.reduceMul, Int32.reduceLT, Int32.reduceToNatClampNeg, eq_self, ne_eq, Int64.reduceAdd, Int64.reduceSub, Int64.reduceMul, Int64.reduceLT]
    simp only [E181_51, E181_52, E181_55, pk54 hS, rfs, rfn, cs0, csi, csl, csr, csn, kti, ktl, ktr, ktn, ktv, ktf, true_and, and_true, and_self, ↓reduceIte, Nat.reduceAdd, Nat.reduceSub, Nat.reduceMul, Nat.reduceLT, Nat.reduceLeDiff, Nat.reduceEqDiff, true_or, or_true, false_or, or_false, not_true_eq_false, not_false_eq_true, reduceCtorEq, cmp_lt, cmp_gt, cmp_eq, Int32.reduceAdd, Int32.reduceSub, Int32.reduceMul, Int32.reduceLT, Int32.reduceToNatClampNeg, eq_self, ne_eq, Int64.reduceAdd, Int64.reduceSub, Int64.reduceMul, Int64.reduceLT, w3, n1_0]
    have u := rRes_f (hT.2.2.2 j' w1) (C := rsF (splF (un0 Z) 13 n) 0) w2 15 1
    rw [← eU] at u
    exact tail J2 L2 ⟨F0.tr w5, Or.inr (Or.inl ⟨j', w1, u.1, u.2, w3, w4⟩)⟩
end RY
