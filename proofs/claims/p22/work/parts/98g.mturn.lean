/-! the reference's reader: the turns -/
/-- what the reader holds; a: where the code of this part of the STEP began -/
def Rm (I : mI) (L : mL) (a f nc p : Nat) (bad : Bool) : Prop := Tk I L f ∧ I 54 13 = bI bad ∧ I 54 15 = nI nc ∧ I 54 19 = nI p ∧ nc + p ≤ f ∧ a ≤ nc
def Rv (O P : Nat → Int32) (a nc p tn : Nat) : Prop := PlO P p ∧ ((tn = 0 ∨ tn = 2) → ∀ i, i < p → ¬ 30 < P i) ∧ Dp O a (nc - a) (Bc P p + (if 2 ≤ tn then 1 else 0)) ∧ (tn = 4 → ∀ i, i < p → P i < 30)
def Rr (J : mI) (L : mL) (a tn f : Nat) : Prop := ∃ nc p bad, Rm J L a f nc p bad ∧ (bad = false → Rv (J 60) (J 62) a nc p tn)
def Fx (I J : mI) (a : Nat) : Prop := (∀ b, ¬ b = 54 → (b < 60 ∨ 62 < b) → J b = I b) ∧ (∀ k, (k < 8 ∨ (15 < k ∧ k < 19) ∨ 20 < k) → J 54 k = I 54 k) ∧ ∀ k, k < a → J 60 k = I 60 k
theorem Fx.rf {I : mI} {a : Nat} : Fx I I a := ⟨fun _ _ _ => rfl, fun _ _ => rfl, fun _ _ => rfl⟩
theorem Fx.tr {I J K : mI} {a : Nat} (h : Fx I J a) (h2 : Fx J K a) : Fx I K a := ⟨fun b h1 h3 => (h2.1 b h1 h3).trans (h.1 b h1 h3), fun k h1 => (h2.2.1 k h1).trans (h.2.1 k h1), fun k h1 => (h2.2.2 k h1).trans (h.2.2 k h1)⟩
theorem Fm.x {I J : mI} {a : Nat} (h : Fm I J) : Fx I J a := ⟨fun b h1 _ => h.1 b h1, fun k hk => h.2 k (by omega), fun k _ => by rw [h.1 60 (by decide)]⟩
theorem Fs.x {I J : mI} {a nc : Nat} (h : Fs I J nc) (ha : a ≤ nc) : Fx I J a := ⟨fun b h1 h2 => h.1 b h1 (by omega) (by omega), fun k hk => h.2.1 k (by omega) (by omega), fun k hk => h.2.2 k (by omega)⟩
theorem Fx.p {I J : mI} {a k : Nat} {x : Int32} (h : Fx I J a) (hk : k = 8 ∨ k = 9 ∨ k = 10 ∨ k = 12 ∨ k = 13 ∨ k = 14 ∨ k = 15 ∨ k = 19 ∨ k = 20) : Fx I (put J 54 k x) a := ⟨fun b h1 h2 => by rw [pt_n h1]; exact h.1 b h1 h2, fun j hj => by rw [pt_f (by omega)]; exact h.2.1 j hj, fun j hj => by rw [pt_m (by decide)]; exact h.2.2 j hj⟩
theorem Fx.e {I J : mI} {a k : Nat} {x : Int32} (h : Fx I J a) (hk : a ≤ k) : Fx I (put J 60 k x) a := ⟨fun b h1 h2 => by rw [pt_n (by omega)]; exact h.1 b h1 h2, fun j hj => by rw [pt_m (by decide)]; exact h.2.1 j hj, fun j hj => by rw [pt_f (by omega)]; exact h.2.2 j hj⟩
theorem Fx.q {I J : mI} {a b k : Nat} {x : Int32} (h : Fx I J a) (hb : b = 61 ∨ b = 62) : Fx I (put J b k x) a := ⟨fun c h1 h2 => by rw [pt_n (by omega)]; exact h.1 c h1 h2, fun j hj => by rw [pt_m (by omega)]; exact h.2.1 j hj, fun j hj => by rw [pt_m (by omega)]; exact h.2.2 j hj⟩
theorem Rv.t1 {O P : Nat → Int32} {a nc p : Nat} (h : Rv O P a nc p 0) : Rv O P a nc p 1 := ⟨h.1, fun z => by omega, h.2.2.1, fun z => by omega⟩
section TU
variable {d a f nc p : Nat} {S : mS} {I : mI} {L : mL} {R : mR} {Q : mQ}
theorem Rm.f4 {bad : Bool} (h : Rm I L a f nc p bad) : f ≤ 400 := h.1.le
/-- open -/
theorem opn {br : Int32} {b : Bool} {tn : Nat} (hS : Pm S) (hR : Pr R) (hM : Rm I L a f nc p false) (hV : Rv (I 60) (I 62) a nc p 1) (hb : b = true → ¬ I 54 10 = 0) (hbr : (br = 30 ∧ (∀ i, i < p → ¬ 30 < I 62 i) ∧ tn = 0) ∨ (30 < br ∧ Opv br ∧ tn = 1)) (hq : ∀ J L' f', Rr J L' a tn f' → f ≤ f' → (J 54 13 = 1 ∨ f < f') → Fx I J a → Q .null S J L' R) : EvM (d + 4) 172 [.ref 54, .int (bI b), .int br] S I L R Q := by
  obtain ⟨hT, e13, e15, e19, hf, ha⟩ := hM
  have key : ∀ b' : Bool, (b' = true → ¬ I 54 10 = 0) → Ev (d + 4) 172 19 [.ref 54, .int (bI b), .int br] [.int (bI b'), .ref 54] S I L R Q := by
    intro b' hb'
    simp only [E172_19, pk54 hS, rfs, rfn, cs0, csi, csl, csr, csn, kti, ktl, ktr, ktn, ktv, ktf, true_and, and_true, and_self, ↓reduceIte, Nat.reduceAdd, Nat.reduceSub, Nat.reduceMul, Nat.reduceLT, Nat.reduceLeDiff, Nat.reduceEqDiff, true_or, or_true, false_or, or_false, not_true_eq_false, not_false_eq_true, reduceCtorEq, cmp_lt, cmp_gt, cmp_eq, Int32.reduceAdd, Int32.reduceSub, Int32.reduceMul, Int32.reduceLT, Int32.reduceToNatClampNeg, eq_self, ne_eq, Int64.reduceAdd, Int64.reduceSub, Int64.reduceMul, Int64.reduceLT]
    refine mus (d := d) hS hR hT e13 hb' (fun J L' f' bad' k1 k2 k3 k4 k5 => ?_)
    have j15 : J 54 15 = nI nc := (k3.2 15 (by decide)).trans e15
    have j19 : J 54 19 = nI p := (k3.2 19 (by decide)).trans e19
    have j62 : J 62 = I 62 := k3.1 62 (by decide)
    have j60 : J 60 = I 60 := k3.1 60 (by decide)
    cases bad'
    · obtain ⟨_, _, hlt⟩ := k5 rfl
      have f4 := k2.le
      have j19' : put J 54 20 (J 54 20 + 1) 54 19 = nI p := by rw [pt_f (by decide)]; exact j19
      simp only [E172_19, E172_22, E172_23, E172_26, E172_29, E172_30, E172_31, E172_34, E172_35, E172_36, E172_39, E172_40, E172_41, E172_44, psh_m hS hR j19' (show p < 400 by omega), pk54 hS, rfs, rfn, cs0, csi, csl, csr, csn, kti, ktl, ktr, ktn, ktv, ktf, true_and, and_true, and_self, ↓reduceIte, Nat.reduceAdd, Nat.reduceSub, Nat.reduceMul, Nat.reduceLT, Nat.reduceLeDiff, Nat.reduceEqDiff, true_or, or_true, false_or, or_false, not_true_eq_false, not_false_eq_true, reduceCtorEq, cmp_lt, cmp_gt, cmp_eq, Int32.reduceAdd, Int32.reduceSub, Int32.reduceMul, Int32.reduceLT, Int32.reduceToNatClampNeg, eq_self, ne_eq, Int64.reduceAdd, Int64.reduceSub, Int64.reduceMul, Int64.reduceLT, k4, bI_f, pt]
      refine hq _ L' f' ⟨nc, p + 1, false, ⟨k2.cg (fun k h1 h2 => ?_), ?_, ?_, pt_s, by omega, ha⟩, fun _ => ?_⟩ k1 (Or.inr hlt) (Fx.p (Fx.q (Fx.p k3.x (by decide)) (by decide)) (by decide))
      · rw [pt_f (by omega), pt_m (by decide), pt_f (by omega)]
      · rw [pt_f (by decide), pt_m (by decide), pt_f (by decide)]; exact k4
      · rw [pt_f (by decide), pt_m (by decide), pt_f (by decide)]; exact j15
      · rw [pt_n (by decide), pt_n (by decide), pt_n (by decide), j60, pt_n (by decide), pt_c, pt_n (by decide), j62]
        rcases hbr with ⟨rfl, g1, rfl⟩ | ⟨g1, g2, rfl⟩
        · refine ⟨hV.1.up (by unfold Opv; simp) (Or.inl g1), fun _ i hi => ?_, ?_, fun z => by omega⟩
          · by_cases e : i = p
            · rw [e, uu_s]; decide
            · rw [uu_n _ _ e]; exact g1 i (by omega)
          · rw [Bc.up]; exact hV.2.2.1
        · refine ⟨hV.1.up g2 (Or.inr (Or.inr (Or.inr g1))), fun z => by omega, ?_, fun z => by omega⟩
          rw [Bc.up, show bn1 br = 0 from if_pos (Or.inr (fun z => by rw [Int32.lt_iff_toInt_lt] at z g1; omega))]
          exact hV.2.2.1
    · simp only [E172_19, E172_22, E172_23, E172_26, E172_44, pk54 hS, rfs, rfn, cs0, csi, csl, csr, csn, kti, ktl, ktr, ktn, ktv, ktf, true_and, and_true, and_self, ↓reduceIte, Nat.reduceAdd, Nat.reduceSub, Nat.reduceMul, Nat.reduceLT, Nat.reduceLeDiff, Nat.reduceEqDiff, true_or, or_true, false_or, or_false, not_true_eq_false, not_false_eq_true, reduceCtorEq, cmp_lt, cmp_gt, cmp_eq, Int32.reduceAdd, Int32.reduceSub, Int32.reduceMul, Int32.reduceLT, Int32.reduceToNatClampNeg, eq_self, ne_eq, Int64.reduceAdd, Int64.reduceSub, Int64.reduceMul, Int64.reduceLT, k4, bI_t, n1_0]
      exact hq J L' f' ⟨nc, p, true, ⟨k2, k4, j15, j19, by omega, ha⟩, fun z => by cases z⟩ k1 (Or.inl k4) k3.x
  cases b
  · simp only [M172, E172_0, E172_1, E172_2, E172_18, rfs, rfn, cs0, csi, csl, csr, csn, kti, ktl, ktr, ktn, ktv, ktf, true_and, and_true, and_self, ↓reduceIte, Nat.reduceAdd, Nat.reduceSub, Nat.reduceMul, Nat.reduceLT, Nat.reduceLeDiff, Nat.reduceEqDiff, true_or, or_true, false_or, or_false, not_true_eq_false, not_false_eq_true, reduceCtorEq, cmp_lt, cmp_gt, cmp_eq, Int32.reduceAdd, Int32.reduceSub, Int32.reduceMul, Int32.reduceLT, Int32.reduceToNatClampNeg, eq_self, ne_eq, Int64.reduceAdd, Int64.reduceSub, Int64.reduceMul, Int64.reduceLT, bI_f]
    exact key false (fun z => by cases z)
  · simp only [M172, E172_0, E172_1, E172_2, E172_5, E172_6, E172_9, E172_11, E172_14, E172_15, E172_18, pk54 hS, rfs, rfn, cs0, csi, csl, csr, csn, kti, ktl, ktr, ktn, ktv, ktf, true_and, and_true, and_self, ↓reduceIte, Nat.reduceAdd, Nat.reduceSub, Nat.reduceMul, Nat.reduceLT, Nat.reduceLeDiff, Nat.reduceEqDiff, true_or, or_true, false_or, or_false, not_true_eq_false, not_false_eq_true, reduceCtorEq, cmp_lt, cmp_gt, cmp_eq, Int32.reduceAdd, Int32.reduceSub, Int32.reduceMul, Int32.reduceLT, Int32.reduceToNatClampNeg, eq_self, ne_eq, Int64.reduceAdd, Int64.reduceSub, Int64.reduceMul, Int64.reduceLT, bI_t, n1_0]
    apply iteB
    all_goals first
      | exact key true hb
      | exact key false (fun z => by cases z)
/-- wordAt -/
theorem wda (hS : Pm S) (hq : ∀ v : Int32, (v = -1 ∨ (¬ v = -1 ∧ ¬ 4 < v ∧ ¬ I 54 10 = 0)) → Q (.int v) S I L R) : EvM (d + 2) 173 [.ref 54] S I L R Q := by
  cases g1 : wdB I L 3322259
  · cases g2 : wdB I L 398548
    · cases g3 : wdB I L 8554131
      · cases g4 : wdB I L 659117163
        · simp only [M173, E173_0, E173_1, E173_4, E173_7, E173_10, E173_11, E173_14, E173_15, E173_18, E173_21, E173_24, E173_25, E173_28, E173_29, E173_32, E173_35, E173_38, E173_39, E173_42, E173_43, E173_46, E173_49, E173_52, E173_53, E173_56, E173_57, isw hS, pk54 hS, rfs, rfn, cs0, csi, csl, csr, csn, kti, ktl, ktr, ktn, ktv, ktf, true_and, and_true, and_self, ↓reduceIte, Nat.reduceAdd, Nat.reduceSub, Nat.reduceMul, Nat.reduceLT, Nat.reduceLeDiff, Nat.reduceEqDiff, true_or, or_true, false_or, or_false, not_true_eq_false, not_false_eq_true, reduceCtorEq, cmp_lt, cmp_gt, cmp_eq, Int32.reduceAdd, Int32.reduceSub, Int32.reduceMul, Int32.reduceLT, Int32.reduceToNatClampNeg, eq_self, ne_eq, Int64.reduceAdd, Int64.reduceSub, Int64.reduceMul, Int64.reduceLT, g1, g2, g3, g4, bI_f]
          exact hq _ (Or.inl rfl)
        · simp only [M173, E173_0, E173_1, E173_4, E173_7, E173_10, E173_11, E173_14, E173_15, E173_18, E173_21, E173_24, E173_25, E173_28, E173_29, E173_32, E173_35, E173_38, E173_39, E173_42, E173_43, E173_46, E173_49, E173_52, E173_53, E173_56, E173_57, isw hS, pk54 hS, rfs, rfn, cs0, csi, csl, csr, csn, kti, ktl, ktr, ktn, ktv, ktf, true_and, and_true, and_self, ↓reduceIte, Nat.reduceAdd, Nat.reduceSub, Nat.reduceMul, Nat.reduceLT, Nat.reduceLeDiff, Nat.reduceEqDiff, true_or, or_true, false_or, or_false, not_true_eq_false, not_false_eq_true, reduceCtorEq, cmp_lt, cmp_gt, cmp_eq, Int32.reduceAdd, Int32.reduceSub, Int32.reduceMul, Int32.reduceLT, Int32.reduceToNatClampNeg, eq_self, ne_eq, Int64.reduceAdd, Int64.reduceSub, Int64.reduceMul, Int64.reduceLT, g1, g2, g3, g4, bI_f, bI_t, n1_0]
          exact hq _ (Or.inr ⟨by decide, by decide, wdB0 g4⟩)
      · simp only [M173, E173_0, E173_1, E173_4, E173_7, E173_10, E173_11, E173_14, E173_15, E173_18, E173_21, E173_24, E173_25, E173_28, E173_29, E173_32, E173_35, E173_38, E173_39, E173_42, E173_43, E173_46, E173_49, E173_52, E173_53, E173_56, E173_57, isw hS, pk54 hS, rfs, rfn, cs0, csi, csl, csr, csn, kti, ktl, ktr, ktn, ktv, ktf, true_and, and_true, and_self, ↓reduceIte, Nat.reduceAdd, Nat.reduceSub, Nat.reduceMul, Nat.reduceLT, Nat.reduceLeDiff, Nat.reduceEqDiff, true_or, or_true, false_or, or_false, not_true_eq_false, not_false_eq_true, reduceCtorEq, cmp_lt, cmp_gt, cmp_eq, Int32.reduceAdd, Int32.reduceSub, Int32.reduceMul, Int32.reduceLT, Int32.reduceToNatClampNeg, eq_self, ne_eq, Int64.reduceAdd, Int64.reduceSub, Int64.reduceMul, Int64.reduceLT, g1, g2, g3, bI_f, bI_t, n1_0]
        exact hq _ (Or.inr ⟨by decide, by decide, wdB0 g3⟩)
    · simp only [M173, E173_0, E173_1, E173_4, E173_7, E173_10, E173_11, E173_14, E173_15, E173_18, E173_21, E173_24, E173_25, E173_28, E173_29, E173_32, E173_35, E173_38, E173_39, E173_42, E173_43, E173_46, E173_49, E173_52, E173_53, E173_56, E173_57, isw hS, pk54 hS, rfs, rfn, cs0, csi, csl, csr, csn, kti, ktl, ktr, ktn, ktv, ktf, true_and, and_true, and_self, ↓reduceIte, Nat.reduceAdd, Nat.reduceSub, Nat.reduceMul, Nat.reduceLT, Nat.reduceLeDiff, Nat.reduceEqDiff, true_or, or_true, false_or, or_false, not_true_eq_false, not_false_eq_true, reduceCtorEq, cmp_lt, cmp_gt, cmp_eq, Int32.reduceAdd, Int32.reduceSub, Int32.reduceMul, Int32.reduceLT, Int32.reduceToNatClampNeg, eq_self, ne_eq, Int64.reduceAdd, Int64.reduceSub, Int64.reduceMul, Int64.reduceLT, g1, g2, bI_f, bI_t, n1_0]
      exact hq _ (Or.inr ⟨by decide, by decide, wdB0 g2⟩)
  · simp only [M173, E173_0, E173_1, E173_4, E173_7, E173_10, E173_11, E173_14, E173_15, E173_18, E173_21, E173_24, E173_25, E173_28, E173_29, E173_32, E173_35, E173_38, E173_39, E173_42, E173_43, E173_46, E173_49, E173_52, E173_53, E173_56, E173_57, isw hS, pk54 hS, rfs, rfn, cs0, csi, csl, csr, csn, kti, ktl, ktr, ktn, ktv, ktf, true_and, and_true, and_self, ↓reduceIte, Nat.reduceAdd, Nat.reduceSub, Nat.reduceMul, Nat.reduceLT, Nat.reduceLeDiff, Nat.reduceEqDiff, true_or, or_true, false_or, or_false, not_true_eq_false, not_false_eq_true, reduceCtorEq, cmp_lt, cmp_gt, cmp_eq, Int32.reduceAdd, Int32.reduceSub, Int32.reduceMul, Int32.reduceLT, Int32.reduceToNatClampNeg, eq_self, ne_eq, Int64.reduceAdd, Int64.reduceSub, Int64.reduceMul, Int64.reduceLT, g1, bI_f, bI_t, n1_0]
    exact hq _ (Or.inr ⟨by decide, by decide, wdB0 g1⟩)
theorem nxT (hS : Pm S) (hR : Pr R) (hT : Tk I L f) (h0 : ¬ I 54 10 = 0) (hq : ∀ J L' f', f < f' → Tk J L' f' → Fn I J → Q .null S J L' R) : EvM (d + 2) 159 [.ref 54] S I L R Q := by
  obtain ⟨t, n, s, h1, h2, h3, h4, h5, h6, h7, h8, h9, h10⟩ := hT
  have hs : f < t := by
    rcases h9 with h9 | h9
    · exact absurd (by rw [h5, h9]; rfl) h0
    · exact h9
  exact nxt hS hR h2 h7 h1 h4 (fun J L' f' g1 g2 g3 => hq J L' f' (by omega) g2 g3)
/-- an operand's code stands -/
theorem em_ok {op arg : Int32} {bad : Bool} (hM : Rm I L a f nc p bad) (hv : bad = false → Rv (I 60) (I 62) a nc p 1) (hf : nc + p < f) (ho : ¬ 4 < op) : Rr (put (put (put I 60 nc op) 61 nc arg) 54 15 (nI (nc + 1))) L a 3 f := by
  obtain ⟨hT, e13, e15, e19, h1, ha⟩ := hM
  refine ⟨nc + 1, p, bad, ⟨hT.cg (fun k h1 h2 => ?_), ?_, pt_s, ?_, by omega, by omega⟩, fun hb => ?_⟩
  · rw [pt_f (by omega), pt_m (by decide), pt_m (by decide)]
  · rw [pt_f (by decide), pt_m (by decide), pt_m (by decide)]; exact e13
  · rw [pt_f (by decide), pt_m (by decide), pt_m (by decide)]; exact e19
  · have V := hv hb
    rw [pt_n (by decide), pt_n (by decide), pt_c, pt_n (by decide), pt_n (by decide), pt_n (by decide)]
    refine ⟨V.1, fun z => by omega, ?_, fun z => by omega⟩
    refine Dp.put (x := op) V.2.2.1 ha (fun k hk => uu_n _ _ (by omega)) (uu_s _ _ _) (Or.inl ⟨ho, rfl⟩)
/-- readPart -/
theorem rpt (hS : Pm S) (hR : Pr R) (hM : Rm I L a f nc p false) (hV : Rv (I 60) (I 62) a nc p 1) (hq : ∀ J L' f' tn, Rr J L' a tn f' → tn ≤ 4 → f ≤ f' → (J 54 13 = 1 ∨ f < f') → Fx I J a → Q (.int (nI tn)) S J L' R) : EvM (d + 5) 174 [.ref 54] S I L R Q := by
  obtain ⟨hT, e13, e15, e19, hf, ha⟩ := hM
  have f4 := hT.le
  by_cases g0 : I 54 14 = 60
  · have g0' : (I 54 14 = 60) = True := eq_true g0
    simp only [M174, E174_0, E174_1, E174_4, E174_6, E174_9, E174_10, pk54 hS, rfs, rfn, cs0, csi, csl, csr, csn, kti, ktl, ktr, ktn, ktv, ktf, true_and, and_true, and_self, ↓reduceIte, Nat.reduceAdd, Nat.reduceSub, Nat.reduceMul, Nat.reduceLT, Nat.reduceLeDiff, Nat.reduceEqDiff, true_or, or_true, false_or, or_false, not_true_eq_false, not_false_eq_true, reduceCtorEq, cmp_lt, cmp_gt, cmp_eq, Int32.reduceAdd, Int32.reduceSub, Int32.reduceMul, Int32.reduceLT, Int32.reduceToNatClampNeg, eq_self, ne_eq, Int64.reduceAdd, Int64.reduceSub, Int64.reduceMul, Int64.reduceLT, g0']
    refine wrg hS e13 (fun J fJ jk jb => ?_)
    simp only [E174_10, E174_13, E174_14, rfs, rfn, cs0, csi, csl, csr, csn, kti, ktl, ktr, ktn, ktv, ktf, true_and, and_true, and_self, ↓reduceIte, Nat.reduceAdd, Nat.reduceSub, Nat.reduceMul, Nat.reduceLT, Nat.reduceLeDiff, Nat.reduceEqDiff, true_or, or_true, false_or, or_false, not_true_eq_false, not_false_eq_true, reduceCtorEq, cmp_lt, cmp_gt, cmp_eq, Int32.reduceAdd, Int32.reduceSub, Int32.reduceMul, Int32.reduceLT, Int32.reduceToNatClampNeg, eq_self, ne_eq, Int64.reduceAdd, Int64.reduceSub, Int64.reduceMul, Int64.reduceLT]
    exact hq J L f 4 ⟨nc, p, true, ⟨hT.cg (fun k h1 h2 => jk k h2), jb, (fJ.2 15 (by decide)).trans e15, (fJ.2 19 (by decide)).trans e19, hf, ha⟩, fun z => by cases z⟩ (by decide) (Nat.le_refl f) (Or.inl jb) fJ.x
  simp only [M174, E174_0, E174_1, E174_4, E174_6, E174_9, E174_10, E174_13, E174_14, E174_15, E174_16, E174_17, E174_20, E174_21, E174_22, E174_25, pk54 hS, rfs, rfn, cs0, csi, csl, csr, csn, kti, ktl, ktr, ktn, ktv, ktf, true_and, and_true, and_self, ↓reduceIte, Nat.reduceAdd, Nat.reduceSub, Nat.reduceMul, Nat.reduceLT, Nat.reduceLeDiff, Nat.reduceEqDiff, true_or, or_true, false_or, or_false, not_true_eq_false, not_false_eq_true, reduceCtorEq, cmp_lt, cmp_gt, cmp_eq, Int32.reduceAdd, Int32.reduceSub, Int32.reduceMul, Int32.reduceLT, Int32.reduceToNatClampNeg, eq_self, ne_eq, Int64.reduceAdd, Int64.reduceSub, Int64.reduceMul, Int64.reduceLT, g0, pt]
  have K0 : Fx I (put I 54 14 (I 54 14 + 1)) a := Fx.p Fx.rf (by decide)
  have KM : Rm (put I 54 14 (I 54 14 + 1)) L a f nc p false := ⟨hT.cg (fun k h1 h2 => pt_f (by omega)), (pt_f (by decide)).trans e13, (pt_f (by decide)).trans e15, (pt_f (by decide)).trans e19, hf, ha⟩
  have KV : Rv (put I 54 14 (I 54 14 + 1) 60) (put I 54 14 (I 54 14 + 1) 62) a nc p 1 := by
    rw [pt_n (by decide), pt_n (by decide)]; exact hV
  generalize put I 54 14 (I 54 14 + 1) = K at K0 KM KV
  obtain ⟨kT, k13, k15, k19, _, _⟩ := id KM
  cases g1 : sgB K L 91
  · cases g2 : wdB K L 313838
    · cases g3 : wdB K L 8692
      · simp only [E174_26, E174_28, E174_31, E174_34, E174_35, E174_36, E174_38, E174_41, E174_42, E174_43, E174_44, E174_47, E174_50, E174_53, E174_54, E174_57, E174_60, E174_98, E174_99, isg hS, isw hS, pk54 hS, rfs, rfn, cs0, csi, csl, csr, csn, kti, ktl, ktr, ktn, ktv, ktf, true_and, and_true, and_self, ↓reduceIte, Nat.reduceAdd, Nat.reduceSub, Nat.reduceMul, Nat.reduceLT, Nat.reduceLeDiff, Nat.reduceEqDiff, true_or, or_true, false_or, or_false, not_true_eq_false, not_false_eq_true, reduceCtorEq, cmp_lt, cmp_gt, cmp_eq, Int32.reduceAdd, Int32.reduceSub, Int32.reduceMul, Int32.reduceLT, Int32.reduceToNatClampNeg, eq_self, ne_eq, Int64.reduceAdd, Int64.reduceSub, Int64.reduceMul, Int64.reduceLT, g1, g2, g3, bI_f]
        refine wda hS (fun v hv => ?_)
        rcases hv with rfl | ⟨v1, v2, v3⟩
        · simp only [E174_99, E174_102, E174_103, E174_104, E174_105, E174_120, E174_121, E174_124, pk54 hS, rfs, rfn, cs0, csi, csl, csr, csn, kti, ktl, ktr, ktn, ktv, ktf, true_and, and_true, and_self, ↓reduceIte, Nat.reduceAdd, Nat.reduceSub, Nat.reduceMul, Nat.reduceLT, Nat.reduceLeDiff, Nat.reduceEqDiff, true_or, or_true, false_or, or_false, not_true_eq_false, not_false_eq_true, reduceCtorEq, cmp_lt, cmp_gt, cmp_eq, Int32.reduceAdd, Int32.reduceSub, Int32.reduceMul, Int32.reduceLT, Int32.reduceToNatClampNeg, eq_self, ne_eq, Int64.reduceAdd, Int64.reduceSub, Int64.reduceMul, Int64.reduceLT]
          refine num_m (d := d) hS hR kT k13 (fun J L' f' bad' v k1 k2 k3 k4 k5 => ?_)
          have j15 : J 54 15 = nI nc := (k3.2 15 (by decide)).trans k15
          have j19 : J 54 19 = nI p := (k3.2 19 (by decide)).trans k19
          cases bad'
          · have hlt := (k5 rfl).1
            have f5 := k2.le
            have jM : Rm J L' a f' nc p false := ⟨k2, k4, j15, j19, by omega, ha⟩
            simp only [E174_124, E174_127, E174_128, E174_129, E174_132, E174_135, E174_136, E174_137, E174_138, E174_141, E174_142, emt hS hR j15 (show nc < 400 by omega), pk54 hS, rfs, rfn, cs0, csi, csl, csr, csn, kti, ktl, ktr, ktn, ktv, ktf, true_and, and_true, and_self, ↓reduceIte, Nat.reduceAdd, Nat.reduceSub, Nat.reduceMul, Nat.reduceLT, Nat.reduceLeDiff, Nat.reduceEqDiff, true_or, or_true, false_or, or_false, not_true_eq_false, not_false_eq_true, reduceCtorEq, cmp_lt, cmp_gt, cmp_eq, Int32.reduceAdd, Int32.reduceSub, Int32.reduceMul, Int32.reduceLT, Int32.reduceToNatClampNeg, eq_self, ne_eq, Int64.reduceAdd, Int64.reduceSub, Int64.reduceMul, Int64.reduceLT, k4, bI_f]
            exact hq _ L' f' 3 (em_ok (op := 0) jM (fun _ => by rw [k3.1 60 (by decide), k3.1 62 (by decide)]; exact KV) (by omega) (by decide)) (by decide) k1 (Or.inr hlt) (Fx.p (Fx.q (Fx.e (K0.tr k3.x) ha) (by decide)) (by decide))
          · simp only [E174_124, E174_127, E174_128, E174_129, E174_132, E174_141, E174_142, pk54 hS, rfs, rfn, cs0, csi, csl, csr, csn, kti, ktl, ktr, ktn, ktv, ktf, true_and, and_true, and_self, ↓reduceIte, Nat.reduceAdd, Nat.reduceSub, Nat.reduceMul, Nat.reduceLT, Nat.reduceLeDiff, Nat.reduceEqDiff, true_or, or_true, false_or, or_false, not_true_eq_false, not_false_eq_true, reduceCtorEq, cmp_lt, cmp_gt, cmp_eq, Int32.reduceAdd, Int32.reduceSub, Int32.reduceMul, Int32.reduceLT, Int32.reduceToNatClampNeg, eq_self, ne_eq, Int64.reduceAdd, Int64.reduceSub, Int64.reduceMul, Int64.reduceLT, k4, bI_t, n1_0]
            exact hq J L' f' 3 ⟨nc, p, true, ⟨k2, k4, j15, j19, by omega, ha⟩, fun z => by cases z⟩ (by decide) k1 (Or.inl k4) (K0.tr k3.x)
        · simp only [E174_99, E174_102, E174_103, E174_104, E174_105, E174_108, E174_109, pk54 hS, rfs, rfn, cs0, csi, csl, csr, csn, kti, ktl, ktr, ktn, ktv, ktf, true_and, and_true, and_self, ↓reduceIte, Nat.reduceAdd, Nat.reduceSub, Nat.reduceMul, Nat.reduceLT, Nat.reduceLeDiff, Nat.reduceEqDiff, true_or, or_true, false_or, or_false, not_true_eq_false, not_false_eq_true, reduceCtorEq, cmp_lt, cmp_gt, cmp_eq, Int32.reduceAdd, Int32.reduceSub, Int32.reduceMul, Int32.reduceLT, Int32.reduceToNatClampNeg, eq_self, ne_eq, Int64.reduceAdd, Int64.reduceSub, Int64.reduceMul, Int64.reduceLT, v1]
          refine nxT hS hR kT v3 (fun J L' f' k1 k2 k3 => ?_)
          have j15 : J 54 15 = nI nc := (k3.2 15 (by decide)).trans k15
          have j19 : J 54 19 = nI p := (k3.2 19 (by decide)).trans k19
          have jM : Rm J L' a f' nc p false := ⟨k2, (k3.2 13 (by decide)).trans k13, j15, j19, by omega, ha⟩
          have f5 := k2.le
          simp only [E174_109, E174_112, E174_113, E174_114, E174_115, E174_118, E174_119, emt hS hR j15 (show nc < 400 by omega), pk54 hS, rfs, rfn, cs0, csi, csl, csr, csn, kti, ktl, ktr, ktn, ktv, ktf, true_and, and_true, and_self, ↓reduceIte, Nat.reduceAdd, Nat.reduceSub, Nat.reduceMul, Nat.reduceLT, Nat.reduceLeDiff, Nat.reduceEqDiff, true_or, or_true, false_or, or_false, not_true_eq_false, not_false_eq_true, reduceCtorEq, cmp_lt, cmp_gt, cmp_eq, Int32.reduceAdd, Int32.reduceSub, Int32.reduceMul, Int32.reduceLT, Int32.reduceToNatClampNeg, eq_self, ne_eq, Int64.reduceAdd, Int64.reduceSub, Int64.reduceMul, Int64.reduceLT]
          exact hq _ L' f' 3 (em_ok jM (fun _ => by rw [k3.1 60 (by decide), k3.1 62 (by decide)]; exact KV) (by omega) v2) (by decide) (by omega) (Or.inr k1) (Fx.p (Fx.q (Fx.e (K0.tr k3.m.x) ha) (by decide)) (by decide))
      · simp only [E174_26, E174_28, E174_31, E174_34, E174_35, E174_36, E174_38, E174_41, E174_42, E174_43, E174_44, E174_47, E174_50, E174_53, E174_54, E174_57, E174_60, E174_63, E174_64, E174_67, E174_70, E174_73, E174_75, E174_78, E174_80, E174_81, E174_82, isg hS, isw hS, pk54 hS, rfs, rfn, cs0, csi, csl, csr, csn, kti, ktl, ktr, ktn, ktv, ktf, true_and, and_true, and_self, ↓reduceIte, Nat.reduceAdd, Nat.reduceSub, Nat.reduceMul, Nat.reduceLT, Nat.reduceLeDiff, Nat.reduceEqDiff, true_or, or_true, false_or, or_false, not_true_eq_false, not_false_eq_true, reduceCtorEq, cmp_lt, cmp_gt, cmp_eq, Int32.reduceAdd, Int32.reduceSub, Int32.reduceMul, Int32.reduceLT, Int32.reduceToNatClampNeg, eq_self, ne_eq, Int64.reduceAdd, Int64.reduceSub, Int64.reduceMul, Int64.reduceLT, g1, g2, g3, bI_f, bI_t, n1_0]
        refine nxT hS hR kT (wdB0 g3) (fun J L' f' k1 k2 k3 => ?_)
        simp only [E174_82, E174_85, E174_86, E174_87, E174_89, E174_92, E174_93, isg hS, pk54 hS, rfs, rfn, cs0, csi, csl, csr, csn, kti, ktl, ktr, ktn, ktv, ktf, true_and, and_true, and_self, ↓reduceIte, Nat.reduceAdd, Nat.reduceSub, Nat.reduceMul, Nat.reduceLT, Nat.reduceLeDiff, Nat.reduceEqDiff, true_or, or_true, false_or, or_false, not_true_eq_false, not_false_eq_true, reduceCtorEq, cmp_lt, cmp_gt, cmp_eq, Int32.reduceAdd, Int32.reduceSub, Int32.reduceMul, Int32.reduceLT, Int32.reduceToNatClampNeg, eq_self, ne_eq, Int64.reduceAdd, Int64.reduceSub, Int64.reduceMul, Int64.reduceLT]
        refine opn (d := d) (f := f') (br := 33) (tn := 1) hS hR ⟨k2, (k3.2 13 (by decide)).trans k13, (k3.2 15 (by decide)).trans k15, (k3.2 19 (by decide)).trans k19, by omega, ha⟩ (by rw [k3.1 60 (by decide), k3.1 62 (by decide)]; exact KV) sgB0 (Or.inr ⟨by decide, by unfold Opv; simp, rfl⟩) (fun J2 L2 f2 q1 q2 q3 q4 => ?_)
        simp only [E174_93, E174_96, E174_97, rfs, rfn, cs0, csi, csl, csr, csn, kti, ktl, ktr, ktn, ktv, ktf, true_and, and_true, and_self, ↓reduceIte, Nat.reduceAdd, Nat.reduceSub, Nat.reduceMul, Nat.reduceLT, Nat.reduceLeDiff, Nat.reduceEqDiff, true_or, or_true, false_or, or_false, not_true_eq_false, not_false_eq_true, reduceCtorEq, cmp_lt, cmp_gt, cmp_eq, Int32.reduceAdd, Int32.reduceSub, Int32.reduceMul, Int32.reduceLT, Int32.reduceToNatClampNeg, eq_self, ne_eq, Int64.reduceAdd, Int64.reduceSub, Int64.reduceMul, Int64.reduceLT]
        exact hq J2 L2 f2 1 q1 (by decide) (by omega) (Or.inr (by omega)) ((K0.tr k3.m.x).tr q4)
    · simp only [E174_26, E174_28, E174_31, E174_34, E174_35, E174_36, E174_38, E174_41, E174_42, E174_43, E174_44, E174_47, E174_50, E174_53, E174_54, E174_57, E174_60, E174_63, E174_64, E174_67, E174_70, E174_73, E174_75, E174_78, E174_80, E174_81, E174_82, isg hS, isw hS, pk54 hS, rfs, rfn, cs0, csi, csl, csr, csn, kti, ktl, ktr, ktn, ktv, ktf, true_and, and_true, and_self, ↓reduceIte, Nat.reduceAdd, Nat.reduceSub, Nat.reduceMul, Nat.reduceLT, Nat.reduceLeDiff, Nat.reduceEqDiff, true_or, or_true, false_or, or_false, not_true_eq_false, not_false_eq_true, reduceCtorEq, cmp_lt, cmp_gt, cmp_eq, Int32.reduceAdd, Int32.reduceSub, Int32.reduceMul, Int32.reduceLT, Int32.reduceToNatClampNeg, eq_self, ne_eq, Int64.reduceAdd, Int64.reduceSub, Int64.reduceMul, Int64.reduceLT, g1, g2, bI_f, bI_t, n1_0]
      refine nxT hS hR kT (wdB0 g2) (fun J L' f' k1 k2 k3 => ?_)
      simp only [E174_82, E174_85, E174_86, E174_87, E174_89, E174_92, E174_93, isg hS, pk54 hS, rfs, rfn, cs0, csi, csl, csr, csn, kti, ktl, ktr, ktn, ktv, ktf, true_and, and_true, and_self, ↓reduceIte, Nat.reduceAdd, Nat.reduceSub, Nat.reduceMul, Nat.reduceLT, Nat.reduceLeDiff, Nat.reduceEqDiff, true_or, or_true, false_or, or_false, not_true_eq_false, not_false_eq_true, reduceCtorEq, cmp_lt, cmp_gt, cmp_eq, Int32.reduceAdd, Int32.reduceSub, Int32.reduceMul, Int32.reduceLT, Int32.reduceToNatClampNeg, eq_self, ne_eq, Int64.reduceAdd, Int64.reduceSub, Int64.reduceMul, Int64.reduceLT]
      refine opn (d := d) (f := f') (br := 32) (tn := 1) hS hR ⟨k2, (k3.2 13 (by decide)).trans k13, (k3.2 15 (by decide)).trans k15, (k3.2 19 (by decide)).trans k19, by omega, ha⟩ (by rw [k3.1 60 (by decide), k3.1 62 (by decide)]; exact KV) sgB0 (Or.inr ⟨by decide, by unfold Opv; simp, rfl⟩) (fun J2 L2 f2 q1 q2 q3 q4 => ?_)
      simp only [E174_93, E174_96, E174_97, rfs, rfn, cs0, csi, csl, csr, csn, kti, ktl, ktr, ktn, ktv, ktf, true_and, and_true, and_self, ↓reduceIte, Nat.reduceAdd, Nat.reduceSub, Nat.reduceMul, Nat.reduceLT, Nat.reduceLeDiff, Nat.reduceEqDiff, true_or, or_true, false_or, or_false, not_true_eq_false, not_false_eq_true, reduceCtorEq, cmp_lt, cmp_gt, cmp_eq, Int32.reduceAdd, Int32.reduceSub, Int32.reduceMul, Int32.reduceLT, Int32.reduceToNatClampNeg, eq_self, ne_eq, Int64.reduceAdd, Int64.reduceSub, Int64.reduceMul, Int64.reduceLT]
      exact hq J2 L2 f2 1 q1 (by decide) (by omega) (Or.inr (by omega)) ((K0.tr k3.m.x).tr q4)
  · simp only [E174_26, E174_28, E174_31, E174_34, E174_35, E174_36, E174_38, isg hS, pk54 hS, rfs, rfn, cs0, csi, csl, csr, csn, kti, ktl, ktr, ktn, ktv, ktf, true_and, and_true, and_self, ↓reduceIte, Nat.reduceAdd, Nat.reduceSub, Nat.reduceMul, Nat.reduceLT, Nat.reduceLeDiff, Nat.reduceEqDiff, true_or, or_true, false_or, or_false, not_true_eq_false, not_false_eq_true, reduceCtorEq, cmp_lt, cmp_gt, cmp_eq, Int32.reduceAdd, Int32.reduceSub, Int32.reduceMul, Int32.reduceLT, Int32.reduceToNatClampNeg, eq_self, ne_eq, Int64.reduceAdd, Int64.reduceSub, Int64.reduceMul, Int64.reduceLT, g1, bI_t, n1_0]
    refine opn (d := d) (f := f) (b := true) (br := 31) (tn := 1) hS hR KM KV (fun _ => sgB0 g1) (Or.inr ⟨by decide, by unfold Opv; simp, rfl⟩) (fun J2 L2 f2 q1 q2 q3 q4 => ?_)
    simp only [E174_38, E174_41, E174_42, rfs, rfn, cs0, csi, csl, csr, csn, kti, ktl, ktr, ktn, ktv, ktf, true_and, and_true, and_self, ↓reduceIte, Nat.reduceAdd, Nat.reduceSub, Nat.reduceMul, Nat.reduceLT, Nat.reduceLeDiff, Nat.reduceEqDiff, true_or, or_true, false_or, or_false, not_true_eq_false, not_false_eq_true, reduceCtorEq, cmp_lt, cmp_gt, cmp_eq, Int32.reduceAdd, Int32.reduceSub, Int32.reduceMul, Int32.reduceLT, Int32.reduceToNatClampNeg, eq_self, ne_eq, Int64.reduceAdd, Int64.reduceSub, Int64.reduceMul, Int64.reduceLT]
    exact hq J2 L2 f2 1 q1 (by decide) q2 q3 (K0.tr q4)
/-- readPlain -/
theorem rpl (hS : Pm S) (hR : Pr R) (hM : Rm I L a f nc p false) (hV : Rv (I 60) (I 62) a nc p 0) (hq : ∀ J L' f' tn, Rr J L' a tn f' → tn ≤ 4 → f ≤ f' → (J 54 13 = 1 ∨ f < f') → Fx I J a → Q (.int (nI tn)) S J L' R) : EvM (d + 6) 175 [.ref 54] S I L R Q := by
  obtain ⟨hT, e13, e15, e19, hf, ha⟩ := id hM
  have f4 := hT.le
  cases g1 : wdB I L 14836
  · cases g2 : sgB I L 40
    · simp only [M175, E175_0, E175_1, E175_4, E175_7, E175_22, E175_23, E175_25, E175_28, E175_40, E175_41, isg hS, isw hS, pk54 hS, rfs, rfn, cs0, csi, csl, csr, csn, kti, ktl, ktr, ktn, ktv, ktf, true_and, and_true, and_self, ↓reduceIte, Nat.reduceAdd, Nat.reduceSub, Nat.reduceMul, Nat.reduceLT, Nat.reduceLeDiff, Nat.reduceEqDiff, true_or, or_true, false_or, or_false, not_true_eq_false, not_false_eq_true, reduceCtorEq, cmp_lt, cmp_gt, cmp_eq, Int32.reduceAdd, Int32.reduceSub, Int32.reduceMul, Int32.reduceLT, Int32.reduceToNatClampNeg, eq_self, ne_eq, Int64.reduceAdd, Int64.reduceSub, Int64.reduceMul, Int64.reduceLT, g1, g2, bI_f]
      refine rpt (d := d) hS hR hM hV.t1 (fun J L' f' tn k1 k2 k3 k4 k5 => ?_)
      simp only [E175_41, E175_44, rfs, rfn, cs0, csi, csl, csr, csn, kti, ktl, ktr, ktn, ktv, ktf, true_and, and_true, and_self, ↓reduceIte, Nat.reduceAdd, Nat.reduceSub, Nat.reduceMul, Nat.reduceLT, Nat.reduceLeDiff, Nat.reduceEqDiff, true_or, or_true, false_or, or_false, not_true_eq_false, not_false_eq_true, reduceCtorEq, cmp_lt, cmp_gt, cmp_eq, Int32.reduceAdd, Int32.reduceSub, Int32.reduceMul, Int32.reduceLT, Int32.reduceToNatClampNeg, eq_self, ne_eq, Int64.reduceAdd, Int64.reduceSub, Int64.reduceMul, Int64.reduceLT]
      exact hq J L' f' tn k1 k2 k3 k4 k5
    · simp only [M175, E175_0, E175_1, E175_4, E175_7, E175_22, E175_23, E175_25, E175_28, E175_31, E175_32, E175_33, E175_35, isg hS, isw hS, pk54 hS, rfs, rfn, cs0, csi, csl, csr, csn, kti, ktl, ktr, ktn, ktv, ktf, true_and, and_true, and_self, ↓reduceIte, Nat.reduceAdd, Nat.reduceSub, Nat.reduceMul, Nat.reduceLT, Nat.reduceLeDiff, Nat.reduceEqDiff, true_or, or_true, false_or, or_false, not_true_eq_false, not_false_eq_true, reduceCtorEq, cmp_lt, cmp_gt, cmp_eq, Int32.reduceAdd, Int32.reduceSub, Int32.reduceMul, Int32.reduceLT, Int32.reduceToNatClampNeg, eq_self, ne_eq, Int64.reduceAdd, Int64.reduceSub, Int64.reduceMul, Int64.reduceLT, g1, g2, bI_f, bI_t, n1_0]
      refine opn (d := d + 1) (f := f) (b := true) (br := 30) (tn := 0) hS hR hM hV.t1 (fun _ => sgB0 g2) (Or.inl ⟨rfl, hV.2.1 (Or.inl rfl), rfl⟩) (fun J2 L2 f2 q1 q2 q3 q4 => ?_)
      simp only [E175_35, E175_38, E175_39, rfs, rfn, cs0, csi, csl, csr, csn, kti, ktl, ktr, ktn, ktv, ktf, true_and, and_true, and_self, ↓reduceIte, Nat.reduceAdd, Nat.reduceSub, Nat.reduceMul, Nat.reduceLT, Nat.reduceLeDiff, Nat.reduceEqDiff, true_or, or_true, false_or, or_false, not_true_eq_false, not_false_eq_true, reduceCtorEq, cmp_lt, cmp_gt, cmp_eq, Int32.reduceAdd, Int32.reduceSub, Int32.reduceMul, Int32.reduceLT, Int32.reduceToNatClampNeg, eq_self, ne_eq, Int64.reduceAdd, Int64.reduceSub, Int64.reduceMul, Int64.reduceLT]
      exact hq J2 L2 f2 0 q1 (by decide) q2 q3 q4
  · obtain ⟨t, n, s, h1, h2, h3, h4, h5, h6, h7, h8, h9, h10⟩ := id hT
    have hs : f < t := by
      rcases h9 with h9 | h9
      · exact absurd (by rw [h5, h9]; rfl) (wdB0 g1)
      · exact h9
    have hp : p < 400 := by omega
    simp only [M175, E175_0, E175_1, E175_4, E175_7, E175_10, E175_11, E175_13, E175_16, E175_17, isw hS, psh_m hS hR e19 hp, pk54 hS, rfs, rfn, cs0, csi, csl, csr, csn, kti, ktl, ktr, ktn, ktv, ktf, true_and, and_true, and_self, ↓reduceIte, Nat.reduceAdd, Nat.reduceSub, Nat.reduceMul, Nat.reduceLT, Nat.reduceLeDiff, Nat.reduceEqDiff, true_or, or_true, false_or, or_false, not_true_eq_false, not_false_eq_true, reduceCtorEq, cmp_lt, cmp_gt, cmp_eq, Int32.reduceAdd, Int32.reduceSub, Int32.reduceMul, Int32.reduceLT, Int32.reduceToNatClampNeg, eq_self, ne_eq, Int64.reduceAdd, Int64.reduceSub, Int64.reduceMul, Int64.reduceLT, g1, bI_t, n1_0]
    refine nxT (f := f) hS hR (hT.cg (fun k q1 q2 => by rw [pt_f (by omega), pt_m (by decide)])) (by rw [pt_f (by decide), pt_m (by decide)]; exact wdB0 g1) (fun J L' f' k1 k2 k3 => ?_)
    simp only [E175_17, E175_20, E175_21, rfs, rfn, cs0, csi, csl, csr, csn, kti, ktl, ktr, ktn, ktv, ktf, true_and, and_true, and_self, ↓reduceIte, Nat.reduceAdd, Nat.reduceSub, Nat.reduceMul, Nat.reduceLT, Nat.reduceLeDiff, Nat.reduceEqDiff, true_or, or_true, false_or, or_false, not_true_eq_false, not_false_eq_true, reduceCtorEq, cmp_lt, cmp_gt, cmp_eq, Int32.reduceAdd, Int32.reduceSub, Int32.reduceMul, Int32.reduceLT, Int32.reduceToNatClampNeg, eq_self, ne_eq, Int64.reduceAdd, Int64.reduceSub, Int64.reduceMul, Int64.reduceLT]
    have K0 : Fx I (put (put I 62 p 27) 54 19 (nI (p + 1))) a := Fx.p (Fx.q Fx.rf (by decide)) (by decide)
    refine hq J L' f' 0 ⟨nc, p + 1, false, ⟨k2, ?_, ?_, ?_, by omega, ha⟩, fun _ => ?_⟩ (by decide) (by omega) (Or.inr k1) (K0.tr k3.m.x)
    · rw [k3.2 13 (by decide), pt_f (by decide), pt_m (by decide)]; exact e13
    · rw [k3.2 15 (by decide), pt_f (by decide), pt_m (by decide)]; exact e15
    · rw [k3.2 19 (by decide), pt_s]
    · rw [k3.1 60 (by decide), k3.1 62 (by decide), pt_n (by decide), pt_n (by decide), pt_n (by decide), pt_c]
      refine ⟨hV.1.up (by unfold Opv; simp) (Or.inl (hV.2.1 (Or.inl rfl))), fun _ i hi => ?_, ?_, fun z => by omega⟩
      · by_cases e : i = p
        · rw [e, uu_s]; decide
        · rw [uu_n _ _ e]; exact hV.2.1 (Or.inl rfl) i (by omega)
      · rw [Bc.up]; exact hV.2.2.1
end TU
