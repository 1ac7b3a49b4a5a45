/-! the reference's reader: readStep, recipe -/
def StV (T O : Nat → Int32) (s nc : Nat) : Prop := ∃ a b c e g, a ≤ b ∧ b ≤ c ∧ c ≤ e ∧ e ≤ nc ∧ g ≤ 15 ∧ T (10 * s + 1) = nI a ∧ T (10 * s + 2) = nI b ∧ T (10 * s + 3) = nI c ∧ T (10 * s + 4) = nI e ∧ T (10 * s + 7) = nI g ∧ (∃ n, Dp O a (b - a) n) ∧ (∃ n, Dp O b (c - b) n) ∧ (∃ n, Dp O c (e - c) n)
theorem StV.cg {T O T' O' : Nat → Int32} {s nc nc' : Nat} (h : StV T O s nc) (e1 : ∀ j, j < 10 → T' (10 * s + j) = T (10 * s + j)) (e2 : ∀ k, k < nc → O' k = O k) (hn : nc ≤ nc') : StV T' O' s nc' := by
  obtain ⟨a, b, c, e, g, k1, k2, k3, k4, k5, f1, f2, f3, f4, f5, ⟨n1, o1⟩, ⟨n2, o2⟩, ⟨n3, o3⟩⟩ := h
  exact ⟨a, b, c, e, g, k1, k2, k3, by omega, k5, (e1 _ (by omega)).trans f1, (e1 _ (by omega)).trans f2, (e1 _ (by omega)).trans f3, (e1 _ (by omega)).trans f4, (e1 _ (by omega)).trans f5, ⟨n1, o1.cg _ (fun k hk => e2 _ (by omega))⟩, ⟨n2, o2.cg _ (fun k hk => e2 _ (by omega))⟩, ⟨n3, o3.cg _ (fun k hk => e2 _ (by omega))⟩⟩
def Fy (I J : mI) : Prop := (∀ b, ¬ b = 54 → (b < 60 ∨ 63 < b) → J b = I b) ∧ (∀ k, (k < 8 ∨ (15 < k ∧ k < 19) ∨ k = 21 ∨ 22 < k) → J 54 k = I 54 k)
theorem Fy.rf {I : mI} : Fy I I := ⟨fun _ _ _ => rfl, fun _ _ => rfl⟩
theorem Fy.tr {I J K : mI} (h : Fy I J) (h2 : Fy J K) : Fy I K := ⟨fun b h1 h3 => (h2.1 b h1 h3).trans (h.1 b h1 h3), fun k h1 => (h2.2 k h1).trans (h.2 k h1)⟩
theorem Fx.y {I J : mI} {a : Nat} (h : Fx I J a) : Fy I J := ⟨fun b h1 h2 => h.1 b h1 (by omega), fun k hk => h.2.1 k (by omega)⟩
theorem Fm.y {I J : mI} (h : Fm I J) : Fy I J := ⟨fun b h1 _ => h.1 b h1, fun k hk => h.2 k (by omega)⟩
theorem Fy.t {I J : mI} {k : Nat} {x : Int32} (h : Fy I J) : Fy I (put J 63 k x) := ⟨fun b h1 h2 => by rw [pt_n (by omega)]; exact h.1 b h1 h2, fun j hj => by rw [pt_m (by decide)]; exact h.2 j hj⟩
theorem Fy.p {I J : mI} {k : Nat} {x : Int32} (h : Fy I J) (hk : k = 22 ∨ k = 15 ∨ k = 14) : Fy I (put J 54 k x) := ⟨fun b h1 h2 => by rw [pt_n h1]; exact h.1 b h1 h2, fun j hj => by rw [pt_f (by omega)]; exact h.2 j hj⟩
section TW
variable {d f nc ns : Nat} {S : mS} {I : mI} {L : mL} {R : mR} {Q : mQ}
theorem soa (hS : Pm S) (hq : ∀ v : Int32, (v = -1 ∨ (¬ v = -1 ∧ ¬ I 54 10 = 0)) → Q (.int v) S I L R) : EvM (d + 2) 179 [.ref 54] S I L R Q := by
  cases g1 : wdB I L 206405
  · cases g2 : wdB I L 659105125
    · cases g3 : wdB I L 661950697650
      · cases g4 : wdB I L 17479784
        · cases g5 : wdB I L 759172
          · cases g6 : wdB I L 239
            · simp only [M179, E179_0, E179_1, E179_4, E179_7, E179_10, E179_11, E179_14, E179_17, E179_20, E179_21, E179_24, E179_27, E179_30, E179_31, E179_34, E179_35, E179_36, E179_37, E179_40, E179_43, E179_46, E179_47, E179_50, E179_51, E179_54, E179_57, E179_60, E179_61, E179_64, E179_65, E179_68, E179_71, E179_74, E179_75, E179_78, E179_79, E179_82, E179_85, E179_88, E179_89, E179_92, E179_93, isw hS, pk54 hS, rfs, rfn, cs0, csi, csl, csr, csn, kti, ktl, ktr, ktn, ktv, ktf, true_and, and_true, and_self, ↓reduceIte, Nat.reduceAdd, Nat.reduceSub, Nat.reduceMul, Nat.reduceLT, Nat.reduceLeDiff, Nat.reduceEqDiff, true_or, or_true, false_or, or_false, not_true_eq_false, not_false_eq_true, reduceCtorEq, cmp_lt, cmp_gt, cmp_eq, Int32.reduceAdd, Int32.reduceSub, Int32.reduceMul, Int32.reduceLT, Int32.reduceToNatClampNeg, eq_self, ne_eq, Int64.reduceAdd, Int64.reduceSub, Int64.reduceMul, Int64.reduceLT, g1, g2, g3, g4, g5, g6, bI_f]
              exact hq _ (Or.inl rfl)
            · simp only [M179, E179_0, E179_1, E179_4, E179_7, E179_10, E179_11, E179_14, E179_17, E179_20, E179_21, E179_24, E179_27, E179_30, E179_31, E179_34, E179_35, E179_36, E179_37, E179_40, E179_43, E179_46, E179_47, E179_50, E179_51, E179_54, E179_57, E179_60, E179_61, E179_64, E179_65, E179_68, E179_71, E179_74, E179_75, E179_78, E179_79, E179_82, E179_85, E179_88, E179_89, E179_92, E179_93, isw hS, pk54 hS, rfs, rfn, cs0, csi, csl, csr, csn, kti, ktl, ktr, ktn, ktv, ktf, true_and, and_true, and_self, ↓reduceIte, Nat.reduceAdd, Nat.reduceSub, Nat.reduceMul, Nat.reduceLT, Nat.reduceLeDiff, Nat.reduceEqDiff, true_or, or_true, false_or, or_false, not_true_eq_false, not_false_eq_true, reduceCtorEq, cmp_lt, cmp_gt, cmp_eq, Int32.reduceAdd, Int32.reduceSub, Int32.reduceMul, Int32.reduceLT, Int32.reduceToNatClampNeg, eq_self, ne_eq, Int64.reduceAdd, Int64.reduceSub, Int64.reduceMul, Int64.reduceLT, g1, g2, g3, g4, g5, g6, bI_f, bI_t, n1_0]
              exact hq _ (Or.inr ⟨by decide, wdB0 g6⟩)
          · simp only [M179, E179_0, E179_1, E179_4, E179_7, E179_10, E179_11, E179_14, E179_17, E179_20, E179_21, E179_24, E179_27, E179_30, E179_31, E179_34, E179_35, E179_36, E179_37, E179_40, E179_43, E179_46, E179_47, E179_50, E179_51, E179_54, E179_57, E179_60, E179_61, E179_64, E179_65, E179_68, E179_71, E179_74, E179_75, E179_78, E179_79, E179_82, E179_85, E179_88, E179_89, E179_92, E179_93, isw hS, pk54 hS, rfs, rfn, cs0, csi, csl, csr, csn, kti, ktl, ktr, ktn, ktv, ktf, true_and, and_true, and_self, ↓reduceIte, Nat.reduceAdd, Nat.reduceSub, Nat.reduceMul, Nat.reduceLT, Nat.reduceLeDiff, Nat.reduceEqDiff, true_or, or_true, false_or, or_false, not_true_eq_false, not_false_eq_true, reduceCtorEq, cmp_lt, cmp_gt, cmp_eq, Int32.reduceAdd, Int32.reduceSub, Int32.reduceMul, Int32.reduceLT, Int32.reduceToNatClampNeg, eq_self, ne_eq, Int64.reduceAdd, Int64.reduceSub, Int64.reduceMul, Int64.reduceLT, g1, g2, g3, g4, g5, bI_f, bI_t, n1_0]
            exact hq _ (Or.inr ⟨by decide, wdB0 g5⟩)
        · simp only [M179, E179_0, E179_1, E179_4, E179_7, E179_10, E179_11, E179_14, E179_17, E179_20, E179_21, E179_24, E179_27, E179_30, E179_31, E179_34, E179_35, E179_36, E179_37, E179_40, E179_43, E179_46, E179_47, E179_50, E179_51, E179_54, E179_57, E179_60, E179_61, E179_64, E179_65, E179_68, E179_71, E179_74, E179_75, E179_78, E179_79, E179_82, E179_85, E179_88, E179_89, E179_92, E179_93, isw hS, pk54 hS, rfs, rfn, cs0, csi, csl, csr, csn, kti, ktl, ktr, ktn, ktv, ktf, true_and, and_true, and_self, ↓reduceIte, Nat.reduceAdd, Nat.reduceSub, Nat.reduceMul, Nat.reduceLT, Nat.reduceLeDiff, Nat.reduceEqDiff, true_or, or_true, false_or, or_false, not_true_eq_false, not_false_eq_true, reduceCtorEq, cmp_lt, cmp_gt, cmp_eq, Int32.reduceAdd, Int32.reduceSub, Int32.reduceMul, Int32.reduceLT, Int32.reduceToNatClampNeg, eq_self, ne_eq, Int64.reduceAdd, Int64.reduceSub, Int64.reduceMul, Int64.reduceLT, g1, g2, g3, g4, bI_f, bI_t, n1_0]
          exact hq _ (Or.inr ⟨by decide, wdB0 g4⟩)
      · simp only [M179, E179_0, E179_1, E179_4, E179_7, E179_10, E179_11, E179_14, E179_17, E179_20, E179_21, E179_24, E179_27, E179_30, E179_31, E179_34, E179_35, E179_36, E179_37, E179_40, E179_43, E179_46, E179_47, E179_50, E179_51, E179_54, E179_57, E179_60, E179_61, E179_64, E179_65, E179_68, E179_71, E179_74, E179_75, E179_78, E179_79, E179_82, E179_85, E179_88, E179_89, E179_92, E179_93, isw hS, pk54 hS, rfs, rfn, cs0, csi, csl, csr, csn, kti, ktl, ktr, ktn, ktv, ktf, true_and, and_true, and_self, ↓reduceIte, Nat.reduceAdd, Nat.reduceSub, Nat.reduceMul, Nat.reduceLT, Nat.reduceLeDiff, Nat.reduceEqDiff, true_or, or_true, false_or, or_false, not_true_eq_false, not_false_eq_true, reduceCtorEq, cmp_lt, cmp_gt, cmp_eq, Int32.reduceAdd, Int32.reduceSub, Int32.reduceMul, Int32.reduceLT, Int32.reduceToNatClampNeg, eq_self, ne_eq, Int64.reduceAdd, Int64.reduceSub, Int64.reduceMul, Int64.reduceLT, g1, g2, g3, bI_f, bI_t, n1_0]
        exact hq _ (Or.inr ⟨by decide, wdB0 g3⟩)
    · simp only [M179, E179_0, E179_1, E179_4, E179_7, E179_10, E179_11, E179_14, E179_17, E179_20, E179_21, E179_24, E179_27, E179_30, E179_31, E179_34, E179_35, E179_36, E179_37, E179_40, E179_43, E179_46, E179_47, E179_50, E179_51, E179_54, E179_57, E179_60, E179_61, E179_64, E179_65, E179_68, E179_71, E179_74, E179_75, E179_78, E179_79, E179_82, E179_85, E179_88, E179_89, E179_92, E179_93, isw hS, pk54 hS, rfs, rfn, cs0, csi, csl, csr, csn, kti, ktl, ktr, ktn, ktv, ktf, true_and, and_true, and_self, ↓reduceIte, Nat.reduceAdd, Nat.reduceSub, Nat.reduceMul, Nat.reduceLT, Nat.reduceLeDiff, Nat.reduceEqDiff, true_or, or_true, false_or, or_false, not_true_eq_false, not_false_eq_true, reduceCtorEq, cmp_lt, cmp_gt, cmp_eq, Int32.reduceAdd, Int32.reduceSub, Int32.reduceMul, Int32.reduceLT, Int32.reduceToNatClampNeg, eq_self, ne_eq, Int64.reduceAdd, Int64.reduceSub, Int64.reduceMul, Int64.reduceLT, g1, g2, bI_f, bI_t, n1_0]
      exact hq _ (Or.inr ⟨by decide, wdB0 g2⟩)
  · simp only [M179, E179_0, E179_1, E179_4, E179_7, E179_10, E179_11, E179_14, E179_17, E179_20, E179_21, E179_24, E179_27, E179_30, E179_31, E179_34, E179_35, E179_36, E179_37, E179_40, E179_43, E179_46, E179_47, E179_50, E179_51, E179_54, E179_57, E179_60, E179_61, E179_64, E179_65, E179_68, E179_71, E179_74, E179_75, E179_78, E179_79, E179_82, E179_85, E179_88, E179_89, E179_92, E179_93, isw hS, pk54 hS, rfs, rfn, cs0, csi, csl, csr, csn, kti, ktl, ktr, ktn, ktv, ktf, true_and, and_true, and_self, ↓reduceIte, Nat.reduceAdd, Nat.reduceSub, Nat.reduceMul, Nat.reduceLT, Nat.reduceLeDiff, Nat.reduceEqDiff, true_or, or_true, false_or, or_false, not_true_eq_false, not_false_eq_true, reduceCtorEq, cmp_lt, cmp_gt, cmp_eq, Int32.reduceAdd, Int32.reduceSub, Int32.reduceMul, Int32.reduceLT, Int32.reduceToNatClampNeg, eq_self, ne_eq, Int64.reduceAdd, Int64.reduceSub, Int64.reduceMul, Int64.reduceLT, g1, bI_f, bI_t, n1_0]
    exact hq _ (Or.inr ⟨by decide, wdB0 g1⟩)
/-- behind the STEP's first part: the rest of readStep; T: the STEP's row as it stands -/
def St1 (I : mI) (L : mL) (ns f nc a : Nat) (bad : Bool) : Prop := Tk I L f ∧ I 54 13 = bI bad ∧ I 54 15 = nI nc ∧ nc ≤ f ∧ a ≤ nc ∧ I 54 22 = nI ns ∧ (bad = false → (∀ s, s < ns → StV (I 63) (I 60) s a))
theorem rs4_m {k : Nat} {x : Int32} (hS : Pm S) (hR : Pr R) (hn : ns < 16) (hk : k = 10 * ns) {a b c e g : Nat} {bad : Bool} (h : St1 I L ns f e a bad) (hv : bad = false → a ≤ b ∧ b ≤ c ∧ c ≤ e ∧ g ≤ 15 ∧ I 63 (10 * ns + 1) = nI a ∧ I 63 (10 * ns + 2) = nI b ∧ I 63 (10 * ns + 3) = nI c ∧ I 63 (10 * ns + 7) = nI g ∧ (∃ n, Dp (I 60) a (b - a) n) ∧ (∃ n, Dp (I 60) b (c - b) n) ∧ (∃ n, Dp (I 60) c (e - c) n)) (hq : ∀ J nc' ns' bad', Tk J L f → J 54 13 = bI bad' → J 54 15 = nI nc' → nc' ≤ f → J 54 22 = nI ns' → (bad' = false → ns' ≤ 16 ∧ ∀ s, s < ns' → StV (J 63) (J 60) s nc') → Fy I J → Q .null S J L R) : Ev (d + 8) 180 187 [.ref 54, .int x, .int (nI k)] [] S I L R Q := by
  subst hk
  obtain ⟨hT, e13, e15, hf, ha, e22, hs⟩ := h
  have p4 : nI (10 * ns) + 4 = nI (10 * ns + 4) := by rw [show (4 : Int32) = nI 4 from rfl, nI_add]
  have a4 : inb (nI (10 * ns + 4)) 160 = True := inb_nI (by omega) (by decide)
  have b4 : (nI (10 * ns + 4)).toNatClampNeg = 10 * ns + 4 := nI_clamp (by omega)
  simp only [E180_187, E180_188, E180_191, E180_192, E180_193, E180_194, E180_195, E180_198, E180_199, E180_200, E180_201, E180_204, E180_205, E180_206, E180_209, pk54 hS, pk63 hS, pl63 hS, pa63 hS, pi63 hS, pr54_21 hR, rfs, rfn, cs0, csi, csl, csr, csn, kti, ktl, ktr, ktn, ktv, ktf, true_and, and_true, and_self, ↓reduceIte, Nat.reduceAdd, Nat.reduceSub, Nat.reduceMul, Nat.reduceLT, Nat.reduceLeDiff, Nat.reduceEqDiff, true_or, or_true, false_or, or_false, not_true_eq_false, not_false_eq_true, reduceCtorEq, cmp_lt, cmp_gt, cmp_eq, Int32.reduceAdd, Int32.reduceSub, Int32.reduceMul, Int32.reduceLT, Int32.reduceToNatClampNeg, eq_self, ne_eq, Int64.reduceAdd, Int64.reduceSub, Int64.reduceMul, Int64.reduceLT, pt, pt_m, p4, a4, b4, e15, e22, nI_1]
  refine hq _ e (ns + 1) bad (hT.cg (fun k w1 w2 => by rw [pt_f (by omega), pt_m (by decide)])) ?_ ?_ hf pt_s (fun hb => ⟨by omega, fun s hs' => ?_⟩) (Fy.p (Fy.t Fy.rf) (by decide))
  · rw [pt_f (by decide), pt_m (by decide)]; exact e13
  · rw [pt_f (by decide), pt_m (by decide)]; exact e15
  · rw [pt_n (show ¬ 63 = 54 by decide), pt_n (show ¬ 60 = 54 by decide), pt_n (show ¬ 60 = 63 by decide)]
    by_cases q : s = ns
    · subst q
      obtain ⟨h1, h2, h3, h4, h5, h6, h7, h8, h9, h10, h11⟩ := hv hb
      exact ⟨a, b, c, e, g, h1, h2, h3, Nat.le_refl e, h4, by rw [pt_f (by omega)]; exact h5, by rw [pt_f (by omega)]; exact h6, by rw [pt_f (by omega)]; exact h7, pt_s, by rw [pt_f (by omega)]; exact h8, h9, h10, h11⟩
    · exact (hs hb s (by omega)).cg (fun j hj => by rw [pt_f (by omega)]) (fun _ _ => rfl) (by omega)
theorem St1.x {J : mI} {L' : mL} {f' nc' a : Nat} {bad bad' : Bool} (h : St1 I L ns f nc a bad) (hb : bad' = false → bad = false) (kT : Tk J L' f') (k13 : J 54 13 = bI bad') (k15 : J 54 15 = nI nc') (hn : nc ≤ nc') (hf : nc' ≤ f') (F : Fx I J nc) : St1 J L' ns f' nc' a bad' := by
  obtain ⟨hT, e13, e15, hf, ha, e22, hs⟩ := h
  refine ⟨kT, k13, k15, by omega, by omega, (F.2.1 22 (by decide)).trans e22, fun z s hs' => ?_⟩
  exact (hs (hb z) s hs').cg (fun j hj => by rw [F.1 63 (by decide) (by decide)]) (fun k hk => F.2.2 k (by omega)) (Nat.le_refl a)
theorem St1.m {J : mI} {L' : mL} {f' a : Nat} {bad bad' : Bool} (h : St1 I L ns f nc a bad) (hb : bad' = false → bad = false) (kT : Tk J L' f') (k13 : J 54 13 = bI bad') (hf : f ≤ f') (F : Fm I J) : St1 J L' ns f' nc a bad' :=
  h.x hb kT k13 ((F.2 15 (by decide)).trans h.2.2.1) (Nat.le_refl nc) (by have := h.2.2.2.1; omega) F.x
theorem St1.t {a k : Nat} {x : Int32} {bad : Bool} (h : St1 I L ns f nc a bad) (hk : 10 * ns ≤ k) : St1 (put I 63 k x) L ns f nc a bad := by
  obtain ⟨hT, e13, e15, hf, ha, e22, hs⟩ := h
  refine ⟨hT.cg (fun k _ _ => pt_m (by decide)), (pt_m (by decide)).trans e13, (pt_m (by decide)).trans e15, hf, ha, (pt_m (by decide)).trans e22, fun z s hs' => ?_⟩
  exact (hs z s hs').cg (fun j hj => pt_f (by omega)) (fun k hk => pt_m (by decide)) (Nat.le_refl a)
theorem rs3_m {k : Nat} {x : Int32} (hS : Pm S) (hR : Pr R) (hn : ns < 16) (hk : k = 10 * ns) {a b c g : Nat} {bad : Bool} (h : St1 I L ns f c a bad) (hv : bad = false → a ≤ b ∧ b ≤ c ∧ g ≤ 15 ∧ I 63 (10 * ns + 1) = nI a ∧ I 63 (10 * ns + 2) = nI b ∧ I 63 (10 * ns + 7) = nI g ∧ (∃ n, Dp (I 60) a (b - a) n) ∧ (∃ n, Dp (I 60) b (c - b) n)) (hq : ∀ J L' f' nc' ns' bad', Tk J L' f' → f ≤ f' → J 54 13 = bI bad' → J 54 15 = nI nc' → nc' ≤ f' → J 54 22 = nI ns' → (bad' = false → ns' ≤ 16 ∧ ∀ s, s < ns' → StV (J 63) (J 60) s nc') → Fy I J → Q .null S J L' R) : Ev (d + 8) 180 149 [.ref 54, .int x, .int (nI k)] [] S I L R Q := by
  have p3 : nI k + 3 = nI (k + 3) := by rw [show (3 : Int32) = nI 3 from rfl, nI_add]
  have a3 : inb (nI (k + 3)) 160 = True := inb_nI (by omega) (by decide)
  have b3 : (nI (k + 3)).toNatClampNeg = k + 3 := nI_clamp (by omega)
  have h' : St1 (put I 63 (k + 3) (nI c)) L ns f c a bad := h.t (by omega)
  have hv' : bad = false → a ≤ b ∧ b ≤ c ∧ g ≤ 15 ∧ put I 63 (k + 3) (nI c) 63 (10 * ns + 1) = nI a ∧ put I 63 (k + 3) (nI c) 63 (10 * ns + 2) = nI b ∧ put I 63 (k + 3) (nI c) 63 (10 * ns + 3) = nI c ∧ put I 63 (k + 3) (nI c) 63 (10 * ns + 7) = nI g ∧ (∃ n, Dp (put I 63 (k + 3) (nI c) 60) a (b - a) n) ∧ (∃ n, Dp (put I 63 (k + 3) (nI c) 60) b (c - b) n) := fun z => by
    obtain ⟨h1, h2, h3, h4, h5, h6, h7, h8⟩ := hv z
    rw [pt_f (by omega), pt_f (by omega), pt_f (show ¬ 10 * ns + 7 = k + 3 by omega), pt_n (show ¬ 60 = 63 by decide), hk, pt_s]
    exact ⟨h1, h2, h3, h4, h5, rfl, h6, h7, h8⟩
  have F0 : Fy I (put I 63 (k + 3) (nI c)) := Fy.t Fy.rf
  have e15 := h.2.2.1
  simp only [E180_149, E180_150, E180_153, E180_154, E180_155, E180_156, E180_157, E180_160, pk54 hS, pk63 hS, pl63 hS, pa63 hS, pi63 hS, pr54_21 hR, rfs, rfn, cs0, csi, csl, csr, csn, kti, ktl, ktr, ktn, ktv, ktf, true_and, and_true, and_self, ↓reduceIte, Nat.reduceAdd, Nat.reduceSub, Nat.reduceMul, Nat.reduceLT, Nat.reduceLeDiff, Nat.reduceEqDiff, true_or, or_true, false_or, or_false, not_true_eq_false, not_false_eq_true, reduceCtorEq, cmp_lt, cmp_gt, cmp_eq, Int32.reduceAdd, Int32.reduceSub, Int32.reduceMul, Int32.reduceLT, Int32.reduceToNatClampNeg, eq_self, ne_eq, Int64.reduceAdd, Int64.reduceSub, Int64.reduceMul, Int64.reduceLT, pt, pt_m, p3, a3, b3, e15]
  generalize put I 63 (k + 3) (nI c) = K at h' hv' F0
  obtain ⟨hT, e13, _, hf, ha, e22, hs⟩ := id h'
  cases bad
  · cases g1 : wdB K L 294
    · simp only [E180_161, E180_162, E180_165, E180_168, E180_169, E180_172, E180_175, isw hS, pk54 hS, rfs, rfn, cs0, csi, csl, csr, csn, kti, ktl, ktr, ktn, ktv, ktf, true_and, and_true, and_self, ↓reduceIte, Nat.reduceAdd, Nat.reduceSub, Nat.reduceMul, Nat.reduceLT, Nat.reduceLeDiff, Nat.reduceEqDiff, true_or, or_true, false_or, or_false, not_true_eq_false, not_false_eq_true, reduceCtorEq, cmp_lt, cmp_gt, cmp_eq, Int32.reduceAdd, Int32.reduceSub, Int32.reduceMul, Int32.reduceLT, Int32.reduceToNatClampNeg, eq_self, ne_eq, Int64.reduceAdd, Int64.reduceSub, Int64.reduceMul, Int64.reduceLT, e13, bI_f, g1]
      obtain ⟨h1, h2, h3, h4, h5, h6, h7, h8, h9⟩ := hv' rfl
      exact rs4_m (d := d) (e := c) (b := b) (c := c) (g := g) hS hR hn hk h' (fun _ => ⟨h1, h2, Nat.le_refl c, h3, h4, h5, h6, h7, h8, h9, ⟨0, by rw [Nat.sub_self]; rfl⟩⟩) (fun J nc' ns' bad' w1 w2 w3 w4 w5 w6 w7 => hq J L f nc' ns' bad' w1 (Nat.le_refl f) w2 w3 w4 w5 w6 (F0.tr w7))
    · simp only [E180_161, E180_162, E180_165, E180_168, E180_169, E180_172, E180_175, E180_178, E180_179, isw hS, pk54 hS, rfs, rfn, cs0, csi, csl, csr, csn, kti, ktl, ktr, ktn, ktv, ktf, true_and, and_true, and_self, ↓reduceIte, Nat.reduceAdd, Nat.reduceSub, Nat.reduceMul, Nat.reduceLT, Nat.reduceLeDiff, Nat.reduceEqDiff, true_or, or_true, false_or, or_false, not_true_eq_false, not_false_eq_true, reduceCtorEq, cmp_lt, cmp_gt, cmp_eq, Int32.reduceAdd, Int32.reduceSub, Int32.reduceMul, Int32.reduceLT, Int32.reduceToNatClampNeg, eq_self, ne_eq, Int64.reduceAdd, Int64.reduceSub, Int64.reduceMul, Int64.reduceLT, e13, bI_f, bI_t, n1_0, g1]
      refine nxT hS hR hT (wdB0 g1) (fun J L' f' k1 k2 k3 => ?_)
      have j1 : St1 J L' ns f' c a false := h'.m (fun z => z) k2 ((k3.2 13 (by decide)).trans e13) (by omega) k3.m
      simp only [E180_179, E180_182, E180_183, E180_184, pk54 hS, rfs, rfn, cs0, csi, csl, csr, csn, kti, ktl, ktr, ktn, ktv, ktf, true_and, and_true, and_self, ↓reduceIte, Nat.reduceAdd, Nat.reduceSub, Nat.reduceMul, Nat.reduceLT, Nat.reduceLeDiff, Nat.reduceEqDiff, true_or, or_true, false_or, or_false, not_true_eq_false, not_false_eq_true, reduceCtorEq, cmp_lt, cmp_gt, cmp_eq, Int32.reduceAdd, Int32.reduceSub, Int32.reduceMul, Int32.reduceLT, Int32.reduceToNatClampNeg, eq_self, ne_eq, Int64.reduceAdd, Int64.reduceSub, Int64.reduceMul, Int64.reduceLT]
      refine rex (d := d) (tst := true) hS hR k2 j1.2.1 j1.2.2.1 j1.2.2.2.1 (fun J2 L2 f2 e bad2 q1 q2 q3 q4 q5 q6 q7 q8 => ?_)
      have j2 : St1 J2 L2 ns f2 e a bad2 := j1.x (fun _ => rfl) q1 q2 q3 q4 q5 q8
      try simp only [E180_184, rfs, rfn, cs0, csi, csl, csr, csn, kti, ktl, ktr, ktn, ktv, ktf, true_and, and_true, and_self, ↓reduceIte, Nat.reduceAdd, Nat.reduceSub, Nat.reduceMul, Nat.reduceLT, Nat.reduceLeDiff, Nat.reduceEqDiff, true_or, or_true, false_or, or_false, not_true_eq_false, not_false_eq_true, reduceCtorEq, cmp_lt, cmp_gt, cmp_eq, Int32.reduceAdd, Int32.reduceSub, Int32.reduceMul, Int32.reduceLT, Int32.reduceToNatClampNeg, eq_self, ne_eq, Int64.reduceAdd, Int64.reduceSub, Int64.reduceMul, Int64.reduceLT]
      obtain ⟨h1, h2, h3, h4, h5, h6, h7, ⟨n1, h8⟩, ⟨n2, h9⟩⟩ := hv' rfl
      refine rs4_m (d := d) (e := e) (b := b) (c := c) (g := g) hS hR hn hk j2 (fun z => ⟨h1, h2, q4, h3, ?_, ?_, ?_, ?_, ⟨n1, h8.cg _ (fun k hk => ?_)⟩, ⟨n2, h9.cg _ (fun k hk => ?_)⟩, q7 z⟩) (fun J nc' ns' bad' w1 w2 w3 w4 w5 w6 w7 => hq J L2 f2 nc' ns' bad' w1 (by omega) w2 w3 w4 w5 w6 (((F0.tr k3.m.y).tr q8.y).tr w7))
      · rw [q8.1 63 (by decide) (by decide), k3.1 63 (by decide)]; exact h4
      · rw [q8.1 63 (by decide) (by decide), k3.1 63 (by decide)]; exact h5
      · rw [q8.1 63 (by decide) (by decide), k3.1 63 (by decide)]; exact h6
      · rw [q8.1 63 (by decide) (by decide), k3.1 63 (by decide)]; exact h7
      · rw [q8.2.2 _ (by omega), k3.1 60 (by decide)]
      · rw [q8.2.2 _ (by omega), k3.1 60 (by decide)]
  · simp only [E180_161, E180_162, E180_165, pk54 hS, rfs, rfn, cs0, csi, csl, csr, csn, kti, ktl, ktr, ktn, ktv, ktf, true_and, and_true, and_self, ↓reduceIte, Nat.reduceAdd, Nat.reduceSub, Nat.reduceMul, Nat.reduceLT, Nat.reduceLeDiff, Nat.reduceEqDiff, true_or, or_true, false_or, or_false, not_true_eq_false, not_false_eq_true, reduceCtorEq, cmp_lt, cmp_gt, cmp_eq, Int32.reduceAdd, Int32.reduceSub, Int32.reduceMul, Int32.reduceLT, Int32.reduceToNatClampNeg, eq_self, ne_eq, Int64.reduceAdd, Int64.reduceSub, Int64.reduceMul, Int64.reduceLT, e13, bI_t, n1_0]
    exact rs4_m (d := d) (e := c) (b := b) (c := c) (g := g) hS hR hn hk h' (fun z => by cases z) (fun J nc' ns' bad' w1 w2 w3 w4 w5 w6 w7 => hq J L f nc' ns' bad' w1 (Nat.le_refl f) w2 w3 w4 w5 w6 (F0.tr w7))
theorem rs2_m {k : Nat} {x : Int32} (hS : Pm S) (hR : Pr R) (hn : ns < 16) (hk : k = 10 * ns) {a b g : Nat} {bad : Bool} (h : St1 I L ns f b a bad) (hv : bad = false → a ≤ b ∧ g ≤ 15 ∧ I 63 (10 * ns + 1) = nI a ∧ I 63 (10 * ns + 7) = nI g ∧ (∃ n, Dp (I 60) a (b - a) n)) (hq : ∀ J L' f' nc' ns' bad', Tk J L' f' → f ≤ f' → J 54 13 = bI bad' → J 54 15 = nI nc' → nc' ≤ f' → J 54 22 = nI ns' → (bad' = false → ns' ≤ 16 ∧ ∀ s, s < ns' → StV (J 63) (J 60) s nc') → Fy I J → Q .null S J L' R) : Ev (d + 8) 180 102 [.ref 54, .int x, .int (nI k)] [] S I L R Q := by
  have p2 : nI k + 2 = nI (k + 2) := by rw [show (2 : Int32) = nI 2 from rfl, nI_add]
  have a2 : inb (nI (k + 2)) 160 = True := inb_nI (by omega) (by decide)
  have b2 : (nI (k + 2)).toNatClampNeg = k + 2 := nI_clamp (by omega)
  have h' : St1 (put I 63 (k + 2) (nI b)) L ns f b a bad := h.t (by omega)
  have hv' : bad = false → a ≤ b ∧ g ≤ 15 ∧ put I 63 (k + 2) (nI b) 63 (10 * ns + 1) = nI a ∧ put I 63 (k + 2) (nI b) 63 (10 * ns + 2) = nI b ∧ put I 63 (k + 2) (nI b) 63 (10 * ns + 7) = nI g ∧ (∃ n, Dp (put I 63 (k + 2) (nI b) 60) a (b - a) n) := fun z => by
    obtain ⟨h1, h2, h3, h4, h5⟩ := hv z
    rw [pt_f (by omega), pt_f (show ¬ 10 * ns + 7 = k + 2 by omega), pt_n (show ¬ 60 = 63 by decide), hk, pt_s]
    exact ⟨h1, h2, h3, rfl, h4, h5⟩
  have F0 : Fy I (put I 63 (k + 2) (nI b)) := Fy.t Fy.rf
  have e15 := h.2.2.1
  simp only [E180_102, E180_103, E180_106, E180_107, E180_108, E180_109, E180_110, E180_113, pk54 hS, pk63 hS, pl63 hS, pa63 hS, pi63 hS, pr54_21 hR, rfs, rfn, cs0, csi, csl, csr, csn, kti, ktl, ktr, ktn, ktv, ktf, true_and, and_true, and_self, ↓reduceIte, Nat.reduceAdd, Nat.reduceSub, Nat.reduceMul, Nat.reduceLT, Nat.reduceLeDiff, Nat.reduceEqDiff, true_or, or_true, false_or, or_false, not_true_eq_false, not_false_eq_true, reduceCtorEq, cmp_lt, cmp_gt, cmp_eq, Int32.reduceAdd, Int32.reduceSub, Int32.reduceMul, Int32.reduceLT, Int32.reduceToNatClampNeg, eq_self, ne_eq, Int64.reduceAdd, Int64.reduceSub, Int64.reduceMul, Int64.reduceLT, pt, pt_m, p2, a2, b2, e15]
  generalize put I 63 (k + 2) (nI b) = K at h' hv' F0
  obtain ⟨hT, e13, j15, hf, ha, e22, hs⟩ := id h'
  have skip : ∀ bad, St1 K L ns f b a bad → (bad = false → a ≤ b ∧ g ≤ 15 ∧ K 63 (10 * ns + 1) = nI a ∧ K 63 (10 * ns + 2) = nI b ∧ K 63 (10 * ns + 7) = nI g ∧ (∃ n, Dp (K 60) a (b - a) n)) → Ev (d + 8) 180 149 [.ref 54, .int x, .int (nI k)] [] S K L R Q := fun bad hh hw =>
    rs3_m (d := d) (b := b) (c := b) (g := g) hS hR hn hk hh (fun z => by
      obtain ⟨h1, h2, h3, h4, h5, h6⟩ := hw z
      exact ⟨h1, Nat.le_refl b, h2, h3, h4, h5, h6, ⟨0, by rw [Nat.sub_self]; rfl⟩⟩) (fun J L' f' nc' ns' bad' w1 w2 w3 w4 w5 w6 w7 w8 => hq J L' f' nc' ns' bad' w1 w2 w3 w4 w5 w6 w7 (F0.tr w8))
  by_cases g0 : x = 1
  · have g0' : (x = 1) = True := eq_true g0
    cases bad
    · simp only [E180_114, E180_115, E180_116, E180_119, E180_120, E180_123, E180_126, E180_127, E180_128, E180_131, E180_134, isw hS, pk54 hS, rfs, rfn, cs0, csi, csl, csr, csn, kti, ktl, ktr, ktn, ktv, ktf, true_and, and_true, and_self, ↓reduceIte, Nat.reduceAdd, Nat.reduceSub, Nat.reduceMul, Nat.reduceLT, Nat.reduceLeDiff, Nat.reduceEqDiff, true_or, or_true, false_or, or_false, not_true_eq_false, not_false_eq_true, reduceCtorEq, cmp_lt, cmp_gt, cmp_eq, Int32.reduceAdd, Int32.reduceSub, Int32.reduceMul, Int32.reduceLT, Int32.reduceToNatClampNeg, eq_self, ne_eq, Int64.reduceAdd, Int64.reduceSub, Int64.reduceMul, Int64.reduceLT, g0', e13, bI_f]
      refine mus (d := d + 4) (b := wdB K L 655) hS hR hT e13 wdB0 (fun J L' f' bad' k1 k2 k3 k4 k5 => ?_)
      have j1 : St1 J L' ns f' b a bad' := h'.m (fun _ => rfl) k2 k4 k1 k3
      have hw : bad' = false → a ≤ b ∧ g ≤ 15 ∧ J 63 (10 * ns + 1) = nI a ∧ J 63 (10 * ns + 2) = nI b ∧ J 63 (10 * ns + 7) = nI g ∧ (∃ n, Dp (J 60) a (b - a) n) := fun _ => by
        rw [k3.1 63 (by decide), k3.1 60 (by decide)]
        exact hv' rfl
      cases bad'
      · simp only [E180_134, E180_137, E180_138, E180_141, E180_144, E180_145, E180_146, pk54 hS, rfs, rfn, cs0, csi, csl, csr, csn, kti, ktl, ktr, ktn, ktv, ktf, true_and, and_true, and_self, ↓reduceIte, Nat.reduceAdd, Nat.reduceSub, Nat.reduceMul, Nat.reduceLT, Nat.reduceLeDiff, Nat.reduceEqDiff, true_or, or_true, false_or, or_false, not_true_eq_false, not_false_eq_true, reduceCtorEq, cmp_lt, cmp_gt, cmp_eq, Int32.reduceAdd, Int32.reduceSub, Int32.reduceMul, Int32.reduceLT, Int32.reduceToNatClampNeg, eq_self, ne_eq, Int64.reduceAdd, Int64.reduceSub, Int64.reduceMul, Int64.reduceLT, k4, bI_f]
        refine rex (d := d) (tst := false) hS hR k2 k4 j1.2.2.1 j1.2.2.2.1 (fun J2 L2 f2 c bad2 q1 q2 q3 q4 q5 q6 q7 q8 => ?_)
        have j2 : St1 J2 L2 ns f2 c a bad2 := j1.x (fun _ => rfl) q1 q2 q3 q4 q5 q8
        try simp only [E180_146, rfs, rfn, cs0, csi, csl, csr, csn, kti, ktl, ktr, ktn, ktv, ktf, true_and, and_true, and_self, ↓reduceIte, Nat.reduceAdd, Nat.reduceSub, Nat.reduceMul, Nat.reduceLT, Nat.reduceLeDiff, Nat.reduceEqDiff, true_or, or_true, false_or, or_false, not_true_eq_false, not_false_eq_true, reduceCtorEq, cmp_lt, cmp_gt, cmp_eq, Int32.reduceAdd, Int32.reduceSub, Int32.reduceMul, Int32.reduceLT, Int32.reduceToNatClampNeg, eq_self, ne_eq, Int64.reduceAdd, Int64.reduceSub, Int64.reduceMul, Int64.reduceLT]
        obtain ⟨h1, h2, h3, h4, h5, ⟨n1, h6⟩⟩ := hw rfl
        refine rs3_m (d := d) (b := b) (c := c) (g := g) hS hR hn hk j2 (fun z => ⟨h1, q4, h2, ?_, ?_, ?_, ⟨n1, h6.cg _ (fun k hk => q8.2.2 _ (by omega))⟩, q7 z⟩) (fun J nc' w0 w00 ns' bad' w1 w2 w3 w4 w5 w6 w7 w8 => hq J nc' w0 w00 ns' bad' w1 (by omega) w3 w4 w5 w6 w7 (((F0.tr k3.y).tr q8.y).tr w8))
        · rw [q8.1 63 (by decide) (by decide)]; exact h3
        · rw [q8.1 63 (by decide) (by decide)]; exact h4
        · rw [q8.1 63 (by decide) (by decide)]; exact h5
      · simp only [E180_134, E180_137, E180_138, E180_141, pk54 hS, rfs, rfn, cs0, csi, csl, csr, csn, kti, ktl, ktr, ktn, ktv, ktf, true_and, and_true, and_self, ↓reduceIte, Nat.reduceAdd, Nat.reduceSub, Nat.reduceMul, Nat.reduceLT, Nat.reduceLeDiff, Nat.reduceEqDiff, true_or, or_true, false_or, or_false, not_true_eq_false, not_false_eq_true, reduceCtorEq, cmp_lt, cmp_gt, cmp_eq, Int32.reduceAdd, Int32.reduceSub, Int32.reduceMul, Int32.reduceLT, Int32.reduceToNatClampNeg, eq_self, ne_eq, Int64.reduceAdd, Int64.reduceSub, Int64.reduceMul, Int64.reduceLT, k4, bI_t, n1_0]
        exact rs3_m (d := d) (b := b) (c := b) (g := g) hS hR hn hk j1 (fun z => by cases z) (fun J L2 f2 nc' ns' bad' w1 w2 w3 w4 w5 w6 w7 w8 => hq J L2 f2 nc' ns' bad' w1 (by omega) w3 w4 w5 w6 w7 ((F0.tr k3.y).tr w8))
    · simp only [E180_114, E180_115, E180_116, E180_119, E180_120, E180_123, pk54 hS, rfs, rfn, cs0, csi, csl, csr, csn, kti, ktl, ktr, ktn, ktv, ktf, true_and, and_true, and_self, ↓reduceIte, Nat.reduceAdd, Nat.reduceSub, Nat.reduceMul, Nat.reduceLT, Nat.reduceLeDiff, Nat.reduceEqDiff, true_or, or_true, false_or, or_false, not_true_eq_false, not_false_eq_true, reduceCtorEq, cmp_lt, cmp_gt, cmp_eq, Int32.reduceAdd, Int32.reduceSub, Int32.reduceMul, Int32.reduceLT, Int32.reduceToNatClampNeg, eq_self, ne_eq, Int64.reduceAdd, Int64.reduceSub, Int64.reduceMul, Int64.reduceLT, g0', e13, bI_t, n1_0]
      exact skip true h' hv'
  · simp only [E180_114, E180_115, E180_116, pk54 hS, rfs, rfn, cs0, csi, csl, csr, csn, kti, ktl, ktr, ktn, ktv, ktf, true_and, and_true, and_self, ↓reduceIte, Nat.reduceAdd, Nat.reduceSub, Nat.reduceMul, Nat.reduceLT, Nat.reduceLeDiff, Nat.reduceEqDiff, true_or, or_true, false_or, or_false, not_true_eq_false, not_false_eq_true, reduceCtorEq, cmp_lt, cmp_gt, cmp_eq, Int32.reduceAdd, Int32.reduceSub, Int32.reduceMul, Int32.reduceLT, Int32.reduceToNatClampNeg, eq_self, ne_eq, Int64.reduceAdd, Int64.reduceSub, Int64.reduceMul, Int64.reduceLT, g0]
    exact skip bad h' hv'
theorem rst_m (hS : Pm S) (hR : Pr R) (hn : ns ≤ 16) (hT : Tk I L f) (e13 : I 54 13 = bI false) (e15 : I 54 15 = nI nc) (hf : nc ≤ f) (e22 : I 54 22 = nI ns) (hs : ∀ s, s < ns → StV (I 63) (I 60) s nc) (hq : ∀ J L' f' nc' ns' bad', Tk J L' f' → f ≤ f' → J 54 13 = bI bad' → J 54 15 = nI nc' → nc' ≤ f' → J 54 22 = nI ns' → (bad' = false → f < f' ∧ ns' ≤ 16 ∧ ∀ s, s < ns' → StV (J 63) (J 60) s nc') → Fy I J → Q .null S J L' R) : EvM (d + 8) 180 [.ref 54] S I L R Q := by
  simp only [M180, E180_0, E180_1, pk54 hS, rfs, rfn, cs0, csi, csl, csr, csn, kti, ktl, ktr, ktn, ktv, ktf, true_and, and_true, and_self, ↓reduceIte, Nat.reduceAdd, Nat.reduceSub, Nat.reduceMul, Nat.reduceLT, Nat.reduceLeDiff, Nat.reduceEqDiff, true_or, or_true, false_or, or_false, not_true_eq_false, not_false_eq_true, reduceCtorEq, cmp_lt, cmp_gt, cmp_eq, Int32.reduceAdd, Int32.reduceSub, Int32.reduceMul, Int32.reduceLT, Int32.reduceToNatClampNeg, eq_self, ne_eq, Int64.reduceAdd, Int64.reduceSub, Int64.reduceMul, Int64.reduceLT]
  refine soa hS (fun v hv => ?_)
  have key : ∀ b' : Bool, (b' = true → ¬ I 54 10 = 0 ∧ ns < 16) → Ev (d + 8) 180 25 [.ref 54, .int v, nv] [.int (bI b'), .ref 54] S I L R Q := by
    intro b' hb'
    simp only [E180_25, pk54 hS, rfs, rfn, cs0, csi, csl, csr, csn, kti, ktl, ktr, ktn, ktv, ktf, true_and, and_true, and_self, ↓reduceIte, Nat.reduceAdd, Nat.reduceSub, Nat.reduceMul, Nat.reduceLT, Nat.reduceLeDiff, Nat.reduceEqDiff, true_or, or_true, false_or, or_false, not_true_eq_false, not_false_eq_true, reduceCtorEq, cmp_lt, cmp_gt, cmp_eq, Int32.reduceAdd, Int32.reduceSub, Int32.reduceMul, Int32.reduceLT, Int32.reduceToNatClampNeg, eq_self, ne_eq, Int64.reduceAdd, Int64.reduceSub, Int64.reduceMul, Int64.reduceLT]
    refine mus (d := d + 4) hS hR hT e13 (fun z => (hb' z).1) (fun J L' f' bad' k1 k2 k3 k4 k5 => ?_)
    have j15 : J 54 15 = nI nc := (k3.2 15 (by decide)).trans e15
    have j22 : J 54 22 = nI ns := (k3.2 22 (by decide)).trans e22
    cases bad'
    · obtain ⟨_, hbt, hlt⟩ := k5 rfl
      have hns := (hb' hbt).2
      have m0 : (10 : Int32) * nI ns = nI (10 * ns) := by rw [show (10 : Int32) = nI 10 from rfl, pk_mul]
      have p7 : nI (10 * ns) + 7 = nI (10 * ns + 7) := by rw [show (7 : Int32) = nI 7 from rfl, nI_add]
      have a0 : inb (nI (10 * ns)) 160 = True := inb_nI (by omega) (by decide)
      have b0 : (nI (10 * ns)).toNatClampNeg = 10 * ns := nI_clamp (by omega)
      have a1 : inb (nI (10 * ns + 1)) 160 = True := inb_nI (by omega) (by decide)
      have b1 : (nI (10 * ns + 1)).toNatClampNeg = 10 * ns + 1 := nI_clamp (by omega)
      have a7 : inb (nI (10 * ns + 7)) 160 = True := inb_nI (by omega) (by decide)
      have b7 : (nI (10 * ns + 7)).toNatClampNeg = 10 * ns + 7 := nI_clamp (by omega)
      have j1 : St1 J L' ns f' nc nc false := ⟨k2, k4, j15, by omega, Nat.le_refl nc, j22, fun _ s hs' => by rw [k3.1 63 (by decide), k3.1 60 (by decide)]; exact hs s hs'⟩
      have z1 : St1 (put (put (put J 63 (10 * ns) v) 63 (10 * ns + 1) (nI nc)) 63 (10 * ns + 7) 0) L' ns f' nc nc false := St1.t (St1.t (St1.t j1 (by omega)) (by omega)) (by omega)
      have z2 : put (put (put J 63 (10 * ns) v) 63 (10 * ns + 1) (nI nc)) 63 (10 * ns + 7) 0 63 (10 * ns + 1) = nI nc := by rw [pt_f (by omega), pt_s]
      have z7 : put (put (put J 63 (10 * ns) v) 63 (10 * ns + 1) (nI nc)) 63 (10 * ns + 7) 0 63 (10 * ns + 7) = nI 0 := pt_s
      have F0 : Fy I (put (put (put J 63 (10 * ns) v) 63 (10 * ns + 1) (nI nc)) 63 (10 * ns + 7) 0) := Fy.t (Fy.t (Fy.t k3.y))
      by_cases g5 : v = 5
      · have g5' : (v = 5) = True := eq_true g5
        simp only [E180_25, E180_28, E180_29, E180_32, E180_35, E180_36, E180_38, E180_39, E180_42, E180_43, E180_44, E180_45, E180_48, E180_49, E180_50, E180_51, E180_52, E180_55, E180_56, E180_57, E180_58, E180_59, E180_62, E180_63, E180_64, E180_67, E180_68, E180_70, E180_71, E180_72, E180_73, E180_74, E180_75, E180_78, E180_79, E180_82, E180_83, E180_85, E180_86, E180_87, E180_90, pk54 hS, pk63 hS, pl63 hS, pa63 hS, pi63 hS, pr54_21 hR, rfs, rfn, cs0, csi, csl, csr, csn, kti, ktl, ktr, ktn, ktv, ktf, true_and, and_true, and_self, ↓reduceIte, Nat.reduceAdd, Nat.reduceSub, Nat.reduceMul, Nat.reduceLT, Nat.reduceLeDiff, Nat.reduceEqDiff, true_or, or_true, false_or, or_false, not_true_eq_false, not_false_eq_true, reduceCtorEq, cmp_lt, cmp_gt, cmp_eq, Int32.reduceAdd, Int32.reduceSub, Int32.reduceMul, Int32.reduceLT, Int32.reduceToNatClampNeg, eq_self, ne_eq, Int64.reduceAdd, Int64.reduceSub, Int64.reduceMul, Int64.reduceLT, k4, bI_f, pt, pt_m, j22, j15, m0, p7, a0, b0, a1, b1, a7, b7, nI_1, g5']
        generalize put (put (put J 63 (10 * ns) v) 63 (10 * ns + 1) (nI nc)) 63 (10 * ns + 7) 0 = Z at z1 z2 z7 F0
        refine num_m (d := d + 3) (m := 15) hS hR z1.1 z1.2.1 (fun J2 L2 f2 bad2 w q1 q2 q3 q4 q5 => ?_)
        simp only [E180_90, E180_93, E180_94, pk54 hS, pk63 hS, pl63 hS, pa63 hS, pi63 hS, pr54_21 hR, rfs, rfn, cs0, csi, csl, csr, csn, kti, ktl, ktr, ktn, ktv, ktf, true_and, and_true, and_self, ↓reduceIte, Nat.reduceAdd, Nat.reduceSub, Nat.reduceMul, Nat.reduceLT, Nat.reduceLeDiff, Nat.reduceEqDiff, true_or, or_true, false_or, or_false, not_true_eq_false, not_false_eq_true, reduceCtorEq, cmp_lt, cmp_gt, cmp_eq, Int32.reduceAdd, Int32.reduceSub, Int32.reduceMul, Int32.reduceLT, Int32.reduceToNatClampNeg, eq_self, ne_eq, Int64.reduceAdd, Int64.reduceSub, Int64.reduceMul, Int64.reduceLT, a7, b7, pt]
        have j2 : St1 (put J2 63 (10 * ns + 7) w) L2 ns f2 nc nc bad2 := (z1.m (fun _ => rfl) q2 q4 q1 q3).t (by omega)
        obtain ⟨gg, hgg⟩ : ∃ gg, bad2 = false → gg ≤ 15 ∧ w = nI gg := by
          cases bad2
          · obtain ⟨g, h⟩ := (q5 rfl).2 rfl
            exact ⟨g, fun _ => h⟩
          · exact ⟨0, fun z => by cases z⟩
        refine rs2_m (d := d) (b := nc) (g := gg) hS hR hns rfl j2 (fun z => ?_) (fun J3 L3 f3 nc' ns' bad' w1 w2 w3 w4 w5 w6 w7 w8 => hq J3 L3 f3 nc' ns' bad' w1 (by omega) w3 w4 w5 w6 (fun z => ⟨by omega, w7 z⟩) ((F0.tr (Fy.t q3.y)).tr w8))
        have hg := hgg z
        refine ⟨Nat.le_refl nc, hg.1, ?_, ?_, ⟨0, by rw [Nat.sub_self]; rfl⟩⟩
        · rw [pt_f (by omega), q3.1 63 (by decide)]; exact z2
        · rw [pt_s]; exact hg.2
      · simp only [E180_25, E180_28, E180_29, E180_32, E180_35, E180_36, E180_38, E180_39, E180_42, E180_43, E180_44, E180_45, E180_48, E180_49, E180_50, E180_51, E180_52, E180_55, E180_56, E180_57, E180_58, E180_59, E180_62, E180_63, E180_64, E180_67, E180_68, E180_70, E180_71, E180_72, E180_73, E180_74, E180_75, E180_97, E180_98, E180_99, pk54 hS, pk63 hS, pl63 hS, pa63 hS, pi63 hS, pr54_21 hR, rfs, rfn, cs0, csi, csl, csr, csn, kti, ktl, ktr, ktn, ktv, ktf, true_and, and_true, and_self, ↓reduceIte, Nat.reduceAdd, Nat.reduceSub, Nat.reduceMul, Nat.reduceLT, Nat.reduceLeDiff, Nat.reduceEqDiff, true_or, or_true, false_or, or_false, not_true_eq_false, not_false_eq_true, reduceCtorEq, cmp_lt, cmp_gt, cmp_eq, Int32.reduceAdd, Int32.reduceSub, Int32.reduceMul, Int32.reduceLT, Int32.reduceToNatClampNeg, eq_self, ne_eq, Int64.reduceAdd, Int64.reduceSub, Int64.reduceMul, Int64.reduceLT, k4, bI_f, pt, pt_m, j22, j15, m0, p7, a0, b0, a1, b1, a7, b7, nI_1, g5]
        generalize put (put (put J 63 (10 * ns) v) 63 (10 * ns + 1) (nI nc)) 63 (10 * ns + 7) 0 = Z at z1 z2 z7 F0
        refine rex (d := d) (tst := false) hS hR z1.1 z1.2.1 z1.2.2.1 z1.2.2.2.1 (fun J2 L2 f2 b bad2 q1 q2 q3 q4 q5 q6 q7 q8 => ?_)
        have j2 : St1 J2 L2 ns f2 b nc bad2 := z1.x (fun _ => rfl) q1 q2 q3 q4 q5 q8
        try simp only [E180_99, rfs, rfn, cs0, csi, csl, csr, csn, kti, ktl, ktr, ktn, ktv, ktf, true_and, and_true, and_self, ↓reduceIte, Nat.reduceAdd, Nat.reduceSub, Nat.reduceMul, Nat.reduceLT, Nat.reduceLeDiff, Nat.reduceEqDiff, true_or, or_true, false_or, or_false, not_true_eq_false, not_false_eq_true, reduceCtorEq, cmp_lt, cmp_gt, cmp_eq, Int32.reduceAdd, Int32.reduceSub, Int32.reduceMul, Int32.reduceLT, Int32.reduceToNatClampNeg, eq_self, ne_eq, Int64.reduceAdd, Int64.reduceSub, Int64.reduceMul, Int64.reduceLT]
        refine rs2_m (d := d) (b := b) (g := 0) hS hR hns rfl j2 (fun z => ⟨q4, by decide, ?_, ?_, q7 z⟩) (fun J3 L3 f3 nc' ns' bad' w1 w2 w3 w4 w5 w6 w7 w8 => hq J3 L3 f3 nc' ns' bad' w1 (by omega) w3 w4 w5 w6 (fun z => ⟨by omega, w7 z⟩) ((F0.tr q8.y).tr w8))
        · rw [q8.1 63 (by decide) (by decide)]; exact z2
        · rw [q8.1 63 (by decide) (by decide)]; exact z7
    · simp only [E180_25, E180_28, E180_29, E180_32, E180_35, pk54 hS, rfs, rfn, cs0, csi, csl, csr, csn, kti, ktl, ktr, ktn, ktv, ktf, true_and, and_true, and_self, ↓reduceIte, Nat.reduceAdd, Nat.reduceSub, Nat.reduceMul, Nat.reduceLT, Nat.reduceLeDiff, Nat.reduceEqDiff, true_or, or_true, false_or, or_false, not_true_eq_false, not_false_eq_true, reduceCtorEq, cmp_lt, cmp_gt, cmp_eq, Int32.reduceAdd, Int32.reduceSub, Int32.reduceMul, Int32.reduceLT, Int32.reduceToNatClampNeg, eq_self, ne_eq, Int64.reduceAdd, Int64.reduceSub, Int64.reduceMul, Int64.reduceLT, k4, bI_t, n1_0]
      exact hq J L' f' nc ns true k2 k1 k4 j15 (by omega) j22 (fun z => by cases z) k3.y
  rcases hv with rfl | ⟨v1, v2⟩
  · simp only [E180_1, E180_4, E180_5, E180_6, E180_7, E180_8, E180_24, pk54 hS, rfs, rfn, cs0, csi, csl, csr, csn, kti, ktl, ktr, ktn, ktv, ktf, true_and, and_true, and_self, ↓reduceIte, Nat.reduceAdd, Nat.reduceSub, Nat.reduceMul, Nat.reduceLT, Nat.reduceLeDiff, Nat.reduceEqDiff, true_or, or_true, false_or, or_false, not_true_eq_false, not_false_eq_true, reduceCtorEq, cmp_lt, cmp_gt, cmp_eq, Int32.reduceAdd, Int32.reduceSub, Int32.reduceMul, Int32.reduceLT, Int32.reduceToNatClampNeg, eq_self, ne_eq, Int64.reduceAdd, Int64.reduceSub, Int64.reduceMul, Int64.reduceLT]
    exact key false (fun z => by cases z)
  · by_cases g : nI ns < 16
    · simp only [E180_1, E180_4, E180_5, E180_6, E180_7, E180_8, E180_11, E180_12, E180_15, E180_17, E180_20, E180_21, pk54 hS, rfs, rfn, cs0, csi, csl, csr, csn, kti, ktl, ktr, ktn, ktv, ktf, true_and, and_true, and_self, ↓reduceIte, Nat.reduceAdd, Nat.reduceSub, Nat.reduceMul, Nat.reduceLT, Nat.reduceLeDiff, Nat.reduceEqDiff, true_or, or_true, false_or, or_false, not_true_eq_false, not_false_eq_true, reduceCtorEq, cmp_lt, cmp_gt, cmp_eq, Int32.reduceAdd, Int32.reduceSub, Int32.reduceMul, Int32.reduceLT, Int32.reduceToNatClampNeg, eq_self, ne_eq, Int64.reduceAdd, Int64.reduceSub, Int64.reduceMul, Int64.reduceLT, v1, e22, g]
      refine key true (fun _ => ⟨v2, ?_⟩)
      refine Classical.byContradiction (fun z => ?_)
      obtain rfl : ns = 16 := by omega
      exact absurd g (by decide)
    · simp only [E180_1, E180_4, E180_5, E180_6, E180_7, E180_8, E180_11, E180_12, E180_15, E180_17, E180_24, pk54 hS, rfs, rfn, cs0, csi, csl, csr, csn, kti, ktl, ktr, ktn, ktv, ktf, true_and, and_true, and_self, ↓reduceIte, Nat.reduceAdd, Nat.reduceSub, Nat.reduceMul, Nat.reduceLT, Nat.reduceLeDiff, Nat.reduceEqDiff, true_or, or_true, false_or, or_false, not_true_eq_false, not_false_eq_true, reduceCtorEq, cmp_lt, cmp_gt, cmp_eq, Int32.reduceAdd, Int32.reduceSub, Int32.reduceMul, Int32.reduceLT, Int32.reduceToNatClampNeg, eq_self, ne_eq, Int64.reduceAdd, Int64.reduceSub, Int64.reduceMul, Int64.reduceLT, v1, e22, g]
      exact key false (fun z => by cases z)
end TW
