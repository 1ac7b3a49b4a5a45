/-! the class's Levels: with content, both ways -/
def sd (w : Nat → Nat) (c : Nat) (nu : Int32) (B p v k : Nat) : Bool → Prop
  | true => ld w c nu B p v k
  | false => ld w c nu B p k v
def LvD (on : Bool) (w : Nat → Nat) (c : Nat) (nu : Int32) (B r : Nat) : Nat → Nat → Prop
  | 0, k => k = r
  | h + 1, k => ∃ p, p < c ∧ ∃ v, LvD on w c nu B r h v ∧ sd w c nu B p v k on
theorem LvD_lt {on : Bool} {w : Nat → Nat} {c B r N : Nat} {nu : Int32} (hW : WN w c N) (hr : r < N) (h k : Nat) (q : LvD on w c nu B r h k) : k < N := by
  induction h generalizing k with
  | zero =>
    have : k = r := q
    omega
  | succ h ih =>
    obtain ⟨p, q1, v, q2, q3⟩ := q
    have hv := ih v q2
    cases on with
    | true => exact (ld_lt hW q1 q3).1 hv
    | false => exact (ld_lt hW q1 q3).2 hv
theorem LvD_lev {w : Nat → Nat} {c B r : Nat} {nu : Int32} (h k : Nat) : LvD true w c nu B r h k ↔ Lev w c nu B r h k := by
  induction h generalizing k with
  | zero => exact Iff.rfl
  | succ h ih => exact ⟨fun ⟨p, p1, v, v1, v2⟩ => ⟨p, p1, v, (ih v).mp v1, v2⟩, fun ⟨p, p1, v, v1, v2⟩ => ⟨p, p1, v, (ih v).mpr v1, v2⟩⟩
/-- on from one, back from the other: they meet in the middle -/
theorem LvD_meet {w : Nat → Nat} {c B r t : Nat} {nu : Int32} : ∀ b a, (∃ x, LvD true w c nu B r a x ∧ LvD false w c nu B t b x) ↔ LvD true w c nu B r (a + b) t := by
  intro b
  induction b with
  | zero =>
    intro a
    exact ⟨fun ⟨x, x1, x2⟩ => by have e : x = t := x2; rw [← e]; exact x1, fun z => ⟨t, z, rfl⟩⟩
  | succ b ih =>
    intro a
    rw [show a + (b + 1) = a + 1 + b by omega, ← ih (a + 1)]
    constructor
    · rintro ⟨x, x1, p, p1, v, v1, v2⟩
      exact ⟨v, ⟨p, p1, x, x1, v2⟩, v1⟩
    · rintro ⟨y, ⟨p, p1, x, x1, x2⟩, y2⟩
      exact ⟨x, x1, p, p1, y, y2, x2⟩
/-- a Levels object that is aimed: what it knows -/
def LvK (on : Bool) (w : Nat → Nat) (c N m n : Nat) (I : mI) (L : mL) (l g : Nat) (nu : Int32) (B r kn : Nat) : Prop := (I l 1 = bI on ∧ I l 4 = nI kn ∧ I l 5 = nI r ∧ I l 6 = nu ∧ I l 7 = nI B) ∧ (1 ≤ kn ∧ kn ≤ m + 1 ∧ r < N) ∧ ∀ i, i < kn → ∀ x, x < 64 * n → (gb (L (g + 1 + i)) x = true ↔ LvD on w c nu B r i x)
def LvJ (on : Bool) (w : Nat → Nat) (c N m n : Nat) (I : mI) (L : mL) (l g : Nat) : Prop := I l 1 = bI on ∧ (I l 4 = 0 ∨ ∃ nu B r kn, B < 2 ^ 24 ∧ LvK on w c N m n I L l g nu B r kn)
theorem LvK.mono {on : Bool} {w : Nat → Nat} {c N m n l g B r kn : Nat} {nu : Int32} {I I' : mI} {L L' : mL} (h : LvK on w c N m n I L l g nu B r kn) (e : I' l = I l) (eL : ∀ b, g < b → b ≤ g + 1 + m → L' b = L b) : LvK on w c N m n I' L' l g nu B r kn := by
  obtain ⟨h1, h2, h3⟩ := h
  refine ⟨by rw [e]; exact h1, h2, fun i hi x hx => ?_⟩
  rw [eL _ (by omega) (by omega)]
  exact h3 i hi x hx
theorem LvJ.mono {on : Bool} {w : Nat → Nat} {c N m n l g : Nat} {I I' : mI} {L L' : mL} (h : LvJ on w c N m n I L l g) (e : I' l = I l) (eL : ∀ b, g < b → b ≤ g + 1 + m → L' b = L b) : LvJ on w c N m n I' L' l g := by
  obtain ⟨h1, h2⟩ := h
  refine ⟨by rw [e]; exact h1, ?_⟩
  rcases h2 with h2 | ⟨nu, B, r, kn, hB, h2⟩
  · exact Or.inl (by rw [e]; exact h2)
  · exact Or.inr ⟨nu, B, r, kn, hB, h2.mono e eL⟩
theorem LvK.j {on : Bool} {w : Nat → Nat} {c N m n l g B r kn : Nat} {nu : Int32} {I : mI} {L : mL} (h : LvK on w c N m n I L l g nu B r kn) (hB : B < 2 ^ 24) : LvJ on w c N m n I L l g := ⟨h.1.1, Or.inr ⟨nu, B, r, kn, hB, h⟩⟩
def FrV (l : Nat) (I I' : mI) : Prop := ∀ b, ¬ b = l → I' b = I b
/-- the rows of one Levels object alone, and what the forge works on -/
def FrG (f c g m : Nat) (L L' : mL) : Prop := ∀ b, (b ≤ g ∨ g + 2 + m < b) → ¬ b = f + 5 + 3 * c → ¬ b = f + 6 + 3 * c → ¬ b = f + 7 + 3 * c → L' b = L b
theorem FrV.rf {l : Nat} {I : mI} : FrV l I I := fun _ _ => rfl
theorem FrV.tr {l : Nat} {I J K : mI} (h : FrV l I J) (k : FrV l J K) : FrV l I K := fun b q => (k b q).trans (h b q)
theorem FrG.rf {f c g m : Nat} {L : mL} : FrG f c g m L L := fun _ _ _ _ _ => rfl
theorem FrG.tr {f c g m : Nat} {L L' L'' : mL} (h : FrG f c g m L L') (k : FrG f c g m L' L'') : FrG f c g m L L'' := fun b q1 q2 q3 q4 => (k b q1 q2 q3 q4).trans (h b q1 q2 q3 q4)
theorem FrG.fl {f c g m n : Nat} {w : Nat → Nat} {L L' : mL} (h : FrG f c g m L L') (hg : f + 7 + 3 * c < g) (k : FoL L f c n w) : FoL L' f c n w := k.mono (fun a a1 a2 => h a (by omega) (by omega) (by omega) (by omega))
theorem FrG.fh {f c g m n : Nat} {w : Nat → Nat} {nu : Int32} {L L' : mL} (h : FrG f c g m L L') (hg : f + 7 + 3 * c < g) (k : FoH L f c n w nu) : FoH L' f c n w nu := k.mono (fun a a1 a2 => h a (by omega) (by omega) (by omega) (by omega))
theorem FrV.fi {f c n l : Nat} {w : Nat → Nat} {I I' : mI} (h : FrV l I I') (h1 : ¬ l = f) (h2 : ¬ l = f + 1) (k : FoI I f c n w) : FoI I' f c n w := k.mono (by rw [h f (fun z => h1 z.symm)]) (by rw [h f (fun z => h1 z.symm)]) (h _ (fun z => h2 z.symm))
theorem bI_z (on : Bool) : (bI on = 0) = (on = false) := by cases on <;> simp [bI]
def sO (n r : Nat) (g : Nat → Int64) : Nat → Int64 := va_up (fun k => if k < n then 0 else g k) (r / 64) ((1 : Int64) <<< ((nI (r % 64)).toInt64 &&& 63))
theorem sO_gb {n r k : Nat} {g : Nat → Int64} (hr : r < 64 * n) (hk : k < 64 * n) : gb (sO n r g) k = true ↔ k = r := by
  unfold sO
  rw [setO_gb hr hk, decide_eq_true_iff]
theorem setO' {d a n r : Nat} {S : mS} {I : mI} {L : mL} {R : mR} {Q : mQ} (ha : lon S a n) (h31 : n < 2 ^ 24) (hr : r < 64 * n) : EvM (d + 2) 11 [.ref a, .int (nI r)] S I L R Q = Q .null S I (va_up L a (sO n r (L a))) R := setO ha.1 ha.2 h31 hr
section LH
variable {d l f g m n c N B : Nat} {on : Bool} {w : Nat → Nat} {nu : Int32} {S : mS} {I : mI} {L : mL} {R : mR} {Q : mQ}
/-- aim -/
theorem aiK {r : Nat} (v : LvS S R l f g (m + 1) n) (hn : n < 2 ^ 24) (hm : m < 100) (hN : N ≤ 64 * n) (hN3 : N < 2 ^ 30) (hB : B < 2 ^ 24) (hr : r < N) (j : LvJ on w c N m n I L l g) (hq : ∀ (I' : mI) (L' : mL) kn, FrV l I I' → FrG f c g m L L' → LvK on w c N m n I' L' l g nu B r kn → Q .null S I' L' R) : EvM (d + 3) 30 [.ref l, .int (nI r), .int nu, .int (nI B)] S I L R Q := by
  obtain ⟨⟨o0, r0, r2, r3⟩, mt, lw⟩ := v
  have RR := matR mt
  have z := mt.2 0 (by omega)
  have i0 : inb 0 (m + 1) = True := inb_nI (j := 0) (by omega) (by omega)
  have t32 : Ev (d + 3) 30 32 [.ref l, .int (nI r), .int nu, .int (nI B)] [] S I L R Q := by
    simp only [E30_0, E30_1, E30_4, E30_7, E30_8, E30_11, E30_12, E30_15, E30_16, E30_19, E30_20, E30_23, E30_24, E30_27, E30_28, E30_31, E30_32, E30_33, E30_34, E30_37, E30_38, E30_39, E30_42, E30_43, E30_44, E30_47, E30_48, E30_51, E30_52, E30_53, E30_54, E30_57, E30_58, E30_59, E30_62, rfs, rfn, cs0, csi, csl, csr, csn, kti, ktl, ktr, ktn, ktv, ktf, true_and, and_true, and_self, ↓reduceIte, Nat.reduceAdd, Nat.reduceSub, Nat.reduceMul, Nat.reduceLT, Nat.reduceLeDiff, Nat.reduceEqDiff, true_or, or_true, false_or, or_false, not_true_eq_false, not_false_eq_true, reduceCtorEq, cmp_lt, cmp_gt, cmp_eq, Int32.reduceAdd, Int32.reduceSub, Int32.reduceMul, Int32.reduceLT, Int32.reduceToNatClampNeg, eq_self, ne_eq, Int64.reduceAdd, Int64.reduceSub, Int64.reduceMul, Int64.reduceLT, pt, o0, r2, RR, mt.1.2, i0, z.1, show (0 : Int32).toNatClampNeg = 0 from rfl]
    rw [setO' (n := n) (r := r) z.2 hn (by omega)]
    simp only [E30_0, E30_1, E30_4, E30_7, E30_8, E30_11, E30_12, E30_15, E30_16, E30_19, E30_20, E30_23, E30_24, E30_27, E30_28, E30_31, E30_32, E30_33, E30_34, E30_37, E30_38, E30_39, E30_42, E30_43, E30_44, E30_47, E30_48, E30_51, E30_52, E30_53, E30_54, E30_57, E30_58, E30_59, E30_62, rfs, rfn, cs0, csi, csl, csr, csn, kti, ktl, ktr, ktn, ktv, ktf, true_and, and_true, and_self, ↓reduceIte, Nat.reduceAdd, Nat.reduceSub, Nat.reduceMul, Nat.reduceLT, Nat.reduceLeDiff, Nat.reduceEqDiff, true_or, or_true, false_or, or_false, not_true_eq_false, not_false_eq_true, reduceCtorEq, cmp_lt, cmp_gt, cmp_eq, Int32.reduceAdd, Int32.reduceSub, Int32.reduceMul, Int32.reduceLT, Int32.reduceToNatClampNeg, eq_self, ne_eq, Int64.reduceAdd, Int64.reduceSub, Int64.reduceMul, Int64.reduceLT, pt, o0]
    refine hq _ _ 1 (fun b hb => ?_) (fun b b1 b2 b3 b4 => uu_n _ _ (by omega)) ⟨⟨?_, ?_, ?_, ?_, ?_⟩, ⟨by omega, by omega, hr⟩, fun i hi x hx => ?_⟩
    · simp (disch := first | assumption | decide) only [pt_n]
    · simp (disch := decide) only [pt_s, pt_f]
      exact j.1
    · simp (disch := decide) only [pt_s, pt_f]
      rfl
    · simp (disch := decide) only [pt_s, pt_f]
    · simp (disch := decide) only [pt_s, pt_f]
    · simp (disch := decide) only [pt_s, pt_f]
    · obtain rfl : i = 0 := by omega
      rw [uu_s]
      exact sO_gb (by omega) hx
  rcases j.2 with h0 | ⟨nu', B', r', kn, hB', hK⟩
  · have g1 : ((0 : Int32) < 0) = False := eq_false (by decide)
    simp only [M30, E30_0, E30_1, E30_4, E30_7, E30_8, E30_11, E30_12, E30_15, E30_16, E30_19, E30_20, E30_23, E30_24, E30_27, E30_28, E30_31, E30_33, E30_34, E30_37, E30_38, E30_39, E30_42, E30_43, E30_44, E30_47, E30_48, E30_51, E30_52, E30_53, E30_54, E30_57, E30_58, E30_59, E30_62, rfs, rfn, cs0, csi, csl, csr, csn, kti, ktl, ktr, ktn, ktv, ktf, true_and, and_true, and_self, ↓reduceIte, Nat.reduceAdd, Nat.reduceSub, Nat.reduceMul, Nat.reduceLT, Nat.reduceLeDiff, Nat.reduceEqDiff, true_or, or_true, false_or, or_false, not_true_eq_false, not_false_eq_true, reduceCtorEq, cmp_lt, cmp_gt, cmp_eq, Int32.reduceAdd, Int32.reduceSub, Int32.reduceMul, Int32.reduceLT, Int32.reduceToNatClampNeg, eq_self, ne_eq, Int64.reduceAdd, Int64.reduceSub, Int64.reduceMul, Int64.reduceLT, o0, h0, g1]
    exact t32
  obtain ⟨⟨k1, k4, k5, k6, k7⟩, ⟨kn1, kn2, kr⟩, kc⟩ := id hK
  have g1 : ((0 : Int32) < nI kn) = True := eq_true (nI_lt (a := 0) (b := kn) (by omega) (by omega))
  by_cases g2 : nI r' = nI r
  · obtain rfl : r' = r := (nI_eq (by omega) (by omega)).mp g2
    have g2' : (nI r' = nI r') = True := eq_true rfl
    by_cases g3 : nu' = nu
    · subst g3
      have g3' : (nu' = nu') = True := eq_true rfl
      by_cases g4 : nI B' = nI B
      · obtain rfl : B' = B := (nI_eq (by omega) (by omega)).mp g4
        have g4' : (nI B' = nI B') = True := eq_true rfl
        simp only [M30, E30_0, E30_1, E30_4, E30_7, E30_8, E30_11, E30_12, E30_15, E30_16, E30_19, E30_20, E30_23, E30_24, E30_27, E30_28, E30_31, E30_33, E30_34, E30_37, E30_38, E30_39, E30_42, E30_43, E30_44, E30_47, E30_48, E30_51, E30_52, E30_53, E30_54, E30_57, E30_58, E30_59, E30_62, rfs, rfn, cs0, csi, csl, csr, csn, kti, ktl, ktr, ktn, ktv, ktf, true_and, and_true, and_self, ↓reduceIte, Nat.reduceAdd, Nat.reduceSub, Nat.reduceMul, Nat.reduceLT, Nat.reduceLeDiff, Nat.reduceEqDiff, true_or, or_true, false_or, or_false, not_true_eq_false, not_false_eq_true, reduceCtorEq, cmp_lt, cmp_gt, cmp_eq, Int32.reduceAdd, Int32.reduceSub, Int32.reduceMul, Int32.reduceLT, Int32.reduceToNatClampNeg, eq_self, ne_eq, Int64.reduceAdd, Int64.reduceSub, Int64.reduceMul, Int64.reduceLT, o0, k4, k5, k6, k7, g1, g2', g3', g4']
        exact hq _ _ kn FrV.rf FrG.rf hK
      · simp only [M30, E30_0, E30_1, E30_4, E30_7, E30_8, E30_11, E30_12, E30_15, E30_16, E30_19, E30_20, E30_23, E30_24, E30_27, E30_28, E30_31, E30_33, E30_34, E30_37, E30_38, E30_39, E30_42, E30_43, E30_44, E30_47, E30_48, E30_51, E30_52, E30_53, E30_54, E30_57, E30_58, E30_59, E30_62, rfs, rfn, cs0, csi, csl, csr, csn, kti, ktl, ktr, ktn, ktv, ktf, true_and, and_true, and_self, ↓reduceIte, Nat.reduceAdd, Nat.reduceSub, Nat.reduceMul, Nat.reduceLT, Nat.reduceLeDiff, Nat.reduceEqDiff, true_or, or_true, false_or, or_false, not_true_eq_false, not_false_eq_true, reduceCtorEq, cmp_lt, cmp_gt, cmp_eq, Int32.reduceAdd, Int32.reduceSub, Int32.reduceMul, Int32.reduceLT, Int32.reduceToNatClampNeg, eq_self, ne_eq, Int64.reduceAdd, Int64.reduceSub, Int64.reduceMul, Int64.reduceLT, o0, k4, k5, k6, k7, g1, g2', g3', g4]
        exact t32
    · simp only [M30, E30_0, E30_1, E30_4, E30_7, E30_8, E30_11, E30_12, E30_15, E30_16, E30_19, E30_20, E30_23, E30_24, E30_27, E30_28, E30_31, E30_33, E30_34, E30_37, E30_38, E30_39, E30_42, E30_43, E30_44, E30_47, E30_48, E30_51, E30_52, E30_53, E30_54, E30_57, E30_58, E30_59, E30_62, rfs, rfn, cs0, csi, csl, csr, csn, kti, ktl, ktr, ktn, ktv, ktf, true_and, and_true, and_self, ↓reduceIte, Nat.reduceAdd, Nat.reduceSub, Nat.reduceMul, Nat.reduceLT, Nat.reduceLeDiff, Nat.reduceEqDiff, true_or, or_true, false_or, or_false, not_true_eq_false, not_false_eq_true, reduceCtorEq, cmp_lt, cmp_gt, cmp_eq, Int32.reduceAdd, Int32.reduceSub, Int32.reduceMul, Int32.reduceLT, Int32.reduceToNatClampNeg, eq_self, ne_eq, Int64.reduceAdd, Int64.reduceSub, Int64.reduceMul, Int64.reduceLT, o0, k4, k5, k6, k7, g1, g2', g3]
      exact t32
  · simp only [M30, E30_0, E30_1, E30_4, E30_7, E30_8, E30_11, E30_12, E30_15, E30_16, E30_19, E30_20, E30_23, E30_24, E30_27, E30_28, E30_31, E30_33, E30_34, E30_37, E30_38, E30_39, E30_42, E30_43, E30_44, E30_47, E30_48, E30_51, E30_52, E30_53, E30_54, E30_57, E30_58, E30_59, E30_62, rfs, rfn, cs0, csi, csl, csr, csn, kti, ktl, ktr, ktn, ktv, ktf, true_and, and_true, and_self, ↓reduceIte, Nat.reduceAdd, Nat.reduceSub, Nat.reduceMul, Nat.reduceLT, Nat.reduceLeDiff, Nat.reduceEqDiff, true_or, or_true, false_or, or_false, not_true_eq_false, not_false_eq_true, reduceCtorEq, cmp_lt, cmp_gt, cmp_eq, Int32.reduceAdd, Int32.reduceSub, Int32.reduceMul, Int32.reduceLT, Int32.reduceToNatClampNeg, eq_self, ne_eq, Int64.reduceAdd, Int64.reduceSub, Int64.reduceMul, Int64.reduceLT, o0, k4, k5, k6, k7, g1, g2]
    exact t32
/-- one level more: its CELLS -/
theorem atcK {k wd : Nat} {hh : Int32} {P : Nat → Prop} (v : LvS S R l f g (m + 1) n) (hS : FoS S R f c n) (hI : FoI I f c n w) (hW : WN w c N) (hc : c ≤ 5) (hn : n < 2 ^ 24) (hN : N ≤ 64 * n) (hB : B < 2 ^ 24) (hm : m < 100) (hP : ∀ k, P k → k < N) (hg : f + 7 + 3 * c < g) (hon : I l 1 = bI on) (hbl : I l 7 = nI B) (hk : 1 ≤ k) (hkm : k ≤ m) : ∀ (q j : Nat) (L : mL), j + q = c → FoL L f c n w → FoH L f c n w nu → (∀ x, x < 64 * n → (gb (L (g + 1 + (k - 1))) x = true ↔ P x)) → (∀ x, x < 64 * n → (gb (L (g + 1 + k)) x = true ↔ ∃ p, p < j ∧ ∃ v, P v ∧ sd w c nu B p v x on)) → (∀ L' : mL, (∀ b, ¬ b = g + 2 + m → ¬ b = g + 1 + k → ¬ b = f + 5 + 3 * c → ¬ b = f + 6 + 3 * c → ¬ b = f + 7 + 3 * c → L' b = L b) → (∀ x, x < 64 * n → (gb (L' (g + 1 + k)) x = true ↔ ∃ p, p < c ∧ ∃ v, P v ∧ sd w c nu B p v x on)) → Ev (d + 4) 31 134 [.ref l, .int hh, .int (nI wd), .int (nI k), .int (nI c)] [] S I L' R Q) → Ev (d + 4) 31 43 [.ref l, .int hh, .int (nI wd), .int (nI k), .int (nI j)] [] S I L R Q := by
  obtain ⟨⟨o0, r0, r2, r3⟩, mt, lw⟩ := v
  have of := hS.1.1
  have i0 := hI.1
  have hw := hW.1
  have RR := matR mt
  have a1 := mt.2 k (by omega)
  have a0 := mt.2 (k - 1) (by omega)
  have j1 : inb (nI k) (m + 1) = True := inb_nI (by omega) (by omega)
  have j0 : inb (nI (k - 1)) (m + 1) = True := inb_nI (by omega) (by omega)
  have k1 : (nI k).toNatClampNeg = k := nI_clamp (by omega)
  have k0 : (nI (k - 1)).toNatClampNeg = k - 1 := nI_clamp (by omega)
  have s1 : nI k - 1 = nI (k - 1) := by
    obtain ⟨q, rfl⟩ : ∃ q, k = q + 1 := ⟨k - 1, by omega⟩
    exact nI_m1 q
  have ew : g + 1 + (m + 1) = g + 2 + m := by omega
  rw [ew] at r3 lw
  intro q
  induction q with
  | zero =>
    intro j L hj hL hH h0 h1 h
    obtain rfl : j = c := by omega
    have e : (nI j < nI j) = False := eq_false (nI_nlt (Nat.le_refl _) (by omega))
    rw [E31_43]
    simp only [E31_45, E31_46, E31_49, E31_52, rfs, rfn, cs0, csi, csl, csr, csn, kti, ktl, ktr, ktn, ktv, ktf, true_and, and_true, and_self, ↓reduceIte, Nat.reduceAdd, Nat.reduceSub, Nat.reduceMul, Nat.reduceLT, Nat.reduceLeDiff, Nat.reduceEqDiff, true_or, or_true, false_or, or_false, not_true_eq_false, not_false_eq_true, reduceCtorEq, cmp_lt, cmp_gt, cmp_eq, Int32.reduceAdd, Int32.reduceSub, Int32.reduceMul, Int32.reduceLT, Int32.reduceToNatClampNeg, eq_self, ne_eq, Int64.reduceAdd, Int64.reduceSub, Int64.reduceMul, Int64.reduceLT, o0, r0, of, i0, e]
    exact h L (fun _ _ _ _ _ _ => rfl) h1
  | succ q ih =>
    intro j L hj hL hH h0 h1 h
    have e1 : (nI j < nI c) = True := eq_true (nI_lt (by omega) (by omega))
    have fin : ∀ L1 : mL, (∀ b, ¬ b = g + 2 + m → ¬ b = f + 5 + 3 * c → ¬ b = f + 6 + 3 * c → ¬ b = f + 7 + 3 * c → L1 b = L b) → (∀ x, x < 64 * n → (gb (L1 (g + 2 + m)) x = true ↔ ∃ v, P v ∧ sd w c nu B j v x on)) → Ev (d + 4) 31 115 [.ref l, .int hh, .int (nI wd), .int (nI k), .int (nI j)] [] S I L1 R Q := fun L1 g1 g2 => by
      simp only [E31_0, E31_1, E31_2, E31_5, E31_6, E31_7, E31_8, E31_9, E31_12, E31_15, E31_16, E31_17, E31_18, E31_21, E31_24, E31_26, E31_27, E31_30, E31_31, E31_34, E31_35, E31_36, E31_37, E31_40, E31_41, E31_45, E31_46, E31_49, E31_52, E31_55, E31_56, E31_59, E31_62, E31_63, E31_66, E31_67, E31_70, E31_71, E31_72, E31_73, E31_74, E31_76, E31_77, E31_80, E31_81, E31_84, E31_87, E31_90, E31_91, E31_94, E31_95, E31_98, E31_99, E31_100, E31_101, E31_102, E31_104, E31_105, E31_108, E31_109, E31_112, E31_115, E31_116, E31_119, E31_120, E31_123, E31_124, E31_125, E31_128, E31_131, E31_134, E31_135, E31_136, E31_137, E31_138, E31_141, E31_144, E31_147, E31_148, E31_151, E31_152, E31_153, E31_153n, rfs, rfn, cs0, csi, csl, csr, csn, kti, ktl, ktr, ktn, ktv, ktf, true_and, and_true, and_self, ↓reduceIte, Nat.reduceAdd, Nat.reduceSub, Nat.reduceMul, Nat.reduceLT, Nat.reduceLeDiff, Nat.reduceEqDiff, true_or, or_true, false_or, or_false, not_true_eq_false, not_false_eq_true, reduceCtorEq, cmp_lt, cmp_gt, cmp_eq, Int32.reduceAdd, Int32.reduceSub, Int32.reduceMul, Int32.reduceLT, Int32.reduceToNatClampNeg, eq_self, ne_eq, Int64.reduceAdd, Int64.reduceSub, Int64.reduceMul, Int64.reduceLT, o0, r2, r3, RR, mt.1.2, j1, k1, a1.1, addA (d := d + 2) lw.1 lw.2 a1.2.1 a1.2.2 (show g + 2 + m ≠ g + 1 + k by omega) (by omega), nI_1]
      refine ih (j + 1) _ (by omega) (hL.mono (fun b h1 h2 => ?_)) (hH.mono (fun b h1 h2 => ?_)) (fun x hx => ?_) (fun x hx => ?_) (fun L' q1 q2 => h L' (fun b h1 h2 h3 h4 h5 => ?_) q2)
      · rw [uu_n _ _ (by omega), g1 b (by omega) (by omega) (by omega) (by omega)]
      · rw [uu_n _ _ (by omega), g1 b (by omega) (by omega) (by omega) (by omega)]
      · rw [uu_n _ _ (by omega), g1 _ (by omega) (by omega) (by omega) (by omega)]
        exact h0 x hx
      · rw [uu_s, gb_or hx, g2 x hx, g1 _ (by omega) (by omega) (by omega) (by omega), h1 x hx]
        constructor
        · rintro (⟨p, z1, z2⟩ | z)
          · exact ⟨p, by omega, z2⟩
          · exact ⟨j, by omega, z⟩
        · rintro ⟨p, z1, z2⟩
          by_cases z : p = j
          · subst z
            exact Or.inr z2
          · exact Or.inl ⟨p, by omega, z2⟩
      · rw [q1 b h1 h2 h3 h4 h5, uu_n _ _ h2, g1 b h1 h3 h4 h5]
    rw [E31_43]
    cases on with
    | false =>
      have hz : I l 1 = 0 := hon
      simp only [E31_0, E31_1, E31_2, E31_5, E31_6, E31_7, E31_8, E31_9, E31_12, E31_15, E31_16, E31_17, E31_18, E31_21, E31_24, E31_26, E31_27, E31_30, E31_31, E31_34, E31_35, E31_36, E31_37, E31_40, E31_41, E31_45, E31_46, E31_49, E31_52, E31_55, E31_56, E31_59, E31_62, E31_63, E31_66, E31_67, E31_70, E31_71, E31_72, E31_73, E31_74, E31_76, E31_77, E31_80, E31_81, E31_84, E31_87, E31_90, E31_91, E31_94, E31_95, E31_98, E31_99, E31_100, E31_101, E31_102, E31_104, E31_105, E31_108, E31_109, E31_112, E31_116, E31_119, E31_120, E31_123, E31_124, E31_125, E31_128, E31_131, E31_134, E31_135, E31_136, E31_137, E31_138, E31_141, E31_144, E31_147, E31_148, E31_151, E31_152, E31_153, E31_153n, rfs, rfn, cs0, csi, csl, csr, csn, kti, ktl, ktr, ktn, ktv, ktf, true_and, and_true, and_self, ↓reduceIte, Nat.reduceAdd, Nat.reduceSub, Nat.reduceMul, Nat.reduceLT, Nat.reduceLeDiff, Nat.reduceEqDiff, true_or, or_true, false_or, or_false, not_true_eq_false, not_false_eq_true, reduceCtorEq, cmp_lt, cmp_gt, cmp_eq, Int32.reduceAdd, Int32.reduceSub, Int32.reduceMul, Int32.reduceLT, Int32.reduceToNatClampNeg, eq_self, ne_eq, Int64.reduceAdd, Int64.reduceSub, Int64.reduceMul, Int64.reduceLT, o0, r0, r2, r3, of, i0, e1, hz, hbl, RR, mt.1.2, s1, j0, k0, a0.1]
      refine trA (d := d) (N := N) (P := P) hS hI hW hc (by omega) hn a0.2 lw (by omega) (by omega) hN hB hL hH hP h0 (fun L1 g1 g2 => ?_)
      exact fin L1 g1 g2
    | true =>
      have hz : I l 1 = 1 := hon
      simp only [E31_0, E31_1, E31_2, E31_5, E31_6, E31_7, E31_8, E31_9, E31_12, E31_15, E31_16, E31_17, E31_18, E31_21, E31_24, E31_26, E31_27, E31_30, E31_31, E31_34, E31_35, E31_36, E31_37, E31_40, E31_41, E31_45, E31_46, E31_49, E31_52, E31_55, E31_56, E31_59, E31_62, E31_63, E31_66, E31_67, E31_70, E31_71, E31_72, E31_73, E31_74, E31_76, E31_77, E31_80, E31_81, E31_84, E31_87, E31_90, E31_91, E31_94, E31_95, E31_98, E31_99, E31_100, E31_101, E31_102, E31_104, E31_105, E31_108, E31_109, E31_112, E31_116, E31_119, E31_120, E31_123, E31_124, E31_125, E31_128, E31_131, E31_134, E31_135, E31_136, E31_137, E31_138, E31_141, E31_144, E31_147, E31_148, E31_151, E31_152, E31_153, E31_153n, rfs, rfn, cs0, csi, csl, csr, csn, kti, ktl, ktr, ktn, ktv, ktf, true_and, and_true, and_self, ↓reduceIte, Nat.reduceAdd, Nat.reduceSub, Nat.reduceMul, Nat.reduceLT, Nat.reduceLeDiff, Nat.reduceEqDiff, true_or, or_true, false_or, or_false, not_true_eq_false, not_false_eq_true, reduceCtorEq, cmp_lt, cmp_gt, cmp_eq, Int32.reduceAdd, Int32.reduceSub, Int32.reduceMul, Int32.reduceLT, Int32.reduceToNatClampNeg, eq_self, ne_eq, Int64.reduceAdd, Int64.reduceSub, Int64.reduceMul, Int64.reduceLT, o0, r0, r2, r3, of, i0, e1, hz, hbl, n1_0, RR, mt.1.2, s1, j0, k0, a0.1]
      refine folA (d := d) (N := N) (P := P) hS hI hw hc (by omega) hn a0.2 lw (by omega) (by omega) (by omega) hN (hW.2.2.1 j (by omega)) hB hL hH hP h0 (fun L1 g1 g2 => ?_)
      exact fin L1 (fun b b1 b2 b3 _ => g1 b b1 b2 b3) g2
theorem atK_lp {wd r : Nat} {hh : Int32} (v : LvS S R l f g (m + 1) n) (hS : FoS S R f c n) (hW : WN w c N) (hc : c ≤ 5) (hn : n < 2 ^ 24) (hN : N ≤ 64 * n) (hB : B < 2 ^ 24) (hm : m < 100) (hg : f + 7 + 3 * c < g) (hlf : ¬ l = f) (hlf1 : ¬ l = f + 1) (hw : wd ≤ m) (hq : ∀ (I' : mI) (L' : mL) kn, FrV l I I' → FrG f c g m L L' → wd < kn → LvK on w c N m n I' L' l g nu B r kn → Q (.ref (g + 1 + wd)) S I' L' R) : ∀ (q k : Nat) (J : mI) (L1 : mL) (x : Value), (k + q = wd + 1 ∨ (q = 0 ∧ wd < k)) → FoI J f c n w → FoL L1 f c n w → FoH L1 f c n w nu → LvK on w c N m n J L1 l g nu B r k → FrV l I J → FrG f c g m L L1 → Ev (d + 4) 31 25 [.ref l, .int hh, .int (nI wd), .int (nI k), x] [] S J L1 R Q := by
  have v' := v
  obtain ⟨⟨o0, r0, r2, r3⟩, mt, lw⟩ := v'
  have RR := matR mt
  have aw := mt.2 wd (by omega)
  have jw : inb (nI wd) (m + 1) = True := inb_nI (by omega) (by omega)
  have kw : (nI wd).toNatClampNeg = wd := nI_clamp (by omega)
  intro q
  induction q with
  | zero =>
    intro k J L1 x h1 hI hL hH hK fV fG
    have e : (nI wd < nI k) = True := eq_true (nI_lt (by omega) (by have := hK.2.1.2.1; omega))
    rw [E31_25]
    simp only [E31_26, E31_27, E31_147, E31_148, E31_151, E31_152, E31_153, rfs, rfn, cs0, csi, csl, csr, csn, kti, ktl, ktr, ktn, ktv, ktf, true_and, and_true, and_self, ↓reduceIte, Nat.reduceAdd, Nat.reduceSub, Nat.reduceMul, Nat.reduceLT, Nat.reduceLeDiff, Nat.reduceEqDiff, true_or, or_true, false_or, or_false, not_true_eq_false, not_false_eq_true, reduceCtorEq, cmp_lt, cmp_gt, cmp_eq, Int32.reduceAdd, Int32.reduceSub, Int32.reduceMul, Int32.reduceLT, Int32.reduceToNatClampNeg, eq_self, ne_eq, Int64.reduceAdd, Int64.reduceSub, Int64.reduceMul, Int64.reduceLT, o0, r2, RR, mt.1.2, jw, kw, aw.1, e]
    exact hq _ _ k fV fG (by omega) hK
  | succ q ih =>
    intro k J L1 x h1 hI hL hH hK fV fG
    obtain ⟨⟨k1, k4, k5, k6, k7⟩, ⟨kn1, kn2, kr⟩, kc⟩ := id hK
    have e : (nI wd < nI k) = False := eq_false (nI_nlt (by omega) (by omega))
    have ak := mt.2 k (by omega)
    have jk : inb (nI k) (m + 1) = True := inb_nI (by omega) (by omega)
    have kk : (nI k).toNatClampNeg = k := nI_clamp (by omega)
    rw [E31_25]
    simp only [E31_26, E31_27, E31_30, E31_31, E31_34, E31_35, E31_36, E31_37, E31_40, E31_41, rfs, rfn, cs0, csi, csl, csr, csn, kti, ktl, ktr, ktn, ktv, ktf, true_and, and_true, and_self, ↓reduceIte, Nat.reduceAdd, Nat.reduceSub, Nat.reduceMul, Nat.reduceLT, Nat.reduceLeDiff, Nat.reduceEqDiff, true_or, or_true, false_or, or_false, not_true_eq_false, not_false_eq_true, reduceCtorEq, cmp_lt, cmp_gt, cmp_eq, Int32.reduceAdd, Int32.reduceSub, Int32.reduceMul, Int32.reduceLT, Int32.reduceToNatClampNeg, eq_self, ne_eq, Int64.reduceAdd, Int64.reduceSub, Int64.reduceMul, Int64.reduceLT, o0, r2, RR, mt.1.2, jk, kk, ak.1, e, fillL (d := d + 2) ak.2.1 ak.2.2 (by omega)]
    have q0 := fun L2 h => atcK (d := d) (nu := nu) (N := N) (P := LvD on w c nu B r (k - 1)) (k := k) (wd := wd) (hh := hh) (I := J) (R := R) (Q := Q) v hS hI hW hc hn hN hB hm (fun x z => LvD_lt hW kr _ x z) hg k1 k7 kn1 (by omega) c 0 L2 (by omega) h
    rw [show nI 0 = 0 from rfl] at q0
    refine q0 _ (hL.mono (fun b z1 z2 => uu_n _ _ (by omega))) (hH.mono (fun b z1 z2 => uu_n _ _ (by omega))) (fun x hx => ?_) (fun x hx => ?_) (fun L2 g1 g2 => ?_)
    · rw [uu_n _ _ (by omega)]
      exact kc (k - 1) (by omega) x hx
    · rw [uu_s]
      constructor
      · intro z
        exact absurd z (gb_fill hx)
      · rintro ⟨p, z, _⟩
        omega
    simp only [E31_134, E31_135, E31_136, E31_137, E31_138, E31_141, E31_144, rfs, rfn, cs0, csi, csl, csr, csn, kti, ktl, ktr, ktn, ktv, ktf, true_and, and_true, and_self, ↓reduceIte, Nat.reduceAdd, Nat.reduceSub, Nat.reduceMul, Nat.reduceLT, Nat.reduceLeDiff, Nat.reduceEqDiff, true_or, or_true, false_or, or_false, not_true_eq_false, not_false_eq_true, reduceCtorEq, cmp_lt, cmp_gt, cmp_eq, Int32.reduceAdd, Int32.reduceSub, Int32.reduceMul, Int32.reduceLT, Int32.reduceToNatClampNeg, eq_self, ne_eq, Int64.reduceAdd, Int64.reduceSub, Int64.reduceMul, Int64.reduceLT, pt, o0, nI_1]
    have fr : ∀ b, ¬ b = g + 2 + m → ¬ b = g + 1 + k → ¬ b = f + 5 + 3 * c → ¬ b = f + 6 + 3 * c → ¬ b = f + 7 + 3 * c → L2 b = L1 b := fun b b1 b2 b3 b4 b5 => by rw [g1 b b1 b2 b3 b4 b5, uu_n _ _ b2]
    refine ih (k + 1) _ L2 _ (by omega) (hI.mono ?_ ?_ ?_) (hL.mono (fun b z1 z2 => fr b (by omega) (by omega) (by omega) (by omega) (by omega))) (hH.mono (fun b z1 z2 => fr b (by omega) (by omega) (by omega) (by omega) (by omega))) ⟨⟨?_, ?_, ?_, ?_, ?_⟩, ⟨by omega, by omega, kr⟩, fun i hi x hx => ?_⟩ (fV.tr (fun b hb => pt_n hb)) (fG.tr (fun b b1 b2 b3 b4 => fr b (by omega) (by omega) b2 b3 b4))
    · rw [pt_n (fun z => hlf z.symm)]
    · rw [pt_n (fun z => hlf z.symm)]
    · rw [pt_n (fun z => hlf1 z.symm)]
    · rw [pt_f (by decide)]; exact k1
    · rw [pt_s]
    · rw [pt_f (by decide)]; exact k5
    · rw [pt_f (by decide)]; exact k6
    · rw [pt_f (by decide)]; exact k7
    · by_cases z : i = k
      · subst z
        rw [g2 x hx]
        obtain ⟨j, rfl⟩ : ∃ j, i = j + 1 := ⟨i - 1, by omega⟩
        exact Iff.rfl
      · rw [fr _ (by omega) (by omega) (by omega) (by omega) (by omega)]
        exact kc i (by omega) x hx
/-- the level of so many HEATS -/
theorem atV {wd r kn : Nat} (v : LvS S R l f g (m + 1) n) (hS : FoS S R f c n) (hI : FoI I f c n w) (hW : WN w c N) (hc : c ≤ 5) (hn : n < 2 ^ 24) (hN : N ≤ 64 * n) (hB : B < 2 ^ 24) (hm : m < 100) (hg : f + 7 + 3 * c < g) (hlf : ¬ l = f) (hlf1 : ¬ l = f + 1) (hw : wd ≤ m) (hL : FoL L f c n w) (hH : FoH L f c n w nu) (hK : LvK on w c N m n I L l g nu B r kn) (hq : ∀ (I' : mI) (L' : mL) kn', FrV l I I' → FrG f c g m L L' → wd < kn' → LvK on w c N m n I' L' l g nu B r kn' → Q (.ref (g + 1 + wd)) S I' L' R) : EvM (d + 4) 31 [.ref l, .int (nI wd)] S I L R Q := by
  have v' := v
  obtain ⟨⟨o0, r0, r2, r3⟩, mt, lw⟩ := v'
  obtain ⟨⟨k1, k4, k5, k6, k7⟩, ⟨kn1, kn2, kr⟩, kc⟩ := id hK
  have A : okA S g := ⟨mt.1.1.1, by rw [mt.1.1.2]; decide⟩
  have c1 : (if nI wd < nI m then nI wd else nI m) = nI wd := by
    by_cases z : wd < m
    · rw [if_pos (nI_lt z (by omega))]
    · rw [if_neg (nI_nlt (by omega) (by omega))]
      congr 1
      omega
  have c2 : (if (0 : Int32) < nI wd then nI wd else 0) = nI wd := by
    by_cases z : 0 < wd
    · rw [if_pos (show (0 : Int32) < nI wd from nI_lt (a := 0) z (by omega))]
    · obtain rfl : wd = 0 := by omega
      rfl
  have c3 : (if (1 : Int32) < nI kn then nI kn else 1) = nI kn := by
    by_cases z : 1 < kn
    · rw [if_pos (show (1 : Int32) < nI kn from nI_lt (a := 1) z (by omega))]
    · obtain rfl : kn = 1 := by omega
      rfl
  simp only [M31, E31_0, E31_1, E31_2, E31_5, E31_6, E31_7, E31_8, E31_9, E31_12, E31_15, E31_16, E31_17, E31_18, E31_21, E31_24, E31_26, E31_27, E31_30, E31_31, E31_34, E31_35, E31_36, E31_37, E31_40, E31_41, E31_45, E31_46, E31_49, E31_52, E31_55, E31_56, E31_59, E31_62, E31_63, E31_66, E31_67, E31_70, E31_71, E31_72, E31_73, E31_74, E31_76, E31_77, E31_80, E31_81, E31_84, E31_87, E31_90, E31_91, E31_94, E31_95, E31_98, E31_99, E31_100, E31_101, E31_102, E31_104, E31_105, E31_108, E31_109, E31_112, E31_115, E31_116, E31_119, E31_120, E31_123, E31_124, E31_125, E31_128, E31_131, E31_134, E31_135, E31_136, E31_137, E31_138, E31_141, E31_144, E31_147, E31_148, E31_151, E31_152, E31_153, E31_153n, rfs, rfn, cs0, csi, csl, csr, csn, kti, ktl, ktr, ktn, ktv, ktf, true_and, and_true, and_self, ↓reduceIte, Nat.reduceAdd, Nat.reduceSub, Nat.reduceMul, Nat.reduceLT, Nat.reduceLeDiff, Nat.reduceEqDiff, true_or, or_true, false_or, or_false, not_true_eq_false, not_false_eq_true, reduceCtorEq, cmp_lt, cmp_gt, cmp_eq, Int32.reduceAdd, Int32.reduceSub, Int32.reduceMul, Int32.reduceLT, Int32.reduceToNatClampNeg, eq_self, ne_eq, Int64.reduceAdd, Int64.reduceSub, Int64.reduceMul, Int64.reduceLT, o0, r2, A, mt.1.2, nI_m1, c1, c2, c3, k4]
  exact atK_lp v hS hW hc hn hN hB hm hg hlf hlf1 hw hq (wd + 1 - kn) kn I L _ (by omega) hI hL hH hK FrV.rf FrG.rf
end LH
