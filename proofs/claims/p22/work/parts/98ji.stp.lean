/-! group C: readStep, with the code that both write -/
def stw (t : Int32) : Int32 := if t = -20 then 0 else if t = -21 then 1 else if t = -22 then 2 else if t = -23 then 3 else if t = -24 then 4 else if t = -25 then 5 else -1
theorem stw_n {t : Int32} (h : stw t = -1) : -20 - t < 0 ∨ 5 < -20 - t := by
  refine Classical.byContradiction (fun z => ?_)
  have a : ¬ -20 - t < 0 := fun y => z (Or.inl y)
  have b : ¬ 5 < -20 - t := fun y => z (Or.inr y)
  have e : t + (-20 - t) = -20 := by rw [Int32.add_comm, Int32.sub_add_cancel]
  have e2 : t = -20 - (-20 - t) := by
    have q := (Int32.add_sub_cancel t (-20 - t)).symm
    rw [e] at q
    exact q
  generalize -20 - t = w at a b e2
  rw [Int32.lt_iff_toInt_lt, show (0 : Int32).toInt = 0 from rfl] at a
  rw [Int32.lt_iff_toInt_lt, show (5 : Int32).toInt = 5 from rfl] at b
  have c : w.toInt = 0 ∨ w.toInt = 1 ∨ w.toInt = 2 ∨ w.toInt = 3 ∨ w.toInt = 4 ∨ w.toInt = 5 := by omega
  rw [e2] at h
  rcases c with c | c | c | c | c | c
  · rw [show w = 0 from Int32.toInt_inj.mp c] at h; exact absurd h (by decide)
  · rw [show w = 1 from Int32.toInt_inj.mp c] at h; exact absurd h (by decide)
  · rw [show w = 2 from Int32.toInt_inj.mp c] at h; exact absurd h (by decide)
  · rw [show w = 3 from Int32.toInt_inj.mp c] at h; exact absurd h (by decide)
  · rw [show w = 4 from Int32.toInt_inj.mp c] at h; exact absurd h (by decide)
  · rw [show w = 5 from Int32.toInt_inj.mp c] at h; exact absurd h (by decide)
theorem stw_c (t : Int32) : (t = -20 ∨ t = -21 ∨ t = -22 ∨ t = -23 ∨ t = -24 ∨ t = -25) ∨ stw t = -1 := by
  unfold stw
  by_cases h0 : t = -20
  · exact Or.inl (Or.inl h0)
  by_cases h1 : t = -21
  · exact Or.inl (Or.inr (Or.inl h1))
  by_cases h2 : t = -22
  · exact Or.inl (Or.inr (Or.inr (Or.inl h2)))
  by_cases h3 : t = -23
  · exact Or.inl (Or.inr (Or.inr (Or.inr (Or.inl h3))))
  by_cases h4 : t = -24
  · exact Or.inl (Or.inr (Or.inr (Or.inr (Or.inr (Or.inl h4)))))
  by_cases h5 : t = -25
  · exact Or.inl (Or.inr (Or.inr (Or.inr (Or.inr (Or.inr h5)))))
  exact Or.inr (by rw [if_neg h0, if_neg h1, if_neg h2, if_neg h3, if_neg h4, if_neg h5])
theorem stw_y {t : Int32} (h : ¬ stw t = -1) : -20 - t = stw t ∧ ¬ stw t < 0 ∧ ¬ 5 < stw t ∧ ¬ t = -1 := by
  rcases stw_c t with (z | z | z | z | z | z) | z
  · rw [z]; decide
  · rw [z]; decide
  · rw [z]; decide
  · rw [z]; decide
  · rw [z]; decide
  · rw [z]; decide
  · exact absurd z h
theorem Cst.pq {T P : Nat → Int32} {m i n o c b k : Nat} {C : mI} {x : Int32} (h : Cst T P m C i n o c) (hb : b = 16 ∨ b = 17) : Cst T P m (put C b k x) i n o c := by
  obtain ⟨h18, h19, h5, h8, h9, h10, h1, hc, hi, hn, ho⟩ := h
  exact ⟨(pt_n (by omega)).trans h18, (pt_n (by omega)).trans h19, (pt_m (by omega)).trans h5, (pt_m (by omega)).trans h8, (pt_m (by omega)).trans h9, (pt_m (by omega)).trans h10, (pt_m (by omega)).trans h1, hc, hi, hn, ho⟩
theorem Cst.r5 {T P : Nat → Int32} {m i n o c s : Nat} {C : mI} (h : Cst T P m C i n o c) : Cst T P m (rs5 C s) i n o c := by
  obtain ⟨h18, h19, h5, h8, h9, h10, h1, hc, hi, hn, ho⟩ := h.pq (b := 16) (k := s + 1) (x := C 14 1) (Or.inl rfl)
  unfold rs5
  exact ⟨(pt_n (by decide)).trans h18, (pt_n (by decide)).trans h19, (pt_f (by decide)).trans h5, (pt_f (by decide)).trans h8, (pt_f (by decide)).trans h9, (pt_f (by decide)).trans h10, (pt_f (by decide)).trans h1, hc, hi, hn, ho⟩
theorem Fl.r5 {x : Int32} {C : mI} {s : Nat} (h : Fl x C) : Fl x (rs5 C s) := by
  unfold rs5
  exact (pt_f (by decide)).trans ((pt_m (by decide)).trans h)
theorem Fl.r4 {x : Int32} {C : mI} (hx : ¬ x = -1) (h : Fl x C) : Fl x (rs4 C) := by
  have fl := Fl.cl hx
  unfold rs4
  split
  · exact fl.te (fl.pF 8) _ (fl.ad h)
  · exact fl.em h
theorem Fl.r3 {x : Int32} {C : mI} {w : Int32} (hx : ¬ x = -1) (h : Fl x C) : Fl x (rs3 C w) := by
  have fl := Fl.cl hx
  unfold rs3
  split
  · exact fl.sf (fl.pf 8) _ (fl.ta h)
  · exact h
/-- what a test behind "if" comes to -/
def TsR (n n' : Nat) (l : List (Int32 × Int32)) (ct : List Int32) : Prop := (l = [] ∧ ct = [1] ∧ n' = n) ∨ Ve True n n' l ct
/-- a STEP's code on both sides -/
def StR (k f7 : Int32) (l1 l2 l3 : List (Int32 × Int32)) (cl : List Int32) : Prop := ∃ (n0 n1 n2 n3 : Nat) (c1 c2 ct : List Int32), n3 ≤ n0 + 60 ∧ cl = c1 ++ c2 ++ ct ∧ TsR n2 n3 l3 ct ∧ ((k = 5 ∧ l1 = [] ∧ l2 = [] ∧ c1 = [f7] ∧ c2 = [] ∧ ¬ f7 < 0 ∧ ¬ 15 < f7 ∧ n1 = n0 ∧ n2 = n1) ∨ (¬ k = 5 ∧ Ve False n0 n1 l1 c1 ∧ ((k = 1 ∧ Ve False n1 n2 l2 c2) ∨ (¬ k = 1 ∧ l2 = [] ∧ c2 = [] ∧ n2 = n1))))
/-- a piece of the code that the reference has written -/
def RdJ (J : mI) (a b : Nat) (l : List (Int32 × Int32)) : Prop := b = a + l.length ∧ ∀ k x, l[k]? = some x → J 60 (a + k) = x.1 ∧ J 61 (a + k) = x.2
def StM (C J : mI) (c nc s : Nat) : Prop := ∃ (x y f1 f2 f3 f4 : Nat) (l1 l2 l3 : List (Int32 × Int32)), C 16 s = nI x ∧ C 16 (s + 1) = nI y ∧ x ≤ y ∧ y ≤ c ∧ J 63 (10 * s) = C 17 s ∧ J 63 (10 * s + 1) = nI f1 ∧ J 63 (10 * s + 2) = nI f2 ∧ J 63 (10 * s + 3) = nI f3 ∧ J 63 (10 * s + 4) = nI f4 ∧ f4 ≤ nc ∧ RdJ J f1 f2 l1 ∧ RdJ J f2 f3 l2 ∧ RdJ J f3 f4 l3 ∧ ¬ C 17 s < 0 ∧ ¬ 5 < C 17 s ∧ StR (C 17 s) (J 63 (10 * s + 7)) l1 l2 l3 (Sg C x y)
theorem RdJ.le {J : mI} {a b : Nat} {l : List (Int32 × Int32)} (h : RdJ J a b l) : a ≤ b := by
  have := h.1
  omega
theorem RdJ.kp {J K : mI} {a b : Nat} {l : List (Int32 × Int32)} (h : RdJ J a b l) (e : ∀ k, k < b → K 60 k = J 60 k ∧ K 61 k = J 61 k) : RdJ K a b l := by
  refine ⟨h.1, fun k x hx => ?_⟩
  have hk : k < l.length := by
    refine Classical.byContradiction (fun z => ?_)
    rw [List.getElem?_eq_none (by omega)] at hx
    cases hx
  have hb := h.1
  obtain ⟨e1, e2⟩ := e (a + k) (by omega)
  rw [e1, e2]
  exact h.2 k x hx
theorem Cde.rd {J : mI} {κ l : List (Int32 × Int32)} (h : Cde J (κ ++ l)) : RdJ J κ.length (κ ++ l).length l := by
  refine ⟨List.length_append, fun k x hx => ?_⟩
  refine h.2.2 (κ.length + k) x ?_
  rw [List.getElem?_append_right (by omega), show κ.length + k - κ.length = k by omega]
  exact hx
theorem Cde.kp {J K : mI} {κ l : List (Int32 × Int32)} (h : Cde J κ) (g : Cde K (κ ++ l)) : ∀ k, k < κ.length → K 60 k = J 60 k ∧ K 61 k = J 61 k := fun k hk => by
  obtain ⟨x, hx⟩ : ∃ x, κ[k]? = some x := ⟨κ[k], List.getElem?_eq_getElem hk⟩
  obtain ⟨a1, a2⟩ := h.2.2 k x hx
  obtain ⟨b1, b2⟩ := g.2.2 k x (by rw [List.getElem?_append_left hk]; exact hx)
  exact ⟨b1.trans a1.symm, b2.trans a2.symm⟩
/-- the code that has been written stays -/
def KpJ (nc : Nat) (J K : mI) : Prop := ∀ k, k < nc → K 60 k = J 60 k ∧ K 61 k = J 61 k
theorem StM.kp {C D J K : mI} {c c' nc nc' s : Nat} (h : StM C J c nc s) (hc : c ≤ c') (hn : nc ≤ nc') (e16 : D 16 s = C 16 s) (e16' : D 16 (s + 1) = C 16 (s + 1)) (e17 : D 17 s = C 17 s) (k15 : Kp c C D) (kJ : KpJ nc J K) (e63 : ∀ j, 10 * s ≤ j → j < 10 * s + 10 → K 63 j = J 63 j) : StM D K c' nc' s := by
  obtain ⟨x, y, f1, f2, f3, f4, l1, l2, l3, a1, a2, a3, a4, b0, b1, b2, b3, b4, b5, r1, r2, r3, g1, g2, st⟩ := h
  have q3 := r3.le
  have q2 := r2.le
  refine ⟨x, y, f1, f2, f3, f4, l1, l2, l3, e16.trans a1, e16'.trans a2, a3, by omega, ?_, ?_, ?_, ?_, ?_, by omega, r1.kp (fun k hk => kJ k (by omega)), r2.kp (fun k hk => kJ k (by omega)), r3.kp (fun k hk => kJ k (by omega)), by rw [e17]; exact g1, by rw [e17]; exact g2, ?_⟩
  · rw [e63 _ (by omega) (by omega), e17]; exact b0
  · rw [e63 _ (by omega) (by omega)]; exact b1
  · rw [e63 _ (by omega) (by omega)]; exact b2
  · rw [e63 _ (by omega) (by omega)]; exact b3
  · rw [e63 _ (by omega) (by omega)]; exact b4
  · rw [e63 _ (by omega) (by omega), e17]
    have e : Sg D x y = Sg C x y := Sg.cg (fun k hk => k15 k (by omega))
    rw [e]
    exact st
/-- what the class's reader leaves of the STEPS that it has read -/
def Ks (C D : mI) : Prop := D 16 = C 16 ∧ D 17 = C 17
theorem Ks.cl {C : mI} : Clo (Ks C) := ⟨fun J k x h _ => ⟨(pt_n (by decide)).trans h.1, (pt_n (by decide)).trans h.2⟩, fun J k x h => ⟨(pt_n (by decide)).trans h.1, (pt_n (by decide)).trans h.2⟩⟩
theorem Ks.rf {C : mI} : Ks C C := ⟨rfl, rfl⟩
theorem Ks.r2 {C : mI} {w : Int32} : Ks C (rs2 C w) := by
  unfold rs2
  split
  · exact Ks.cl.nu Ks.rf
  · exact Ks.cl.sf (Ks.cl.pf 8) _ Ks.rf
theorem Ks.r3 {C : mI} {w : Int32} : Ks C (rs3 C w) := by
  unfold rs3
  split
  · exact Ks.cl.sf (Ks.cl.pf 8) _ (Ks.cl.ta Ks.rf)
  · exact Ks.rf
theorem Ks.r4 {C : mI} : Ks C (rs4 C) := by
  unfold rs4
  split
  · exact Ks.cl.te (Ks.cl.pF 8) _ (Ks.cl.ad Ks.rf)
  · exact Ks.cl.em Ks.rf
theorem r515 {C : mI} {s : Nat} : rs5 C s 15 = C 15 := by
  unfold rs5
  rw [pt_n (by decide), pt_n (by decide)]
section RZ
variable {d n m i nP s k j : Nat} {X I0 : mI} {Y T P : Nat → Int32} {p : Nat → Nat} {κ : List (Int32 × Int32)} {S : mS} {I C : mI} {L : mL} {R : mR} {Q : mQ} {x : Int32} {c : Nat}
def SsS (X : mI) (Y T P : Nat → Int32) (n m : Nat) (p : Nat → Nat) (J : mI) (L : mL) (i nP s : Nat) (κ : List (Int32 × Int32)) : Prop := ExS X Y T P n m p 0 J L i nP κ ∧ J 54 22 = nI s
def BdS (P : Nat → Int32) (J : mI) (j s : Nat) : Prop := J 54 13 = 1 ∧ J 54 12 = P j ∧ (∃ nc, J 54 15 = nI nc) ∧ J 54 22 = nI s
theorem ExS.cg {a : Nat} {J : mI} (h : ExS X Y T P n m p a I L i nP κ) (e59 : J 59 = I 59) (e60 : J 60 = I 60) (e61 : J 61 = I 61) (e : ∀ k, k < 16 → J 54 k = I 54 k) : ExS X Y T P n m p a J L i nP κ := by
  obtain ⟨hT, e13, e12, e14, ⟨nc, e15, h1, h2⟩, hm, hn, hcd⟩ := h
  exact ⟨hT.cg e59 (fun k _ h => e k (by omega)), (e 13 (by decide)).trans e13, (e 12 (by decide)).trans e12, (e 14 (by decide)).trans e14, ⟨nc, (e 15 (by decide)).trans e15, h1, h2⟩, hm, hn, hcd.cg (e 15 (by decide)) e60 e61⟩
theorem ExS.nx {a : Nat} {J : mI} {L' : mL} {i' : Nat} (h : ExS X Y T P n m p a I L i nP κ) (F : Fn I J) (t : RTi X Y T P n m p J L' i') (h1 : i ≤ i') (h2 : i' ≤ m) : ExS X Y T P n m p a J L' i' nP κ := by
  obtain ⟨hT, e13, e12, e14, ⟨nc, e15, l1, l2⟩, hm, hn, hcd⟩ := h
  exact ⟨t, (F.2 13 (by decide)).trans e13, (F.2 12 (by decide)).trans e12, (F.2 14 (by decide)).trans e14, ⟨nc, (F.2 15 (by decide)).trans e15, by omega, l2⟩, h2, hn, hcd.cg (F.2 15 (by decide)) (F.1 60 (by decide)) (F.1 61 (by decide))⟩
theorem ExS.lt {a : Nat} (h : ExS X Y T P n m p a I L i nP κ) (hK : Tks X Y T P n m p) (g : ¬ T i = -1) : i < m := by
  have e : i ≤ m := h.2.2.2.2.2.1
  have q : ¬ i = m := fun z => g (by rw [z]; exact hK.2.2.2.2.2.1)
  omega
/-- the STEP's row gets its last place -/
theorem r4m {nc : Nat} (hS : Pm S) (hR : Pr R) (hs : s < 16) (hk : k = 10 * s) (e15 : I 54 15 = nI nc) (e22 : I 54 22 = nI s) (hq : ∀ J, J 59 = I 59 → (∀ k, ¬ k = 22 → J 54 k = I 54 k) → J 54 22 = nI (s + 1) → Fy I J → J 63 = va_up (I 63) (k + 4) (nI nc) → J 60 = I 60 → J 61 = I 61 → Q .null S J L R) : Ev (d + 8) 180 187 [.ref 54, .int x, .int (nI k)] [] S I L R Q := by
  have p4 : nI k + 4 = nI (k + 4) := by rw [show (4 : Int32) = nI 4 from rfl, nI_add]
  have a4 : inb (nI (k + 4)) 160 = True := inb_nI (by omega) (by decide)
  have b4 : (nI (k + 4)).toNatClampNeg = k + 4 := nI_clamp (by omega)
  simp only [E180_187, E180_188, E180_191, E180_192, E180_193, E180_194, E180_195, E180_198, E180_199, E180_200, E180_201, E180_204, E180_205, E180_206, E180_209, pk54 hS, pk63 hS, pl63 hS, pa63 hS, pi63 hS, pr54_21 hR, rfs, rfn, cs0, csi, csl, csr, csn, kti, ktl, ktr, ktn, ktv, ktf, true_and, and_true, and_self, ↓reduceIte, Nat.reduceAdd, Nat.reduceSub, Nat.reduceMul, Nat.reduceLT, Nat.reduceLeDiff, Nat.reduceEqDiff, true_or, or_true, false_or, or_false, not_true_eq_false, not_false_eq_true, reduceCtorEq, cmp_lt, cmp_gt, cmp_eq, Int32.reduceAdd, Int32.reduceSub, Int32.reduceMul, Int32.reduceLT, Int32.reduceToNatClampNeg, eq_self, ne_eq, Int64.reduceAdd, Int64.reduceSub, Int64.reduceMul, Int64.reduceLT, pt, pt_m, p4, a4, b4, e15, e22, nI_1]
  refine hq _ ?_ (fun k hk => ?_) pt_s (Fy.p (Fy.t Fy.rf) (by decide)) ?_ ?_ ?_
  · rw [pt_n (by decide), pt_n (by decide)]
  · rw [pt_f hk, pt_m (by decide)]
  · rw [pt_n (by decide), pt_c]
  · rw [pt_n (by decide), pt_n (by decide)]
  · rw [pt_n (by decide), pt_n (by decide)]
theorem r3n (hS : Pm S) (hR : Pr R) (hs : s < 16) (hk : k = 10 * s) (h : BdS P I j s) (hq : ∀ J, J 54 13 = 1 → J 54 12 = P j → Fy I J → Q .null S J L R) : Ev (d + 8) 180 149 [.ref 54, .int x, .int (nI k)] [] S I L R Q := by
  obtain ⟨e13, e12, ⟨nc, e15⟩, e22⟩ := h
  have p3 : nI k + 3 = nI (k + 3) := by rw [show (3 : Int32) = nI 3 from rfl, nI_add]
  have a3 : inb (nI (k + 3)) 160 = True := inb_nI (by omega) (by decide)
  have b3 : (nI (k + 3)).toNatClampNeg = k + 3 := nI_clamp (by omega)
  have f13 : put I 63 (k + 3) (nI nc) 54 13 = 1 := (pt_m (by decide)).trans e13
  simp only [E180_149, E180_150, E180_153, E180_154, E180_155, E180_156, E180_157, E180_160, pk54 hS, pk63 hS, pl63 hS, pa63 hS, pi63 hS, pr54_21 hR, rfs, rfn, cs0, csi, csl, csr, csn, kti, ktl, ktr, ktn, ktv, ktf, true_and, and_true, and_self, ↓reduceIte, Nat.reduceAdd, Nat.reduceSub, Nat.reduceMul, Nat.reduceLT, Nat.reduceLeDiff, Nat.reduceEqDiff, true_or, or_true, false_or, or_false, not_true_eq_false, not_false_eq_true, reduceCtorEq, cmp_lt, cmp_gt, cmp_eq, Int32.reduceAdd, Int32.reduceSub, Int32.reduceMul, Int32.reduceLT, Int32.reduceToNatClampNeg, eq_self, ne_eq, Int64.reduceAdd, Int64.reduceSub, Int64.reduceMul, Int64.reduceLT, pt, pt_m, p3, a3, b3, e15]
  simp only [E180_161, E180_162, E180_165, pk54 hS, rfs, rfn, cs0, csi, csl, csr, csn, kti, ktl, ktr, ktn, ktv, ktf, true_and, and_true, and_self, ↓reduceIte, Nat.reduceAdd, Nat.reduceSub, Nat.reduceMul, Nat.reduceLT, Nat.reduceLeDiff, Nat.reduceEqDiff, true_or, or_true, false_or, or_false, not_true_eq_false, not_false_eq_true, reduceCtorEq, cmp_lt, cmp_gt, cmp_eq, Int32.reduceAdd, Int32.reduceSub, Int32.reduceMul, Int32.reduceLT, Int32.reduceToNatClampNeg, eq_self, ne_eq, Int64.reduceAdd, Int64.reduceSub, Int64.reduceMul, Int64.reduceLT, f13, n1_0]
  refine r4m (d := d) (nc := nc) hS hR hs hk ((pt_m (by decide)).trans e15) ((pt_m (by decide)).trans e22) (fun J k1 k2 k3 F _ _ _ => ?_)
  exact hq J ((k2 13 (by decide)).trans f13) ((k2 12 (by decide)).trans ((pt_m (by decide)).trans e12)) ((Fy.t Fy.rf).tr F)
theorem r2n (hS : Pm S) (hR : Pr R) (hs : s < 16) (hk : k = 10 * s) (h : BdS P I j s) (hq : ∀ J, J 54 13 = 1 → J 54 12 = P j → Fy I J → Q .null S J L R) : Ev (d + 8) 180 102 [.ref 54, .int x, .int (nI k)] [] S I L R Q := by
  obtain ⟨e13, e12, ⟨nc, e15⟩, e22⟩ := h
  have p2 : nI k + 2 = nI (k + 2) := by rw [show (2 : Int32) = nI 2 from rfl, nI_add]
  have a2 : inb (nI (k + 2)) 160 = True := inb_nI (by omega) (by decide)
  have b2 : (nI (k + 2)).toNatClampNeg = k + 2 := nI_clamp (by omega)
  have f13 : put I 63 (k + 2) (nI nc) 54 13 = 1 := (pt_m (by decide)).trans e13
  have b : BdS P (put I 63 (k + 2) (nI nc)) j s := ⟨f13, (pt_m (by decide)).trans e12, ⟨nc, (pt_m (by decide)).trans e15⟩, (pt_m (by decide)).trans e22⟩
  have fin : Ev (d + 8) 180 149 [.ref 54, .int x, .int (nI k)] [] S (put I 63 (k + 2) (nI nc)) L R Q := r3n hS hR hs hk b (fun J k1 k2 F => hq J k1 k2 ((Fy.t Fy.rf).tr F))
  simp only [E180_102, E180_103, E180_106, E180_107, E180_108, E180_109, E180_110, E180_113, pk54 hS, pk63 hS, pl63 hS, pa63 hS, pi63 hS, pr54_21 hR, rfs, rfn, cs0, csi, csl, csr, csn, kti, ktl, ktr, ktn, ktv, ktf, true_and, and_true, and_self, ↓reduceIte, Nat.reduceAdd, Nat.reduceSub, Nat.reduceMul, Nat.reduceLT, Nat.reduceLeDiff, Nat.reduceEqDiff, true_or, or_true, false_or, or_false, not_true_eq_false, not_false_eq_true, reduceCtorEq, cmp_lt, cmp_gt, cmp_eq, Int32.reduceAdd, Int32.reduceSub, Int32.reduceMul, Int32.reduceLT, Int32.reduceToNatClampNeg, eq_self, ne_eq, Int64.reduceAdd, Int64.reduceSub, Int64.reduceMul, Int64.reduceLT, pt, pt_m, p2, a2, b2, e15]
  by_cases g0 : x = 1
  · have g0' : (x = 1) = True := eq_true g0
    rw [g0] at fin ⊢
    simp only [E180_114, E180_115, E180_116, E180_119, E180_120, E180_123, pk54 hS, rfs, rfn, cs0, csi, csl, csr, csn, kti, ktl, ktr, ktn, ktv, ktf, true_and, and_true, and_self, ↓reduceIte, Nat.reduceAdd, Nat.reduceSub, Nat.reduceMul, Nat.reduceLT, Nat.reduceLeDiff, Nat.reduceEqDiff, true_or, or_true, false_or, or_false, not_true_eq_false, not_false_eq_true, reduceCtorEq, cmp_lt, cmp_gt, cmp_eq, Int32.reduceAdd, Int32.reduceSub, Int32.reduceMul, Int32.reduceLT, Int32.reduceToNatClampNeg, eq_self, ne_eq, Int64.reduceAdd, Int64.reduceSub, Int64.reduceMul, Int64.reduceLT, f13, n1_0]
    exact fin
  · simp only [E180_114, E180_115, E180_116, pk54 hS, rfs, rfn, cs0, csi, csl, csr, csn, kti, ktl, ktr, ktn, ktv, ktf, true_and, and_true, and_self, ↓reduceIte, Nat.reduceAdd, Nat.reduceSub, Nat.reduceMul, Nat.reduceLT, Nat.reduceLeDiff, Nat.reduceEqDiff, true_or, or_true, false_or, or_false, not_true_eq_false, not_false_eq_true, reduceCtorEq, cmp_lt, cmp_gt, cmp_eq, Int32.reduceAdd, Int32.reduceSub, Int32.reduceMul, Int32.reduceLT, Int32.reduceToNatClampNeg, eq_self, ne_eq, Int64.reduceAdd, Int64.reduceSub, Int64.reduceMul, Int64.reduceLT, g0]
    exact fin
theorem r3E (hS : Pm S) (hR : Pr R) (hK : Tks X Y T P n m p) (hT : TkO T P m) (hs : s < 16) (hk : k = 10 * s) (hC : Cst T P m C i nP 0 c) (hl : c + 1 ≤ i) (h : SsS X Y T P n m p I L i nP s κ) (hok : ∀ J L' i' n' c' l, Cst T P m (rs5 (rs4 C) s) i' n' 0 c' → i ≤ i' → SsS X Y T P n m p J L' i' n' (s + 1) (κ ++ l) → Fy I J → c ≤ c' → Kp c C (rs4 C) → TsR nP n' l (Sg (rs4 C) c c') → J 63 = va_up (va_up (I 63) (k + 3) (nI κ.length)) (k + 4) (nI (κ ++ l).length) → Q .null S J L' R) (hno : ∀ J L' j, j ≤ m → rs5 (rs4 C) s 14 5 = P j → J 54 13 = 1 → J 54 12 = P j → Fy I J → Q .null S J L' R) : Ev (d + 8) 180 149 [.ref 54, .int x, .int (nI k)] [] S I L R Q := by
  obtain ⟨hE, e22⟩ := h
  obtain ⟨eT, e13, e12, e14, ⟨nc, e15, e1, e2⟩, em, en, hcd⟩ := id hE
  have m4 := hK.1
  have m5 := hK.2.1
  have enc := hcd.nc e15 (by omega)
  have p3 : nI k + 3 = nI (k + 3) := by rw [show (3 : Int32) = nI 3 from rfl, nI_add]
  have a3 : inb (nI (k + 3)) 160 = True := inb_nI (by omega) (by decide)
  have b3 : (nI (k + 3)).toNatClampNeg = k + 3 := nI_clamp (by omega)
  have F0 : Fy I (put I 63 (k + 3) (nI nc)) := Fy.t Fy.rf
  have hE2 : ExS X Y T P n m p 0 (put I 63 (k + 3) (nI nc)) L i nP κ := hE.cg (pt_n (by decide)) (pt_n (by decide)) (pt_n (by decide)) (fun k _ => pt_m (by decide))
  have f22 : put I 63 (k + 3) (nI nc) 54 22 = nI s := (pt_m (by decide)).trans e22
  have f15 : put I 63 (k + 3) (nI nc) 54 15 = nI nc := (pt_m (by decide)).trans e15
  have f63 : put I 63 (k + 3) (nI nc) 63 = va_up (I 63) (k + 3) (nI κ.length) := by rw [pt_c, enc]
  simp only [E180_149, E180_150, E180_153, E180_154, E180_155, E180_156, E180_157, E180_160, pk54 hS, pk63 hS, pl63 hS, pa63 hS, pi63 hS, pr54_21 hR, rfs, rfn, cs0, csi, csl, csr, csn, kti, ktl, ktr, ktn, ktv, ktf, true_and, and_true, and_self, ↓reduceIte, Nat.reduceAdd, Nat.reduceSub, Nat.reduceMul, Nat.reduceLT, Nat.reduceLeDiff, Nat.reduceEqDiff, true_or, or_true, false_or, or_false, not_true_eq_false, not_false_eq_true, reduceCtorEq, cmp_lt, cmp_gt, cmp_eq, Int32.reduceAdd, Int32.reduceSub, Int32.reduceMul, Int32.reduceLT, Int32.reduceToNatClampNeg, eq_self, ne_eq, Int64.reduceAdd, Int64.reduceSub, Int64.reduceMul, Int64.reduceLT, pt, pt_m, p3, a3, b3, e15]
  generalize put I 63 (k + 3) (nI nc) = K at F0 hE2 f22 f15 f63
  have k13 := hE2.2.1
  have e294 := hE2.1.w1
  by_cases q : T i = -4
  · rw [decide_eq_true q] at e294
    have hi : i < m := hE2.lt hK (by rw [q]; decide)
    have cr : rs4 C = testF (plainF 8) (advF C) := if_pos (hC.sy hT q)
    simp only [E180_161, E180_162, E180_165, E180_168, E180_169, E180_172, E180_175, E180_178, E180_179, isw hS, pk54 hS, rfs, rfn, cs0, csi, csl, csr, csn, kti, ktl, ktr, ktn, ktv, ktf, true_and, and_true, and_self, ↓reduceIte, Nat.reduceAdd, Nat.reduceSub, Nat.reduceMul, Nat.reduceLT, Nat.reduceLeDiff, Nat.reduceEqDiff, true_or, or_true, false_or, or_false, not_true_eq_false, not_false_eq_true, reduceCtorEq, cmp_lt, cmp_gt, cmp_eq, Int32.reduceAdd, Int32.reduceSub, Int32.reduceMul, Int32.reduceLT, Int32.reduceToNatClampNeg, eq_self, ne_eq, Int64.reduceAdd, Int64.reduceSub, Int64.reduceMul, Int64.reduceLT, k13, bI_t, n1_0, e294]
    refine nxT_E hS hR hK hi hE2.1 (fun J L' k1 k2 => ?_)
    have j := hE2.nx k2 k1 (Nat.le_succ i) hi
    simp only [E180_179, E180_182, E180_183, E180_184, pk54 hS, rfs, rfn, cs0, csi, csl, csr, csn, kti, ktl, ktr, ktn, ktv, ktf, true_and, and_true, and_self, ↓reduceIte, Nat.reduceAdd, Nat.reduceSub, Nat.reduceMul, Nat.reduceLT, Nat.reduceLeDiff, Nat.reduceEqDiff, true_or, or_true, false_or, or_false, not_true_eq_false, not_false_eq_true, reduceCtorEq, cmp_lt, cmp_gt, cmp_eq, Int32.reduceAdd, Int32.reduceSub, Int32.reduceMul, Int32.reduceLT, Int32.reduceToNatClampNeg, eq_self, ne_eq, Int64.reduceAdd, Int64.reduceSub, Int64.reduceMul, Int64.reduceLT]
    refine rexE (d := d) (a := 0) (tst := true) hS hR hK hT (hC.ad hT (by rw [q]; decide)) (Nat.succ_pos i) j (fun J2 L2 i' n' c' l w1 w2 w3 wc wp wv w4 w5 => ?_) (fun J2 L2 j' w1 w2 w3 w4 w5 w6 => ?_)
    · have w1' : Cst T P m (rs4 C) i' n' 0 c' := by rw [cr]; exact w1
      obtain ⟨jT, j13, j12, j14, ⟨nc2, j15, l1, l2⟩, jm, jn, jcd⟩ := id w4
      have enc2 := jcd.nc j15 (by omega)
      try simp only [E180_184, rfs, rfn, cs0, csi, csl, csr, csn, kti, ktl, ktr, ktn, ktv, ktf, true_and, and_true, and_self, ↓reduceIte, Nat.reduceAdd, Nat.reduceSub, Nat.reduceMul, Nat.reduceLT, Nat.reduceLeDiff, Nat.reduceEqDiff, true_or, or_true, false_or, or_false, not_true_eq_false, not_false_eq_true, reduceCtorEq, cmp_lt, cmp_gt, cmp_eq, Int32.reduceAdd, Int32.reduceSub, Int32.reduceMul, Int32.reduceLT, Int32.reduceToNatClampNeg, eq_self, ne_eq, Int64.reduceAdd, Int64.reduceSub, Int64.reduceMul, Int64.reduceLT]
      refine r4m (d := d) (nc := nc2) hS hR hs hk j15 (by rw [w5.2.1 22 (by decide), k2.2 22 (by decide)]; exact f22) (fun J3 z1 z2 z3 z4 z63 z60 z61 => ?_)
      refine hok J3 L2 i' n' c' l w1'.r5 (by omega) ⟨w4.cg z1 z60 z61 (fun k hk => z2 k (by omega)), z3⟩ (((F0.tr k2.m.y).tr w5.y).tr z4) wc ?_ (Or.inr ?_) ?_
      · rw [cr]
        exact (Kp.e ad15).tr wp (Nat.le_refl c)
      · rw [cr]
        obtain ⟨a1, a2, a3, f, a4, a5, a6⟩ := wv
        exact ⟨a1, a2, a3, f, a4, a5, fun _ => a6 rfl⟩
      · rw [z63, w5.1 63 (by decide) (by decide), k2.1 63 (by decide), f63, enc2]
    · obtain ⟨nc2, j15, _, _⟩ := w5
      try simp only [E180_184, rfs, rfn, cs0, csi, csl, csr, csn, kti, ktl, ktr, ktn, ktv, ktf, true_and, and_true, and_self, ↓reduceIte, Nat.reduceAdd, Nat.reduceSub, Nat.reduceMul, Nat.reduceLT, Nat.reduceLeDiff, Nat.reduceEqDiff, true_or, or_true, false_or, or_false, not_true_eq_false, not_false_eq_true, reduceCtorEq, cmp_lt, cmp_gt, cmp_eq, Int32.reduceAdd, Int32.reduceSub, Int32.reduceMul, Int32.reduceLT, Int32.reduceToNatClampNeg, eq_self, ne_eq, Int64.reduceAdd, Int64.reduceSub, Int64.reduceMul, Int64.reduceLT]
      refine r4m (d := d) (nc := nc2) hS hR hs hk j15 (by rw [w6.2.1 22 (by decide), k2.2 22 (by decide)]; exact f22) (fun J3 z1 z2 z3 z4 _ _ _ => ?_)
      refine hno J3 L2 j' w1 (Fl.r5 (x := P j') ?_) ((z2 13 (by decide)).trans w3) ((z2 12 (by decide)).trans w4) (((F0.tr k2.m.y).tr w6.y).tr z4)
      rw [cr]
      exact w2
  · rw [decide_eq_false q] at e294
    have cr : rs4 C = emiF C 1 := if_neg (hC.sn hT q)
    obtain ⟨y1, y2⟩ := hC.k15 (w := 1) hT
    simp only [E180_161, E180_162, E180_165, E180_168, E180_169, E180_172, E180_175, isw hS, pk54 hS, rfs, rfn, cs0, csi, csl, csr, csn, kti, ktl, ktr, ktn, ktv, ktf, true_and, and_true, and_self, ↓reduceIte, Nat.reduceAdd, Nat.reduceSub, Nat.reduceMul, Nat.reduceLT, Nat.reduceLeDiff, Nat.reduceEqDiff, true_or, or_true, false_or, or_false, not_true_eq_false, not_false_eq_true, reduceCtorEq, cmp_lt, cmp_gt, cmp_eq, Int32.reduceAdd, Int32.reduceSub, Int32.reduceMul, Int32.reduceLT, Int32.reduceToNatClampNeg, eq_self, ne_eq, Int64.reduceAdd, Int64.reduceSub, Int64.reduceMul, Int64.reduceLT, k13, bI_f, e294]
    refine r4m (d := d) (nc := nc) hS hR hs hk f15 f22 (fun J3 z1 z2 z3 z4 z63 z60 z61 => ?_)
    refine hok J3 L i nP (c + 1) [] (by rw [cr]; exact (hC.em hT hl).r5) (Nat.le_refl i) ⟨?_, z3⟩ (F0.tr z4) (Nat.le_succ c) (by rw [cr]; exact y1) (Or.inl ⟨rfl, by rw [cr]; exact y2, rfl⟩) ?_
    · rw [List.append_nil]
      exact hE2.cg z1 z60 z61 (fun k hk => z2 k (by omega))
    · rw [z63, f63, List.append_nil, enc]
theorem r2E (hS : Pm S) (hR : Pr R) (hK : Tks X Y T P n m p) (hT : TkO T P m) (hs : s < 16) (hk : k = 10 * s) (h0 : 0 < i) (hC : Cst T P m C i nP 0 c) (hl : c + 1 ≤ i) (h : SsS X Y T P n m p I L i nP s κ) (hok : ∀ J L' i' n' c' l2 l3, Cst T P m (rs5 (rs4 (rs3 C x)) s) i' n' 0 c' → i ≤ i' → SsS X Y T P n m p J L' i' n' (s + 1) (κ ++ l2 ++ l3) → Fy I J → Kp c C (rs4 (rs3 C x)) → c ≤ c' → (∃ n2 c2 ct, Sg (rs4 (rs3 C x)) c c' = c2 ++ ct ∧ TsR n2 n' l3 ct ∧ ((x = 1 ∧ Ve False nP n2 l2 c2) ∨ (¬ x = 1 ∧ l2 = [] ∧ c2 = [] ∧ n2 = nP))) → J 63 = va_up (va_up (va_up (I 63) (k + 2) (nI κ.length)) (k + 3) (nI (κ ++ l2).length)) (k + 4) (nI (κ ++ l2 ++ l3).length) → Q .null S J L' R) (hno : ∀ J L' j, j ≤ m → rs5 (rs4 (rs3 C x)) s 14 5 = P j → J 54 13 = 1 → J 54 12 = P j → Fy I J → Q .null S J L' R) : Ev (d + 8) 180 102 [.ref 54, .int x, .int (nI k)] [] S I L R Q := by
  obtain ⟨hE, e22⟩ := h
  obtain ⟨eT, e13, e12, e14, ⟨nc, e15, e1, e2⟩, em, en, hcd⟩ := id hE
  have m4 := hK.1
  have m5 := hK.2.1
  have enc := hcd.nc e15 (by omega)
  have p2 : nI k + 2 = nI (k + 2) := by rw [show (2 : Int32) = nI 2 from rfl, nI_add]
  have a2 : inb (nI (k + 2)) 160 = True := inb_nI (by omega) (by decide)
  have b2 : (nI (k + 2)).toNatClampNeg = k + 2 := nI_clamp (by omega)
  have F0 : Fy I (put I 63 (k + 2) (nI nc)) := Fy.t Fy.rf
  have hE2 : ExS X Y T P n m p 0 (put I 63 (k + 2) (nI nc)) L i nP κ := hE.cg (pt_n (by decide)) (pt_n (by decide)) (pt_n (by decide)) (fun k _ => pt_m (by decide))
  have f22 : put I 63 (k + 2) (nI nc) 54 22 = nI s := (pt_m (by decide)).trans e22
  have f15 : put I 63 (k + 2) (nI nc) 54 15 = nI nc := (pt_m (by decide)).trans e15
  have f63 : put I 63 (k + 2) (nI nc) 63 = va_up (I 63) (k + 2) (nI κ.length) := by rw [pt_c, enc]
  simp only [E180_102, E180_103, E180_106, E180_107, E180_108, E180_109, E180_110, E180_113, pk54 hS, pk63 hS, pl63 hS, pa63 hS, pi63 hS, pr54_21 hR, rfs, rfn, cs0, csi, csl, csr, csn, kti, ktl, ktr, ktn, ktv, ktf, true_and, and_true, and_self, ↓reduceIte, Nat.reduceAdd, Nat.reduceSub, Nat.reduceMul, Nat.reduceLT, Nat.reduceLeDiff, Nat.reduceEqDiff, true_or, or_true, false_or, or_false, not_true_eq_false, not_false_eq_true, reduceCtorEq, cmp_lt, cmp_gt, cmp_eq, Int32.reduceAdd, Int32.reduceSub, Int32.reduceMul, Int32.reduceLT, Int32.reduceToNatClampNeg, eq_self, ne_eq, Int64.reduceAdd, Int64.reduceSub, Int64.reduceMul, Int64.reduceLT, pt, pt_m, p2, a2, b2, e15]
  generalize put I 63 (k + 2) (nI nc) = K at F0 hE2 f22 f15 f63
  have k13 := hE2.2.1
  by_cases g0 : x = 1
  · subst g0
    have c3 : rs3 C 1 = sumF (partF 8) (takF C (-3)) := if_pos rfl
    have e655 := hE2.1.w0
    by_cases q : T i = -3
    · rw [decide_eq_true q] at e655
      have hi : i < m := hE2.lt hK (by rw [q]; decide)
      rw [hC.ty hT q] at c3
      simp only [E180_114, E180_115, E180_116, E180_119, E180_120, E180_123, E180_126, E180_127, E180_128, E180_131, E180_134, isw hS, pk54 hS, rfs, rfn, cs0, csi, csl, csr, csn, kti, ktl, ktr, ktn, ktv, ktf, true_and, and_true, and_self, ↓reduceIte, Nat.reduceAdd, Nat.reduceSub, Nat.reduceMul, Nat.reduceLT, Nat.reduceLeDiff, Nat.reduceEqDiff, true_or, or_true, false_or, or_false, not_true_eq_false, not_false_eq_true, reduceCtorEq, cmp_lt, cmp_gt, cmp_eq, Int32.reduceAdd, Int32.reduceSub, Int32.reduceMul, Int32.reduceLT, Int32.reduceToNatClampNeg, eq_self, ne_eq, Int64.reduceAdd, Int64.reduceSub, Int64.reduceMul, Int64.reduceLT, k13, e655, bI_t, n1_0]
      refine muE_y (d := d + 4) hS hR hK hi hE2.1 k13 (fun J L' k1 k2 k3 => ?_)
      have j := hE2.nx k2 k1 (Nat.le_succ i) hi
      simp only [E180_134, E180_137, E180_138, E180_141, E180_144, E180_145, E180_146, pk54 hS, rfs, rfn, cs0, csi, csl, csr, csn, kti, ktl, ktr, ktn, ktv, ktf, true_and, and_true, and_self, ↓reduceIte, Nat.reduceAdd, Nat.reduceSub, Nat.reduceMul, Nat.reduceLT, Nat.reduceLeDiff, Nat.reduceEqDiff, true_or, or_true, false_or, or_false, not_true_eq_false, not_false_eq_true, reduceCtorEq, cmp_lt, cmp_gt, cmp_eq, Int32.reduceAdd, Int32.reduceSub, Int32.reduceMul, Int32.reduceLT, Int32.reduceToNatClampNeg, eq_self, ne_eq, Int64.reduceAdd, Int64.reduceSub, Int64.reduceMul, Int64.reduceLT, k3]
      refine rexE (d := d) (a := 0) (tst := false) hS hR hK hT (hC.ad hT (by rw [q]; decide)) (Nat.succ_pos i) j (fun J2 L2 i' n' c' l w1 w2 w3 wc wp wv w4 w5 => ?_) (fun J2 L2 j' w1 w2 w3 w4 w5 w6 => ?_)
      · have w1' : Cst T P m (rs3 C 1) i' n' 0 c' := by rw [c3]; exact w1
        have kp3 : Kp c C (rs3 C 1) := by
          rw [c3]
          exact (Kp.e ad15).tr wp (Nat.le_refl c)
        have wv3 : Ve False nP n' l (Sg (rs3 C 1) c c') := by
          rw [c3]
          exact wv.f
        try simp only [E180_146, rfs, rfn, cs0, csi, csl, csr, csn, kti, ktl, ktr, ktn, ktv, ktf, true_and, and_true, and_self, ↓reduceIte, Nat.reduceAdd, Nat.reduceSub, Nat.reduceMul, Nat.reduceLT, Nat.reduceLeDiff, Nat.reduceEqDiff, true_or, or_true, false_or, or_false, not_true_eq_false, not_false_eq_true, reduceCtorEq, cmp_lt, cmp_gt, cmp_eq, Int32.reduceAdd, Int32.reduceSub, Int32.reduceMul, Int32.reduceLT, Int32.reduceToNatClampNeg, eq_self, ne_eq, Int64.reduceAdd, Int64.reduceSub, Int64.reduceMul, Int64.reduceLT]
        refine r3E (d := d) hS hR hK hT hs hk w1' (by omega) ⟨w4, by rw [w5.2.1 22 (by decide), k2.2 22 (by decide)]; exact f22⟩ (fun J3 L3 i3 n3 c4 l3 z1 z2 z3 z4 zc zp zt z63 => hok J3 L3 i3 n3 c4 l l3 z1 (by omega) z3 (((F0.tr k2.m.y).tr w5.y).tr z4) (kp3.tr zp wc) (by omega) ⟨n', _, _, Sg.cat wc zc zp, zt, Or.inl ⟨rfl, wv3⟩⟩ ?_) (fun J3 L3 j3 z1 z2 z3 z4 z5 => hno J3 L3 j3 z1 z2 z3 z4 (((F0.tr k2.m.y).tr w5.y).tr z5))
        rw [z63, w5.1 63 (by decide) (by decide), k2.1 63 (by decide), f63]
      · obtain ⟨nc2, j15, _, _⟩ := w5
        have fl : Fl (P j') (rs3 C 1) := by rw [c3]; exact w2
        try simp only [E180_146, rfs, rfn, cs0, csi, csl, csr, csn, kti, ktl, ktr, ktn, ktv, ktf, true_and, and_true, and_self, ↓reduceIte, Nat.reduceAdd, Nat.reduceSub, Nat.reduceMul, Nat.reduceLT, Nat.reduceLeDiff, Nat.reduceEqDiff, true_or, or_true, false_or, or_false, not_true_eq_false, not_false_eq_true, reduceCtorEq, cmp_lt, cmp_gt, cmp_eq, Int32.reduceAdd, Int32.reduceSub, Int32.reduceMul, Int32.reduceLT, Int32.reduceToNatClampNeg, eq_self, ne_eq, Int64.reduceAdd, Int64.reduceSub, Int64.reduceMul, Int64.reduceLT]
        refine r3n (d := d) (j := j') hS hR hs hk ⟨w3, w4, ⟨nc2, j15⟩, by rw [w6.2.1 22 (by decide), k2.2 22 (by decide)]; exact f22⟩ (fun J3 z1 z2 z3 => ?_)
        exact hno J3 L2 j' w1 (fl.r4 (hT.2.2.2 j' w1)).r5 z1 z2 (((F0.tr k2.m.y).tr w6.y).tr z3)
    · rw [decide_eq_false q] at e655
      have fl : Fl (P i) (rs3 C 1) := by
        rw [c3]
        have f := Fl.cl (x := P i) (hT.2.2.2 i em)
        exact f.sf (f.pf 8) _ (hC.tn hT q)
      simp only [E180_114, E180_115, E180_116, E180_119, E180_120, E180_123, E180_126, E180_127, E180_128, E180_131, E180_134, isw hS, pk54 hS, rfs, rfn, cs0, csi, csl, csr, csn, kti, ktl, ktr, ktn, ktv, ktf, true_and, and_true, and_self, ↓reduceIte, Nat.reduceAdd, Nat.reduceSub, Nat.reduceMul, Nat.reduceLT, Nat.reduceLeDiff, Nat.reduceEqDiff, true_or, or_true, false_or, or_false, not_true_eq_false, not_false_eq_true, reduceCtorEq, cmp_lt, cmp_gt, cmp_eq, Int32.reduceAdd, Int32.reduceSub, Int32.reduceMul, Int32.reduceLT, Int32.reduceToNatClampNeg, eq_self, ne_eq, Int64.reduceAdd, Int64.reduceSub, Int64.reduceMul, Int64.reduceLT, k13, e655, bI_f]
      refine muE_n (d := d + 4) hS hR k13 (fun J k1 k2 k3 k4 => ?_)
      simp only [E180_134, E180_137, E180_138, E180_141, pk54 hS, rfs, rfn, cs0, csi, csl, csr, csn, kti, ktl, ktr, ktn, ktv, ktf, true_and, and_true, and_self, ↓reduceIte, Nat.reduceAdd, Nat.reduceSub, Nat.reduceMul, Nat.reduceLT, Nat.reduceLeDiff, Nat.reduceEqDiff, true_or, or_true, false_or, or_false, not_true_eq_false, not_false_eq_true, reduceCtorEq, cmp_lt, cmp_gt, cmp_eq, Int32.reduceAdd, Int32.reduceSub, Int32.reduceMul, Int32.reduceLT, Int32.reduceToNatClampNeg, eq_self, ne_eq, Int64.reduceAdd, Int64.reduceSub, Int64.reduceMul, Int64.reduceLT, k2, n1_0]
      refine r3n (d := d) (j := i) hS hR hs hk ⟨k2, k3.trans hE2.1.2.2.1, ⟨nc, (k1.2 15 (by decide)).trans f15⟩, (k1.2 22 (by decide)).trans f22⟩ (fun J3 z1 z2 z3 => ?_)
      exact hno J3 L i em (fl.r4 (hT.2.2.2 i em)).r5 z1 z2 ((F0.tr k1.y).tr z3)
  · have c3 : rs3 C x = C := if_neg g0
    rw [c3] at hok hno
    simp only [E180_114, E180_115, E180_116, pk54 hS, rfs, rfn, cs0, csi, csl, csr, csn, kti, ktl, ktr, ktn, ktv, ktf, true_and, and_true, and_self, ↓reduceIte, Nat.reduceAdd, Nat.reduceSub, Nat.reduceMul, Nat.reduceLT, Nat.reduceLeDiff, Nat.reduceEqDiff, true_or, or_true, false_or, or_false, not_true_eq_false, not_false_eq_true, reduceCtorEq, cmp_lt, cmp_gt, cmp_eq, Int32.reduceAdd, Int32.reduceSub, Int32.reduceMul, Int32.reduceLT, Int32.reduceToNatClampNeg, eq_self, ne_eq, Int64.reduceAdd, Int64.reduceSub, Int64.reduceMul, Int64.reduceLT, g0]
    refine r3E (d := d) hS hR hK hT hs hk hC hl ⟨hE2, f22⟩ (fun J3 L3 i3 n3 c4 l3 z1 z2 z3 z4 zc zp zt z63 => hok J3 L3 i3 n3 c4 [] l3 z1 z2 (by rw [List.append_nil]; exact z3) (F0.tr z4) zp zc ⟨nP, [], _, (List.nil_append _).symm, zt, Or.inr ⟨g0, rfl, rfl, rfl⟩⟩ ?_) (fun J3 L3 j3 z1 z2 z3 z4 z5 => hno J3 L3 j3 z1 z2 z3 z4 (F0.tr z5))
    rw [z63, f63, List.append_nil]
/-- sortAt -/
theorem soE (hS : Pm S) (h : RTi X Y T P n m p I L i) : EvM (d + 2) 179 [.ref 54] S I L R Q = Q (.int (stw (T i))) S I L R := by
  have e0 := h.w11
  have e1 := h.w12
  have e2 := h.w13
  have e3 := h.w14
  have e4 := h.w15
  have e5 := h.w16
  unfold stw
  by_cases g0 : T i = -20
  · rw [decide_eq_true g0] at e0
    simp only [M179, E179_0, E179_1, E179_4, E179_7, E179_10, E179_11, E179_14, E179_17, E179_20, E179_21, E179_24, E179_27, E179_30, E179_31, E179_34, E179_35, E179_36, E179_37, E179_40, E179_43, E179_46, E179_47, E179_50, E179_51, E179_54, E179_57, E179_60, E179_61, E179_64, E179_65, E179_68, E179_71, E179_74, E179_75, E179_78, E179_79, E179_82, E179_85, E179_88, E179_89, E179_92, E179_93, isw hS, pk54 hS, rfs, rfn, cs0, csi, csl, csr, csn, kti, ktl, ktr, ktn, ktv, ktf, true_and, and_true, and_self, ↓reduceIte, Nat.reduceAdd, Nat.reduceSub, Nat.reduceMul, Nat.reduceLT, Nat.reduceLeDiff, Nat.reduceEqDiff, true_or, or_true, false_or, or_false, not_true_eq_false, not_false_eq_true, reduceCtorEq, cmp_lt, cmp_gt, cmp_eq, Int32.reduceAdd, Int32.reduceSub, Int32.reduceMul, Int32.reduceLT, Int32.reduceToNatClampNeg, eq_self, ne_eq, Int64.reduceAdd, Int64.reduceSub, Int64.reduceMul, Int64.reduceLT, e0, bI_t, n1_0, g0]
    try rfl
  rw [decide_eq_false g0] at e0
  by_cases g1 : T i = -21
  · rw [decide_eq_true g1] at e1
    simp only [M179, E179_0, E179_1, E179_4, E179_7, E179_10, E179_11, E179_14, E179_17, E179_20, E179_21, E179_24, E179_27, E179_30, E179_31, E179_34, E179_35, E179_36, E179_37, E179_40, E179_43, E179_46, E179_47, E179_50, E179_51, E179_54, E179_57, E179_60, E179_61, E179_64, E179_65, E179_68, E179_71, E179_74, E179_75, E179_78, E179_79, E179_82, E179_85, E179_88, E179_89, E179_92, E179_93, isw hS, pk54 hS, rfs, rfn, cs0, csi, csl, csr, csn, kti, ktl, ktr, ktn, ktv, ktf, true_and, and_true, and_self, ↓reduceIte, Nat.reduceAdd, Nat.reduceSub, Nat.reduceMul, Nat.reduceLT, Nat.reduceLeDiff, Nat.reduceEqDiff, true_or, or_true, false_or, or_false, not_true_eq_false, not_false_eq_true, reduceCtorEq, cmp_lt, cmp_gt, cmp_eq, Int32.reduceAdd, Int32.reduceSub, Int32.reduceMul, Int32.reduceLT, Int32.reduceToNatClampNeg, eq_self, ne_eq, Int64.reduceAdd, Int64.reduceSub, Int64.reduceMul, Int64.reduceLT, e0, e1, bI_f, bI_t, n1_0, g0, g1]
    try rfl
  rw [decide_eq_false g1] at e1
  by_cases g2 : T i = -22
  · rw [decide_eq_true g2] at e2
    simp only [M179, E179_0, E179_1, E179_4, E179_7, E179_10, E179_11, E179_14, E179_17, E179_20, E179_21, E179_24, E179_27, E179_30, E179_31, E179_34, E179_35, E179_36, E179_37, E179_40, E179_43, E179_46, E179_47, E179_50, E179_51, E179_54, E179_57, E179_60, E179_61, E179_64, E179_65, E179_68, E179_71, E179_74, E179_75, E179_78, E179_79, E179_82, E179_85, E179_88, E179_89, E179_92, E179_93, isw hS, pk54 hS, rfs, rfn, cs0, csi, csl, csr, csn, kti, ktl, ktr, ktn, ktv, ktf, true_and, and_true, and_self, ↓reduceIte, Nat.reduceAdd, Nat.reduceSub, Nat.reduceMul, Nat.reduceLT, Nat.reduceLeDiff, Nat.reduceEqDiff, true_or, or_true, false_or, or_false, not_true_eq_false, not_false_eq_true, reduceCtorEq, cmp_lt, cmp_gt, cmp_eq, Int32.reduceAdd, Int32.reduceSub, Int32.reduceMul, Int32.reduceLT, Int32.reduceToNatClampNeg, eq_self, ne_eq, Int64.reduceAdd, Int64.reduceSub, Int64.reduceMul, Int64.reduceLT, e0, e1, e2, bI_f, bI_t, n1_0, g0, g1, g2]
    try rfl
  rw [decide_eq_false g2] at e2
  by_cases g3 : T i = -23
  · rw [decide_eq_true g3] at e3
    simp only [M179, E179_0, E179_1, E179_4, E179_7, E179_10, E179_11, E179_14, E179_17, E179_20, E179_21, E179_24, E179_27, E179_30, E179_31, E179_34, E179_35, E179_36, E179_37, E179_40, E179_43, E179_46, E179_47, E179_50, E179_51, E179_54, E179_57, E179_60, E179_61, E179_64, E179_65, E179_68, E179_71, E179_74, E179_75, E179_78, E179_79, E179_82, E179_85, E179_88, E179_89, E179_92, E179_93, isw hS, pk54 hS, rfs, rfn, cs0, csi, csl, csr, csn, kti, ktl, ktr, ktn, ktv, ktf, true_and, and_true, and_self, ↓reduceIte, Nat.reduceAdd, Nat.reduceSub, Nat.reduceMul, Nat.reduceLT, Nat.reduceLeDiff, Nat.reduceEqDiff, true_or, or_true, false_or, or_false, not_true_eq_false, not_false_eq_true, reduceCtorEq, cmp_lt, cmp_gt, cmp_eq, Int32.reduceAdd, Int32.reduceSub, Int32.reduceMul, Int32.reduceLT, Int32.reduceToNatClampNeg, eq_self, ne_eq, Int64.reduceAdd, Int64.reduceSub, Int64.reduceMul, Int64.reduceLT, e0, e1, e2, e3, bI_f, bI_t, n1_0, g0, g1, g2, g3]
    try rfl
  rw [decide_eq_false g3] at e3
  by_cases g4 : T i = -24
  · rw [decide_eq_true g4] at e4
    simp only [M179, E179_0, E179_1, E179_4, E179_7, E179_10, E179_11, E179_14, E179_17, E179_20, E179_21, E179_24, E179_27, E179_30, E179_31, E179_34, E179_35, E179_36, E179_37, E179_40, E179_43, E179_46, E179_47, E179_50, E179_51, E179_54, E179_57, E179_60, E179_61, E179_64, E179_65, E179_68, E179_71, E179_74, E179_75, E179_78, E179_79, E179_82, E179_85, E179_88, E179_89, E179_92, E179_93, isw hS, pk54 hS, rfs, rfn, cs0, csi, csl, csr, csn, kti, ktl, ktr, ktn, ktv, ktf, true_and, and_true, and_self, ↓reduceIte, Nat.reduceAdd, Nat.reduceSub, Nat.reduceMul, Nat.reduceLT, Nat.reduceLeDiff, Nat.reduceEqDiff, true_or, or_true, false_or, or_false, not_true_eq_false, not_false_eq_true, reduceCtorEq, cmp_lt, cmp_gt, cmp_eq, Int32.reduceAdd, Int32.reduceSub, Int32.reduceMul, Int32.reduceLT, Int32.reduceToNatClampNeg, eq_self, ne_eq, Int64.reduceAdd, Int64.reduceSub, Int64.reduceMul, Int64.reduceLT, e0, e1, e2, e3, e4, bI_f, bI_t, n1_0, g0, g1, g2, g3, g4]
    try rfl
  rw [decide_eq_false g4] at e4
  by_cases g5 : T i = -25
  · rw [decide_eq_true g5] at e5
    simp only [M179, E179_0, E179_1, E179_4, E179_7, E179_10, E179_11, E179_14, E179_17, E179_20, E179_21, E179_24, E179_27, E179_30, E179_31, E179_34, E179_35, E179_36, E179_37, E179_40, E179_43, E179_46, E179_47, E179_50, E179_51, E179_54, E179_57, E179_60, E179_61, E179_64, E179_65, E179_68, E179_71, E179_74, E179_75, E179_78, E179_79, E179_82, E179_85, E179_88, E179_89, E179_92, E179_93, isw hS, pk54 hS, rfs, rfn, cs0, csi, csl, csr, csn, kti, ktl, ktr, ktn, ktv, ktf, true_and, and_true, and_self, ↓reduceIte, Nat.reduceAdd, Nat.reduceSub, Nat.reduceMul, Nat.reduceLT, Nat.reduceLeDiff, Nat.reduceEqDiff, true_or, or_true, false_or, or_false, not_true_eq_false, not_false_eq_true, reduceCtorEq, cmp_lt, cmp_gt, cmp_eq, Int32.reduceAdd, Int32.reduceSub, Int32.reduceMul, Int32.reduceLT, Int32.reduceToNatClampNeg, eq_self, ne_eq, Int64.reduceAdd, Int64.reduceSub, Int64.reduceMul, Int64.reduceLT, e0, e1, e2, e3, e4, e5, bI_f, bI_t, n1_0, g0, g1, g2, g3, g4, g5]
    try rfl
  rw [decide_eq_false g5] at e5
  simp only [M179, E179_0, E179_1, E179_4, E179_7, E179_10, E179_11, E179_14, E179_17, E179_20, E179_21, E179_24, E179_27, E179_30, E179_31, E179_34, E179_35, E179_36, E179_37, E179_40, E179_43, E179_46, E179_47, E179_50, E179_51, E179_54, E179_57, E179_60, E179_61, E179_64, E179_65, E179_68, E179_71, E179_74, E179_75, E179_78, E179_79, E179_82, E179_85, E179_88, E179_89, E179_92, E179_93, isw hS, pk54 hS, rfs, rfn, cs0, csi, csl, csr, csn, kti, ktl, ktr, ktn, ktv, ktf, true_and, and_true, and_self, ↓reduceIte, Nat.reduceAdd, Nat.reduceSub, Nat.reduceMul, Nat.reduceLT, Nat.reduceLeDiff, Nat.reduceEqDiff, true_or, or_true, false_or, or_false, not_true_eq_false, not_false_eq_true, reduceCtorEq, cmp_lt, cmp_gt, cmp_eq, Int32.reduceAdd, Int32.reduceSub, Int32.reduceMul, Int32.reduceLT, Int32.reduceToNatClampNeg, eq_self, ne_eq, Int64.reduceAdd, Int64.reduceSub, Int64.reduceMul, Int64.reduceLT, e0, e1, e2, e3, e4, e5, bI_f, g0, g1, g2, g3, g4, g5]
theorem rsF_n {C : mI} (hC : Cst T P m C i nP 0 c) (hT : TkO T P m) (q : stw (T i) = -1) : rsF C s 14 5 = P i := by
  have e : rsW C = -20 - T i := by
    unfold rsW
    rw [hC.now hT]
  unfold rsF
  rw [e, if_pos (stw_n q)]
  exact hC.fa hT
theorem rsF_y {C : mI} (hC : Cst T P m C i nP 0 c) (hT : TkO T P m) (q : ¬ stw (T i) = -1) : rsF C s = rs5 (rs4 (rs3 (rs2 (rs1 C s (stw (T i))) (stw (T i))) (stw (T i)))) s := by
  obtain ⟨a1, a2, a3, a4⟩ := stw_y q
  have e : rsW C = stw (T i) := by
    unfold rsW
    rw [hC.now hT, a1]
  unfold rsF
  rw [e, if_neg (fun z => Or.elim z a2 a3)]
/-- readStep where a STEP may stand no more -/
theorem stE16 (hS : Pm S) (hR : Pr R) (h : SsS X Y T P n m p I L i nP 16 κ) (hq : ∀ J, J 54 13 = 1 → J 54 12 = P i → Fy I J → Q .null S J L R) : EvM (d + 8) 180 [.ref 54] S I L R Q := by
  obtain ⟨hE, e22⟩ := h
  have e13 := hE.2.1
  have key : Ev (d + 8) 180 25 [.ref 54, .int (stw (T i)), nv] [.int 0, .ref 54] S I L R Q := by
    simp only [E180_25, pk54 hS, rfs, rfn, cs0, csi, csl, csr, csn, kti, ktl, ktr, ktn, ktv, ktf, true_and, and_true, and_self, ↓reduceIte, Nat.reduceAdd, Nat.reduceSub, Nat.reduceMul, Nat.reduceLT, Nat.reduceLeDiff, Nat.reduceEqDiff, true_or, or_true, false_or, or_false, not_true_eq_false, not_false_eq_true, reduceCtorEq, cmp_lt, cmp_gt, cmp_eq, Int32.reduceAdd, Int32.reduceSub, Int32.reduceMul, Int32.reduceLT, Int32.reduceToNatClampNeg, eq_self, ne_eq, Int64.reduceAdd, Int64.reduceSub, Int64.reduceMul, Int64.reduceLT]
    refine muE_n (d := d + 4) hS hR e13 (fun J k1 k2 k3 k4 => ?_)
    simp only [E180_25, E180_28, E180_29, E180_32, E180_35, pk54 hS, rfs, rfn, cs0, csi, csl, csr, csn, kti, ktl, ktr, ktn, ktv, ktf, true_and, and_true, and_self, ↓reduceIte, Nat.reduceAdd, Nat.reduceSub, Nat.reduceMul, Nat.reduceLT, Nat.reduceLeDiff, Nat.reduceEqDiff, true_or, or_true, false_or, or_false, not_true_eq_false, not_false_eq_true, reduceCtorEq, cmp_lt, cmp_gt, cmp_eq, Int32.reduceAdd, Int32.reduceSub, Int32.reduceMul, Int32.reduceLT, Int32.reduceToNatClampNeg, eq_self, ne_eq, Int64.reduceAdd, Int64.reduceSub, Int64.reduceMul, Int64.reduceLT, k2, n1_0]
    exact hq J k2 (k3.trans hE.1.2.2.1) k1.y
  simp only [M180, E180_0, E180_1, pk54 hS, rfs, rfn, cs0, csi, csl, csr, csn, kti, ktl, ktr, ktn, ktv, ktf, true_and, and_true, and_self, ↓reduceIte, Nat.reduceAdd, Nat.reduceSub, Nat.reduceMul, Nat.reduceLT, Nat.reduceLeDiff, Nat.reduceEqDiff, true_or, or_true, false_or, or_false, not_true_eq_false, not_false_eq_true, reduceCtorEq, cmp_lt, cmp_gt, cmp_eq, Int32.reduceAdd, Int32.reduceSub, Int32.reduceMul, Int32.reduceLT, Int32.reduceToNatClampNeg, eq_self, ne_eq, Int64.reduceAdd, Int64.reduceSub, Int64.reduceMul, Int64.reduceLT]
  rw [soE hS hE.1]
  by_cases q : stw (T i) = -1
  · rw [q] at key ⊢
    simp only [E180_1, E180_4, E180_5, E180_6, E180_7, E180_8, E180_24, pk54 hS, rfs, rfn, cs0, csi, csl, csr, csn, kti, ktl, ktr, ktn, ktv, ktf, true_and, and_true, and_self, ↓reduceIte, Nat.reduceAdd, Nat.reduceSub, Nat.reduceMul, Nat.reduceLT, Nat.reduceLeDiff, Nat.reduceEqDiff, true_or, or_true, false_or, or_false, not_true_eq_false, not_false_eq_true, reduceCtorEq, cmp_lt, cmp_gt, cmp_eq, Int32.reduceAdd, Int32.reduceSub, Int32.reduceMul, Int32.reduceLT, Int32.reduceToNatClampNeg, eq_self, ne_eq, Int64.reduceAdd, Int64.reduceSub, Int64.reduceMul, Int64.reduceLT]
    exact key
  · have g : (nI 16 < (16 : Int32)) = False := eq_false (by decide)
    simp only [E180_1, E180_4, E180_5, E180_6, E180_7, E180_8, E180_11, E180_12, E180_15, E180_17, E180_24, pk54 hS, rfs, rfn, cs0, csi, csl, csr, csn, kti, ktl, ktr, ktn, ktv, ktf, true_and, and_true, and_self, ↓reduceIte, Nat.reduceAdd, Nat.reduceSub, Nat.reduceMul, Nat.reduceLT, Nat.reduceLeDiff, Nat.reduceEqDiff, true_or, or_true, false_or, or_false, not_true_eq_false, not_false_eq_true, reduceCtorEq, cmp_lt, cmp_gt, cmp_eq, Int32.reduceAdd, Int32.reduceSub, Int32.reduceMul, Int32.reduceLT, Int32.reduceToNatClampNeg, eq_self, ne_eq, Int64.reduceAdd, Int64.reduceSub, Int64.reduceMul, Int64.reduceLT, q, e22, g]
    exact key
/-- what a STEP leaves of the class's rows -/
theorem rsF_kd {v : Int32} {D : mI} (e : D = rs5 (rs4 (rs3 (rs2 (rs1 C s v) v) v)) s) (h1 : C 14 1 = nI c) : (∀ k, ¬ k = s → ¬ k = s + 1 → D 16 k = C 16 k) ∧ D 16 s = nI c ∧ (∀ k, ¬ k = s → D 17 k = C 17 k) ∧ D 17 s = v ∧ D 15 = rs4 (rs3 (rs2 (rs1 C s v) v) v) 15 ∧ D 16 (s + 1) = rs4 (rs3 (rs2 (rs1 C s v) v) v) 14 1 := by
  have k4 := Ks.r4 (C := rs3 (rs2 (rs1 C s v) v) v)
  have k3 := Ks.r3 (C := rs2 (rs1 C s v) v) (w := v)
  have k2 := Ks.r2 (C := rs1 C s v) (w := v)
  have e16 : rs4 (rs3 (rs2 (rs1 C s v) v) v) 16 = rs1 C s v 16 := k4.1.trans (k3.1.trans k2.1)
  have e17 : rs4 (rs3 (rs2 (rs1 C s v) v) v) 17 = rs1 C s v 17 := k4.2.trans (k3.2.trans k2.2)
  have d16 : ∀ k, D 16 k = if k = s + 1 then rs4 (rs3 (rs2 (rs1 C s v) v) v) 14 1 else rs1 C s v 16 k := fun k => by
    rw [e]
    unfold rs5
    rw [pt_m (by decide)]
    by_cases z : k = s + 1
    · rw [if_pos z, z, pt_s]
    · rw [if_neg z, pt_f z, e16]
  have d17 : D 17 = rs1 C s v 17 := by
    rw [e]
    unfold rs5
    rw [pt_n (by decide), pt_n (by decide), e17]
  have r16 : ∀ k, rs1 C s v 16 k = if k = s then nI c else C 16 k := fun k => by
    unfold rs1 advF
    by_cases z : k = s
    · rw [if_pos z, z, pt_s, pt_m (by decide), pt_f (by decide), h1]
    · rw [if_neg z, pt_f z, pt_m (by decide), pt_m (by decide)]
  have r17 : ∀ k, rs1 C s v 17 k = if k = s then v else C 17 k := fun k => by
    unfold rs1 advF
    rw [pt_m (by decide)]
    by_cases z : k = s
    · rw [if_pos z, z, pt_s]
    · rw [if_neg z, pt_f z, pt_m (by decide)]
  refine ⟨fun k z1 z2 => ?_, ?_, fun k z => ?_, ?_, ?_, ?_⟩
  · rw [d16, if_neg z2, r16, if_neg z1]
  · rw [d16, if_neg (by omega), r16, if_pos rfl]
  · rw [d17, r17, if_neg z]
  · rw [d17, r17, if_pos rfl]
  · rw [e]; exact r515
  · rw [d16, if_pos rfl]
theorem rs115 {v : Int32} : rs1 C s v 15 = C 15 := by
  unfold rs1
  rw [pt_n (by decide), pt_n (by decide)]
  exact ad15
/-- readStep -/
theorem stpE (hS : Pm S) (hR : Pr R) (hK : Tks X Y T P n m p) (hT : TkO T P m) (hs : s < 16) (hC : Cst T P m C i nP 0 c) (h : SsS X Y T P n m p I L i nP s κ) (hok : ∀ J L' i' n' c' l, Cst T P m (rsF C s) i' n' 0 c' → i < i' → SsS X Y T P n m p J L' i' n' (s + 1) (κ ++ l) → Fy I J → c ≤ c' → Kp c C (rsF C s) → (∀ k, ¬ k = s → ¬ k = s + 1 → rsF C s 16 k = C 16 k) → rsF C s 16 s = nI c → (∀ k, ¬ k = s → rsF C s 17 k = C 17 k) → rsF C s 16 (s + 1) = nI c' → (∀ j, j < 10 * s → J 63 j = I 63 j) → StM (rsF C s) J c' (κ ++ l).length s → Q .null S J L' R) (hno : ∀ J L' j, j ≤ m → rsF C s 14 5 = P j → J 54 13 = 1 → J 54 12 = P j → Fy I J → Q .null S J L' R) : EvM (d + 8) 180 [.ref 54] S I L R Q := by
  obtain ⟨hE, e22⟩ := h
  obtain ⟨eT, e13, e12, e14, ⟨nc, e15, e1, e2⟩, em, en, hcd⟩ := id hE
  have m4 := hK.1
  have m5 := hK.2.1
  have enc := hcd.nc e15 (by omega)
  simp only [M180, E180_0, E180_1, pk54 hS, rfs, rfn, cs0, csi, csl, csr, csn, kti, ktl, ktr, ktn, ktv, ktf, true_and, and_true, and_self, ↓reduceIte, Nat.reduceAdd, Nat.reduceSub, Nat.reduceMul, Nat.reduceLT, Nat.reduceLeDiff, Nat.reduceEqDiff, true_or, or_true, false_or, or_false, not_true_eq_false, not_false_eq_true, reduceCtorEq, cmp_lt, cmp_gt, cmp_eq, Int32.reduceAdd, Int32.reduceSub, Int32.reduceMul, Int32.reduceLT, Int32.reduceToNatClampNeg, eq_self, ne_eq, Int64.reduceAdd, Int64.reduceSub, Int64.reduceMul, Int64.reduceLT]
  rw [soE hS eT]
  by_cases q : stw (T i) = -1
  · have key : Ev (d + 8) 180 25 [.ref 54, .int (-1), nv] [.int 0, .ref 54] S I L R Q := by
      simp only [E180_25, pk54 hS, rfs, rfn, cs0, csi, csl, csr, csn, kti, ktl, ktr, ktn, ktv, ktf, true_and, and_true, and_self, ↓reduceIte, Nat.reduceAdd, Nat.reduceSub, Nat.reduceMul, Nat.reduceLT, Nat.reduceLeDiff, Nat.reduceEqDiff, true_or, or_true, false_or, or_false, not_true_eq_false, not_false_eq_true, reduceCtorEq, cmp_lt, cmp_gt, cmp_eq, Int32.reduceAdd, Int32.reduceSub, Int32.reduceMul, Int32.reduceLT, Int32.reduceToNatClampNeg, eq_self, ne_eq, Int64.reduceAdd, Int64.reduceSub, Int64.reduceMul, Int64.reduceLT]
      refine muE_n (d := d + 4) hS hR e13 (fun J k1 k2 k3 k4 => ?_)
      simp only [E180_25, E180_28, E180_29, E180_32, E180_35, pk54 hS, rfs, rfn, cs0, csi, csl, csr, csn, kti, ktl, ktr, ktn, ktv, ktf, true_and, and_true, and_self, ↓reduceIte, Nat.reduceAdd, Nat.reduceSub, Nat.reduceMul, Nat.reduceLT, Nat.reduceLeDiff, Nat.reduceEqDiff, true_or, or_true, false_or, or_false, not_true_eq_false, not_false_eq_true, reduceCtorEq, cmp_lt, cmp_gt, cmp_eq, Int32.reduceAdd, Int32.reduceSub, Int32.reduceMul, Int32.reduceLT, Int32.reduceToNatClampNeg, eq_self, ne_eq, Int64.reduceAdd, Int64.reduceSub, Int64.reduceMul, Int64.reduceLT, k2, n1_0]
      exact hno J L i em (rsF_n hC hT q) k2 (k3.trans eT.2.2.1) k1.y
    rw [q]
    simp only [E180_1, E180_4, E180_5, E180_6, E180_7, E180_8, E180_24, pk54 hS, rfs, rfn, cs0, csi, csl, csr, csn, kti, ktl, ktr, ktn, ktv, ktf, true_and, and_true, and_self, ↓reduceIte, Nat.reduceAdd, Nat.reduceSub, Nat.reduceMul, Nat.reduceLT, Nat.reduceLeDiff, Nat.reduceEqDiff, true_or, or_true, false_or, or_false, not_true_eq_false, not_false_eq_true, reduceCtorEq, cmp_lt, cmp_gt, cmp_eq, Int32.reduceAdd, Int32.reduceSub, Int32.reduceMul, Int32.reduceLT, Int32.reduceToNatClampNeg, eq_self, ne_eq, Int64.reduceAdd, Int64.reduceSub, Int64.reduceMul, Int64.reduceLT]
    exact key
  · obtain ⟨y1, y2, y3, y4⟩ := stw_y q
    have g : (nI s < (16 : Int32)) = True := eq_true (nI_lt (a := s) (b := 16) hs (by decide))
    have hi : i < m := hE.lt hK y4
    have eD := rsF_y (s := s) hC hT q
    have hCi := hC.2.2.2.2.2.2.1
    obtain ⟨d1, d2, d3, d4, d5, d6⟩ := rsF_kd eD hCi
    generalize rsF C s = D at eD d1 d2 d3 d4 d5 d6 hok hno
    generalize stw (T i) = v at q y2 y3 eD d4 d5 d6
    have c1 : Cst T P m (rs1 C s v) (i + 1) nP 0 c := ((hC.ad hT y4).pq (Or.inr rfl)).pq (Or.inl rfl)
    have hci := hC.le.1
    /- all that a STEP leaves, once its first SUM or number is read -/
    have fin : ∀ (J3 : mI) (L3 : mL) (i3 n3 c4 n1 c1' f1 : Nat) (l1 l2 l3 : List (Int32 × Int32)) (ca : List Int32) (f7 : Int32), Cst T P m (rs5 (rs4 (rs3 (rs2 (rs1 C s v) v) v)) s) i3 n3 0 c4 → i < i3 → SsS X Y T P n m p J3 L3 i3 n3 (s + 1) (κ ++ l1 ++ l2 ++ l3) → Fy I J3 → Kp c1' (rs2 (rs1 C s v) v) (rs4 (rs3 (rs2 (rs1 C s v) v) v)) → Kp c C (rs2 (rs1 C s v) v) → c ≤ c1' → c1' ≤ c4 → Sg (rs2 (rs1 C s v) v) c c1' = ca → ((v = 5 ∧ l1 = [] ∧ ca = [f7] ∧ ¬ f7 < 0 ∧ ¬ 15 < f7 ∧ n1 = nP) ∨ (¬ v = 5 ∧ Ve False nP n1 l1 ca)) → (∃ n2 c2 ct, Sg (rs4 (rs3 (rs2 (rs1 C s v) v) v)) c1' c4 = c2 ++ ct ∧ TsR n2 n3 l3 ct ∧ ((v = 1 ∧ Ve False n1 n2 l2 c2) ∨ (¬ v = 1 ∧ l2 = [] ∧ c2 = [] ∧ n2 = n1))) → (∀ j, j < 10 * s → J3 63 j = I 63 j) → J3 63 (10 * s) = v → J3 63 (10 * s + 1) = nI κ.length → J3 63 (10 * s + 2) = nI (κ ++ l1).length → J3 63 (10 * s + 3) = nI (κ ++ l1 ++ l2).length → J3 63 (10 * s + 4) = nI (κ ++ l1 ++ l2 ++ l3).length → J3 63 (10 * s + 7) = f7 → Q .null S J3 L3 R := by
      intro J3 L3 i3 n3 c4 n1 c1' f1 l1 l2 l3 ca f7 z1 z2 z3 z4 zp zq zc zc2 zs za zb w0 w1 w2 w3 w4 w5 w7
      have eκ : κ ++ l1 ++ l2 ++ l3 = κ ++ (l1 ++ l2 ++ l3) := by rw [List.append_assoc, List.append_assoc, List.append_assoc]
      have z3' := z3
      rw [eκ] at z3'
      have z1' := z1
      rw [← eD] at z1'
      have kD : Kp c C D := fun k hk => by
        rw [d5]
        exact (zp k (by omega)).trans (zq k hk)
      have e16 : D 16 (s + 1) = nI c4 := by
        rw [d6]
        have e : rs5 (rs4 (rs3 (rs2 (rs1 C s v) v) v)) s 14 1 = nI c4 := z1.2.2.2.2.2.2.1
        unfold rs5 at e
        rw [pt_f (by decide), pt_m (by decide)] at e
        exact e
      have eSg : Sg D c c4 = Sg (rs4 (rs3 (rs2 (rs1 C s v) v) v)) c c4 := Sg.e15 d5
      have cd3 := z3.1.2.2.2.2.2.2.2
      have cd2 : RdJ J3 (κ ++ l1 ++ l2).length (κ ++ l1 ++ l2 ++ l3).length l3 := cd3.rd
      have eκ2 : κ ++ l1 ++ l2 ++ l3 = κ ++ l1 ++ (l2 ++ l3) := by rw [List.append_assoc (κ ++ l1)]
      have pre : ∀ (a b e : List (Int32 × Int32)), Cde J3 (a ++ b ++ e) → RdJ J3 a.length (a ++ b).length b := fun a b e hcde => by
        refine ⟨List.length_append, fun k x hx => hcde.2.2 (a.length + k) x ?_⟩
        have hk : k < b.length := by
          refine Classical.byContradiction (fun z => ?_)
          rw [List.getElem?_eq_none (by omega)] at hx
          cases hx
        rw [List.getElem?_append_left (by rw [List.length_append]; omega), List.getElem?_append_right (by omega), show a.length + k - a.length = k by omega]
        exact hx
      have cd1 : RdJ J3 (κ ++ l1).length (κ ++ l1 ++ l2).length l2 := pre _ _ _ cd3
      have cd0 : RdJ J3 κ.length (κ ++ l1).length l1 := pre κ l1 (l2 ++ l3) (by rw [eκ2] at cd3; exact cd3)
      obtain ⟨n2, c2, ct, b1, b2, b3⟩ := zb
      refine hok J3 L3 i3 n3 c4 (l1 ++ l2 ++ l3) z1' z2 z3' z4 (by omega) kD d1 d2 d3 e16 w0 ⟨c, c4, κ.length, (κ ++ l1).length, (κ ++ l1 ++ l2).length, (κ ++ l1 ++ l2 ++ l3).length, l1, l2, l3, d2, e16, by omega, Nat.le_refl c4, by rw [w1, d4], w2, w3, w4, w5, by rw [eκ]; exact Nat.le_refl _, cd0, cd1, cd2, by rw [d4]; exact y2, by rw [d4]; exact y3, ?_⟩
      rw [d4, w7]
      refine ⟨nP, n1, n2, n3, ca, c2, ct, by have := z1.le; omega, ?_, b2, ?_⟩
      · rw [eSg, Sg.cat zc zc2 zp, zs, b1, List.append_assoc]
      · rcases za with ⟨v5, a1, a2, a3, a4, a5⟩ | ⟨v5, a1⟩
        · rcases b3 with ⟨v1, _⟩ | ⟨_, b4, b5, b6⟩
          · rw [v5] at v1; exact absurd v1 (by decide)
          · exact Or.inl ⟨v5, a1, b4, a2, b5, a3, a4, a5, b6⟩
        · exact Or.inr ⟨v5, a1, b3⟩
    rw [eD] at hno
    have key : Ev (d + 8) 180 25 [.ref 54, .int v, nv] [.int 1, .ref 54] S I L R Q := by
      simp only [E180_25, pk54 hS, rfs, rfn, cs0, csi, csl, csr, csn, kti, ktl, ktr, ktn, ktv, ktf, true_and, and_true, and_self, ↓reduceIte, Nat.reduceAdd, Nat.reduceSub, Nat.reduceMul, Nat.reduceLT, Nat.reduceLeDiff, Nat.reduceEqDiff, true_or, or_true, false_or, or_false, not_true_eq_false, not_false_eq_true, reduceCtorEq, cmp_lt, cmp_gt, cmp_eq, Int32.reduceAdd, Int32.reduceSub, Int32.reduceMul, Int32.reduceLT, Int32.reduceToNatClampNeg, eq_self, ne_eq, Int64.reduceAdd, Int64.reduceSub, Int64.reduceMul, Int64.reduceLT]
      refine muE_y (d := d + 4) hS hR hK hi eT e13 (fun J L' k1 k2 k3 => ?_)
      have j := hE.nx k2 k1 (Nat.le_succ i) hi
      have j15 : J 54 15 = nI nc := (k2.2 15 (by decide)).trans e15
      have j22 : J 54 22 = nI s := (k2.2 22 (by decide)).trans e22
      have m0 : (10 : Int32) * nI s = nI (10 * s) := by rw [show (10 : Int32) = nI 10 from rfl, pk_mul]
      have p7 : nI (10 * s) + 7 = nI (10 * s + 7) := by rw [show (7 : Int32) = nI 7 from rfl, nI_add]
      have a0 : inb (nI (10 * s)) 160 = True := inb_nI (by omega) (by decide)
      have b0 : (nI (10 * s)).toNatClampNeg = 10 * s := nI_clamp (by omega)
      have a1 : inb (nI (10 * s + 1)) 160 = True := inb_nI (by omega) (by decide)
      have b1 : (nI (10 * s + 1)).toNatClampNeg = 10 * s + 1 := nI_clamp (by omega)
      have a7 : inb (nI (10 * s + 7)) 160 = True := inb_nI (by omega) (by decide)
      have b7 : (nI (10 * s + 7)).toNatClampNeg = 10 * s + 7 := nI_clamp (by omega)
      have F0 : Fy I (put (put (put J 63 (10 * s) v) 63 (10 * s + 1) (nI nc)) 63 (10 * s + 7) 0) := Fy.t (Fy.t (Fy.t k2.m.y))
      have z1 : ExS X Y T P n m p 0 (put (put (put J 63 (10 * s) v) 63 (10 * s + 1) (nI nc)) 63 (10 * s + 7) 0) L' (i + 1) nP κ := j.cg (by rw [pt_n (by decide), pt_n (by decide), pt_n (by decide)]) (by rw [pt_n (by decide), pt_n (by decide), pt_n (by decide)]) (by rw [pt_n (by decide), pt_n (by decide), pt_n (by decide)]) (fun k _ => by rw [pt_m (by decide), pt_m (by decide), pt_m (by decide)])
      have z22 : put (put (put J 63 (10 * s) v) 63 (10 * s + 1) (nI nc)) 63 (10 * s + 7) 0 54 22 = nI s := by rw [pt_m (by decide), pt_m (by decide), pt_m (by decide)]; exact j22
      have z15 : put (put (put J 63 (10 * s) v) 63 (10 * s + 1) (nI nc)) 63 (10 * s + 7) 0 54 15 = nI nc := by rw [pt_m (by decide), pt_m (by decide), pt_m (by decide)]; exact j15
      have u0 : ∀ k, k < 10 * s → put (put (put J 63 (10 * s) v) 63 (10 * s + 1) (nI nc)) 63 (10 * s + 7) 0 63 k = I 63 k := fun k hk => by rw [pt_f (by omega), pt_f (by omega), pt_f (by omega), k2.1 63 (by decide)]
      have u1 : put (put (put J 63 (10 * s) v) 63 (10 * s + 1) (nI nc)) 63 (10 * s + 7) 0 63 (10 * s) = v := by rw [pt_f (by omega), pt_f (by omega), pt_s]
      have u2 : put (put (put J 63 (10 * s) v) 63 (10 * s + 1) (nI nc)) 63 (10 * s + 7) 0 63 (10 * s + 1) = nI κ.length := by rw [pt_f (by omega), pt_s, enc]
      have u7 : put (put (put J 63 (10 * s) v) 63 (10 * s + 1) (nI nc)) 63 (10 * s + 7) 0 63 (10 * s + 7) = 0 := pt_s
      by_cases g5 : v = 5
      · have g5' : (v = 5) = True := eq_true g5
        have c2 : rs2 (rs1 C s v) v = numF (rs1 C s v) 15 := if_pos g5
        simp only [E180_25, E180_28, E180_29, E180_32, E180_35, E180_36, E180_38, E180_39, E180_42, E180_43, E180_44, E180_45, E180_48, E180_49, E180_50, E180_51, E180_52, E180_55, E180_56, E180_57, E180_58, E180_59, E180_62, E180_63, E180_64, E180_67, E180_68, E180_70, E180_71, E180_72, E180_73, E180_74, E180_75, E180_78, E180_79, E180_82, E180_83, E180_85, E180_86, E180_87, E180_90, pk54 hS, pk63 hS, pl63 hS, pa63 hS, pi63 hS, pr54_21 hR, rfs, rfn, cs0, csi, csl, csr, csn, kti, ktl, ktr, ktn, ktv, ktf, true_and, and_true, and_self, ↓reduceIte, Nat.reduceAdd, Nat.reduceSub, Nat.reduceMul, Nat.reduceLT, Nat.reduceLeDiff, Nat.reduceEqDiff, true_or, or_true, false_or, or_false, not_true_eq_false, not_false_eq_true, reduceCtorEq, cmp_lt, cmp_gt, cmp_eq, Int32.reduceAdd, Int32.reduceSub, Int32.reduceMul, Int32.reduceLT, Int32.reduceToNatClampNeg, eq_self, ne_eq, Int64.reduceAdd, Int64.reduceSub, Int64.reduceMul, Int64.reduceLT, k3, pt, pt_m, j22, j15, m0, p7, a0, b0, a1, b1, a7, b7, nI_1, g5']
        generalize put (put (put J 63 (10 * s) v) 63 (10 * s + 1) (nI nc)) 63 (10 * s + 7) 0 = Z at z1 z22 z15 F0 u0 u1 u2 u7
        by_cases gn : T (i + 1) < 0 ∨ 15 < T (i + 1)
        · have fl : Fl (P (i + 1)) (rs2 (rs1 C s v) v) := by rw [c2]; exact c1.nn hT gn
          have pj := hT.2.2.2 (i + 1) hi
          refine nuE_n (d := d + 3) (w := 15) hS hR z1.1 z1.2.1 rfl (by decide) gn (fun J2 u q1 q2 q3 q4 => ?_)
          simp only [E180_90, E180_93, E180_94, pk54 hS, pk63 hS, pl63 hS, pa63 hS, pi63 hS, pr54_21 hR, rfs, rfn, cs0, csi, csl, csr, csn, kti, ktl, ktr, ktn, ktv, ktf, true_and, and_true, and_self, ↓reduceIte, Nat.reduceAdd, Nat.reduceSub, Nat.reduceMul, Nat.reduceLT, Nat.reduceLeDiff, Nat.reduceEqDiff, true_or, or_true, false_or, or_false, not_true_eq_false, not_false_eq_true, reduceCtorEq, cmp_lt, cmp_gt, cmp_eq, Int32.reduceAdd, Int32.reduceSub, Int32.reduceMul, Int32.reduceLT, Int32.reduceToNatClampNeg, eq_self, ne_eq, Int64.reduceAdd, Int64.reduceSub, Int64.reduceMul, Int64.reduceLT, a7, b7, pt]
          refine r2n (d := d) (j := i + 1) hS hR hs rfl ⟨(pt_m (by decide)).trans q2, (pt_m (by decide)).trans (q3.trans z1.1.2.2.1), ⟨nc, (pt_m (by decide)).trans ((q1.2 15 (by decide)).trans z15)⟩, (pt_m (by decide)).trans ((q1.2 22 (by decide)).trans z22)⟩ (fun J3 w1 w2 w3 => ?_)
          exact hno J3 _ (i + 1) hi ((fl.r3 pj).r4 pj).r5 w1 w2 ((F0.tr (Fy.t q1.y)).tr w3)
        · have n1 : ¬ T (i + 1) < 0 := fun z => gn (Or.inl z)
          have n2 : ¬ 15 < T (i + 1) := fun z => gn (Or.inr z)
          have i1 : i + 1 < m := z1.lt hK (fun z => n1 (by rw [z]; decide))
          have c3 : Cst T P m (rs2 (rs1 C s v) v) (i + 1 + 1) nP 0 (c + 1) := by rw [c2]; exact c1.ny hT n1 n2
          obtain ⟨o1, o2⟩ := c1.k15n (w := 15) hT n1 n2
          rw [← c2] at o1 o2
          refine nuE_y (d := d + 3) (w := 15) hS hR hK i1 z1.1 z1.2.1 rfl (by decide) n1 n2 (fun J2 L2 q1 q2 q3 => ?_)
          simp only [E180_90, E180_93, E180_94, pk54 hS, pk63 hS, pl63 hS, pa63 hS, pi63 hS, pr54_21 hR, rfs, rfn, cs0, csi, csl, csr, csn, kti, ktl, ktr, ktn, ktv, ktf, true_and, and_true, and_self, ↓reduceIte, Nat.reduceAdd, Nat.reduceSub, Nat.reduceMul, Nat.reduceLT, Nat.reduceLeDiff, Nat.reduceEqDiff, true_or, or_true, false_or, or_false, not_true_eq_false, not_false_eq_true, reduceCtorEq, cmp_lt, cmp_gt, cmp_eq, Int32.reduceAdd, Int32.reduceSub, Int32.reduceMul, Int32.reduceLT, Int32.reduceToNatClampNeg, eq_self, ne_eq, Int64.reduceAdd, Int64.reduceSub, Int64.reduceMul, Int64.reduceLT, a7, b7, pt]
          have j2 := z1.nx q2 q1 (Nat.le_succ _) i1
          refine r2E (d := d) hS hR hK hT hs rfl (Nat.succ_pos _) c3 (by omega) ⟨j2.cg (pt_n (by decide)) (pt_n (by decide)) (pt_n (by decide)) (fun k _ => pt_m (by decide)), (pt_m (by decide)).trans ((q2.2 22 (by decide)).trans z22)⟩ (fun J3 L3 i3 n3 c4 l2 l3 w1 w2 w3 w4 wp wc wb w63 => ?_) (fun J3 L3 j3 w1 w2 w3 w4 w5 => hno J3 L3 j3 w1 w2 w3 w4 ((F0.tr (Fy.t q2.m.y)).tr w5))
          have b63 : ∀ k, ¬ k = 10 * s + 2 → ¬ k = 10 * s + 3 → ¬ k = 10 * s + 4 → ¬ k = 10 * s + 7 → J3 63 k = Z 63 k := fun k h2 h3 h4 h7 => by rw [w63, uu_n _ _ h4, uu_n _ _ h3, uu_n _ _ h2, pt_f h7, q2.1 63 (by decide)]
          refine fin J3 L3 i3 n3 c4 nP (c + 1) 0 [] l2 l3 [T (i + 1)] (T (i + 1)) w1 (by omega) (by rw [List.append_nil]; exact w3) ((F0.tr (Fy.t q2.m.y)).tr w4) wp ((Kp.e rs115).tr o1 (Nat.le_refl c)) (Nat.le_succ c) wc o2 (Or.inl ⟨g5, rfl, rfl, n1, n2, rfl⟩) wb (fun k hk => ?_) ?_ ?_ ?_ ?_ ?_ ?_
          · rw [b63 k (by omega) (by omega) (by omega) (by omega)]; exact u0 k hk
          · rw [b63 _ (by omega) (by omega) (by omega) (by omega)]; exact u1
          · rw [b63 _ (by omega) (by omega) (by omega) (by omega)]; exact u2
          · rw [w63, uu_n _ _ (by omega), uu_n _ _ (by omega), uu_s, List.append_nil]
          · rw [w63, uu_n _ _ (by omega), uu_s, List.append_nil]
          · rw [w63, uu_s, List.append_nil]
          · rw [w63, uu_n _ _ (by omega), uu_n _ _ (by omega), uu_n _ _ (by omega), pt_s]
      · have c2 : rs2 (rs1 C s v) v = sumF (partF 8) (rs1 C s v) := if_neg g5
        simp only [E180_25, E180_28, E180_29, E180_32, E180_35, E180_36, E180_38, E180_39, E180_42, E180_43, E180_44, E180_45, E180_48, E180_49, E180_50, E180_51, E180_52, E180_55, E180_56, E180_57, E180_58, E180_59, E180_62, E180_63, E180_64, E180_67, E180_68, E180_70, E180_71, E180_72, E180_73, E180_74, E180_75, E180_97, E180_98, E180_99, pk54 hS, pk63 hS, pl63 hS, pa63 hS, pi63 hS, pr54_21 hR, rfs, rfn, cs0, csi, csl, csr, csn, kti, ktl, ktr, ktn, ktv, ktf, true_and, and_true, and_self, ↓reduceIte, Nat.reduceAdd, Nat.reduceSub, Nat.reduceMul, Nat.reduceLT, Nat.reduceLeDiff, Nat.reduceEqDiff, true_or, or_true, false_or, or_false, not_true_eq_false, not_false_eq_true, reduceCtorEq, cmp_lt, cmp_gt, cmp_eq, Int32.reduceAdd, Int32.reduceSub, Int32.reduceMul, Int32.reduceLT, Int32.reduceToNatClampNeg, eq_self, ne_eq, Int64.reduceAdd, Int64.reduceSub, Int64.reduceMul, Int64.reduceLT, k3, pt, pt_m, j22, j15, m0, p7, a0, b0, a1, b1, a7, b7, nI_1, g5]
        generalize put (put (put J 63 (10 * s) v) 63 (10 * s + 1) (nI nc)) 63 (10 * s + 7) 0 = Z at z1 z22 z15 F0 u0 u1 u2 u7
        refine rexE (d := d) (a := 0) (tst := false) hS hR hK hT c1 (Nat.succ_pos i) z1 (fun J2 L2 i' n' c' l w1 w2 w3 wc wp wv w4 w5 => ?_) (fun J2 L2 j' w1 w2 w3 w4 w5 w6 => ?_)
        · have w1' : Cst T P m (rs2 (rs1 C s v) v) i' n' 0 c' := by rw [c2]; exact w1
          have wp' : Kp c (rs1 C s v) (rs2 (rs1 C s v) v) := by rw [c2]; exact wp
          have wv' : Ve False nP n' l (Sg (rs2 (rs1 C s v) v) c c') := by rw [c2]; exact wv.f
          try simp only [E180_99, rfs, rfn, cs0, csi, csl, csr, csn, kti, ktl, ktr, ktn, ktv, ktf, true_and, and_true, and_self, ↓reduceIte, Nat.reduceAdd, Nat.reduceSub, Nat.reduceMul, Nat.reduceLT, Nat.reduceLeDiff, Nat.reduceEqDiff, true_or, or_true, false_or, or_false, not_true_eq_false, not_false_eq_true, reduceCtorEq, cmp_lt, cmp_gt, cmp_eq, Int32.reduceAdd, Int32.reduceSub, Int32.reduceMul, Int32.reduceLT, Int32.reduceToNatClampNeg, eq_self, ne_eq, Int64.reduceAdd, Int64.reduceSub, Int64.reduceMul, Int64.reduceLT]
          refine r2E (d := d) hS hR hK hT hs rfl (by omega) w1' (by omega) ⟨w4, (w5.2.1 22 (by decide)).trans z22⟩ (fun J3 L3 i3 n3 c4 l2 l3 v1 v2 v3 v4 vp vc vb v63 => ?_) (fun J3 L3 j3 u1 u2 u3 u4 u5 => hno J3 L3 j3 u1 u2 u3 u4 ((F0.tr w5.y).tr u5))
          have b63 : ∀ k, ¬ k = 10 * s + 2 → ¬ k = 10 * s + 3 → ¬ k = 10 * s + 4 → J3 63 k = Z 63 k := fun k h2 h3 h4 => by rw [v63, uu_n _ _ h4, uu_n _ _ h3, uu_n _ _ h2, w5.1 63 (by decide) (by decide)]
          refine fin J3 L3 i3 n3 c4 n' c' 0 l l2 l3 _ 0 v1 (by omega) v3 ((F0.tr w5.y).tr v4) vp ((Kp.e rs115).tr wp' (Nat.le_refl c)) wc vc rfl (Or.inr ⟨g5, wv'⟩) vb (fun k hk => ?_) ?_ ?_ ?_ ?_ ?_ ?_
          · rw [b63 k (by omega) (by omega) (by omega)]; exact u0 k hk
          · rw [b63 _ (by omega) (by omega) (by omega)]; exact u1
          · rw [b63 _ (by omega) (by omega) (by omega)]; exact u2
          · rw [v63, uu_n _ _ (by omega), uu_n _ _ (by omega), uu_s]
          · rw [v63, uu_n _ _ (by omega), uu_s]
          · rw [v63, uu_s]
          · rw [b63 _ (by omega) (by omega) (by omega)]; exact u7
        · obtain ⟨nc2, j15b, _, _⟩ := w5
          have fl : Fl (P j') (rs2 (rs1 C s v) v) := by rw [c2]; exact w2
          have pj := hT.2.2.2 j' w1
          try simp only [E180_99, rfs, rfn, cs0, csi, csl, csr, csn, kti, ktl, ktr, ktn, ktv, ktf, true_and, and_true, and_self, ↓reduceIte, Nat.reduceAdd, Nat.reduceSub, Nat.reduceMul, Nat.reduceLT, Nat.reduceLeDiff, Nat.reduceEqDiff, true_or, or_true, false_or, or_false, not_true_eq_false, not_false_eq_true, reduceCtorEq, cmp_lt, cmp_gt, cmp_eq, Int32.reduceAdd, Int32.reduceSub, Int32.reduceMul, Int32.reduceLT, Int32.reduceToNatClampNeg, eq_self, ne_eq, Int64.reduceAdd, Int64.reduceSub, Int64.reduceMul, Int64.reduceLT]
          refine r2n (d := d) (j := j') hS hR hs rfl ⟨w3, w4, ⟨nc2, j15b⟩, (w6.2.1 22 (by decide)).trans z22⟩ (fun J3 u1 u2 u3 => ?_)
          exact hno J3 L2 j' w1 ((fl.r3 pj).r4 pj).r5 u1 u2 ((F0.tr w6.y).tr u3)
    simp only [E180_1, E180_4, E180_5, E180_6, E180_7, E180_8, E180_11, E180_12, E180_15, E180_17, E180_20, E180_21, pk54 hS, rfs, rfn, cs0, csi, csl, csr, csn, kti, ktl, ktr, ktn, ktv, ktf, true_and, and_true, and_self, ↓reduceIte, Nat.reduceAdd, Nat.reduceSub, Nat.reduceMul, Nat.reduceLT, Nat.reduceLeDiff, Nat.reduceEqDiff, true_or, or_true, false_or, or_false, not_true_eq_false, not_false_eq_true, reduceCtorEq, cmp_lt, cmp_gt, cmp_eq, Int32.reduceAdd, Int32.reduceSub, Int32.reduceMul, Int32.reduceLT, Int32.reduceToNatClampNeg, eq_self, ne_eq, Int64.reduceAdd, Int64.reduceSub, Int64.reduceMul, Int64.reduceLT, q, e22, g]
    exact key
end RZ
