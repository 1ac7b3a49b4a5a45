/-! the class's invariant; W: whose each cell is (6 a RECIPE's, 10 and 11 the IMAGES', 23 to 25 the Planners') -/
def Rc1 (S : mS) (I : mI) (R : mR) (W : Nat → Nat) (f r : Nat) : Prop := ∀ i, i < r → ∃ q n m, R f i = some q ∧ RecS S R q n (q + 1) (q + 2) (q + 3) m ∧ I q 0 = nI n ∧ 85 ≤ q ∧ (∀ a, q ≤ a → a < q + 4 → W a = 6) ∧ ∀ x, m ≤ x → x < 416 → I (q + 3) x = 0
def Rc2 (S : mS) (R : mR) (f : Nat) : Prop := ∀ i q, i < 8 → R f i = some q → ok S q 5
def Sm1 (S : mS) (I : mI) (R : mR) (W : Nat → Nat) (z : Nat) : Prop := (∃ c, (c = 3 ∨ c = 4 ∨ c = 5) ∧ I z 0 = nI c) ∧ (∃ p, p ≤ 8 ∧ I z 9 = nI p) ∧ (∃ r, r ≤ 8 ∧ I z 6 = nI r ∧ Rc1 S I R W (z + 4) r) ∧ Rc2 S R (z + 4)
def ImC (S : mS) (I : mI) (R : mR) (W : Nat → Nat) : Prop := ∀ j y, j < 2 → R 12 j = some y → SmS S R y ∧ 85 ≤ y ∧ (∀ a, y ≤ a → a < y + 7 → W a = 10 + j) ∧ Sm1 S I R W y
def PlC (S : mS) (I : mI) (R : mR) (W : Nat → Nat) : Prop := ∀ c P, (c = 3 ∨ c = 4 ∨ c = 5) → R 39 c = some P → PlS S R P c (nW c) ∧ PlI I P c (nW c) (wt c) ∧ 85 ≤ P ∧ ∀ a, P ≤ a → a < P + 54 + 3 * c → W a = 20 + c
def InvC (S : mS) (I : mI) (R : mR) : Prop := Tl I ∧ ∃ W, Sm1 S I R W 5 ∧ ImC S I R W ∧ PlC S I R W
theorem RecS.tr {S S' : mS} {R R' : mR} {q n k1 k2 k3 m : Nat} (h : RecS S R q n k1 k2 k3 m) (e : Ext S S') (eR : R' q = R q) : RecS S' R' q n k1 k2 k3 m := by
  obtain ⟨a0, ⟨a1, a2, a3⟩, ⟨b1, b2, b3⟩, ⟨c1, c2, c3⟩, g1, g2⟩ := h
  refine ⟨e.ok a0, ⟨e.ok a1, e.len a1.1 a2, ?_⟩, ⟨e.ok b1, e.len b1.1 b2, ?_⟩, ⟨e.ok c1, e.len c1.1 c2, ?_⟩, g1, g2⟩
  · rw [eR]; exact a3
  · rw [eR]; exact b3
  · rw [eR]; exact c3
theorem PlI.e {I J : mI} {P c n : Nat} {w : Nat → Nat} (h : PlI I P c n w) (e1 : J (P + 1) = I (P + 1)) (e3 : J (P + 3) = I (P + 3)) (e4 : J (P + 3 + 1) = I (P + 3 + 1)) : PlI J P c n w := by
  unfold PlI FoI
  rw [e1, e3, e4]
  exact h
theorem PlS.tr {S S' : mS} {R R' : mR} {P c n : Nat} (h : PlS S R P c n) (e : Ext S S') (eR : ∀ a, P ≤ a → a < P + 54 + 3 * c → R' a = R a) : PlS S' R' P c n := by
  have ep : pL1 P c = P + 11 + 3 * c := rfl
  obtain ⟨⟨o1, ⟨o2, l2⟩, o3, l3⟩, rr, fo, ⟨v1, v2, v3, v4⟩, m, l⟩ := h
  refine ⟨⟨e.ok o1, ⟨e.ok o2, e.len o2.1 l2⟩, e.ok o3, e.len o3.1 l3⟩, ?_, e.fo (fun a x y => eR a (by omega) (by omega)) fo, ⟨e.lv (eR _ (by omega) (by omega)) (eR _ (by omega) (by omega)) v1, e.lv (eR _ (by omega) (by omega)) (eR _ (by omega) (by omega)) v2, e.lv (eR _ (by omega) (by omega)) (eR _ (by omega) (by omega)) v3, e.lv (eR _ (by omega) (by omega)) (eR _ (by omega) (by omega)) v4⟩, e.mat (eR _ (by omega) (by omega)) m, e.lon l⟩
  rw [eR P (by omega) (by omega)]
  exact rr
theorem PlS.top {S : mS} {R : mR} {P c n : Nat} (h : PlS S R P c n) : P + 53 + 3 * c < S.1 := by
  have ep : pL1 P c = P + 11 + 3 * c := rfl
  have := h.2.2.2.2.2.1.1
  omega
theorem SmS.top {S : mS} {R : mR} {y : Nat} (h : SmS S R y) : y + 6 < S.1 := h.2.2.2.2.2.1.1.1
section XI
variable {S S' : mS} {I I' : mI} {R R' : mR} {W W' : Nat → Nat}
/-- the RECIPES stay -/
def KpR (S : mS) (I : mI) (R : mR) (W : Nat → Nat) (I' : mI) (R' : mR) (W' : Nat → Nat) : Prop := ∀ q, 85 ≤ q → q < S.1 → W q = 6 → I' q = I q ∧ R' q = R q ∧ W' q = 6
theorem Rc1.tr {f g r : Nat} (h : Rc1 S I R W f r) (e : Ext S S') (ef : ∀ i, i < r → R' g i = R f i) (k : KpR S I R W I' R' W') : Rc1 S' I' R' W' g r := by
  intro i hi
  obtain ⟨q, n, m, q1, q2, q3, q4, q5, q6⟩ := h i hi
  have h3 : q + 3 < S.1 := q2.2.2.2.1.1.1
  obtain ⟨k1, k2, _⟩ := k q q4 q2.1.1 (q5 q (Nat.le_refl q) (by omega))
  exact ⟨q, n, m, (ef i hi).trans q1, q2.tr e k2, by rw [k1]; exact q3, q4, fun a a1 a2 => (k a (by omega) (by omega) (q5 a a1 a2)).2.2, fun x x1 x2 => by rw [(k (q + 3) (by omega) h3 (q5 (q + 3) (by omega) (by omega))).1]; exact q6 x x1 x2⟩
theorem Rc2.tr {f g : Nat} (h : Rc2 S R f) (e : Ext S S') (ef : ∀ i, i < 8 → R' g i = R f i) : Rc2 S' R' g := fun i q hi hq => e.ok (h i q hi (by rw [← ef i hi]; exact hq))
theorem Sm1.tr {z y : Nat} (h : Sm1 S I R W z) (e : Ext S S') (e0 : I' y 0 = I z 0) (e6 : I' y 6 = I z 6) (e9 : I' y 9 = I z 9) (ef : ∀ i, i < 8 → R' (y + 4) i = R (z + 4) i) (k : KpR S I R W I' R' W') : Sm1 S' I' R' W' y := by
  obtain ⟨⟨c, c1, c2⟩, ⟨p, p1, p2⟩, ⟨r, r1, r2, r3⟩, a4⟩ := h
  exact ⟨⟨c, c1, e0.trans c2⟩, ⟨p, p1, e9.trans p2⟩, ⟨r, r1, e6.trans r2, r3.tr e (fun i hi => ef i (by omega)) k⟩, a4.tr e ef⟩
theorem ImC.tr (h : ImC S I R W) (e : Ext S S') (e12 : ∀ j y, j < 2 → R' 12 j = some y → R 12 j = some y) (ei : ∀ a, 85 ≤ a → a < S.1 → (W a = 10 ∨ W a = 11) → I' a = I a ∧ R' a = R a ∧ W' a = W a) (k : KpR S I R W I' R' W') : ImC S' I' R' W' := by
  intro j y hj hy
  obtain ⟨y1, y2, y3, y4⟩ := h j y hj (e12 j y hj hy)
  have yt := y1.top
  have f : ∀ a, y ≤ a → a < y + 7 → I' a = I a ∧ R' a = R a ∧ W' a = W a := fun a a1 a2 => ei a (by omega) (by omega) (by have := y3 a a1 a2; omega)
  have f0 := f y (by omega) (by omega)
  refine ⟨(y1.S e.1 e.2).R f0.2.1, y2, fun a a1 a2 => (f a a1 a2).2.2.trans (y3 a a1 a2), y4.tr e ?_ ?_ ?_ (fun i _ => by rw [(f (y + 4) (by omega) (by omega)).2.1]) k⟩
  all_goals rw [f0.1]
theorem PlC.tr (h : PlC S I R W) (e : Ext S S') (e39 : ∀ c P, (c = 3 ∨ c = 4 ∨ c = 5) → R' 39 c = some P → R 39 c = some P) (ep : ∀ a, 85 ≤ a → a < S.1 → (W a = 23 ∨ W a = 24 ∨ W a = 25) → I' a = I a ∧ R' a = R a ∧ W' a = W a) : PlC S' I' R' W' := by
  intro c P hc hP
  obtain ⟨p1, p2, p3, p4⟩ := h c P hc (e39 c P hc hP)
  have pt := p1.top
  have f : ∀ a, P ≤ a → a < P + 54 + 3 * c → I' a = I a ∧ R' a = R a ∧ W' a = W a := fun a a1 a2 => ep a (by omega) (by omega) (by have := p4 a a1 a2; omega)
  exact ⟨p1.tr e (fun a a1 a2 => (f a a1 a2).2.1), p2.e (f _ (by omega) (by omega)).1 (f _ (by omega) (by omega)).1 (f _ (by omega) (by omega)).1, p3, fun a a1 a2 => (f a a1 a2).2.2.trans (p4 a a1 a2)⟩
/-- nothing behind cell 85 changes -/
theorem InvC.cg (h : InvC S I R) (e85 : ∀ a, 85 ≤ a → I' a = I a) (e0 : ∃ c, (c = 3 ∨ c = 4 ∨ c = 5) ∧ I' 5 0 = nI c) (e9 : ∃ p, p ≤ 8 ∧ I' 5 9 = nI p) (e6 : I' 5 6 = I 5 6) (et : Tl I') : InvC S I' R := by
  obtain ⟨_, W, ⟨a1, a2, ⟨r, r8, er, ra⟩, a4⟩, b, c⟩ := h
  have k : KpR S I R W I' R W := fun q h1 _ h3 => ⟨e85 q h1, rfl, h3⟩
  exact ⟨et, W, ⟨e0, e9, ⟨r, r8, e6.trans er, ra.tr Ext.rf (fun _ _ => rfl) k⟩, a4⟩, b.tr Ext.rf (fun _ _ _ h => h) (fun a a1 _ _ => ⟨e85 a a1, rfl, rfl⟩) k, c.tr Ext.rf (fun _ _ _ h => h) (fun a a1 _ _ => ⟨e85 a a1, rfl, rfl⟩)⟩
/-- what a call may change that leaves no trace in the invariant -/
def LoF (I J : mI) : Prop := (∀ a, (a = 0 ∨ 54 ≤ a) → J a = I a) ∧ J 5 0 = I 5 0 ∧ J 5 6 = I 5 6 ∧ J 5 9 = I 5 9 ∧ J 4 3 = I 4 3
theorem LoF.rf : LoF I I := ⟨fun _ _ => rfl, rfl, rfl, rfl, rfl⟩
theorem LoF.tr {J K : mI} (h : LoF I J) (g : LoF J K) : LoF I K := ⟨fun a ha => (g.1 a ha).trans (h.1 a ha), g.2.1.trans h.2.1, g.2.2.1.trans h.2.2.1, g.2.2.2.1.trans h.2.2.2.1, g.2.2.2.2.trans h.2.2.2.2⟩
theorem LoF.al {J K : mI} (h : LoF I J) (g : ∀ a, (a = 0 ∨ 54 ≤ a ∨ a = 4 ∨ a = 5) → K a = J a) : LoF I K := ⟨fun a ha => (g a (by omega)).trans (h.1 a ha), by rw [g 5 (by omega)]; exact h.2.1, by rw [g 5 (by omega)]; exact h.2.2.1, by rw [g 5 (by omega)]; exact h.2.2.2.1, by rw [g 4 (by omega)]; exact h.2.2.2.2⟩
theorem LoF.pa {J : mI} {a k : Nat} {x : Int32} (h : LoF I J) (ha : 5 < a ∧ a < 54) : LoF I (put J a k x) := h.al (fun b hb => pt_n (by omega))
theorem LoF.fl {J : mI} {a n : Nat} {x : Int32} (h : LoF I J) (ha : 5 < a ∧ a < 54) : LoF I (filF J a n x) := h.al (fun b hb => uu_n _ _ (by omega))
theorem LoF.p4 {J : mI} {k : Nat} {x : Int32} (h : LoF I J) (hk : ¬ k = 3) : LoF I (put J 4 k x) := ⟨fun a ha => by rw [pt_n (by omega)]; exact h.1 a ha, by rw [pt_m (by decide)]; exact h.2.1, by rw [pt_m (by decide)]; exact h.2.2.1, by rw [pt_m (by decide)]; exact h.2.2.2.1, by rw [pt_f (by omega)]; exact h.2.2.2.2⟩
theorem LoF.p5 {J : mI} {k : Nat} {x : Int32} (h : LoF I J) (hk : k = 3) : LoF I (put J 5 k x) := ⟨fun a ha => by rw [pt_n (by omega)]; exact h.1 a ha, by rw [pt_f (by omega)]; exact h.2.1, by rw [pt_f (by omega)]; exact h.2.2.1, by rw [pt_f (by omega)]; exact h.2.2.2.1, by rw [pt_m (by decide)]; exact h.2.2.2.2⟩
theorem LoF.gr {J : mI} (h : LoF I J) : LoF I (graF J) := h.p4 (by decide)
theorem LoF.re {J : mI} {c : Int32} (h : LoF I J) : LoF I (refF J c) := by
  unfold refF
  by_cases g1 : rfP c < 0
  · rw [if_pos g1]; exact h.p4 (by decide)
  · rw [if_neg g1]
    by_cases g2 : rfP c < 5
    · rw [if_pos g2]; exact (h.p4 (by decide)).pa (by decide)
    · rw [if_neg g2]; exact h.p4 (by decide)
theorem LoF.gu {J K : mI} {u : Nat} (h : LoF I J) (g : Gu u J K) (hu : 5 < u ∧ u + 5 < 54) : LoF I K := h.al (fun b hb => g b (by omega))
theorem InvC.lo (h : InvC S I R) (g : LoF I I') : InvC S I' R := by
  have h' := h
  obtain ⟨⟨l, l1, l2⟩, W, ⟨⟨c, c1, c2⟩, ⟨p, p1, p2⟩, _, _⟩, _, _⟩ := h'
  exact h.cg (fun a ha => g.1 a (by omega)) ⟨c, c1, g.2.1.trans c2⟩ ⟨p, p1, g.2.2.2.1.trans p2⟩ g.2.2.1 ⟨l, l1, g.2.2.2.2.trans l2⟩
theorem InvC.out {J : mI} (h : InvC S I R) (g : OutM I J) : InvC S J R := by
  have h' := h
  obtain ⟨⟨l, l1, l2⟩, W, ⟨⟨c, c1, c2⟩, ⟨p, p1, p2⟩, _, _⟩, _, _⟩ := h'
  have g4 := g 4 (by omega)
  have g5 := g 5 (by omega)
  exact h.cg (fun a ha => g a (by omega)) ⟨c, c1, by rw [g5]; exact c2⟩ ⟨p, p1, by rw [g5]; exact p2⟩ (by rw [g5]) ⟨l, l1, by rw [g4]; exact l2⟩
theorem InvC.rcs (h : InvC S I R) : Rcs S I R 5 ∧ ∃ r, r ≤ 8 ∧ I 5 6 = nI r := by
  obtain ⟨_, W, ⟨_, _, ⟨r, r1, r2, r3⟩, _⟩, _, _⟩ := h
  refine ⟨fun k hk => ?_, r, r1, r2⟩
  obtain ⟨g1, g2, g3⟩ : ¬ k < 0 ∧ k < I 5 6 ∧ k < 8 := of_decide_eq_true hk
  rw [r2] at g2
  obtain ⟨q, n, m, q1, q2, q3, q4, q5, q6⟩ := r3 k.toNatClampNeg (of_eq_true (inb_lt (by omega) g1 g2)).2
  exact ⟨q, n, q + 1, q + 2, q + 3, m, q1, q2, q3, q4, by omega, by omega, by omega⟩
theorem InvC.img (h : InvC S I R) : Img S R := by
  obtain ⟨_, W, _, b, _⟩ := h
  intro j y hj hy
  obtain ⟨y1, y2, _, _, _, _, y4⟩ := b j y hj hy
  exact ⟨y1, y2, y4⟩
end XI
/-- the room that the class's calls may take yet -/
def nn (o : Option Nat) (k : Nat) : Nat := match o with
  | none => k
  | some _ => 0
def RmC (S : mS) (R : mR) (t : Nat) : Prop := S.1 ≤ 85 + 69 * t ∧ S.2.1 + (nn (R 12 0) 49 + nn (R 12 1) 49 + nn (R 39 3) (13 + yW 3) + nn (R 39 4) (13 + yW 4) + nn (R 39 5) (13 + yW 5)) ≤ 383056 + (49 + 49 + (13 + yW 3) + (13 + yW 4) + (13 + yW 5)) + 453 * t
theorem RmC.mono {S : mS} {R : mR} {t u : Nat} (h : RmC S R t) (hu : t ≤ u) : RmC S R u := ⟨by have := h.1; omega, by have := h.2; omega⟩
/-- the class's side after t calls -/
def XC (S : mS) (I : mI) (R : mR) (t : Nat) : Prop := (Pm S ∧ Pr R) ∧ InvC S I R ∧ RmC S R t
def OutX (I J : mI) : Prop := ∀ a, (a = 0 ∨ (54 ≤ a ∧ a ≤ 84)) → J a = I a
theorem LoF.x {I J : mI} (h : LoF I J) : OutX I J := fun a ha => h.1 a (by omega)
theorem XC.lo {S : mS} {I J : mI} {R : mR} {t : Nat} (h : XC S I R t) (g : LoF I J) : XC S J R (t + 1) := ⟨h.1, h.2.1.lo g, h.2.2.mono (by omega)⟩
theorem XC.i {S : mS} {I J : mI} {R : mR} {t : Nat} (h : XC S I R t) (g : InvC S J R) : XC S J R (t + 1) := ⟨h.1, g, h.2.2.mono (by omega)⟩
/-- a RECIPE's rows -/
theorem InvC.rec {S : mS} {I : mI} {R : mR} (h : InvC S I R) {k : Int32} {q n k1 k2 k3 m : Nat} (hk : rcB I 5 k = true) (hq : R 9 k.toNatClampNeg = some q) (hr : RecS S R q n k1 k2 k3 m) : k1 = q + 1 ∧ k2 = q + 2 ∧ k3 = q + 3 ∧ 85 ≤ q ∧ ∀ x, m ≤ x → x < 416 → I (q + 3) x = 0 := by
  obtain ⟨_, W, ⟨_, _, ⟨r, r1, r2, r3⟩, _⟩, _, _⟩ := h
  obtain ⟨g1, g2, g3⟩ : ¬ k < 0 ∧ k < I 5 6 ∧ k < 8 := of_decide_eq_true hk
  rw [r2] at g2
  obtain ⟨q', n', m', q1, q2, q3, q4, q5, q6⟩ := r3 k.toNatClampNeg (of_eq_true (inb_lt (by omega) g1 g2)).2
  obtain rfl : q' = q := Option.some.inj (q1.symm.trans hq)
  have e1 : q' + 1 = k1 := Option.some.inj ((qr1 q2).symm.trans (qr1 hr))
  have e2 : q' + 2 = k2 := Option.some.inj ((qr2 q2).symm.trans (qr2 hr))
  have e3 : q' + 3 = k3 := Option.some.inj ((qr3 q2).symm.trans (qr3 hr))
  subst e1
  subst e2
  subst e3
  have em : m' = m := (ql3 q2).symm.trans (ql3 hr)
  subst em
  exact ⟨rfl, rfl, rfl, q4, q6⟩
/-- the cells of the RECIPES of the rows and of the IMAGES -/
def Rcp (I : mI) (R : mR) (a : Nat) : Prop := ∃ z i r q, (z = 5 ∨ ∃ j, j < 2 ∧ R 12 j = some z) ∧ I z 6 = nI r ∧ r ≤ 8 ∧ i < r ∧ R (z + 4) i = some q ∧ q ≤ a ∧ a < q + 4
theorem Sm1.rq {S : mS} {I : mI} {R : mR} {W : Nat → Nat} {z i r q a : Nat} (h : Sm1 S I R W z) (e : I z 6 = nI r) (r8 : r ≤ 8) (hi : i < r) (hq : R (z + 4) i = some q) (a1 : q ≤ a) (a2 : a < q + 4) : 85 ≤ a ∧ a < S.1 ∧ W a = 6 := by
  obtain ⟨_, _, ⟨r', r1, r2, r3⟩, _⟩ := h
  obtain rfl : r' = r := (nI_eq (by omega) (by omega)).mp (r2.symm.trans e)
  obtain ⟨q', n, m, q1, q2, q3, q4, q5, _⟩ := r3 i hi
  have eq : q' = q := Option.some.inj (q1.symm.trans hq)
  subst eq
  have h3 : q' + 3 < S.1 := q2.2.2.2.1.1.1
  exact ⟨by omega, by omega, q5 a a1 a2⟩
theorem rcp_w {S : mS} {I : mI} {R : mR} {W : Nat → Nat} (sm : Sm1 S I R W 5) (im : ImC S I R W) : ∀ q, Rcp I R q → 85 ≤ q ∧ q < S.1 ∧ W q = 6 := fun q hq => by
  obtain ⟨z, i, r, q0, hz, e, r8, hi, h, a1, a2⟩ := hq
  rcases hz with rfl | ⟨j, hj, hy⟩
  · exact sm.rq e r8 hi h a1 a2
  · exact (im j z hj hy).2.2.2.rq e r8 hi h a1 a2
theorem InvC.rq {S : mS} {I : mI} {R : mR} (h : InvC S I R) {q : Nat} (hq : Rcp I R q) : 85 ≤ q ∧ q < S.1 := by
  obtain ⟨_, W, sm, im, _⟩ := h
  exact ⟨(rcp_w sm im q hq).1, (rcp_w sm im q hq).2.1⟩
/-- the RECIPES stay, and the FAULT -/
def RcK (I : mI) (R : mR) (I' : mI) (R' : mR) : Prop := I' 14 = I 14 ∧ I' 5 6 = I 5 6 ∧ R' 9 = R 9 ∧ (∀ j y, j < 2 → R 12 j = some y → R' (y + 4) = R (y + 4)) ∧ ∀ q, Rcp I R q → I' q = I q
theorem RcK.ex {S : mS} {I I' : mI} {R : mR} {t : Nat} (X : XC S I R t) (e14 : I' 14 = I 14) (e56 : I' 5 6 = I 5 6) (e85 : ∀ a, 85 ≤ a → I' a = I a) : RcK I R I' R := ⟨e14, e56, rfl, fun _ _ _ _ => rfl, fun q hq => e85 q (X.2.1.rq hq).1⟩
/-- what a call leaves that changes neither rows nor PIECES, TAPE, IMAGES -/
def NoF (I J : mI) : Prop := (∀ a, (a ≤ 3 ∨ (5 ≤ a ∧ a ≤ 14) ∨ 54 ≤ a) → J a = I a) ∧ J 4 3 = I 4 3
/-- .. the TAPE's length apart -/
def KeO (I : mI) (R : mR) (I' : mI) (R' : mR) : Prop := (∀ a, (a ≤ 3 ∨ (6 ≤ a ∧ a ≤ 13)) → I' a = I a) ∧ (∀ k, ¬ k = 6 → I' 5 k = I 5 k) ∧ R' 12 = R 12 ∧ ∀ j y, j < 2 → R 12 j = some y → ∀ a, y ≤ a → a < y + 7 → I' a = I a
def KeX (I : mI) (R : mR) (I' : mI) (R' : mR) : Prop := KeO I R I' R' ∧ RcK I R I' R'
def NoX (I : mI) (R : mR) (I' : mI) (R' : mR) : Prop := KeX I R I' R' ∧ I' 4 3 = I 4 3
section NF
variable {S : mS} {I J K : mI} {R : mR} {t : Nat}
theorem NoF.rf : NoF I I := ⟨fun _ _ => rfl, rfl⟩
theorem NoF.al (h : NoF I J) (g : ∀ a, (a ≤ 14 ∨ 54 ≤ a) → K a = J a) : NoF I K := ⟨fun a ha => (g a (by omega)).trans (h.1 a ha), by rw [g 4 (by omega)]; exact h.2⟩
theorem NoF.pa {a k : Nat} {x : Int32} (h : NoF I J) (ha : 14 < a ∧ a < 54) : NoF I (put J a k x) := h.al (fun b hb => pt_n (by omega))
theorem NoF.p4 {k : Nat} {x : Int32} (h : NoF I J) (hk : ¬ k = 3) : NoF I (put J 4 k x) := ⟨fun a ha => by rw [pt_n (by omega)]; exact h.1 a ha, by rw [pt_f (by omega)]; exact h.2⟩
theorem NoF.gr (h : NoF I J) : NoF I (graF J) := h.p4 (by decide)
theorem NoF.re {c : Int32} (h : NoF I J) : NoF I (refF J c) := by
  unfold refF
  by_cases g1 : rfP c < 0
  · rw [if_pos g1]; exact h.p4 (by decide)
  · rw [if_neg g1]
    by_cases g2 : rfP c < 5
    · rw [if_pos g2]; exact (h.p4 (by decide)).pa (by decide)
    · rw [if_neg g2]; exact h.p4 (by decide)
theorem NoF.gu {u : Nat} (h : NoF I J) (g : Gu u J K) (hu : 14 < u ∧ u + 5 < 54) : NoF I K := h.al (fun b hb => g b (by omega))
theorem NoF.lo (h : NoF I J) : LoF I J := ⟨fun a ha => h.1 a (by omega), by rw [h.1 5 (by omega)], by rw [h.1 5 (by omega)], by rw [h.1 5 (by omega)], h.2⟩
theorem NoF.x (h : NoF I J) : OutX I J := h.lo.x
theorem XC.nx (X : XC S I R t) (h : NoF I J) : NoX I R J R := ⟨⟨⟨fun a ha => h.1 a (by omega), fun k _ => by rw [h.1 5 (by omega)], rfl, fun j y hj hy a a1 _ => h.1 a (by have := (X.2.1.img j y hj hy).2.1; omega)⟩, RcK.ex X (h.1 14 (by decide)) (by rw [h.1 5 (by omega)]) (fun a ha => h.1 a (by omega))⟩, h.2⟩
theorem XC.no (X : XC S I R t) (h : NoF I J) : XC S J R (t + 1) := X.lo h.lo
end NF
