/-! the class's calls keep the invariant -/
theorem wrS_n {I : mI} {x s : Int32} {a : Nat} (h4 : ¬ a = 4) (h13 : ¬ a = 13) : wrS I x s a = I a := by
  unfold wrS
  by_cases g : I 4 3 < 400
  · rw [if_pos g]
    unfold wr1
    rw [pt_n h4, pt_n h13]
  · rw [if_neg g]
theorem wrF_n {I : mI} {x : Int32} {a : Nat} (h4 : ¬ a = 4) (h13 : ¬ a = 13) : wrF I x a = I a := by
  unfold wrF
  rw [wrS_n h4 h13, wrS_n h4 h13, wrS_n h4 h13, wrS_n h4 h13]
theorem roL_n {n : Nat} {a : Nat} (h : ¬ a = 6) : ∀ (m i : Nat) (I : mI), roL n m i I a = I a := by
  intro m
  induction m with
  | zero => intro i I; rfl
  | succ m ih =>
    intro i I
    show (if i < n then roL n m (i + 1) (put I 6 i (roV (ioL I 4 (4 * i) 0))) else I) a = I a
    by_cases g : i < n
    · rw [if_pos g, ih, pt_n h]
    · rw [if_neg g]
section XA
variable {d t : Nat} {S : mS} {I : mI} {L : mL} {R : mR} {Q : mQ}
theorem x_wide {n : Int32} (h : XC S I R t) (hq : ∀ v S' I' L' R', XC S' I' R' (t + 1) → Ext S S' → OutX I I' → RuF I I' → (((n < 3 ∨ 5 < n) ∧ v = -1 ∧ NoX I R I' R') ∨ (¬ (n < 3 ∨ 5 < n) ∧ v = I 5 0 ∧ I' = graF (widF I n) ∧ R' = R)) → Q (.int v) S' I' L' R') : EvM (d + 24) 100 [.ref 4, .int n] S I L R Q := by
  rw [wide_c (d := d + 21) h.1.1 h.1.2]
  by_cases g : n < 3 ∨ 5 < n
  · rw [if_pos g]
    exact hq _ _ _ _ _ (h.no NoF.rf.re) Ext.rf NoF.rf.re.x RuF.rf.re (Or.inl ⟨g, rfl, h.nx NoF.rf.re⟩)
  · rw [if_neg g]
    have hn : ∃ c, (c = 3 ∨ c = 4 ∨ c = 5) ∧ n = nI c := by
      have g1 : ¬ n.toInt < 3 := fun z => g (Or.inl (Int32.lt_iff_toInt_lt.mpr z))
      have g2 : ¬ 5 < n.toInt := fun z => g (Or.inr (Int32.lt_iff_toInt_lt.mpr z))
      exact ⟨n.toInt.toNat, by omega, ti_nI (z := n.toInt) rfl (by omega) (by omega)⟩
    obtain ⟨c, c1, rfl⟩ := hn
    obtain ⟨⟨l, l1, l2⟩, W, ⟨_, ⟨p, p1, p2⟩, _, _⟩, _, _⟩ := id h.2.1
    have f : ∀ a, ¬ a = 4 → ¬ a = 5 → ¬ a = 6 → ¬ a = 7 → graF (widF I (nI c)) a = I a := fun a h4 h5 h6 h7 => by
      unfold graF widF filF
      rw [pt_n h4, uu_n _ _ h7, uu_n _ _ h6, pt_n h5]
    have f5 : ∀ k, graF (widF I (nI c)) 5 k = put I 5 0 (nI c) 5 k := fun k => by
      unfold graF widF filF
      rw [pt_m (by decide), uu_n _ _ (by decide), uu_n _ _ (by decide)]
    have f4 : graF (widF I (nI c)) 4 3 = I 4 3 := by
      unfold graF widF filF
      rw [pt_f (by decide), uu_n _ _ (by decide), uu_n _ _ (by decide), pt_n (by decide)]
    refine hq _ _ _ _ _ (h.i (h.2.1.cg (fun a ha => f a (by omega) (by omega) (by omega) (by omega)) ⟨c, c1, ?_⟩ ⟨p, p1, ?_⟩ ?_ ⟨l, l1, f4.trans l2⟩)) Ext.rf (fun a ha => f a (by omega) (by omega) (by omega) (by omega)) (RuF.rf.al (fun a h1 h2 => f a (by omega) (by omega) (by omega) (by omega)) (by
      unfold graF widF filF
      rw [pt_f (by decide), uu_n _ _ (by decide), uu_n _ _ (by decide), pt_n (by decide)])) (Or.inr ⟨g, rfl, rfl, rfl⟩)
    · rw [f5, pt_s]
    · rw [f5, pt_f (by decide)]; exact p2
    · rw [f5, pt_f (by decide)]
theorem x_bar {c x : Int32} (h : XC S I R t) (hq : ∀ v S' I' L' R', XC S' I' R' (t + 1) → Ext S S' → OutX I I' → RuF I I' → ((siB I c x = false ∧ v = -1 ∧ NoX I R I' R') ∨ (siB I c x = true ∧ v = I 6 c.toNatClampNeg ∧ I' = graF (put I 6 c.toNatClampNeg x) ∧ R' = R)) → Q (.int v) S' I' L' R') : EvM (d + 24) 101 [.ref 4, .int c, .int x] S I L R Q := by
  rw [bar_c (d := d + 21) h.1.1 h.1.2]
  by_cases g : siB I c x = true
  · rw [if_pos g]
    exact hq _ _ _ _ _ (h.lo (LoF.rf.pa (by decide)).gr) Ext.rf (LoF.rf.pa (by decide)).gr.x (RuF.rf.p ⟨Or.inl (by decide), by decide⟩).gr (Or.inr ⟨g, rfl, rfl, rfl⟩)
  · rw [if_neg g]
    exact hq _ _ _ _ _ (h.no NoF.rf.re) Ext.rf NoF.rf.re.x RuF.rf.re (Or.inl ⟨Bool.eq_false_iff.mpr g, rfl, h.nx NoF.rf.re⟩)
theorem x_shape {c x : Int32} (h : XC S I R t) (hq : ∀ v S' I' L' R', XC S' I' R' (t + 1) → Ext S S' → OutX I I' → RuF I I' → ((siB I c x = false ∧ v = -1 ∧ NoX I R I' R') ∨ (siB I c x = true ∧ v = I 7 c.toNatClampNeg ∧ I' = graF (put I 7 c.toNatClampNeg x) ∧ R' = R)) → Q (.int v) S' I' L' R') : EvM (d + 24) 102 [.ref 4, .int c, .int x] S I L R Q := by
  rw [shape_c (d := d + 21) h.1.1 h.1.2]
  by_cases g : siB I c x = true
  · rw [if_pos g]
    exact hq _ _ _ _ _ (h.lo (LoF.rf.pa (by decide)).gr) Ext.rf (LoF.rf.pa (by decide)).gr.x (RuF.rf.p ⟨Or.inl (by decide), by decide⟩).gr (Or.inr ⟨g, rfl, rfl, rfl⟩)
  · rw [if_neg g]
    exact hq _ _ _ _ _ (h.no NoF.rf.re) Ext.rf NoF.rf.re.x RuF.rf.re (Or.inl ⟨Bool.eq_false_iff.mpr g, rfl, h.nx NoF.rf.re⟩)
theorem x_tongs {n : Int32} (h : XC S I R t) (hq : ∀ v S' I' L' R', XC S' I' R' (t + 1) → Ext S S' → OutX I I' → RuF I I' → (((n = 0 ∨ ¬ n &&& -1023 = 0) ∧ v = -1 ∧ NoX I R I' R') ∨ (¬ (n = 0 ∨ ¬ n &&& -1023 = 0) ∧ v = I 5 3 ∧ I' = graF (put I 5 3 n) ∧ R' = R)) → Q (.int v) S' I' L' R') : EvM (d + 24) 103 [.ref 4, .int n] S I L R Q := by
  rw [tongs_c (d := d + 22) h.1.1 h.1.2]
  by_cases g : n = 0 ∨ ¬ n &&& -1023 = 0
  · rw [if_pos g]
    exact hq _ _ _ _ _ (h.no NoF.rf.re) Ext.rf NoF.rf.re.x RuF.rf.re (Or.inl ⟨g, rfl, h.nx NoF.rf.re⟩)
  · rw [if_neg g]
    exact hq _ _ _ _ _ (h.lo (LoF.rf.p5 rfl).gr) Ext.rf (LoF.rf.p5 rfl).gr.x (RuF.rf.p (by decide)).gr (Or.inr ⟨g, rfl, rfl, rfl⟩)
theorem x_terms {w x : Int32} (h : XC S I R t) (hq : ∀ v S' I' L' R', XC S' I' R' (t + 1) → Ext S S' → OutX I I' → RuF I I' → ((teB I w x = false ∧ v = -1 ∧ NoX I R I' R') ∨ (teB I w x = true ∧ v = I 8 w.toNatClampNeg ∧ I' = graF (put I 8 w.toNatClampNeg x) ∧ R' = R)) → Q (.int v) S' I' L' R') : EvM (d + 24) 104 [.ref 4, .int w, .int x] S I L R Q := by
  rw [terms_c (d := d + 22) h.1.1 h.1.2]
  by_cases g : teB I w x = true
  · rw [if_pos g]
    exact hq _ _ _ _ _ (h.lo (LoF.rf.pa (by decide)).gr) Ext.rf (LoF.rf.pa (by decide)).gr.x (RuF.rf.p ⟨Or.inl (by decide), by decide⟩).gr (Or.inr ⟨g, rfl, rfl, rfl⟩)
  · rw [if_neg g]
    exact hq _ _ _ _ _ (h.no NoF.rf.re) Ext.rf NoF.rf.re.x RuF.rf.re (Or.inl ⟨Bool.eq_false_iff.mpr g, rfl, h.nx NoF.rf.re⟩)
/-- the TAPE alone has changed -/
theorem InvC.tape {J : mI} (h : InvC S I R) (f : ∀ a, ¬ a = 4 → ¬ a = 13 → (a < 14 ∨ 19 < a) → J a = I a) (et : Tl J) : InvC S J R := by
  obtain ⟨_, W, ⟨⟨c, c1, c2⟩, ⟨p, p1, p2⟩, _, _⟩, _, _⟩ := id h
  have f5 := f 5 (by decide) (by decide) (by decide)
  exact h.cg (fun a ha => f a (by omega) (by omega) (by omega)) ⟨c, c1, by rw [f5]; exact c2⟩ ⟨p, p1, by rw [f5]; exact p2⟩ (by rw [f5]) et
theorem x_feed {a b c e f : Int32} (h : XC S I R t) (hq : ∀ v S' I' L' R', XC S' I' R' (t + 1) → Ext S S' → OutX I I' → RuF I I' → ((400 < I 4 3 + 20 ∧ v = -1 ∧ NoX I R I' R') ∨ (¬ 400 < I 4 3 + 20 ∧ v = wrF (wrF (wrF (wrF (wrF I a) b) c) e) f 4 3 ∧ I' = wrF (wrF (wrF (wrF (wrF I a) b) c) e) f ∧ R' = R)) → Q (.int v) S' I' L' R') : EvM (d + 24) 105 [.ref 4, .int a, .int b, .int c, .int e, .int f] S I L R Q := by
  rw [feed_c (d := d + 22) h.1.1 h.1.2 h.2.1.1]
  by_cases g : 400 < I 4 3 + 20
  · rw [if_pos g]
    exact hq _ _ _ _ _ (h.no NoF.rf) Ext.rf NoF.rf.x RuF.rf (Or.inl ⟨g, rfl, h.nx NoF.rf⟩)
  · rw [if_neg g]
    have n : ∀ z, ¬ z = 4 → ¬ z = 13 → wrF (wrF (wrF (wrF (wrF I a) b) c) e) f z = I z := fun z h4 h13 => by rw [wrF_n h4 h13, wrF_n h4 h13, wrF_n h4 h13, wrF_n h4 h13, wrF_n h4 h13]
    exact hq _ _ _ _ _ (h.i (h.2.1.tape (fun a h1 h2 _ => n a h1 h2) h.2.1.1.wf.wf.wf.wf.wf)) Ext.rf (fun a ha => n a (by omega) (by omega)) (RuF.rf.al (fun a h1 h2 => n a (by omega) (by omega)) (by rw [wrF_6, wrF_6, wrF_6, wrF_6, wrF_6])) (Or.inr ⟨g, rfl, rfl, rfl⟩)
theorem x_end {n : Int32} (h : XC S I R t) (hq : ∀ v S' I' L' R', XC S' I' R' (t + 1) → Ext S S' → OutX I I' → RuF I I' → (((n < 0 ∨ I 4 3 < n) ∧ v = -1 ∧ NoX I R I' R') ∨ (¬ (n < 0 ∨ I 4 3 < n) ∧ v = n ∧ I' = put I 4 3 n ∧ R' = R)) → Q (.int v) S' I' L' R') : EvM (d + 24) 106 [.ref 4, .int n] S I L R Q := by
  rw [end_c (d := d + 23) h.1.1 h.1.2]
  by_cases g : n < 0 ∨ I 4 3 < n
  · rw [if_pos g]
    exact hq _ _ _ _ _ (h.no NoF.rf) Ext.rf NoF.rf.x RuF.rf (Or.inl ⟨g, rfl, h.nx NoF.rf⟩)
  · rw [if_neg g]
    obtain ⟨l, l1, l2⟩ := h.2.1.1
    have g1 : ¬ n.toInt < 0 := fun z => g (Or.inl (Int32.lt_iff_toInt_lt.mpr z))
    have g2 : ¬ (l : Int) < n.toInt := fun z => g (Or.inr (by rw [l2, Int32.lt_iff_toInt_lt, nI_toInt (by omega)]; exact z))
    have en : n = nI n.toInt.toNat := ti_nI (z := n.toInt) rfl (by omega) (by omega)
    exact hq _ _ _ _ _ (h.i (h.2.1.tape (fun a h1 _ _ => pt_n h1) ⟨n.toInt.toNat, by omega, by rw [pt_s]; exact en⟩)) Ext.rf (fun a ha => pt_n (by omega)) (RuF.rf.p (by decide)) (Or.inr ⟨g, rfl, rfl, rfl⟩)
theorem Tl0 {I : mI} (e : I 4 3 = 0) : Tl I := ⟨0, by decide, e⟩
theorem tk_x {J : mI} (h : XC S I R t) (f : NoF (put I 4 3 0) J) : KeX I R J R := ⟨⟨fun a ha => (f.1 a (by omega)).trans (pt_n (by omega)), fun k _ => by rw [f.1 5 (by decide), pt_n (by decide)], rfl, fun j y hj hy a a1 _ => by
  have := (h.2.1.img j y hj hy).2.1
  exact (f.1 a (by omega)).trans (pt_n (by omega))⟩, RcK.ex h ((f.1 14 (by decide)).trans (pt_n (by decide))) (by rw [f.1 5 (by decide), pt_n (by decide)]) (fun a ha => (f.1 a (by omega)).trans (pt_n (by omega)))⟩
theorem x_row (h : XC S I R t) (hq : ∀ v S' I' L' R', XC S' I' R' (t + 1) → Ext S S' → OutX I I' → RuF I I' → (∀ l, l ≤ 400 → I 4 3 = nI l → (((l = 0 ∨ I 5 0 < nI ((l + 3) / 4)) ∧ v = -6 ∧ KeX I R I' R' ∧ I' 4 3 = 0) ∨ (¬ l = 0 ∧ ¬ I 5 0 < nI ((l + 3) / 4) ∧ v = nI (l / 4) ∧ I' = graF (roL (l / 4) 5 0 (put I 4 3 0)) ∧ R' = R))) → Q (.int v) S' I' L' R') : EvM (d + 24) 107 [.ref 4] S I L R Q := by
  obtain ⟨l, l1, l2⟩ := h.2.1.1
  have h0 : InvC S (put I 4 3 0) R := h.2.1.tape (fun a h1 _ _ => pt_n h1) (Tl0 pt_s)
  have o0 : OutX I (put I 4 3 0) := fun a ha => pt_n (by omega)
  have un : ∀ l', l' ≤ 400 → I 4 3 = nI l' → l' = l := fun l' m1 e' => (nI_eq (by omega) (by omega)).mp (e'.symm.trans l2)
  refine row_c (d := d + 21) h.1.1 h.1.2 l1 l2 (fun z => ?_) (fun z1 z2 => ?_)
  · exact hq _ _ _ _ _ (h.i (h0.lo LoF.rf.re)) Ext.rf (fun a ha => (LoF.rf.re.x a ha).trans (o0 a ha)) (RuF.rf.p (by decide)).re (fun l' m1 e' => by
      obtain rfl := un l' m1 e'
      exact Or.inl ⟨z, rfl, tk_x h NoF.rf.re, NoF.rf.re.2.trans pt_s⟩)
  · have f : LoF (put I 4 3 0) (graF (roL (l / 4) 5 0 (put I 4 3 0))) := (LoF.rf.al (fun a ha => roL_n (by omega) _ _ _)).gr
    exact hq _ _ _ _ _ (h.i (h0.lo f)) Ext.rf (fun a ha => (f.x a ha).trans (o0 a ha)) (((RuF.rf.p (a := 4) (k := 3) (x := 0) (by decide)).al (fun a h1 h2 => roL_n (by omega) _ _ _) (by rw [roL_n (by decide)])).gr) (fun l' m1 e' => by
      obtain rfl := un l' m1 e'
      exact Or.inr ⟨z1, z2, rfl, rfl, rfl⟩)
/-- what recipe leaves -/
def RcO (I : mI) (R : mR) (I' : mI) (R' : mR) (r l : Nat) (v : Int32) : Prop := (r = 8 ∧ v = -5 ∧ KeX I R I' R') ∨ (r < 8 ∧ (undF (put I 4 3 0) 13 l).2 = false ∧ v = -6 ∧ I' 14 5 = (undF (put I 4 3 0) 13 l).1 14 5 ∧ I' 5 6 = I 5 6 ∧ R' = R ∧ ∀ a, 85 ≤ a → I' a = I a) ∨ (r < 8 ∧ (undF (put I 4 3 0) 13 l).2 = true ∧ v = nI r ∧ I' 14 5 = (undF (put I 4 3 0) 13 l).1 14 5 ∧ I' 5 6 = nI (r + 1) ∧ ∃ q n, 85 ≤ q ∧ R' 9 = va_up (R 9) r (some q) ∧ I' q 0 = nI n ∧ (∀ s, s ≤ 16 → (undF (put I 4 3 0) 13 l).1 14 4 = nI s → n = s) ∧ (∀ c, c ≤ 416 → (undF (put I 4 3 0) 13 l).1 14 1 = nI c → (∀ k, k < n → I' (q + 1) k = (undF (put I 4 3 0) 13 l).1 17 k) ∧ (∀ k, k ≤ n → I' (q + 2) k = (undF (put I 4 3 0) 13 l).1 16 k) ∧ ∀ k, k < c → I' (q + 3) k = (undF (put I 4 3 0) 13 l).1 15 k) ∧ (∀ j y, j < 2 → R 12 j = some y → R' (y + 4) = R (y + 4)) ∧ ∀ q, Rcp I R q → I' q = I q)
theorem x_recipe (h : XC S I R t) (hq : ∀ v S' I' L' R', XC S' I' R' (t + 1) → Ext S S' → OutX I I' → RuF I I' → (KeO I R I' R' ∧ I' 4 3 = 0 ∧ ∀ r l, r ≤ 8 → I 5 6 = nI r → l ≤ 400 → I 4 3 = nI l → RcO I R I' R' r l v) → Q (.int v) S' I' L' R') : EvM (d + 24) 108 [.ref 4] S I L R Q := by
  obtain ⟨⟨l, l1, l2⟩, W, ⟨⟨c, c1, c2⟩, ⟨p, p1, p2⟩, ⟨r, r1, r2, r3⟩, r4⟩, b, pl⟩ := id h.2.1
  have h85 := h.1.1.1
  have h0 : InvC S (put I 4 3 0) R := h.2.1.tape (fun a h1 _ _ => pt_n h1) (Tl0 pt_s)
  have uk := (und_k (I := put I 4 3 0) (t := 13) (len := l)).1
  have hu : InvC S (undF (put I 4 3 0) 13 l).1 R := h0.tape (fun a _ _ h3 => uk a h3) (Tl0 (by rw [uk 4 (by decide)]; exact pt_s))
  have o0 : OutX I (put I 4 3 0) := fun a ha => pt_n (by omega)
  have ou : OutX I (undF (put I 4 3 0) 13 l).1 := fun a ha => (uk a (by omega)).trans (o0 a ha)
  have un : ∀ r' l', r' ≤ 8 → I 5 6 = nI r' → l' ≤ 400 → I 4 3 = nI l' → r' = r ∧ l' = l := fun r' l' m1 m2 m3 m4 => ⟨(nI_eq (by omega) (by omega)).mp (m2.symm.trans r2), (nI_eq (by omega) (by omega)).mp (m4.symm.trans l2)⟩
  have rq := rcp_w ⟨⟨c, c1, c2⟩, ⟨p, p1, p2⟩, ⟨r, r1, r2, r3⟩, r4⟩ b
  refine recipe_c h.1.1 h.1.2 l1 l2 r1 r2 (fun z8 => ?_) (fun g8 gu => ?_) (fun g8 gu n m S' I' L' R' f0 fm fc f1 f2 f3 f4 f5 f6 f7 => ?_)
  · exact hq _ _ _ _ _ (h.i (h0.lo LoF.rf.re)) Ext.rf (fun a ha => (LoF.rf.re.x a ha).trans (o0 a ha)) (RuF.rf.p (by decide)).re ⟨(tk_x h NoF.rf.re).1, NoF.rf.re.2.trans pt_s, fun r' l' m1 m2 m3 m4 => by
      obtain ⟨rfl, rfl⟩ := un r' l' m1 m2 m3 m4
      exact Or.inl ⟨z8, rfl, tk_x h NoF.rf.re⟩⟩
  · have rf : NoF (undF (put I 4 3 0) 13 l).1 (refF (undF (put I 4 3 0) 13 l).1 (-6)) := NoF.rf.re
    have nn : ∀ a, (a ≤ 3 ∨ (5 ≤ a ∧ a ≤ 13) ∨ 54 ≤ a) → refF (undF (put I 4 3 0) 13 l).1 (-6) a = put I 4 3 0 a := fun a ha => (rf.1 a (by omega)).trans (uk a (by omega))
    have n43 : refF (undF (put I 4 3 0) 13 l).1 (-6) 4 3 = 0 := by rw [rf.2, uk 4 (by decide), pt_s]
    exact hq _ _ _ _ _ (h.i (hu.lo LoF.rf.re)) Ext.rf (fun a ha => (LoF.rf.re.x a ha).trans (ou a ha)) ((RuF.rf.al (fun a h1 h2 => (uk a (by omega)).trans (pt_n (by omega))) (by rw [uk 4 (by decide), pt_f (by decide)])).re) ⟨⟨fun a ha => (nn a (by omega)).trans (pt_n (by omega)), fun k _ => by rw [nn 5 (by decide), pt_n (by decide)], rfl, fun j y hj hy a a1 _ => by
      have := (h.2.1.img j y hj hy).2.1
      exact (nn a (by omega)).trans (pt_n (by omega))⟩, n43, fun r' l' m1 m2 m3 m4 => by
      obtain ⟨rfl, rfl⟩ := un r' l' m1 m2 m3 m4
      exact Or.inr (Or.inl ⟨g8, gu, rfl, by rw [rf.1 14 (by decide)], by rw [nn 5 (by decide), pt_n (by decide)], rfl, fun a ha => (nn a (by omega)).trans (pt_n (by omega))⟩)⟩
  · have ex : Ext S S' := ⟨by omega, f3⟩
    have k85 : ∀ a, 85 ≤ a → a < S.1 → graF (put I' 5 6 (nI (r + 1))) a = I a ∧ va_up R' 9 (va_up (R' 9) r (some S.1)) a = R a := fun a a1 a2 => by
      refine ⟨?_, ?_⟩
      · unfold graF
        rw [pt_n (by omega), pt_n (by omega), (f6 a a2).1, uk a (by omega), pt_n (by omega)]
      · rw [uu_n _ _ (by omega), (f6 a a2).2]
    have lo : ∀ a, a < 85 → (a < 14 ∨ 19 < a) → ¬ a = 4 → ¬ a = 5 → graF (put I' 5 6 (nI (r + 1))) a = I a := fun a a1 a2 a3 a4 => by
      unfold graF
      rw [pt_n a3, pt_n a4, (f6 a (by omega)).1, uk a a2, pt_n a3]
    have i5 : ∀ k, ¬ k = 6 → graF (put I' 5 6 (nI (r + 1))) 5 k = I 5 k := fun k hk => by
      unfold graF
      rw [pt_m (by decide), pt_f hk, (f6 5 (by omega)).1, uk 5 (by decide), pt_n (by decide)]
    have i56 : graF (put I' 5 6 (nI (r + 1))) 5 6 = nI (r + 1) := by
      unfold graF
      rw [pt_m (by decide), pt_s]
    have i43 : graF (put I' 5 6 (nI (r + 1))) 4 3 = 0 := by
      unfold graF
      rw [pt_f (by decide), pt_m (by decide), (f6 4 (by omega)).1, uk 4 (by decide), pt_s]
    have r9 : ∀ i, va_up R' 9 (va_up (R' 9) r (some S.1)) 9 i = if i = r then some S.1 else R 9 i := fun i => by
      rw [uu_s, up_is, (f6 9 (by omega)).2]
    have rS : va_up R' 9 (va_up (R' 9) r (some S.1)) S.1 = R' S.1 := uu_n _ _ (by omega)
    have rn : ∀ a, a < S.1 → ¬ a = 9 → va_up R' 9 (va_up (R' 9) r (some S.1)) a = R a := fun a a1 a2 => by rw [uu_n _ _ a2, (f6 a a1).2]
    have iS0 : graF (put I' 5 6 (nI (r + 1))) S.1 = I' S.1 := by
      unfold graF
      rw [pt_n (by omega), pt_n (by omega)]
    have iSk : ∀ j, 0 < j → graF (put I' 5 6 (nI (r + 1))) (S.1 + j) = I' (S.1 + j) := fun j _ => by
      unfold graF
      rw [pt_n (by omega), pt_n (by omega)]
    have hS' := Pm_ext h.1.1 ex.1 ex.2
    have hR' : Pr (va_up R' 9 (va_up (R' 9) r (some S.1))) := fun q hq => by
      rw [uu_n _ _ (pR9 q hq), (f6 q.1 (by have := pR85 q hq; omega)).2]
      exact h.1.2 q hq
    have kp : KpR S I R W (graF (put I' 5 6 (nI (r + 1)))) (va_up R' 9 (va_up (R' 9) r (some S.1))) ((fun a => if S.1 ≤ a then 6 else W a)) := fun q q1 q2 q3 => ⟨(k85 q q1 q2).1, (k85 q q1 q2).2, (if_neg (by omega)).trans q3⟩
    have kw : ∀ a, 85 ≤ a → a < S.1 → graF (put I' 5 6 (nI (r + 1))) a = I a ∧ va_up R' 9 (va_up (R' 9) r (some S.1)) a = R a ∧ (fun a => if S.1 ≤ a then 6 else W a) a = W a := fun a a1 a2 => ⟨(k85 a a1 a2).1, (k85 a a1 a2).2, if_neg (by omega)⟩
    refine hq _ _ _ _ _ ⟨⟨hS', hR'⟩, ⟨⟨0, by decide, i43⟩, (fun a => if S.1 ≤ a then 6 else W a), ⟨⟨c, c1, (i5 0 (by decide)).trans c2⟩, ⟨p, p1, (i5 9 (by decide)).trans p2⟩, ⟨r + 1, by omega, i56, fun i hi => ?_⟩, fun i q hi hq2 => ?_⟩, b.tr ex (fun j y _ hy => by rw [rn 12 (by omega) (by decide)] at hy; exact hy) (fun a a1 a2 _ => kw a a1 a2) kp, pl.tr ex (fun c P _ hP => by rw [rn 39 (by omega) (by decide)] at hP; exact hP) (fun a a1 a2 _ => kw a a1 a2)⟩, ?_⟩ ex (fun a ha => lo a (by omega) (by omega) (by omega) (by omega)) (RuF.rf.al (fun a h1 h2 => lo a (by omega) (by omega) (by omega) (by omega)) (by
      unfold graF
      rw [pt_f (by decide), pt_m (by decide), (f6 4 (by omega)).1, uk 4 (by decide), pt_f (by decide)])) ⟨⟨fun a ha => lo a (by omega) (by omega) (by omega) (by omega), i5, rn 12 (by omega) (by decide), fun j y hj hy a a1 a2 => (k85 a (by have := (b j y hj hy).2.1; omega) (by have := (b j y hj hy).1.top; omega)).1⟩, i43, fun r' l' m1 m2 m3 m4 => ?_⟩
    rotate_left 3
    · obtain ⟨rfl, rfl⟩ := un r' l' m1 m2 m3 m4
      refine Or.inr (Or.inr ⟨g8, gu, rfl, ?_, i56, S.1, n, h85, ?_, by rw [iS0]; exact f5, f0, fun x x1 x2 => by
        obtain rfl := fm x x1 x2
        rw [iSk 1 (by decide), iSk 2 (by decide), iSk 3 (by decide)]
        exact ⟨fc.1, fc.2.1, fc.2.2.1⟩, fun j y hj hy => rn (y + 4) (by have := (b j y hj hy).1.top; omega) (by have := (b j y hj hy).2.1; omega), fun q hq => (k85 q (rq q hq).1 (rq q hq).2.1).1⟩)
      · unfold graF
        rw [pt_n (by decide), pt_n (by decide), (f6 14 (by omega)).1]
      · refine funext (fun i => ?_)
        rw [r9, up_is]
    · by_cases z : i = r
      · subst z
        exact ⟨S.1, n, m, by rw [r9, if_pos rfl], f4.tr Ext.rf rS, by rw [iS0]; exact f5, h85, fun a a1 _ => if_pos a1, fun x x1 x2 => by rw [iSk 3 (by decide)]; exact fc.2.2.2 x x1 x2⟩
      · obtain ⟨q, n', m', q1, q2, q3, q4, q5, q6⟩ := r3 i (by omega)
        have h3 : q + 3 < S.1 := q2.2.2.2.1.1.1
        obtain ⟨e1, e2, _⟩ := kp q q4 q2.1.1 (q5 q (Nat.le_refl q) (by omega))
        exact ⟨q, n', m', by rw [r9, if_neg z]; exact q1, q2.tr ex e2, by rw [e1]; exact q3, q4, fun a a1 a2 => (kp a (by omega) (by omega) (q5 a a1 a2)).2.2, fun x x1 x2 => by rw [(kp (q + 3) (by omega) h3 (q5 (q + 3) (by omega) (by omega))).1]; exact q6 x x1 x2⟩
    · rw [r9] at hq2
      by_cases z : i = r
      · rw [if_pos z] at hq2
        cases hq2
        exact f4.1
      · rw [if_neg z] at hq2
        exact ex.ok (r4 i q hi hq2)
    · obtain ⟨m1, m2⟩ := h.2.2
      refine ⟨by omega, ?_⟩
      rw [rn 12 (by omega) (by decide), rn 39 (by omega) (by decide)]
      omega
theorem x_fault (h : XC S I R t) (hq : ∀ v S' I' L' R', XC S' I' R' (t + 1) → Ext S S' → OutX I I' → RuF I I' → NoX I R I' R' ∧ v = I 14 5 → Q (.int v) S' I' L' R') : EvM (d + 24) 109 [.ref 4] S I L R Q := by
  rw [fault_c (d := d + 23) h.1.1 h.1.2]
  exact hq _ _ _ _ _ (h.no NoF.rf) Ext.rf NoF.rf.x RuF.rf ⟨h.nx NoF.rf, rfl⟩
theorem x_steps {k : Int32} (h : XC S I R t) (hq : ∀ v S' I' L' R', XC S' I' R' (t + 1) → Ext S S' → OutX I I' → RuF I I' → NoX I R I' R' ∧ ((rcB I 5 k = false ∧ v = -1) ∨ (rcB I 5 k = true ∧ ∃ q, R 9 k.toNatClampNeg = some q ∧ v = I q 0)) → Q (.int v) S' I' L' R') : EvM (d + 24) 110 [.ref 4, .int k] S I L R Q :=
  steps_c (d := d + 22) h.1.1 h.1.2 h.2.1.rcs.1 (fun g => hq _ _ _ _ _ (h.no NoF.rf) Ext.rf NoF.rf.x RuF.rf ⟨h.nx NoF.rf, Or.inl ⟨g, rfl⟩⟩) (fun q n k1 k2 k3 m g e1 _ e3 => hq _ _ _ _ _ (h.no NoF.rf) Ext.rf NoF.rf.x RuF.rf ⟨h.nx NoF.rf, Or.inr ⟨g, q, e1, e3.symm⟩⟩)
/-- a RECIPE of the class: what a RUN of it wants to know -/
def RcX1 (I : mI) (R : mR) (k : Int32) (q n m : Nat) : Prop := R 9 k.toNatClampNeg = some q ∧ n ≤ 16 ∧ m ≤ 416 ∧ I q 0 = nI n ∧ 85 ≤ q ∧ ∀ x, m ≤ x → x < 416 → I (q + 3) x = 0
theorem XC.rx (h : XC S I R t) {k : Int32} {q n k1 k2 k3 m : Nat} (hk : rcB I 5 k = true) (hq : R 9 k.toNatClampNeg = some q) (hr : RecS S R q n k1 k2 k3 m) (e : I q 0 = nI n) : k1 = q + 1 ∧ k2 = q + 2 ∧ k3 = q + 3 ∧ RcX1 I R k q n m := by
  obtain ⟨a, b, c, e5, e6⟩ := h.2.1.rec hk hq hr
  exact ⟨a, b, c, hq, hr.2.2.2.2.1, hr.2.2.2.2.2, e, e5, e6⟩
theorem x_run {k : Int32} (h : XC S I R t) (hq : ∀ v S' I' L' R', XC S' I' R' (t + 1) → Ext S S' → OutX I I' → HdF I I' → NoX I R I' R' ∧ ((rcB I 5 k = false ∧ v = -2 ∧ RuF I I') ∨ (rcB I 5 k = true ∧ ∃ q n m, RcX1 I R k q n m ∧ v = nI (carF (put I 4 6 1) 20 5 n (q + 1) (q + 2) (q + 3) m (-1)).2 ∧ I' = graF (finF (carF (put I 4 6 1) 20 5 n (q + 1) (q + 2) (q + 3) m (-1)).1 20 5))) → Q (.int v) S' I' L' R') : EvM (d + 24) 111 [.ref 4, .int k] S I L R Q := by
  refine run_c (d := d + 17) h.1.1 h.1.2 h.2.1.rcs.1 (fun g => hq _ _ _ _ _ (h.no NoF.rf.re) Ext.rf NoF.rf.re.x RuF.rf.re.hd ⟨h.nx NoF.rf.re, Or.inl ⟨g, rfl, RuF.rf.re⟩⟩) (fun q n k1 k2 k3 m g0 g1 g2 g3 => ?_)
  obtain ⟨rfl, rfl, rfl, rx⟩ := h.rx g0 g1 g2 g3
  have f : NoF I (graF (finF (carF (put I 4 6 1) 20 5 n (q + 1) (q + 2) (q + 3) m (-1)).1 20 5)) := ((NoF.rf.p4 (k := 6) (x := 1) (by decide)).gu (Gu.ca Gu.rf) (by decide)).gr
  have fh : HdF I (graF (finF (carF (put I 4 6 1) 20 5 n (q + 1) (q + 2) (q + 3) m (-1)).1 20 5)) := (HdF.c20 (J := put I 4 6 1) ⟨fun z => (pt_m (by decide)).trans z, fun z => (pt_m (by decide)).trans z, fun z => (pt_m (by decide)).trans z⟩).al (fun a h1 h2 => pt_n (by omega))
  exact hq _ _ _ _ _ (h.no f) Ext.rf f.x fh ⟨h.nx f, Or.inr ⟨g0, q, n, m, rx, rfl, rfl⟩⟩
theorem x_came {k : Int32} (h : XC S I R t) (hq : ∀ v S' I' L' R', XC S' I' R' (t + 1) → Ext S S' → OutX I I' → RuF I I' → NoX I R I' R' → Q (.int v) S' I' L' R') : EvM (d + 24) 112 [.ref 4, .int k] S I L R Q := by
  rw [came_c (d := d + 23) h.1.1 h.1.2]
  split <;> exact hq _ _ _ _ _ (h.no NoF.rf) Ext.rf NoF.rf.x RuF.rf (h.nx NoF.rf)
theorem x_iron {k : Int32} (h : XC S I R t) (hq : ∀ v S' I' L' R', XC S' I' R' (t + 1) → Ext S S' → OutX I I' → RuF I I' → NoX I R I' R' → Q (.int v) S' I' L' R') : EvM (d + 24) 113 [.ref 4, .int k] S I L R Q := by
  rw [iron_c (d := d + 23) h.1.1 h.1.2]
  split <;> exact hq _ _ _ _ _ (h.no NoF.rf) Ext.rf NoF.rf.x RuF.rf (h.nx NoF.rf)
theorem x_welds {k : Int32} (h : XC S I R t) (hq : ∀ v S' I' L' R', XC S' I' R' (t + 1) → Ext S S' → OutX I I' → RuF I I' → NoX I R I' R' → Q (.long v) S' I' L' R') : EvM (d + 24) 114 [.ref 4, .int k] S I L R Q := by
  rw [welds_c (d := d + 21) h.1.1 h.1.2]
  split <;> exact hq _ _ _ _ _ (h.no NoF.rf) Ext.rf NoF.rf.x RuF.rf (h.nx NoF.rf)
theorem x_change {k i : Int32} (h : XC S I R t) (hq : ∀ v S' I' L' R', XC S' I' R' (t + 1) → Ext S S' → OutX I I' → RuF I I' → NoX I R I' R' ∧ ((v = -1 ∧ ∀ q n m, rcB I 5 k = true → RcX1 I R k q n m → ¬ (¬ i < 0 ∧ i < nI n - 1)) ∨ ∃ q n m, rcB I 5 k = true ∧ RcX1 I R k q n m ∧ ¬ i < 0 ∧ i < nI n - 1 ∧ v = bI (likF (cgK I n (q + 1) (q + 2) (q + 3) m i) 26 32)) → Q (.int v) S' I' L' R') : EvM (d + 24) 119 [.ref 4, .int k, .int i] S I L R Q := by
  have hrc := h.2.1.rcs.1
  refine change_c3 (d := d + 17) h.1.1 h.1.2 hrc (fun g => hq _ _ _ _ _ (h.no NoF.rf) Ext.rf NoF.rf.x RuF.rf ⟨h.nx NoF.rf, Or.inl ⟨rfl, fun q n m g0 rx => ?_⟩⟩) (fun q n k1 k2 k3 m g0 g1 g2 g3 g4 g5 => ?_)
  · exact fun z => g q n g0 rx.1 rx.2.2.2.1 z.1 z.2
  · obtain ⟨rfl, rfl, rfl, rx⟩ := h.rx g0 g1 g2 g3
    have f : NoF I (cgK I n (q + 1) (q + 2) (q + 3) m i) := ((NoF.rf.gu (Gu.ca Gu.rf) (u := 32) (by decide)).gu (Gu.ca Gu.rf) (u := 26) (by decide))
    have fr : RuF I (cgK I n (q + 1) (q + 2) (q + 3) m i) := (RuF.rf.c32).c26
    exact hq _ _ _ _ _ (h.no f) Ext.rf f.x fr ⟨h.nx f, Or.inr ⟨q, n, m, g0, rx, g4, g5, rfl⟩⟩
theorem x_made {x y w : Int32} (h : XC S I R t) (hq : ∀ v S' I' L' R', XC S' I' R' (t + 1) → Ext S S' → OutX I I' → RuF I I' → NoX I R I' R' ∧ (∀ c r, c ≤ 5 → I 5 0 = nI c → r ≤ 8 → I 5 6 = nI r → ((¬ (y &&& ((1 <<< (I 5 0 &&& 31) - 1) ^^^ -1) = 0 ∧ w &&& ((1 <<< (I 5 0 &&& 31) - 1) ^^^ -1) = 0 ∧ tbL (nI c) 5 0 x = true) ∧ v = -1) ∨ (y &&& ((1 <<< (I 5 0 &&& 31) - 1) ^^^ -1) = 0 ∧ w &&& ((1 <<< (I 5 0 &&& 31) - 1) ^^^ -1) = 0 ∧ tbL (nI c) 5 0 x = true ∧ MdS S R x y w r 0 0 I v I'))) → Q (.int v) S' I' L' R') : EvM (d + 24) 120 [.ref 4, .int x, .int y, .int w] S I L R Q := by
  obtain ⟨_, W, ⟨⟨c, c1, c2⟩, _, ⟨r, r1, r2, _⟩, _⟩, _, _⟩ := id h.2.1
  have un : ∀ c' r', c' ≤ 5 → I 5 0 = nI c' → r' ≤ 8 → I 5 6 = nI r' → c' = c ∧ r' = r := fun c' r' m1 m2 m3 m4 => ⟨(nI_eq (by omega) (by omega)).mp (m2.symm.trans c2), (nI_eq (by omega) (by omega)).mp (m4.symm.trans r2)⟩
  refine made_e (d := d + 17) h.1.1 h.1.2 r1 h.2.1.rcs.1 r2 c2 (by omega) (fun g => hq _ _ _ _ _ (h.no NoF.rf) Ext.rf NoF.rf.x RuF.rf ⟨h.nx NoF.rf, fun c' r' m1 m2 m3 m4 => ?_⟩) (fun g1 g2 g3 v J k => ?_)
  · obtain ⟨rfl, rfl⟩ := un c' r' m1 m2 m3 m4
    exact Or.inl ⟨g, rfl⟩
  · obtain ⟨k1, k2⟩ := MdS.gu _ _ _ _ _ _ k
    have f : NoF I J := NoF.rf.gu k1 (by decide)
    exact hq _ _ _ _ _ (h.no f) Ext.rf f.x (RuF.rf.u26 (fun a a1 _ => k1 a a1) (fun z => k2.trans z)) ⟨h.nx f, fun c' r' m1 m2 m3 m4 => by
      obtain ⟨rfl, rfl⟩ := un c' r' m1 m2 m3 m4
      exact Or.inr ⟨g1, g2, g3, k⟩⟩
theorem x_twelve {k x y w : Int32} (h : XC S I R t) (hq : ∀ v S' I' L' R', XC S' I' R' (t + 1) → Ext S S' → OutX I I' → RuF I I' → NoX I R I' R' ∧ (((rcB I 5 k = false ∨ ¬ twB x y w) ∧ v = -1) ∨ (rcB I 5 k = true ∧ twB x y w ∧ ∃ q n m, RcX1 I R k q n m ∧ v = twV n (q + 1) (q + 2) (q + 3) m (twH n (q + 1) (q + 2) (q + 3) m I x y) w)) → Q (.int v) S' I' L' R') : EvM (d + 24) 121 [.ref 4, .int k, .int x, .int y, .int w] S I L R Q := by
  refine twelve_e (d := d + 16) h.1.1 h.1.2 h.2.1.rcs.1 (fun g => hq _ _ _ _ _ (h.no NoF.rf) Ext.rf NoF.rf.x RuF.rf ⟨h.nx NoF.rf, Or.inl ⟨g, rfl⟩⟩) (fun q n k1 k2 k3 m g0 g1 g2 g3 g4 _ => ?_)
  obtain ⟨rfl, rfl, rfl, rx⟩ := h.rx g0 g2 g3 g4
  have g : Gt I (twJ n (q + 1) (q + 2) (q + 3) m (twH n (q + 1) (q + 2) (q + 3) m I x y) w) := twJ_g
  have f : NoF I (twJ n (q + 1) (q + 2) (q + 3) m (twH n (q + 1) (q + 2) (q + 3) m I x y) w) := NoF.rf.al (fun a ha => g a (by omega) (by omega))
  exact hq _ _ _ _ _ (h.no f) Ext.rf f.x (RuF.rf.u26 g (fun _ => twJ_9)) ⟨h.nx f, Or.inr ⟨g0, g1, q, n, m, rx, rfl⟩⟩
theorem x_piece {x y : Int32} (h : XC S I R t) (hq : ∀ v S' I' L' R', XC S' I' R' (t + 1) → Ext S S' → OutX I I' → RuF I I' → (∀ p, p ≤ 8 → I 5 9 = nI p → (((x < 1 ∨ 200 < x) ∧ v = -1 ∧ NoX I R I' R') ∨ (¬ (x < 1 ∨ 200 < x) ∧ (y < -1 ∨ ¬ y < nI p) ∧ v = -2 ∧ NoX I R I' R') ∨ (¬ (x < 1 ∨ 200 < x) ∧ ¬ (y < -1 ∨ ¬ y < nI p) ∧ p = 8 ∧ v = -5 ∧ NoX I R I' R') ∨ (¬ (x < 1 ∨ 200 < x) ∧ ¬ (y < -1 ∨ ¬ y < nI p) ∧ p < 8 ∧ v = nI p ∧ I' = piF I x y ∧ R' = R))) → Q (.int v) S' I' L' R') : EvM (d + 24) 122 [.ref 4, .int x, .int y] S I L R Q := by
  obtain ⟨⟨l, l1, l2⟩, W, ⟨⟨c, c1, c2⟩, ⟨p, p1, p2⟩, _, _⟩, _, _⟩ := id h.2.1
  rw [piece_c (d := d + 21) h.1.1 h.1.2 (by rw [p2]; exact nI_pos (by omega))]
  by_cases g1 : x < 1 ∨ 200 < x
  · rw [if_pos g1]
    exact hq _ _ _ _ _ (h.no NoF.rf.re) Ext.rf NoF.rf.re.x RuF.rf.re (fun p' m1 e' => Or.inl ⟨g1, rfl, h.nx NoF.rf.re⟩)
  rw [if_neg g1]
  by_cases g2 : y < -1 ∨ ¬ y < I 5 9
  · rw [if_pos g2]
    exact hq _ _ _ _ _ (h.no NoF.rf.re) Ext.rf NoF.rf.re.x RuF.rf.re (fun p' m1 e' => Or.inr (Or.inl ⟨g1, by rw [e'] at g2; exact g2, rfl, h.nx NoF.rf.re⟩))
  rw [if_neg g2]
  by_cases g3 : I 5 9 < 8
  · rw [if_pos g3]
    have p8 : p < 8 := by
      rw [p2] at g3
      exact Classical.byContradiction (fun z => absurd g3 (nI_nlt (a := p) (b := 8) (by omega) (by omega)))
    have f : ∀ a, ¬ a = 4 → ¬ a = 5 → ¬ a = 10 → ¬ a = 11 → ¬ a = 47 → piF I x y a = I a := fun a h4 h5 h10 h11 h47 => by
      unfold piF graF filF
      rw [pt_n h4, uu_n _ _ h47, pt_n h5, pt_n h11, pt_n h10]
    have f5 : ∀ k, ¬ k = 9 → piF I x y 5 k = I 5 k := fun k hk => by
      unfold piF graF filF
      rw [pt_m (by decide), uu_n _ _ (by decide), pt_f hk, pt_m (by decide), pt_m (by decide)]
    have f59 : piF I x y 5 9 = nI (p + 1) := by
      unfold piF graF filF
      rw [pt_m (by decide), uu_n _ _ (by decide), pt_s, p2, nI_1]
    have f4 : piF I x y 4 3 = I 4 3 := by
      unfold piF graF filF
      rw [pt_f (by decide), uu_n _ _ (by decide), pt_n (by decide), pt_n (by decide), pt_n (by decide)]
    exact hq _ _ _ _ _ (h.i (h.2.1.cg (fun a ha => f a (by omega) (by omega) (by omega) (by omega) (by omega)) ⟨c, c1, (f5 0 (by decide)).trans c2⟩ ⟨p + 1, by omega, f59⟩ (f5 6 (by decide)) ⟨l, l1, f4.trans l2⟩)) Ext.rf (fun a ha => f a (by omega) (by omega) (by omega) (by omega) (by omega)) (RuF.rf.al (fun a h1 h2 => f a (by omega) (by omega) (by omega) (by omega) (by omega)) (by
      unfold piF graF filF
      rw [pt_f (by decide), uu_n _ _ (by decide), pt_n (by decide), pt_n (by decide), pt_n (by decide)])) (fun p' m1 e' => by
      obtain rfl : p' = p := (nI_eq (by omega) (by omega)).mp (e'.symm.trans p2)
      exact Or.inr (Or.inr (Or.inr ⟨g1, by rw [p2] at g2; exact g2, p8, p2, rfl, rfl⟩)))
  · rw [if_neg g3]
    exact hq _ _ _ _ _ (h.no NoF.rf.re) Ext.rf NoF.rf.re.x RuF.rf.re (fun p' m1 e' => by
      obtain rfl : p' = p := (nI_eq (by omega) (by omega)).mp (e'.symm.trans p2)
      refine Or.inr (Or.inr (Or.inl ⟨g1, by rw [p2] at g2; exact g2, ?_, rfl, h.nx NoF.rf.re⟩))
      refine Classical.byContradiction (fun z => g3 ?_)
      rw [p2]
      exact nI_lt (a := p') (b := 8) (by omega) (by decide))
theorem x_soonest {x w : Int32} (h : XC S I R t) (hq : ∀ v S' I' L' R', XC S' I' R' (t + 1) → Ext S S' → OutX I I' → RuF I I' → NoX I R I' R' → Q (.int v) S' I' L' R') : EvM (d + 24) 123 [.ref 4, .int x, .int w] S I L R Q := by
  obtain ⟨_, W, ⟨_, ⟨p, p1, p2⟩, _, _⟩, _, _⟩ := id h.2.1
  refine soonest_c (d := d + 10) h.1.1 h.1.2 p1 p2 (fun v J g => ?_)
  have f : NoF I J := NoF.rf.al (fun a ha => g a (by omega))
  exact hq _ _ _ _ _ (h.no f) Ext.rf f.x (RuF.rf.al (fun a h1 h2 => g a (by omega)) (by rw [g 4 (by omega)])) (h.nx f)
theorem x_count {w : Int32} (h : XC S I R t) (hq : ∀ v S' I' L' R', XC S' I' R' (t + 1) → Ext S S' → OutX I I' → RuF I I' → NoX I R I' R' → Q (.int v) S' I' L' R') : EvM (d + 24) 127 [.ref 4, .int w] S I L R Q := by
  rw [count_c (d := d + 22) h.1.1 h.1.2]
  exact hq _ _ _ _ _ (h.no NoF.rf) Ext.rf NoF.rf.x RuF.rf (h.nx NoF.rf)
theorem x_status (h : XC S I R t) (hq : ∀ v S' I' L' R', XC S' I' R' (t + 1) → Ext S S' → OutX I I' → RuF I I' → NoX I R I' R' → Q (.int v) S' I' L' R') : EvM (d + 24) 128 [.ref 4] S I L R Q := by
  rw [status_c (d := d + 23) h.1.1 h.1.2]
  exact hq _ _ _ _ _ (h.no NoF.rf) Ext.rf NoF.rf.x RuF.rf (h.nx NoF.rf)
end XA
