/-! group B: the reader's small methods while no FAULT has come; what a FAULT leaves as it is -/
def TkO (T P : Nat → Int32) (m : Nat) : Prop := m ≤ 400 ∧ T m = -1 ∧ (∀ j, j < m → ¬ T j = -1) ∧ ∀ j, j ≤ m → ¬ P j = -1
def Cst (T P : Nat → Int32) (m : Nat) (C : mI) (i n o c : Nat) : Prop := C 18 = T ∧ C 19 = P ∧ C 14 5 = -1 ∧ C 14 8 = nI i ∧ C 14 9 = nI n ∧ C 14 10 = nI o ∧ C 14 1 = nI c ∧ c ≤ i ∧ i ≤ m ∧ n ≤ 60 ∧ o ≤ 8
def Clo (V : mI → Prop) : Prop := (∀ J k x, V J → (¬ k = 5 ∨ J 14 5 = -1) → V (put J 14 k x)) ∧ ∀ J k x, V J → V (put J 15 k x)
section CO
variable {V : mI → Prop} {J : mI} {w x : Int32}
theorem Clo.n5 (h : Clo V) {k : Nat} (g : V J) (hk : ¬ k = 5) : V (put J 14 k x) := h.1 J k x g (Or.inl hk)
theorem Clo.ad (h : Clo V) (g : V J) : V (advF J) := h.n5 g (by decide)
theorem Clo.de (h : Clo V) (g : V J) : V (decB J) := h.n5 g (by decide)
theorem Clo.fl (h : Clo V) (r : rokB J = true) (g : V J) : V (put J 14 5 x) := h.1 J 5 x g (Or.inr (rok_is r).1)
theorem Clo.fa (h : Clo V) (g : V J) : V (faiF J) := by
  unfold faiF
  split
  · exact h.fl (by assumption) g
  · exact g
theorem Clo.co (h : Clo V) {k : Nat} {y : Int32} (g : V J) : V (put (put J 15 k w) 14 1 y) := h.n5 (h.2 _ _ _ g) (by decide)
theorem Clo.em (h : Clo V) (g : V J) : V (emiF J w) := by
  unfold emiF
  split
  · exact h.co g
  · exact g
theorem Clo.ta (h : Clo V) (g : V J) : V (takF J w) := by
  unfold takF
  split
  · rename_i r
    split
    · exact h.ad g
    · exact h.fl r g
  · exact g
theorem Clo.en (h : Clo V) (g : V J) : V (entF J w) := by
  unfold entF
  split
  · rename_i r
    split
    · exact h.ad (h.n5 g (by decide))
    · exact h.fl r g
  · exact g
theorem Clo.nu (h : Clo V) (g : V J) : V (numF J w) := by
  unfold numF
  split
  · rename_i r
    split
    · exact h.fl r g
    · exact h.ad (h.co g)
  · exact g
theorem Clo.pj (h : Clo V) (g : V J) : V (paJ J) := by
  unfold paJ
  split
  · exact g
  · exact h.fa g
theorem Clo.pk (h : Clo V) (g : V J) : V (paK J) := h.n5 (h.pj g) (by decide)
theorem Clo.su (h : Clo V) {p : mI → mI} (hp : ∀ I, V I → V (p I)) : ∀ (n : Nat) (I : mI), V I → V (sumL p n I)
  | 0, _, g => g
  | n + 1, I, g => by
    unfold sumL
    split
    · exact h.su hp n _ (h.em (hp _ (h.ad g)))
    · split
      · exact h.su hp n _ (h.em (hp _ (h.ad g)))
      · exact g
theorem Clo.sf (h : Clo V) {p : mI → mI} (hp : ∀ I, V I → V (p I)) (I : mI) (g : V I) : V (sumF p I) := h.su hp 400 _ (hp _ g)
theorem Clo.pt (h : Clo V) {s : mI → mI} (hs : ∀ I, V I → V (s I)) (g : V J) : V (partK s J w) := by
  unfold partK
  split
  · split
    · exact h.ta (h.de (hs _ (h.en g)))
    · exact h.en g
  · split
    · split
      · exact h.em (h.ta (h.de (hs _ (h.en (h.ad g)))))
      · exact h.en (h.ad g)
    · split
      · exact h.nu g
      · split
        · exact h.nu g
        · exact h.em (h.ad g)
theorem Clo.pg (h : Clo V) {s : mI → mI} (hs : ∀ I, V I → V (s I)) (I : mI) (g : V I) : V (partG s I) := by
  unfold partG
  split
  · exact h.pt hs (h.pk g)
  · exact h.pj g
theorem Clo.pf (h : Clo V) : ∀ (b : Nat) (I : mI), V I → V (partF b I)
  | 0, I, g => h.pg (fun _ z => z) I g
  | b + 1, I, g => h.pg (h.sf (h.pf b)) I g
theorem Clo.no (h : Clo V) : ∀ (n : Nat) (I : mI) (t : Bool), V I → V (notL n I t).1
  | 0, _, _, g => g
  | n + 1, I, t, g => by
    unfold notL
    split
    · exact h.no n _ _ (h.ad g)
    · exact g
theorem Clo.pl (h : Clo V) {t s : mI → mI} (ht : ∀ I, V I → V (t I)) (hs : ∀ I, V I → V (s I)) (I : mI) (g : V I) : V (plainK t s I) := by
  unfold plainK
  split
  · split
    · exact h.ta (h.de (ht _ (h.en g)))
    · exact h.en g
  · exact h.em (hs _ (h.ta (hs _ g)))
theorem Clo.pG (h : Clo V) {t s : mI → mI} (ht : ∀ I, V I → V (t I)) (hs : ∀ I, V I → V (s I)) (I : mI) (g : V I) : V (plainG t s I) := by
  unfold plainG
  split
  · exact h.em (h.pl ht hs _ (h.no _ _ _ g))
  · exact h.pl ht hs _ (h.no _ _ _ g)
theorem Clo.an (h : Clo V) {p : mI → mI} (hp : ∀ I, V I → V (p I)) : ∀ (n : Nat) (I : mI), V I → V (andL p n I)
  | 0, _, g => g
  | n + 1, I, g => by
    unfold andL
    split
    · exact h.an hp n _ (h.em (hp _ (h.ad g)))
    · exact g
theorem Clo.oK (h : Clo V) {p : mI → mI} (hp : ∀ I, V I → V (p I)) (i : Nat) (I : mI) (g : V I) : V (orK p i I) := by
  unfold orK
  split
  · exact h.em (h.an hp _ _ (hp _ g))
  · exact h.an hp _ _ (hp _ g)
theorem Clo.ol (h : Clo V) {p : mI → mI} (hp : ∀ I, V I → V (p I)) : ∀ (n i : Nat) (I : mI), V I → V (orL p n i I)
  | 0, _, _, g => g
  | n + 1, i, I, g => by
    unfold orL
    split
    · exact h.ol hp n _ _ (h.ad (h.oK hp i I g))
    · exact h.n5 (h.oK hp i I g) (by decide)
theorem Clo.te (h : Clo V) {p : mI → mI} (hp : ∀ I, V I → V (p I)) (I : mI) (g : V I) : V (testF p I) := h.ol hp 400 0 I g
theorem Clo.pF (h : Clo V) : ∀ (b : Nat) (I : mI), V I → V (plainF b I)
  | 0, I, g => h.pG (fun _ z => z) (h.sf (h.pf 0)) I g
  | b + 1, I, g => h.pG (h.te (h.pF b)) (h.sf (h.pf (b + 1))) I g
/-- a FAULT stands -/
def Fl (x : Int32) (J : mI) : Prop := J 14 5 = x
theorem Fl.cl (hx : ¬ x = -1) : Clo (Fl x) := ⟨fun J k y g h => by
  rcases h with h | h
  · exact (pt_f (by omega)).trans g
  · exact absurd (g.symm.trans h) hx, fun J k y g => (pt_m (by decide)).trans g⟩
end CO
section CS
variable {T P : Nat → Int32} {m i n o c : Nat} {C : mI} {w : Int32}
theorem Cst.rok (h : Cst T P m C i n o c) (hT : TkO T P m) : rokB C = true := by
  obtain ⟨h18, h19, h5, h8, h9, h10, h1, hc, hi, hn, ho⟩ := h
  have hm := hT.1
  unfold rokB
  rw [h5, h8]
  exact decide_eq_true ⟨rfl, nI_pos (by omega), nI_lt (a := i) (b := 401) (by omega) (by decide)⟩
theorem Cst.tkn (h : Cst T P m C i n o c) (hT : TkO T P m) : tok C = T i := by
  obtain ⟨h18, h19, h5, h8, h9, h10, h1, hc, hi, hn, ho⟩ := h
  have hm := hT.1
  unfold tok
  rw [h8, nI_clamp (by omega), h18]
theorem Cst.plx (h : Cst T P m C i n o c) (hT : TkO T P m) : plc C = P i := by
  obtain ⟨h18, h19, h5, h8, h9, h10, h1, hc, hi, hn, ho⟩ := h
  have hm := hT.1
  unfold plc
  rw [h8, nI_clamp (by omega), h19]
theorem Cst.sy (h : Cst T P m C i n o c) (hT : TkO T P m) (g : T i = w) : seeB C w = true := by
  unfold seeB
  exact decide_eq_true ⟨h.rok hT, (h.tkn hT).trans g⟩
theorem Cst.sn (h : Cst T P m C i n o c) (hT : TkO T P m) (g : ¬ T i = w) : ¬ seeB C w = true := by
  unfold seeB
  rw [decide_eq_true_iff]
  exact fun z => g ((h.tkn hT).symm.trans z.2)
theorem Cst.now (h : Cst T P m C i n o c) (hT : TkO T P m) : nowF C = T i := by
  unfold nowF
  rw [if_pos (h.rok hT), h.tkn hT]
theorem Cst.il (h : Cst T P m C i n o c) (hT : TkO T P m) (g : ¬ T i = -1) : i < m := by
  have hi : i ≤ m := h.2.2.2.2.2.2.2.2.1
  have q : ¬ i = m := fun z => g (by rw [z]; exact hT.2.1)
  omega
theorem Cst.le (h : Cst T P m C i n o c) : c ≤ i ∧ i ≤ m ∧ n ≤ 60 ∧ o ≤ 8 := h.2.2.2.2.2.2.2
theorem Cst.ad (h : Cst T P m C i n o c) (hT : TkO T P m) (g : ¬ T i = -1) : Cst T P m (advF C) (i + 1) n o c := by
  have hl := h.il hT g
  obtain ⟨h18, h19, h5, h8, h9, h10, h1, hc, hi, hn, ho⟩ := h
  unfold advF
  exact ⟨(pt_n (by decide)).trans h18, (pt_n (by decide)).trans h19, (pt_f (by decide)).trans h5, by rw [pt_s, h8, nI_1], (pt_f (by decide)).trans h9, (pt_f (by decide)).trans h10, (pt_f (by decide)).trans h1, by omega, by omega, hn, ho⟩
theorem Cst.fa (h : Cst T P m C i n o c) (hT : TkO T P m) : faiF C 14 5 = P i := by
  unfold faiF
  rw [if_pos (h.rok hT), pt_s, h.plx hT]
theorem Cst.ty (h : Cst T P m C i n o c) (hT : TkO T P m) (g : T i = w) : takF C w = advF C := by
  unfold takF
  rw [if_pos (h.rok hT), if_pos ((h.tkn hT).trans g)]
theorem Cst.tn (h : Cst T P m C i n o c) (hT : TkO T P m) (g : ¬ T i = w) : takF C w 14 5 = P i := by
  unfold takF
  rw [if_pos (h.rok hT), if_neg (fun z => g ((h.tkn hT).symm.trans z)), pt_s, h.plx hT]
theorem Cst.em (h : Cst T P m C i n o c) (hT : TkO T P m) (hl : c + 1 ≤ i) : Cst T P m (emiF C w) i n o (c + 1) := by
  obtain ⟨h18, h19, h5, h8, h9, h10, h1, hc, hi, hn, ho⟩ := h
  have hm := hT.1
  unfold emiF
  rw [if_pos (by rw [h1]; exact nI_lt (a := c) (b := 416) (by omega) (by decide))]
  exact ⟨(pt_n (by decide)).trans ((pt_n (by decide)).trans h18), (pt_n (by decide)).trans ((pt_n (by decide)).trans h19), (pt_f (by decide)).trans ((pt_m (by decide)).trans h5), (pt_f (by decide)).trans ((pt_m (by decide)).trans h8), (pt_f (by decide)).trans ((pt_m (by decide)).trans h9), (pt_f (by decide)).trans ((pt_m (by decide)).trans h10), by rw [pt_s, h1, nI_1], by omega, hi, hn, ho⟩
theorem Cst.nn (h : Cst T P m C i n o c) (hT : TkO T P m) (g : T i < 0 ∨ w < T i) : numF C w 14 5 = P i := by
  unfold numF
  rw [if_pos (h.rok hT), if_pos (by rw [h.tkn hT]; rcases g with g | g; exact Or.inl g; exact Or.inr (Or.inl g)), pt_s, h.plx hT]
theorem Cst.ny (h : Cst T P m C i n o c) (hT : TkO T P m) (g1 : ¬ T i < 0) (g2 : ¬ w < T i) : Cst T P m (numF C w) (i + 1) n o (c + 1) := by
  have t1 : ¬ T i = -1 := fun z => g1 (by rw [z]; decide)
  have hl := h.il hT t1
  have hm := hT.1
  have hr := h.rok hT
  have ht := h.tkn hT
  obtain ⟨h18, h19, h5, h8, h9, h10, h1, hc, hi, hn, ho⟩ := h
  have g3 : ¬ (tok C < 0 ∨ w < tok C ∨ ¬ C 14 1 < 416) := by
    rw [ht, h1]
    intro z
    rcases z with z | z | z
    · exact g1 z
    · exact g2 z
    · exact z (nI_lt (a := c) (b := 416) (by omega) (by decide))
  unfold numF
  rw [if_pos hr, if_neg g3]
  unfold advF
  refine ⟨(pt_n (by decide)).trans ((pt_n (by decide)).trans ((pt_n (by decide)).trans h18)), (pt_n (by decide)).trans ((pt_n (by decide)).trans ((pt_n (by decide)).trans h19)), (pt_f (by decide)).trans ((pt_f (by decide)).trans ((pt_m (by decide)).trans h5)), ?_, (pt_f (by decide)).trans ((pt_f (by decide)).trans ((pt_m (by decide)).trans h9)), (pt_f (by decide)).trans ((pt_f (by decide)).trans ((pt_m (by decide)).trans h10)), ?_, by omega, by omega, hn, ho⟩
  · rw [pt_s, pt_f (by decide), pt_m (by decide), h8, nI_1]
  · rw [pt_f (by decide), pt_s, h1, nI_1]
theorem Cst.o8 (h : Cst T P m C i n o c) : (C 14 10 < 8) = (o < 8) := by
  obtain ⟨h18, h19, h5, h8, h9, h10, h1, hc, hi, hn, ho⟩ := h
  rw [h10]
  by_cases g : o < 8
  · rw [eq_true g]
    exact eq_true (nI_lt (a := o) (b := 8) g (by decide))
  · rw [eq_false g]
    exact eq_false (nI_nlt (a := o) (b := 8) (by omega) (by omega))
theorem Cst.ey (h : Cst T P m C i n o c) (hT : TkO T P m) (g : T i = -100 - w) (t1 : ¬ T i = -1) (go : o < 8) : entB C w = true ∧ Cst T P m (entF C w) (i + 1) n (o + 1) c := by
  have hb : entB C w = true := by
    unfold entB
    exact decide_eq_true ⟨h.rok hT, (h.tkn hT).trans g, by rw [h.o8]; exact go⟩
  refine ⟨hb, ?_⟩
  rw [(ent_is hb).1]
  have hl := h.il hT t1
  obtain ⟨h18, h19, h5, h8, h9, h10, h1, hc, hi, hn, ho⟩ := h
  unfold advF
  refine ⟨(pt_n (by decide)).trans ((pt_n (by decide)).trans h18), (pt_n (by decide)).trans ((pt_n (by decide)).trans h19), (pt_f (by decide)).trans ((pt_f (by decide)).trans h5), ?_, (pt_f (by decide)).trans ((pt_f (by decide)).trans h9), ?_, (pt_f (by decide)).trans ((pt_f (by decide)).trans h1), by omega, by omega, hn, by omega⟩
  · rw [pt_s, pt_f (by decide), h8, nI_1]
  · rw [pt_f (by decide), pt_s, h10, nI_1]
theorem Cst.en (h : Cst T P m C i n o c) (hT : TkO T P m) (g : ¬ (T i = -100 - w ∧ o < 8)) : ¬ entB C w = true ∧ entF C w 14 5 = P i := by
  have q : ¬ (tok C = -100 - w ∧ C 14 10 < 8) := by
    rw [h.tkn hT, h.o8]
    exact g
  constructor
  · unfold entB
    rw [decide_eq_true_iff]
    exact fun z => q z.2
  · unfold entF
    rw [if_pos (h.rok hT), if_neg q, pt_s, h.plx hT]
theorem Cst.de (h : Cst T P m C i n (o + 1) c) : Cst T P m (decB C) i n o c := by
  obtain ⟨h18, h19, h5, h8, h9, h10, h1, hc, hi, hn, ho⟩ := h
  unfold decB
  exact ⟨(pt_n (by decide)).trans h18, (pt_n (by decide)).trans h19, (pt_f (by decide)).trans h5, (pt_f (by decide)).trans h8, (pt_f (by decide)).trans h9, by rw [pt_s, h10, nI_m1], (pt_f (by decide)).trans h1, hc, hi, hn, by omega⟩
theorem Cst.pa (h : Cst T P m C i n o c) (g : n < 60) : Cst T P m (put C 14 9 (C 14 9 + 1)) i (n + 1) o c := by
  obtain ⟨h18, h19, h5, h8, h9, h10, h1, hc, hi, hn, ho⟩ := h
  exact ⟨(pt_n (by decide)).trans h18, (pt_n (by decide)).trans h19, (pt_f (by decide)).trans h5, (pt_f (by decide)).trans h8, by rw [pt_s, h9, nI_1], (pt_f (by decide)).trans h10, (pt_f (by decide)).trans h1, hc, hi, by omega, ho⟩
theorem Cst.p0 (h : Cst T P m C i n o c) : Cst T P m (put C 14 8 (C 14 8 + 0)) i n o c := by
  obtain ⟨h18, h19, h5, h8, h9, h10, h1, hc, hi, hn, ho⟩ := h
  exact ⟨(pt_n (by decide)).trans h18, (pt_n (by decide)).trans h19, (pt_f (by decide)).trans h5, by rw [pt_s, h8, Int32.add_zero], (pt_f (by decide)).trans h9, (pt_f (by decide)).trans h10, (pt_f (by decide)).trans h1, hc, hi, hn, ho⟩
end CS
