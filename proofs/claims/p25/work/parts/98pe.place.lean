/-! group G (p25): the class's Gate exactly: rows are tried -/
section GE0
variable {mm nd : Nat → Nat} {n F : Nat}
theorem mx_st {π : List Nat} {s : gSt} {p : Nat} (h : Sti mm nd F π s) (hF : 0 < F) (hr : Rdy nd π p) : mxl (gpl mm nd p s).1 ≤ mxl s.1 + mm p := by
  have l0 : 0 < s.1.length := by have := h.2.1; omega
  have a1 : mxl s.1 = mx2 (hdl s.1) (mxl s.1.tail) := mxl_c l0
  have a2 := mx2_l (hdl s.1) (mxl s.1.tail)
  have a3 := mx2_r (hdl s.1) (mxl s.1.tail)
  have a4 : ned mm nd s.2 p ≤ mxl s.1 := by
    unfold ned
    by_cases e : nd p = 0
    · rw [if_pos e]; exact Nat.zero_le _
    · rw [if_neg e]; exact h.2.2.1 _ (hr.resolve_left e)
  show mxl (ins _ s.1.tail) ≤ _
  rw [mxl_ins]
  have a5 : mx2 (hdl s.1) (ned mm nd s.2 p) ≤ mxl s.1 := mx2_le (by omega) a4
  exact mx2_le (by omega) (by omega)
theorem mx_rn : ∀ (r : List Nat) {π : List Nat} {s : gSt}, Sti mm nd F π s → 0 < F → (∀ p, p ∈ r → ¬ p ∈ π) → r.Nodup → Okr nd π r → mxl (rnl mm nd r s).1 ≤ mxl s.1 + gsm (r.map mm)
  | [], _, _, _, _, _, _, _ => Nat.le_refl _
  | p :: r, π, s, h, hF, hd, hn, ho => by
    have hp := hd p (List.mem_cons_self ..)
    obtain ⟨n1, n2⟩ := List.nodup_cons.mp hn
    have a := mx_rn r (h.st hF hp ho.1) hF (fun q hq z => by
      rcases List.mem_cons.mp z with e | z
      · exact n1 (e ▸ hq)
      · exact hd q (List.mem_cons_of_mem _ hq) z) n2 ho.2
    have b := mx_st h hF ho.1
    show mxl (rnl mm nd r (gpl mm nd p s)).1 ≤ mxl s.1 + (mm p + gsm (r.map mm))
    omega
theorem mx_0 : ∀ F, mxl (List.replicate F 0) = 0
  | 0 => rfl
  | F + 1 => by
    show mx2 0 (mxl (List.replicate F 0)) = 0
    rw [mx_0 F]
    rfl
theorem sml_b : ∀ (r : List Nat), (∀ p, p ∈ r → mm p ≤ 200) → gsm (r.map mm) ≤ 200 * r.length
  | [], _ => Nat.le_refl _
  | p :: r, h => by
    have a := sml_b r (fun q hq => h q (List.mem_cons_of_mem _ hq))
    have b := h p (List.mem_cons_self ..)
    show mm p + gsm (r.map mm) ≤ 200 * (r.length + 1)
    omega
theorem sml_pm {l m : List Nat} (h : l.Perm m) : gsm (l.map mm) = gsm (m.map mm) := by
  induction h with
  | nil => rfl
  | cons x _ ih =>
    show mm x + _ = mm x + _
    rw [ih]
  | swap x y l =>
    show mm y + (mm x + _) = mm x + (mm y + _)
    omega
  | trans _ _ h1 h2 => exact h1.trans h2
/-- a node of the rows -/
def Nod (mm nd : Nat → Nat) (p f : Nat) (a rem : List Nat) : Prop := (a ++ rem).Perm (List.range p) ∧ Okr nd [] a ∧ (a.Nodup ∧ rem.Nodup ∧ ∀ x, x ∈ a → ¬ x ∈ rem) ∧ Sti mm nd f a.reverse (rnl mm nd a (gs0 f)) ∧ mxl (rnl mm nd a (gs0 f)).1 ≤ 1600 ∧ gsm (rem.map mm) ≤ 1600 ∧ ∀ x, x < p ↔ x ∈ a ∨ x ∈ rem
section NOD
variable {p f : Nat} {a rem : List Nat}
theorem Nod.pm (h : Nod mm nd p f a rem) : (a ++ rem).Perm (List.range p) := h.1
theorem Nod.ok (h : Nod mm nd p f a rem) : Okr nd [] a := h.2.1
theorem Nod.nn (h : Nod mm nd p f a rem) : a.Nodup ∧ rem.Nodup ∧ ∀ x, x ∈ a → ¬ x ∈ rem := h.2.2.1
theorem Nod.st (h : Nod mm nd p f a rem) : Sti mm nd f a.reverse (rnl mm nd a (gs0 f)) := h.2.2.2.1
theorem Nod.mx (h : Nod mm nd p f a rem) : mxl (rnl mm nd a (gs0 f)).1 ≤ 1600 := h.2.2.2.2.1
theorem Nod.rs (h : Nod mm nd p f a rem) : gsm (rem.map mm) ≤ 1600 := h.2.2.2.2.2.1
theorem Nod.lt (h : Nod mm nd p f a rem) : ∀ x, x < p ↔ x ∈ a ∨ x ∈ rem := h.2.2.2.2.2.2
end NOD
theorem Nod.mk' {p f : Nat} {a rem : List Nat} (hp8 : p ≤ 8) (hf : 0 < f) (hm : ∀ i, i < p → mm i ≤ 200) (pm : (a ++ rem).Perm (List.range p)) (ok : Okr nd [] a) : Nod mm nd p f a rem := by
  have nd0 : (a ++ rem).Nodup := pm.nodup_iff.mpr List.nodup_range
  obtain ⟨n1, n2, n3⟩ := List.nodup_append.mp nd0
  have lt : ∀ x, x < p ↔ x ∈ a ∨ x ∈ rem := fun x => by rw [← List.mem_range, ← pm.mem_iff, List.mem_append]
  have hl : a.length + rem.length = p := by
    have := pm.length_eq
    rw [List.length_append, List.length_range] at this
    exact this
  have s1 := sml_b (mm := mm) a (fun q hq => hm q ((lt q).mpr (Or.inl hq)))
  have s2 := sml_b (mm := mm) rem (fun q hq => hm q ((lt q).mpr (Or.inr hq)))
  have st := (Sti.rn a (Sti.i0 (mm := mm) (nd := nd) (F := f)) hf (fun _ _ z => by cases z) n1 ok).1
  rw [List.append_nil] at st
  have m1 := mx_rn a (Sti.i0 (mm := mm) (nd := nd) (F := f)) hf (fun _ _ z => by cases z) n1 ok
  have m0 : mxl (gs0 f).1 = 0 := mx_0 f
  exact ⟨pm, ok, ⟨n1, n2, fun x hx hy => n3 x hx x hy rfl⟩, st, by omega, by omega, lt⟩
theorem Nod.up {p f i : Nat} {a rem : List Nat} (h : Nod mm nd p f a rem) (hp8 : p ≤ 8) (hf : 0 < f) (hm : ∀ i, i < p → mm i ≤ 200) (hi : i ∈ rem) (hr : Rdy nd a i) : Nod mm nd p f (a ++ [i]) (rem.erase i) := by
  refine Nod.mk' hp8 hf hm ?_ ((okr_ap a [i] []).mpr ⟨h.ok, ?_, trivial⟩)
  · rw [List.append_assoc]
    exact (List.Perm.append_left a (List.perm_cons_erase hi).symm).trans h.pm
  · rw [List.append_nil]
    exact hr.elim Or.inl (fun z => Or.inr (List.mem_reverse.mpr z))
theorem Nod.vd {p f : Nat} {a rem r : List Nat} (h : Nod mm nd p f a rem) (hv : Vdr nd p (a ++ r)) : (∀ x, x ∈ r → ¬ x ∈ a) ∧ r.Nodup ∧ Okr nd a.reverse r ∧ ∀ x, x < p → x ∈ r.reverse ++ a.reverse := by
  obtain ⟨n1, n2, n3⟩ := List.nodup_append.mp (vdr_nd hv)
  have o := ((okr_ap a r []).mp hv.2).2
  rw [List.append_nil] at o
  refine ⟨fun x hx hy => n3 x hy x hx rfl, n2, o, fun x hx => ?_⟩
  have := (vdr_lt hv (p := x)).mpr hx
  rw [List.mem_append, List.mem_reverse, List.mem_reverse]
  exact (List.mem_append.mp this).symm
end GE0
def GaF (f : Nat) (a : List Nat) (I J : mI) : Prop := (∀ c, ¬ c = 44 → ¬ c = 45 → ¬ c = 47 → ¬ c = 49 + f → J c = I c) ∧ (∀ k, ¬ k = f → J 47 k = I 47 k) ∧ ∀ i, i ∈ a → J 44 i = I 44 i ∧ J 45 i = I 45 i
theorem GaF.rf {f : Nat} {a : List Nat} {I : mI} : GaF f a I I := ⟨fun _ _ _ _ _ => rfl, fun _ _ => rfl, fun _ _ => ⟨rfl, rfl⟩⟩
def ChS (mm nd : Nat → Nat) (p f : Nat) (row : List Nat) (c : Nat → Int32) : Prop := ∀ i, i < p → c i = nI ((rnl mm nd row (gs0 f)).2 i)
/-- what has come of the rows that go on by T -/
def GaO (mm nd : Nat → Nat) (p f : Nat) (a : List Nat) (T : List Nat → Prop) (c c' : Nat → Int32) (D D' : Nat) : Prop := ((D' = D ∧ c' = c) ∨ (D' < D ∧ ∃ r, T r ∧ Vdr nd p (a ++ r) ∧ D' = lst mm nd f (a ++ r) ∧ ChS mm nd p f (a ++ r) c')) ∧ ∀ r, T r → FBr mm nd p f (a ++ r) → lst mm nd f (a ++ r) < D → D' = lst mm nd f (a ++ r) ∧ ChS mm nd p f (a ++ r) c'
def Tlt (i : Nat) (r : List Nat) : Prop := ∃ x r', r = x :: r' ∧ x < i
section GE1
variable {mm nd : Nat → Nat} {p f i D D1 D2 : Nat} {a : List Nat} {c c1 c2 : Nat → Int32}
theorem GaO.z : GaO mm nd p f a (Tlt 0) c c D D := ⟨Or.inl ⟨rfl, rfl⟩, fun _ ⟨_, _, _, h⟩ => absurd h (by omega)⟩
theorem GaO.sk (h : GaO mm nd p f a (Tlt i) c c1 D D1) (hn : ∀ r, ¬ FBr mm nd p f (a ++ i :: r)) : GaO mm nd p f a (Tlt (i + 1)) c c1 D D1 := by
  refine ⟨h.1.elim Or.inl (fun ⟨z, r, ⟨x, r', e, hx⟩, q⟩ => Or.inr ⟨z, r, ⟨x, r', e, by omega⟩, q⟩), fun r ⟨x, r', e, hx⟩ hf hl => ?_⟩
  by_cases g : x = i
  · subst g
    subst e
    exact absurd hf (hn r')
  · exact h.2 r ⟨x, r', e, by omega⟩ hf hl
theorem GaO.tk (h : GaO mm nd p f a (Tlt i) c c1 D D1) (g : GaO mm nd p f (a ++ [i]) (fun _ => True) c1 c2 D1 D2) : GaO mm nd p f a (Tlt (i + 1)) c c2 D D2 := by
  have as : ∀ r : List Nat, (a ++ [i]) ++ r = a ++ i :: r := fun r => by rw [List.append_assoc]; rfl
  have d1 : D1 ≤ D := by
    rcases h.1 with ⟨e, _⟩ | ⟨e, _⟩ <;> omega
  refine ⟨?_, fun r ⟨x, r', e, hx⟩ hf hl => ?_⟩
  · rcases g.1 with ⟨e, ec⟩ | ⟨e, r, _, hv, e2, hc⟩
    · rw [e, ec]
      exact h.1.elim Or.inl (fun ⟨z, r, ⟨x, r', e, hx⟩, q⟩ => Or.inr ⟨z, r, ⟨x, r', e, by omega⟩, q⟩)
    · rw [as] at hv e2 hc
      exact Or.inr ⟨by omega, i :: r, ⟨i, r, rfl, by omega⟩, hv, e2, hc⟩
  · subst e
    by_cases gx : x = i
    · subst gx
      have l1 : lst mm nd f (a ++ x :: r') < D1 := by
        rcases h.1 with ⟨e, _⟩ | ⟨_, q, ⟨y, q', e, hy⟩, hv, e2, _⟩
        · omega
        · rw [e2]
          subst e
          exact hf.2.2 _ hv (ltL_ap hy a)
      have k := g.2 r' trivial (by rw [as]; exact hf) (by rw [as]; exact l1)
      rw [as] at k
      exact k
    · obtain ⟨k1, k2⟩ := h.2 (x :: r') ⟨x, r', rfl, by omega⟩ hf hl
      rcases g.1 with ⟨e, ec⟩ | ⟨e, q, _, hv, e2, _⟩
      · rw [e, ec]
        exact ⟨k1, k2⟩
      · have := hf.2.1 _ hv
        omega
theorem GaO.al {rem : List Nat} (h : GaO mm nd p f a (Tlt p) c c1 D D1) (hN : Nod mm nd p f a rem) (hl : a.length < p) : GaO mm nd p f a (fun _ => True) c c1 D D1 := by
  refine ⟨h.1.elim Or.inl (fun ⟨z, r, _, q⟩ => Or.inr ⟨z, r, trivial, q⟩), fun r _ hf hl2 => h.2 r ?_ hf hl2⟩
  match r, hf with
  | [], hf =>
    have := hf.1.1.length_eq
    rw [List.append_nil, List.length_range] at this
    omega
  | x :: r', hf => exact ⟨x, r', rfl, (vdr_lt hf.1).mp (List.mem_append_right _ (List.mem_cons_self ..))⟩
end GE1
section GE
variable {d p f D : Nat} {S : mS} {I : mI} {L : mL} {R : mR} {Q : mQ} {mm nd ch : Nat → Nat}
def Bef (mm nd : Nat → Nat) (f : Nat) (a : List Nat) (b bf : Int32) : Prop := (a = [] ∧ b = -1 ∧ bf = -1) ∨ ∃ a' x, a = a' ++ [x] ∧ b = nI x ∧ bf = nI (hdl (rnl mm nd a' (gs0 f)).1)
theorem GaS.cg {J : mI} (h : GaS mm nd ch p f I) (e : ∀ c, 40 ≤ c → c ≤ 43 → J c = I c) : GaS mm nd ch p f J := by
  unfold GaS
  rw [e 40 (by decide) (by decide), e 41 (by decide) (by decide), e 42 (by decide) (by decide), e 43 (by decide) (by decide)]
  exact h
theorem GaN.cg {J : mI} {a : List Nat} {s : gSt} (h : GaN mm f a s I) (e : J 46 = I 46) (e4 : ∀ i, i ∈ a → J 44 i = I 44 i ∧ J 45 i = I 45 i) : GaN mm f a s J := by
  refine ⟨by rw [e]; exact h.1, h.2.1, fun i hi => ?_⟩
  rw [(e4 i hi).1, (e4 i hi).2]
  exact h.2.2 i hi
theorem fb_la {a rem r : List Nat} (hf : 0 < f) (hN : Nod mm nd p f a rem) (h : Vdr nd p (a ++ r)) : mxl (rnl mm nd a (gs0 f)).1 ≤ lst mm nd f (a ++ r) := by
  obtain ⟨d1, d2, d3, _⟩ := hN.vd h
  unfold lst
  rw [rnl_ap]
  exact (Sti.rn r hN.st hf (fun x hx hy => d1 x hx (List.mem_reverse.mp hy)) d2 d3).2.2.2.2.1
theorem plEc {k fi t : Nat} {P rs : Nat} {b bf : Int32} {la : Int32} {a rem : List Nat} (hS : Pm S) (hR : Pr R) (hB : GaB mm nd ch p f) (hN : Nod mm nd p f a rem) (hk : a.length = k) (hP : Msk P a) (hrs : rs = gsm (rem.map mm)) (hbf : Bef mm nd f a b bf) (hfi : fi < f) (hs : GaS mm nd ch p f I) (hn : GaN mm f a (rnl mm nd a (gs0 f)) I) (ht : t = hdl (rnl mm nd a (gs0 f)).1) (h46 : I 46 fi = nI t) (har : ∀ x, ∃ fr : Nat → Nat, (∀ k, k < f → put I 46 fi (nI x) 46 k = nI (fr k)) ∧ arL fr f = ins x (rnl mm nd a (gs0 f)).1.tail) (hl : a.length < p) (rec : ∀ (i : Nat) (J : mI) (D1 : Nat) (Q' : mQ), i ∈ rem → Rdy nd a i → GaS mm nd ch p f J → GaN mm f (a ++ [i]) (rnl mm nd (a ++ [i]) (gs0 f)) J → J 47 f = nI D1 → D1 ≤ 1000000 → (∀ J' D', GaF f (a ++ [i]) J J' → J' 47 f = nI D' → GaO mm nd p f (a ++ [i]) (fun _ => True) (J (49 + f)) (J' (49 + f)) D1 D' → Q' .null S J' L R) → EvM (d + 2) 23 [.ref 40, .int (nI (k + 1)), .int (nI (P ||| 2 ^ i)), .int (nI (rs - mm i)), .int (nI i), .int (nI t)] S J L R Q') (hq : ∀ J D', GaF f a I J → J 47 f = nI D' → GaO mm nd p f a (Tlt p) (I (49 + f)) (J (49 + f)) D D' → Q .null S J L R) (hD : D ≤ 1000000) : ∀ (N i D1 : Nat) (J : mI) (x : Value), i + N = p → GaF f a I J → J 47 f = nI D1 → GaO mm nd p f a (Tlt i) (I (49 + f)) (J (49 + f)) D D1 → Ev (d + 3) 23 119 [.ref 40, .int (nI k), .int (nI P), .int (nI rs), .int b, .int bf, .int la, .int (nI fi), .int (nI t), .int (nI i), x] [] S J L R Q := by
  have p8 := hB.1
  have f3 := hB.2.2.1
  have f1 := hB.2.1
  have i7 : inb (nI fi) 3 = True := inb_nI (by omega) (by decide)
  have e7 : (nI fi).toNatClampNeg = fi := nI_clamp (by omega)
  have t16 : t ≤ 1600 := by
    rw [ht]
    exact Nat.le_trans (mxl_mem (hd_mem (by rw [hN.st.2.1]; exact f1))) hN.mx
  have hm : ∀ c, c ∈ a → (rnl mm nd a (gs0 f)).2 c + mm c ≤ 1600 := fun c hc => Nat.le_trans (hN.st.2.2.1 c (List.mem_reverse.mpr hc)) hN.mx
  intro N
  induction N with
  | zero =>
    intro i D1 J x hi hg h47 ho
    obtain rfl : i = p := by omega
    have js : GaS mm nd ch i f J := hs.cg (fun c c1 c2 => hg.1 c (by omega) (by omega) (by omega) (by omega))
    have e : (nI i < nI i) = False := eq_false (nI_nlt (Nat.le_refl _) (by omega))
    rw [E23_119]
    simp only [E23_121, E23_122, E23_125, E23_265, pk40 hS, rfs, rfn, cs0, csi, csl, csr, csn, kti, ktl, ktr, ktn, ktv, ktf, true_and, and_true, and_self, ↓reduceIte, Nat.reduceAdd, Nat.reduceSub, Nat.reduceMul, Nat.reduceLT, Nat.reduceLeDiff, Nat.reduceEqDiff, true_or, or_true, false_or, or_false, not_true_eq_false, not_false_eq_true, reduceCtorEq, cmp_lt, cmp_gt, cmp_eq, Int32.reduceAdd, Int32.reduceSub, Int32.reduceMul, Int32.reduceLT, Int32.reduceToNatClampNeg, eq_self, ne_eq, Int64.reduceAdd, Int64.reduceSub, Int64.reduceMul, Int64.reduceLT, js.1, e]
    exact hq _ _ hg h47 ho
  | succ N ih =>
    intro i D1 J x hi hg h47 ho
    have js : GaS mm nd ch p f J := hs.cg (fun c c1 c2 => hg.1 c (by omega) (by omega) (by omega) (by omega))
    have j46 : J 46 = I 46 := hg.1 46 (by decide) (by decide) (by decide) (by omega)
    have jn : GaN mm f a (rnl mm nd a (gs0 f)) J := hn.cg j46 hg.2.2
    have d1 : D1 ≤ D := by
      rcases ho.1 with ⟨e, _⟩ | ⟨e, _⟩ <;> omega
    have e1 : (nI i < nI p) = True := eq_true (nI_lt (by omega) (by omega))
    have e2 : J 40 8 = nI p := js.1
    have e3 : inb (nI i) 8 = True := inb_nI (by omega) (by decide)
    have e4 : (nI i).toNatClampNeg = i := nI_clamp (by omega)
    have h259 : ∀ (J' : mI) (D2 : Nat) (t' : Int32), GaF f a I J' → J' 47 f = nI D2 → GaO mm nd p f a (Tlt (i + 1)) (I (49 + f)) (J' (49 + f)) D D2 → Ev (d + 3) 23 259 [.ref 40, .int (nI k), .int (nI P), .int (nI rs), .int b, .int bf, .int la, .int (nI fi), .int (nI t), .int (nI i), .int t'] [] S J' L R Q := fun J' D2 t' a1 a2 a3 => by
      simp only [E23_259, E23_262, rfs, rfn, cs0, csi, csl, csr, csn, kti, ktl, ktr, ktn, ktv, ktf, true_and, and_true, and_self, ↓reduceIte, Nat.reduceAdd, Nat.reduceSub, Nat.reduceMul, Nat.reduceLT, Nat.reduceLeDiff, Nat.reduceEqDiff, true_or, or_true, false_or, or_false, not_true_eq_false, not_false_eq_true, reduceCtorEq, cmp_lt, cmp_gt, cmp_eq, Int32.reduceAdd, Int32.reduceSub, Int32.reduceMul, Int32.reduceLT, Int32.reduceToNatClampNeg, eq_self, ne_eq, Int64.reduceAdd, Int64.reduceSub, Int64.reduceMul, Int64.reduceLT, nI_1]
      exact ih (i + 1) D2 J' _ (by omega) a1 a2 a3
    have k1 := fun Q => rdy (d := d + 1) (i := i) (pl := nI P) (I := J) (L := L) (Q := Q) hS hR (by omega)
    have fin : ∀ r, FBr mm nd p f (a ++ i :: r) → ¬ i ∈ a ∧ Rdy nd a i := fun r hf => by
      obtain ⟨v1, _, v3, _⟩ := hN.vd hf.1
      refine ⟨v1 i (List.mem_cons_self ..), v3.1.elim Or.inl (fun z => Or.inr (List.mem_reverse.mp z))⟩
    have h149 : ∀ t' : Int32, (¬ t' = 0 → ∀ r, ¬ FBr mm nd p f (a ++ i :: r)) → Ev (d + 3) 23 149 [.ref 40, .int (nI k), .int (nI P), .int (nI rs), .int b, .int bf, .int la, .int (nI fi), .int (nI t), .int (nI i), .int t'] [] S J L R Q := fun t' hsk => by
      by_cases g : (nI P >>> (nI i &&& 31)) &&& 1 = 0
      · have gi := (hP.b (show i < 8 by omega)).mp g
        cases hb : rdB J i (nI P) with
        | false =>
          have nr : ¬ Rdy nd a i := fun z => by
            rw [(rdBE hB js hP (by omega)).mpr z] at hb
            cases hb
          simp only [E23_0, E23_1, E23_4, E23_6, E23_7, E23_8, E23_11, E23_14, E23_15, E23_17, E23_20, E23_22, E23_23, E23_26, E23_27, E23_30, E23_31, E23_34, E23_35, E23_38, E23_39, E23_42, E23_44, E23_45, E23_46, E23_49, E23_50, E23_51, E23_54, E23_55, E23_58, E23_59, E23_60, E23_62, E23_65, E23_66, E23_67, E23_70, E23_72, E23_73, E23_76, E23_78, E23_79, E23_81, E23_83, E23_84, E23_87, E23_88, E23_91, E23_92, E23_95, E23_96, E23_97, E23_98, E23_100, E23_103, E23_104, E23_107, E23_108, E23_111, E23_112, E23_115, E23_116, E23_117, E23_121, E23_122, E23_125, E23_128, E23_130, E23_132, E23_135, E23_137, E23_139, E23_142, E23_143, E23_146, E23_147, E23_149, E23_150, E23_152, E23_153, E23_154, E23_155, E23_158, E23_159, E23_161, E23_162, E23_165, E23_168, E23_170, E23_173, E23_174, E23_177, E23_179, E23_180, E23_182, E23_184, E23_187, E23_188, E23_189, E23_192, E23_194, E23_195, E23_198, E23_200, E23_201, E23_202, E23_205, E23_207, E23_208, E23_209, E23_210, E23_211, E23_214, E23_216, E23_217, E23_220, E23_222, E23_223, E23_224, E23_225, E23_226, E23_227, E23_228, E23_229, E23_230, E23_232, E23_233, E23_234, E23_235, E23_236, E23_239, E23_241, E23_242, E23_243, E23_245, E23_247, E23_250, E23_251, E23_254, E23_256, E23_258, E23_262, E23_265, pk40 hS, rfs, rfn, cs0, csi, csl, csr, csn, kti, ktl, ktr, ktn, ktv, ktf, true_and, and_true, and_self, ↓reduceIte, Nat.reduceAdd, Nat.reduceSub, Nat.reduceMul, Nat.reduceLT, Nat.reduceLeDiff, Nat.reduceEqDiff, true_or, or_true, false_or, or_false, not_true_eq_false, not_false_eq_true, reduceCtorEq, cmp_lt, cmp_gt, cmp_eq, Int32.reduceAdd, Int32.reduceSub, Int32.reduceMul, Int32.reduceLT, Int32.reduceToNatClampNeg, eq_self, ne_eq, Int64.reduceAdd, Int64.reduceSub, Int64.reduceMul, Int64.reduceLT, g, k1, hb, bI_f]
          exact h259 _ _ _ hg h47 (ho.sk (fun r hf => nr (fin r hf).2))
        | true =>
          have hr := (rdBE hB js hP (by omega)).mp hb
          by_cases gt : t' = 0
          · have ir : i ∈ rem := ((hN.lt i).mp (by omega)).resolve_left gi
            obtain ⟨j41, _, _⟩ := js.2.2 i (by omega)
            have eb : rnl mm nd (a ++ [i]) (gs0 f) = gpl mm nd i (rnl mm nd a (gs0 f)) := rnl_ap a [i] _
            have eP := (hP.o (show i < 8 by omega)).1
            have sm := sml_pm (mm := mm) (List.perm_cons_erase ir)
            have sm' : gsm (rem.map mm) = mm i + gsm ((rem.erase i).map mm) := sm
            have er : nI rs - nI (mm i) = nI (rs - mm i) := by
              obtain ⟨q, eq⟩ : ∃ q, rs = q + mm i := ⟨rs - mm i, by omega⟩
              rw [eq, Nat.add_sub_cancel, ← nI_add, Int32.add_sub_cancel]
            simp only [E23_0, E23_1, E23_4, E23_6, E23_7, E23_8, E23_11, E23_14, E23_15, E23_17, E23_20, E23_22, E23_23, E23_26, E23_27, E23_30, E23_31, E23_34, E23_35, E23_38, E23_39, E23_42, E23_44, E23_45, E23_46, E23_49, E23_50, E23_51, E23_54, E23_55, E23_58, E23_59, E23_60, E23_62, E23_65, E23_66, E23_67, E23_70, E23_72, E23_73, E23_76, E23_78, E23_79, E23_81, E23_83, E23_84, E23_87, E23_88, E23_91, E23_92, E23_95, E23_96, E23_97, E23_98, E23_100, E23_103, E23_104, E23_107, E23_108, E23_111, E23_112, E23_115, E23_116, E23_117, E23_121, E23_122, E23_125, E23_128, E23_130, E23_132, E23_135, E23_137, E23_139, E23_142, E23_143, E23_146, E23_147, E23_149, E23_150, E23_152, E23_153, E23_154, E23_155, E23_158, E23_159, E23_161, E23_162, E23_165, E23_168, E23_170, E23_173, E23_174, E23_177, E23_179, E23_180, E23_182, E23_184, E23_187, E23_188, E23_189, E23_192, E23_194, E23_195, E23_198, E23_200, E23_201, E23_202, E23_205, E23_207, E23_208, E23_209, E23_210, E23_211, E23_214, E23_216, E23_217, E23_220, E23_222, E23_223, E23_224, E23_225, E23_226, E23_227, E23_228, E23_229, E23_230, E23_232, E23_233, E23_234, E23_235, E23_236, E23_239, E23_241, E23_242, E23_243, E23_245, E23_247, E23_250, E23_251, E23_254, E23_256, E23_258, E23_262, E23_265, pk40 hS, pr40_3 hR, rfs, rfn, cs0, csi, csl, csr, csn, kti, ktl, ktr, ktn, ktv, ktf, true_and, and_true, and_self, ↓reduceIte, Nat.reduceAdd, Nat.reduceSub, Nat.reduceMul, Nat.reduceLT, Nat.reduceLeDiff, Nat.reduceEqDiff, true_or, or_true, false_or, or_false, not_true_eq_false, not_false_eq_true, reduceCtorEq, cmp_lt, cmp_gt, cmp_eq, Int32.reduceAdd, Int32.reduceSub, Int32.reduceMul, Int32.reduceLT, Int32.reduceToNatClampNeg, eq_self, ne_eq, Int64.reduceAdd, Int64.reduceSub, Int64.reduceMul, Int64.reduceLT, n1_0, g, k1, hb, bI_t, gt]
            refine earE hS hR hB js jn (by omega) hr t16 hm ?_
            have eu : (gpl mm nd i (rnl mm nd a (gs0 f))).1 = ins (mx2 t (ned mm nd (rnl mm nd a (gs0 f)).2 i) + mm i) (rnl mm nd a (gs0 f)).1.tail := by rw [ht]; rfl
            have ev : (gpl mm nd i (rnl mm nd a (gs0 f))).2 i = mx2 t (ned mm nd (rnl mm nd a (gs0 f)).2 i) := by rw [ht]; exact if_pos rfl
            have eo : ∀ c, ¬ c = i → (gpl mm nd i (rnl mm nd a (gs0 f))).2 c = (rnl mm nd a (gs0 f)).2 c := fun c hc => if_neg hc
            generalize mx2 t (ned mm nd (rnl mm nd a (gs0 f)).2 i) = v at eu ev ⊢
            simp only [E23_0, E23_1, E23_4, E23_6, E23_7, E23_8, E23_11, E23_14, E23_15, E23_17, E23_20, E23_22, E23_23, E23_26, E23_27, E23_30, E23_31, E23_34, E23_35, E23_38, E23_39, E23_42, E23_44, E23_45, E23_46, E23_49, E23_50, E23_51, E23_54, E23_55, E23_58, E23_59, E23_60, E23_62, E23_65, E23_66, E23_67, E23_70, E23_72, E23_73, E23_76, E23_78, E23_79, E23_81, E23_83, E23_84, E23_87, E23_88, E23_91, E23_92, E23_95, E23_96, E23_97, E23_98, E23_100, E23_103, E23_104, E23_107, E23_108, E23_111, E23_112, E23_115, E23_116, E23_117, E23_121, E23_122, E23_125, E23_128, E23_130, E23_132, E23_135, E23_137, E23_139, E23_142, E23_143, E23_146, E23_147, E23_149, E23_150, E23_152, E23_153, E23_154, E23_155, E23_158, E23_159, E23_161, E23_162, E23_165, E23_168, E23_170, E23_173, E23_174, E23_177, E23_179, E23_180, E23_182, E23_184, E23_187, E23_188, E23_189, E23_192, E23_194, E23_195, E23_198, E23_200, E23_201, E23_202, E23_205, E23_207, E23_208, E23_209, E23_210, E23_211, E23_214, E23_216, E23_217, E23_220, E23_222, E23_223, E23_224, E23_225, E23_226, E23_227, E23_228, E23_229, E23_230, E23_232, E23_233, E23_234, E23_235, E23_236, E23_239, E23_241, E23_242, E23_243, E23_245, E23_247, E23_250, E23_251, E23_254, E23_256, E23_258, E23_262, E23_265, pk40 hS, pk41 hS, pl41 hS, pa41 hS, pi41 hS, pk44 hS, pl44 hS, pa44 hS, pi44 hS, pk45 hS, pl45 hS, pa45 hS, pi45 hS, pk46 hS, pl46 hS, pa46 hS, pi46 hS, pr40_0 hR, pr40_3 hR, pr40_4 hR, pr40_5 hR, rfs, rfn, cs0, csi, csl, csr, csn, kti, ktl, ktr, ktn, ktv, ktf, true_and, and_true, and_self, ↓reduceIte, Nat.reduceAdd, Nat.reduceSub, Nat.reduceMul, Nat.reduceLT, Nat.reduceLeDiff, Nat.reduceEqDiff, true_or, or_true, false_or, or_false, not_true_eq_false, not_false_eq_true, reduceCtorEq, cmp_lt, cmp_gt, cmp_eq, Int32.reduceAdd, Int32.reduceSub, Int32.reduceMul, Int32.reduceLT, Int32.reduceToNatClampNeg, eq_self, ne_eq, Int64.reduceAdd, Int64.reduceSub, Int64.reduceMul, Int64.reduceLT, pt, pt_m, pt_s, e3, e4, i7, e7, j41, nI_1, nI_add, eP, er]
            refine rec i _ D1 _ ir hr (js.cg (fun c c1 c2 => ?_)) ⟨?_, (hN.up p8 (by omega) (fun j hj => (hB.2.2.2 j hj).2.1) ir hr).mx, fun c hc => ?_⟩ ?_ (by omega) (fun J' D' hF h47' hO => ?_)
            · rw [pt_n (by omega), pt_n (by omega), pt_n (by omega)]
            · rw [eb, eu]
              obtain ⟨fr, r1, r2⟩ := har (v + mm i)
              refine ⟨fr, fun k hk => ?_, r2⟩
              rw [← r1 k hk]
              by_cases z : k = fi
              · rw [z, pt_s, pt_s]
              · rw [pt_f z, pt_f z, pt_m (by decide), pt_m (by decide), j46]
            · rw [eb]
              rw [pt_m (show ¬ 44 = 46 by decide), pt_m (show ¬ 44 = 45 by decide), pt_m (show ¬ 45 = 46 by decide)]
              by_cases z : c = i
              · rw [z, pt_s, pt_s, ev]
                exact ⟨rfl, rfl⟩
              · have ca : c ∈ a := by
                  rcases List.mem_append.mp hc with y | y
                  · exact y
                  · exact absurd (List.mem_singleton.mp y) z
                rw [pt_f z, pt_f z, pt_m (show ¬ 45 = 44 by decide), eo c z]
                exact jn.2.2 c ca
            · rw [pt_m (by decide), pt_m (by decide), pt_m (by decide)]
              exact h47
            · simp only [E23_0, E23_1, E23_4, E23_6, E23_7, E23_8, E23_11, E23_14, E23_15, E23_17, E23_20, E23_22, E23_23, E23_26, E23_27, E23_30, E23_31, E23_34, E23_35, E23_38, E23_39, E23_42, E23_44, E23_45, E23_46, E23_49, E23_50, E23_51, E23_54, E23_55, E23_58, E23_59, E23_60, E23_62, E23_65, E23_66, E23_67, E23_70, E23_72, E23_73, E23_76, E23_78, E23_79, E23_81, E23_83, E23_84, E23_87, E23_88, E23_91, E23_92, E23_95, E23_96, E23_97, E23_98, E23_100, E23_103, E23_104, E23_107, E23_108, E23_111, E23_112, E23_115, E23_116, E23_117, E23_121, E23_122, E23_125, E23_128, E23_130, E23_132, E23_135, E23_137, E23_139, E23_142, E23_143, E23_146, E23_147, E23_149, E23_150, E23_152, E23_153, E23_154, E23_155, E23_158, E23_159, E23_161, E23_162, E23_165, E23_168, E23_170, E23_173, E23_174, E23_177, E23_179, E23_180, E23_182, E23_184, E23_187, E23_188, E23_189, E23_192, E23_194, E23_195, E23_198, E23_200, E23_201, E23_202, E23_205, E23_207, E23_208, E23_209, E23_210, E23_211, E23_214, E23_216, E23_217, E23_220, E23_222, E23_223, E23_224, E23_225, E23_226, E23_227, E23_228, E23_229, E23_230, E23_232, E23_233, E23_234, E23_235, E23_236, E23_239, E23_241, E23_242, E23_243, E23_245, E23_247, E23_250, E23_251, E23_254, E23_256, E23_258, E23_262, E23_265, pk40 hS, pk46 hS, pl46 hS, pa46 hS, pi46 hS, pr40_5 hR, rfs, rfn, cs0, csi, csl, csr, csn, kti, ktl, ktr, ktn, ktv, ktf, true_and, and_true, and_self, ↓reduceIte, Nat.reduceAdd, Nat.reduceSub, Nat.reduceMul, Nat.reduceLT, Nat.reduceLeDiff, Nat.reduceEqDiff, true_or, or_true, false_or, or_false, not_true_eq_false, not_false_eq_true, reduceCtorEq, cmp_lt, cmp_gt, cmp_eq, Int32.reduceAdd, Int32.reduceSub, Int32.reduceMul, Int32.reduceLT, Int32.reduceToNatClampNeg, eq_self, ne_eq, Int64.reduceAdd, Int64.reduceSub, Int64.reduceMul, Int64.reduceLT, pt, i7, e7]
              have c49 : ∀ M : mI, put M 46 fi (nI t) (49 + f) = M (49 + f) := fun M => pt_n (by omega)
              refine h259 _ D' _ ⟨fun c q1 q2 q3 q4 => ?_, fun k hk => ?_, fun c hc => ?_⟩ ((pt_m (by decide)).trans h47') ?_
              · by_cases z : c = 46
                · subst z
                  rw [← j46]
                  refine funext (fun k => ?_)
                  by_cases y : k = fi
                  · rw [y, pt_s, j46, h46]
                  · rw [pt_f y, hF.1 46 (by decide) (by decide) (by decide) (by omega), pt_f y, pt_m (by decide), pt_m (by decide)]
                · rw [pt_n z, hF.1 c q1 q2 q3 q4, pt_n z, pt_n q2, pt_n q1]
                  exact hg.1 c q1 q2 q3 q4
              · rw [pt_m (by decide), hF.2.1 k hk, pt_m (by decide), pt_m (by decide), pt_m (by decide)]
                exact hg.2.1 k hk
              · have ci : ¬ c = i := fun z => gi (z ▸ hc)
                obtain ⟨w1, w2⟩ := hF.2.2 c (List.mem_append_left _ hc)
                rw [pt_m (show ¬ 44 = 46 by decide), pt_m (show ¬ 45 = 46 by decide), w1, w2, pt_m (show ¬ 44 = 46 by decide), pt_m (show ¬ 44 = 45 by decide), pt_f ci, pt_m (show ¬ 45 = 46 by decide), pt_f ci, pt_m (show ¬ 45 = 44 by decide)]
                exact hg.2.2 c hc
              · rw [c49]
                refine ho.tk ?_
                rw [pt_n (show ¬ 49 + f = 46 by omega), pt_n (show ¬ 49 + f = 45 by omega), pt_n (show ¬ 49 + f = 44 by omega)] at hO
                exact hO
          · simp only [E23_0, E23_1, E23_4, E23_6, E23_7, E23_8, E23_11, E23_14, E23_15, E23_17, E23_20, E23_22, E23_23, E23_26, E23_27, E23_30, E23_31, E23_34, E23_35, E23_38, E23_39, E23_42, E23_44, E23_45, E23_46, E23_49, E23_50, E23_51, E23_54, E23_55, E23_58, E23_59, E23_60, E23_62, E23_65, E23_66, E23_67, E23_70, E23_72, E23_73, E23_76, E23_78, E23_79, E23_81, E23_83, E23_84, E23_87, E23_88, E23_91, E23_92, E23_95, E23_96, E23_97, E23_98, E23_100, E23_103, E23_104, E23_107, E23_108, E23_111, E23_112, E23_115, E23_116, E23_117, E23_121, E23_122, E23_125, E23_128, E23_130, E23_132, E23_135, E23_137, E23_139, E23_142, E23_143, E23_146, E23_147, E23_149, E23_150, E23_152, E23_153, E23_154, E23_155, E23_158, E23_159, E23_161, E23_162, E23_165, E23_168, E23_170, E23_173, E23_174, E23_177, E23_179, E23_180, E23_182, E23_184, E23_187, E23_188, E23_189, E23_192, E23_194, E23_195, E23_198, E23_200, E23_201, E23_202, E23_205, E23_207, E23_208, E23_209, E23_210, E23_211, E23_214, E23_216, E23_217, E23_220, E23_222, E23_223, E23_224, E23_225, E23_226, E23_227, E23_228, E23_229, E23_230, E23_232, E23_233, E23_234, E23_235, E23_236, E23_239, E23_241, E23_242, E23_243, E23_245, E23_247, E23_250, E23_251, E23_254, E23_256, E23_258, E23_262, E23_265, pk40 hS, rfs, rfn, cs0, csi, csl, csr, csn, kti, ktl, ktr, ktn, ktv, ktf, true_and, and_true, and_self, ↓reduceIte, Nat.reduceAdd, Nat.reduceSub, Nat.reduceMul, Nat.reduceLT, Nat.reduceLeDiff, Nat.reduceEqDiff, true_or, or_true, false_or, or_false, not_true_eq_false, not_false_eq_true, reduceCtorEq, cmp_lt, cmp_gt, cmp_eq, Int32.reduceAdd, Int32.reduceSub, Int32.reduceMul, Int32.reduceLT, Int32.reduceToNatClampNeg, eq_self, ne_eq, Int64.reduceAdd, Int64.reduceSub, Int64.reduceMul, Int64.reduceLT, n1_0, g, k1, hb, bI_t, gt]
            exact h259 _ _ _ hg h47 (ho.sk (hsk gt))
      · simp only [E23_0, E23_1, E23_4, E23_6, E23_7, E23_8, E23_11, E23_14, E23_15, E23_17, E23_20, E23_22, E23_23, E23_26, E23_27, E23_30, E23_31, E23_34, E23_35, E23_38, E23_39, E23_42, E23_44, E23_45, E23_46, E23_49, E23_50, E23_51, E23_54, E23_55, E23_58, E23_59, E23_60, E23_62, E23_65, E23_66, E23_67, E23_70, E23_72, E23_73, E23_76, E23_78, E23_79, E23_81, E23_83, E23_84, E23_87, E23_88, E23_91, E23_92, E23_95, E23_96, E23_97, E23_98, E23_100, E23_103, E23_104, E23_107, E23_108, E23_111, E23_112, E23_115, E23_116, E23_117, E23_121, E23_122, E23_125, E23_128, E23_130, E23_132, E23_135, E23_137, E23_139, E23_142, E23_143, E23_146, E23_147, E23_149, E23_150, E23_152, E23_153, E23_154, E23_155, E23_158, E23_159, E23_161, E23_162, E23_165, E23_168, E23_170, E23_173, E23_174, E23_177, E23_179, E23_180, E23_182, E23_184, E23_187, E23_188, E23_189, E23_192, E23_194, E23_195, E23_198, E23_200, E23_201, E23_202, E23_205, E23_207, E23_208, E23_209, E23_210, E23_211, E23_214, E23_216, E23_217, E23_220, E23_222, E23_223, E23_224, E23_225, E23_226, E23_227, E23_228, E23_229, E23_230, E23_232, E23_233, E23_234, E23_235, E23_236, E23_239, E23_241, E23_242, E23_243, E23_245, E23_247, E23_250, E23_251, E23_254, E23_256, E23_258, E23_262, E23_265, pk40 hS, rfs, rfn, cs0, csi, csl, csr, csn, kti, ktl, ktr, ktn, ktv, ktf, true_and, and_true, and_self, ↓reduceIte, Nat.reduceAdd, Nat.reduceSub, Nat.reduceMul, Nat.reduceLT, Nat.reduceLeDiff, Nat.reduceEqDiff, true_or, or_true, false_or, or_false, not_true_eq_false, not_false_eq_true, reduceCtorEq, cmp_lt, cmp_gt, cmp_eq, Int32.reduceAdd, Int32.reduceSub, Int32.reduceMul, Int32.reduceLT, Int32.reduceToNatClampNeg, eq_self, ne_eq, Int64.reduceAdd, Int64.reduceSub, Int64.reduceMul, Int64.reduceLT, g]
        exact h259 _ _ _ hg h47 (ho.sk (fun r hf => g ((hP.b (show i < 8 by omega)).mpr (fin r hf).1)))
    rw [E23_119]
    by_cases g1 : nI i < b
    · by_cases g2 : nI t = bf
      · have g3 : (nI t = bf) = True := eq_true g2
        simp only [E23_0, E23_1, E23_4, E23_6, E23_7, E23_8, E23_11, E23_14, E23_15, E23_17, E23_20, E23_22, E23_23, E23_26, E23_27, E23_30, E23_31, E23_34, E23_35, E23_38, E23_39, E23_42, E23_44, E23_45, E23_46, E23_49, E23_50, E23_51, E23_54, E23_55, E23_58, E23_59, E23_60, E23_62, E23_65, E23_66, E23_67, E23_70, E23_72, E23_73, E23_76, E23_78, E23_79, E23_81, E23_83, E23_84, E23_87, E23_88, E23_91, E23_92, E23_95, E23_96, E23_97, E23_98, E23_100, E23_103, E23_104, E23_107, E23_108, E23_111, E23_112, E23_115, E23_116, E23_117, E23_121, E23_122, E23_125, E23_128, E23_130, E23_132, E23_135, E23_137, E23_139, E23_142, E23_143, E23_146, E23_147, E23_150, E23_152, E23_153, E23_154, E23_155, E23_158, E23_159, E23_161, E23_162, E23_165, E23_168, E23_170, E23_173, E23_174, E23_177, E23_179, E23_180, E23_182, E23_184, E23_187, E23_188, E23_189, E23_192, E23_194, E23_195, E23_198, E23_200, E23_201, E23_202, E23_205, E23_207, E23_208, E23_209, E23_210, E23_211, E23_214, E23_216, E23_217, E23_220, E23_222, E23_223, E23_224, E23_225, E23_226, E23_227, E23_228, E23_229, E23_230, E23_232, E23_233, E23_234, E23_235, E23_236, E23_239, E23_241, E23_242, E23_243, E23_245, E23_247, E23_250, E23_251, E23_254, E23_256, E23_258, E23_262, E23_265, pk40 hS, rfs, rfn, cs0, csi, csl, csr, csn, kti, ktl, ktr, ktn, ktv, ktf, true_and, and_true, and_self, ↓reduceIte, Nat.reduceAdd, Nat.reduceSub, Nat.reduceMul, Nat.reduceLT, Nat.reduceLeDiff, Nat.reduceEqDiff, true_or, or_true, false_or, or_false, not_true_eq_false, not_false_eq_true, reduceCtorEq, cmp_lt, cmp_gt, cmp_eq, Int32.reduceAdd, Int32.reduceSub, Int32.reduceMul, Int32.reduceLT, Int32.reduceToNatClampNeg, eq_self, ne_eq, Int64.reduceAdd, Int64.reduceSub, Int64.reduceMul, Int64.reduceLT, e1, e2, g1, g3]
        refine h149 _ (fun _ r hf => ?_)
        rcases hbf with ⟨_, rfl, _⟩ | ⟨a', y, ea, rfl, rfl⟩
        · rw [Int32.lt_iff_toInt_lt, nI_toInt (by omega)] at g1
          have : (-1 : Int32).toInt = -1 := rfl
          omega
        · subst ea
          have yp : y < p := (hN.lt y).mpr (Or.inl (List.mem_append_right _ (List.mem_singleton.mpr rfl)))
          have hiy : i < y := (nI_ltI (by omega) (by omega)).mp g1
          rw [List.append_assoc] at hf
          have S' := Sti.of (mm := mm) (F := f) (a := a') (r := y :: i :: r) hf.1 (by omega)
          have bb : hdl (rnl mm nd a' (gs0 f)).1 ≤ 1600 := by
            have q1 := mxl_mem (hd_mem (l := (rnl mm nd a' (gs0 f)).1) (by rw [S'.2.1]; exact f1))
            have q2 := (Sti.rn [y] S' (by omega) (fun z hz w => by
              rw [List.mem_singleton.mp hz] at w
              have := (List.nodup_append.mp hN.nn.1).2.2 y (List.mem_reverse.mp w) y (List.mem_singleton.mpr rfl)
              exact this rfl) (List.nodup_cons.mpr ⟨fun w => (by cases w), List.nodup_nil⟩) ⟨by
                have o := ((okr_ap a' [y] []).mp hN.ok).2.1
                rw [List.append_nil] at o
                exact o, trivial⟩).2.2.2.2.1
            have q3 := hN.mx
            rw [rnl_ap] at q3
            omega
          have et := (nI_eq (by omega) (by omega)).mp g2
          rw [ht] at et
          exact noskip (by omega) (fun q hq => (hB.2.2.2 q hq).1) (fun q hq => (hB.2.2.2 q hq).2.2.1) hf hiy et
      · simp only [E23_0, E23_1, E23_4, E23_6, E23_7, E23_8, E23_11, E23_14, E23_15, E23_17, E23_20, E23_22, E23_23, E23_26, E23_27, E23_30, E23_31, E23_34, E23_35, E23_38, E23_39, E23_42, E23_44, E23_45, E23_46, E23_49, E23_50, E23_51, E23_54, E23_55, E23_58, E23_59, E23_60, E23_62, E23_65, E23_66, E23_67, E23_70, E23_72, E23_73, E23_76, E23_78, E23_79, E23_81, E23_83, E23_84, E23_87, E23_88, E23_91, E23_92, E23_95, E23_96, E23_97, E23_98, E23_100, E23_103, E23_104, E23_107, E23_108, E23_111, E23_112, E23_115, E23_116, E23_117, E23_121, E23_122, E23_125, E23_128, E23_130, E23_132, E23_135, E23_137, E23_139, E23_142, E23_143, E23_146, E23_147, E23_150, E23_152, E23_153, E23_154, E23_155, E23_158, E23_159, E23_161, E23_162, E23_165, E23_168, E23_170, E23_173, E23_174, E23_177, E23_179, E23_180, E23_182, E23_184, E23_187, E23_188, E23_189, E23_192, E23_194, E23_195, E23_198, E23_200, E23_201, E23_202, E23_205, E23_207, E23_208, E23_209, E23_210, E23_211, E23_214, E23_216, E23_217, E23_220, E23_222, E23_223, E23_224, E23_225, E23_226, E23_227, E23_228, E23_229, E23_230, E23_232, E23_233, E23_234, E23_235, E23_236, E23_239, E23_241, E23_242, E23_243, E23_245, E23_247, E23_250, E23_251, E23_254, E23_256, E23_258, E23_262, E23_265, pk40 hS, rfs, rfn, cs0, csi, csl, csr, csn, kti, ktl, ktr, ktn, ktv, ktf, true_and, and_true, and_self, ↓reduceIte, Nat.reduceAdd, Nat.reduceSub, Nat.reduceMul, Nat.reduceLT, Nat.reduceLeDiff, Nat.reduceEqDiff, true_or, or_true, false_or, or_false, not_true_eq_false, not_false_eq_true, reduceCtorEq, cmp_lt, cmp_gt, cmp_eq, Int32.reduceAdd, Int32.reduceSub, Int32.reduceMul, Int32.reduceLT, Int32.reduceToNatClampNeg, eq_self, ne_eq, Int64.reduceAdd, Int64.reduceSub, Int64.reduceMul, Int64.reduceLT, e1, e2, g1, g2]
        exact h149 _ (fun z => absurd rfl z)
    · simp only [E23_0, E23_1, E23_4, E23_6, E23_7, E23_8, E23_11, E23_14, E23_15, E23_17, E23_20, E23_22, E23_23, E23_26, E23_27, E23_30, E23_31, E23_34, E23_35, E23_38, E23_39, E23_42, E23_44, E23_45, E23_46, E23_49, E23_50, E23_51, E23_54, E23_55, E23_58, E23_59, E23_60, E23_62, E23_65, E23_66, E23_67, E23_70, E23_72, E23_73, E23_76, E23_78, E23_79, E23_81, E23_83, E23_84, E23_87, E23_88, E23_91, E23_92, E23_95, E23_96, E23_97, E23_98, E23_100, E23_103, E23_104, E23_107, E23_108, E23_111, E23_112, E23_115, E23_116, E23_117, E23_121, E23_122, E23_125, E23_128, E23_130, E23_132, E23_135, E23_137, E23_139, E23_142, E23_143, E23_146, E23_147, E23_150, E23_152, E23_153, E23_154, E23_155, E23_158, E23_159, E23_161, E23_162, E23_165, E23_168, E23_170, E23_173, E23_174, E23_177, E23_179, E23_180, E23_182, E23_184, E23_187, E23_188, E23_189, E23_192, E23_194, E23_195, E23_198, E23_200, E23_201, E23_202, E23_205, E23_207, E23_208, E23_209, E23_210, E23_211, E23_214, E23_216, E23_217, E23_220, E23_222, E23_223, E23_224, E23_225, E23_226, E23_227, E23_228, E23_229, E23_230, E23_232, E23_233, E23_234, E23_235, E23_236, E23_239, E23_241, E23_242, E23_243, E23_245, E23_247, E23_250, E23_251, E23_254, E23_256, E23_258, E23_262, E23_265, pk40 hS, rfs, rfn, cs0, csi, csl, csr, csn, kti, ktl, ktr, ktn, ktv, ktf, true_and, and_true, and_self, ↓reduceIte, Nat.reduceAdd, Nat.reduceSub, Nat.reduceMul, Nat.reduceLT, Nat.reduceLeDiff, Nat.reduceEqDiff, true_or, or_true, false_or, or_false, not_true_eq_false, not_false_eq_true, reduceCtorEq, cmp_lt, cmp_gt, cmp_eq, Int32.reduceAdd, Int32.reduceSub, Int32.reduceMul, Int32.reduceLT, Int32.reduceToNatClampNeg, eq_self, ne_eq, Int64.reduceAdd, Int64.reduceSub, Int64.reduceMul, Int64.reduceLT, e1, e2, g1]
      exact h149 _ (fun z => absurd rfl z)
end GE
