/-! what the reference's calls leave of rows, TAPE and IMAGES -/
/-- what a call tells: none nothing, else by its answer -/
def TdM (I J : mI) (o : Option Int32) : Prop := match o with
  | none => J 54 1 = I 54 1 ∧ J 55 = I 55
  | some v => J 54 1 = (if v < 0 then v else 0) ∧ J 55 = telF I v 55
theorem telF_1 {I : mI} {v : Int32} : telF I v 54 1 = if v < 0 then v else 0 := by
  unfold telF
  by_cases h : v < 0
  · rw [if_pos h, if_pos h, pt_m (by decide), pt_s]
  · rw [if_neg h, if_neg h, pt_s]
theorem telF_5 {I J : mI} {v : Int32} (e : J 55 = I 55) : telF J v 55 = telF I v 55 := by
  unfold telF
  by_cases h : v < 0
  · rw [if_pos h, if_pos h]
    refine funext (fun k => ?_)
    by_cases g : k = (-v).toNatClampNeg
    · rw [g, pt_s, pt_s, e]
    · rw [pt_f g, pt_f g, pt_n (by decide), pt_n (by decide), e]
  · rw [if_neg h, if_neg h, pt_n (by decide), pt_n (by decide), e]
theorem TdM.rf {I : mI} : TdM I I none := ⟨rfl, rfl⟩
theorem TdM.t {I K : mI} {v : Int32} (e : K 55 = I 55) : TdM I (telF K v) (some v) := ⟨telF_1, telF_5 e⟩
theorem TdM.n {I J K : mI} {o : Option Int32} (h : TdM I J none) (g : TdM J K o) : TdM I K o := by
  cases o with
  | none => exact ⟨g.1.trans h.1, g.2.trans h.2⟩
  | some v => exact ⟨g.1, g.2.trans (telF_5 h.2)⟩
theorem TdM.m {I J K : mI} {o : Option Int32} (h : TdM I J o) (g : TdM J K none) : TdM I K o := by
  cases o with
  | none => exact ⟨g.1.trans h.1, g.2.trans h.2⟩
  | some v => exact ⟨g.1.trans h.1, g.2.trans h.2⟩
def RlW (I J : mI) (ρ : Nat → Int32) (o : Option Int32) : Prop := (∀ k, k < 8060 → J 56 k = ρ k) ∧ J 57 = I 57 ∧ J 58 = I 58 ∧ J 59 = I 59 ∧ J 54 7 = I 54 7 ∧ J 54 12 = I 54 12 ∧ TdM I J o
def RlN (I J : mI) : Prop := RlW I J (I 56) none
def RlE (I J : mI) (v : Int32) : Prop := RlW I J (I 56) (some v)
theorem RlW.td {I J : mI} {ρ : Nat → Int32} {o : Option Int32} (h : RlW I J ρ o) : TdM I J o := h.2.2.2.2.2.2
theorem RlN.rf {I : mI} : RlN I I := ⟨fun _ _ => rfl, rfl, rfl, rfl, rfl, rfl, TdM.rf⟩
theorem RlW.n {I J K : mI} {ρ : Nat → Int32} {o : Option Int32} (h : RlW I J ρ o) (g : RlN J K) : RlW I K ρ o := ⟨fun k h1 => (g.1 k h1).trans (h.1 k h1), g.2.1.trans h.2.1, g.2.2.1.trans h.2.2.1, g.2.2.2.1.trans h.2.2.2.1, g.2.2.2.2.1.trans h.2.2.2.2.1, g.2.2.2.2.2.1.trans h.2.2.2.2.2.1, h.td.m g.td⟩
theorem RlW.te {I J K : mI} {ρ : Nat → Int32} {v : Int32} (h : RlW I J ρ none) (g : RlE J K v) : RlW I K ρ (some v) := ⟨fun k h1 => (g.1 k h1).trans (h.1 k h1), g.2.1.trans h.2.1, g.2.2.1.trans h.2.2.1, g.2.2.2.1.trans h.2.2.2.1, g.2.2.2.2.1.trans h.2.2.2.2.1, g.2.2.2.2.2.1.trans h.2.2.2.2.2.1, h.td.n g.td⟩
theorem RlN.tr {I J K : mI} (h : RlN I J) (g : RlN J K) : RlN I K := RlW.n h g
theorem RlN.te {I J K : mI} {v : Int32} (h : RlN I J) (g : RlE J K v) : RlE I K v := RlW.te h g
theorem RlN.w {I J K : mI} {ρ : Nat → Int32} {o : Option Int32} (h : RlN I J) (g : RlW J K ρ o) : RlW I K ρ o := ⟨g.1, g.2.1.trans h.2.1, g.2.2.1.trans h.2.2.1, g.2.2.2.1.trans h.2.2.2.1, g.2.2.2.2.1.trans h.2.2.2.2.1, g.2.2.2.2.2.1.trans h.2.2.2.2.2.1, h.td.n g.td⟩
theorem RlN.al {I J : mI} (e6 : J 56 = I 56) (e7 : J 57 = I 57) (e8 : J 58 = I 58) (e9 : J 59 = I 59) (e4 : J 54 7 = I 54 7) (e12 : J 54 12 = I 54 12) (e1 : J 54 1 = I 54 1) (e5 : J 55 = I 55) : RlN I J := ⟨fun k _ => by rw [e6], e7, e8, e9, e4, e12, e1, e5⟩
theorem RlN.q {I J K : mI} (h : RlN I J) (e6 : K 56 = J 56) (e7 : K 57 = J 57) (e8 : K 58 = J 58) (e9 : K 59 = J 59) (e4 : K 54 7 = J 54 7) (e12 : K 54 12 = J 54 12) (e1 : K 54 1 = J 54 1) (e5 : K 55 = J 55) : RlN I K := h.tr (RlN.al e6 e7 e8 e9 e4 e12 e1 e5)
theorem RlN.p4 {I J : mI} {k : Nat} {x : Int32} (h : RlN I J) (hk : ¬ 7 = k ∧ ¬ 12 = k ∧ ¬ 1 = k) : RlN I (put J 54 k x) := h.q (pt_n (by decide)) (pt_n (by decide)) (pt_n (by decide)) (pt_n (by decide)) (pt_f hk.1) (pt_f hk.2.1) (pt_f hk.2.2) (pt_n (by decide))
theorem RlN.pa {I J : mI} {a k : Nat} {x : Int32} (h : RlN I J) (ha : ¬ 54 = a ∧ ¬ 55 = a ∧ ¬ 56 = a ∧ ¬ 57 = a ∧ ¬ 58 = a ∧ ¬ 59 = a) : RlN I (put J a k x) := h.q (pt_n ha.2.2.1) (pt_n ha.2.2.2.1) (pt_n ha.2.2.2.2.1) (pt_n ha.2.2.2.2.2) (pt_m ha.1) (pt_m ha.1) (pt_m ha.1) (pt_n ha.2.1)
theorem RlE.tl {I : mI} {v : Int32} : RlE I (telF I v) v := ⟨fun k _ => by rw [telF_n (by decide) (by decide)], telF_n (by decide) (by decide), telF_n (by decide) (by decide), telF_n (by decide) (by decide), telF_f (by decide), telF_f (by decide), TdM.t rfl⟩
theorem RlN.tel {I J : mI} {v : Int32} (h : RlN I J) : RlE I (telF J v) v := h.te RlE.tl
/-- one place of the row -/
theorem RlW.one {I K J : mI} {m : Nat} {x : Int32} (h : RlN I K) (g : RlN (put K 56 m x) J) : RlW I J (va_up (I 56) m x) none := by
  refine ⟨fun k h1 => ?_, g.2.1.trans ((pt_n (by decide)).trans h.2.1), g.2.2.1.trans ((pt_n (by decide)).trans h.2.2.1), g.2.2.2.1.trans ((pt_n (by decide)).trans h.2.2.2.1), g.2.2.2.2.1.trans ((pt_m (by decide)).trans h.2.2.2.2.1), g.2.2.2.2.2.1.trans ((pt_m (by decide)).trans h.2.2.2.2.2.1), g.2.2.2.2.2.2.1.trans ((pt_m (by decide)).trans h.2.2.2.2.2.2.1), g.2.2.2.2.2.2.2.trans ((pt_n (by decide)).trans h.2.2.2.2.2.2.2)⟩
  rw [g.1 k h1]
  by_cases e : k = m
  · rw [e, pt_s, uu_s]
  · rw [pt_f e, uu_n _ _ e]
    exact h.1 k h1
theorem RlW.fg {I J : mI} {ρ : Nat → Int32} {v : Int32} (h : RlW I J ρ none) : RlW I (telF (put (put J 54 59 (-1)) 54 60 (-2)) v) ρ (some v) := h.te (((RlN.rf).p4 (by decide)).p4 (by decide)).tel
