/-! what the reference's calls leave of rows, TAPE and IMAGES -/
def RlW (I J : mI) (ρ : Nat → Int32) : Prop := (∀ k, k < 8060 → J 56 k = ρ k) ∧ J 57 = I 57 ∧ J 58 = I 58 ∧ J 59 = I 59 ∧ J 54 7 = I 54 7 ∧ J 54 12 = I 54 12
def RlN (I J : mI) : Prop := RlW I J (I 56)
theorem RlN.rf {I : mI} : RlN I I := ⟨fun _ _ => rfl, rfl, rfl, rfl, rfl, rfl⟩
theorem RlW.n {I J K : mI} {ρ : Nat → Int32} (h : RlW I J ρ) (g : RlN J K) : RlW I K ρ := ⟨fun k h1 => (g.1 k h1).trans (h.1 k h1), g.2.1.trans h.2.1, g.2.2.1.trans h.2.2.1, g.2.2.2.1.trans h.2.2.2.1, g.2.2.2.2.1.trans h.2.2.2.2.1, g.2.2.2.2.2.trans h.2.2.2.2.2⟩
theorem RlN.tr {I J K : mI} (h : RlN I J) (g : RlN J K) : RlN I K := RlW.n h g
theorem RlN.al {I J : mI} (e6 : J 56 = I 56) (e7 : J 57 = I 57) (e8 : J 58 = I 58) (e9 : J 59 = I 59) (e4 : J 54 7 = I 54 7) (e12 : J 54 12 = I 54 12) : RlN I J := ⟨fun k _ => by rw [e6], e7, e8, e9, e4, e12⟩
theorem RlN.q {I J K : mI} (h : RlN I J) (e6 : K 56 = J 56) (e7 : K 57 = J 57) (e8 : K 58 = J 58) (e9 : K 59 = J 59) (e4 : K 54 7 = J 54 7) (e12 : K 54 12 = J 54 12) : RlN I K := h.tr (RlN.al e6 e7 e8 e9 e4 e12)
theorem RlN.p4 {I J : mI} {k : Nat} {x : Int32} (h : RlN I J) (hk : ¬ 7 = k ∧ ¬ 12 = k) : RlN I (put J 54 k x) := h.q (pt_n (by decide)) (pt_n (by decide)) (pt_n (by decide)) (pt_n (by decide)) (pt_f hk.1) (pt_f hk.2)
theorem RlN.pa {I J : mI} {a k : Nat} {x : Int32} (h : RlN I J) (ha : ¬ 54 = a ∧ ¬ 56 = a ∧ ¬ 57 = a ∧ ¬ 58 = a ∧ ¬ 59 = a) : RlN I (put J a k x) := h.q (pt_n ha.2.1) (pt_n ha.2.2.1) (pt_n ha.2.2.2.1) (pt_n ha.2.2.2.2) (pt_m ha.1) (pt_m ha.1)
theorem RlN.tel {I J : mI} {v : Int32} (h : RlN I J) : RlN I (telF J v) := h.q (telF_n (by decide) (by decide)) (telF_n (by decide) (by decide)) (telF_n (by decide) (by decide)) (telF_n (by decide) (by decide)) (telF_f (by decide)) (telF_f (by decide))
/-- one place of the row -/
theorem RlW.one {I K J : mI} {m : Nat} {x : Int32} (h : RlN I K) (g : RlN (put K 56 m x) J) : RlW I J (va_up (I 56) m x) := by
  refine ⟨fun k h1 => ?_, g.2.1.trans ((pt_n (by decide)).trans h.2.1), g.2.2.1.trans ((pt_n (by decide)).trans h.2.2.1), g.2.2.2.1.trans ((pt_n (by decide)).trans h.2.2.2.1), g.2.2.2.2.1.trans ((pt_m (by decide)).trans h.2.2.2.2.1), g.2.2.2.2.2.trans ((pt_m (by decide)).trans h.2.2.2.2.2)⟩
  rw [g.1 k h1]
  by_cases e : k = m
  · rw [e, pt_s, uu_s]
  · rw [pt_f e, uu_n _ _ e]
    exact h.1 k h1
theorem RlW.fg {I J : mI} {ρ : Nat → Int32} {v : Int32} (h : RlW I J ρ) : RlW I (telF (put (put J 54 59 (-1)) 54 60 (-2)) v) ρ := h.n (((RlN.rf).p4 (by decide)).p4 (by decide)).tel
