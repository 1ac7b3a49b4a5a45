/-! group C: what calls leave of the RUNs -/
/-- the latest RUN stays, and that the other ones' hands do not slip -/
def RuF (I J : mI) : Prop := (∀ a, 20 ≤ a → a ≤ 25 → J a = I a) ∧ J 4 6 = I 4 6 ∧ (I 26 9 = -1 → J 26 9 = -1) ∧ (I 32 9 = -1 → J 32 9 = -1)
def HdF (I J : mI) : Prop := (I 20 9 = -1 → J 20 9 = -1) ∧ (I 26 9 = -1 → J 26 9 = -1) ∧ (I 32 9 = -1 → J 32 9 = -1)
section RUF
variable {z a k n k1 k2 k3 m : Nat} {I J K : mI} {x w : Int32}
theorem RuF.rf : RuF I I := ⟨fun _ _ _ => rfl, rfl, fun h => h, fun h => h⟩
theorem RuF.hd (h : RuF I J) : HdF I J := ⟨fun z => by rw [h.1 20 (by decide) (by decide)]; exact z, h.2.2.1, h.2.2.2⟩
theorem RuF.al (h : RuF I J) (g : ∀ a, 20 ≤ a → a ≤ 37 → K a = J a) (g4 : K 4 6 = J 4 6) : RuF I K := ⟨fun a h1 h2 => (g a h1 (by omega)).trans (h.1 a h1 h2), g4.trans h.2.1, fun z => by rw [g 26 (by decide) (by decide)]; exact h.2.2.1 z, fun z => by rw [g 32 (by decide) (by decide)]; exact h.2.2.2 z⟩
theorem RuF.p (h : RuF I J) (hk : (¬ 4 = a ∨ ¬ 6 = k) ∧ (a < 20 ∨ 37 < a)) : RuF I (put J a k x) := h.al (fun b h1 h2 => pt_n (by omega)) (by
  rcases hk.1 with q | q
  · exact pt_m q
  · by_cases e : 4 = a
    · subst e
      exact pt_f q
    · exact pt_m e)
theorem RuF.fl (h : RuF I J) (hk : ¬ 4 = a ∧ (a < 20 ∨ 37 < a)) : RuF I (filF J a n x) := h.al (fun b h1 h2 => uu_n _ _ (by omega)) (by
  unfold filF
  rw [uu_n _ _ hk.1])
theorem RuF.gr (h : RuF I J) : RuF I (graF J) := h.p (by decide)
theorem RuF.re (h : RuF I J) : RuF I (refF J x) := by
  unfold refF
  by_cases g1 : rfP x < 0
  · rw [if_pos g1]; exact h.p (by decide)
  · rw [if_neg g1]
    by_cases g2 : rfP x < 5
    · rw [if_pos g2]; exact (h.p (by decide)).p ⟨Or.inl (by decide), by decide⟩
    · rw [if_neg g2]; exact h.p (by decide)
theorem RuF.c26 (h : RuF I J) : RuF I (finF (carF J 26 z n k1 k2 k3 m w).1 26 z) := by
  have g := Gu.ca (Gu.rf (u := 26) (I := J)) (z := z) (n := n) (k1 := k1) (k2 := k2) (k3 := k3) (m := m) (w := w)
  have f := F9.ca (F9.rf (u := 26) (I := J)) (z := z) (n := n) (k1 := k1) (k2 := k2) (k3 := k3) (m := m) (w := w)
  exact ⟨fun a h1 h2 => (g a (Or.inl (by omega))).trans (h.1 a h1 h2), by rw [g 4 (Or.inl (by decide))]; exact h.2.1, fun z => f.trans (h.2.2.1 z), fun z => by rw [g 32 (Or.inr (by decide))]; exact h.2.2.2 z⟩
theorem RuF.c32 (h : RuF I J) : RuF I (finF (carF J 32 z n k1 k2 k3 m w).1 32 z) := by
  have g := Gu.ca (Gu.rf (u := 32) (I := J)) (z := z) (n := n) (k1 := k1) (k2 := k2) (k3 := k3) (m := m) (w := w)
  have f := F9.ca (F9.rf (u := 32) (I := J)) (z := z) (n := n) (k1 := k1) (k2 := k2) (k3 := k3) (m := m) (w := w)
  exact ⟨fun a h1 h2 => (g a (Or.inl (by omega))).trans (h.1 a h1 h2), by rw [g 4 (Or.inl (by decide))]; exact h.2.1, fun z => by rw [g 26 (Or.inl (by decide))]; exact h.2.2.1 z, fun z => f.trans (h.2.2.2 z)⟩
theorem HdF.c20 (h : HdF I J) : HdF I (finF (carF J 20 z n k1 k2 k3 m w).1 20 z) := by
  have g := Gu.ca (Gu.rf (u := 20) (I := J)) (z := z) (n := n) (k1 := k1) (k2 := k2) (k3 := k3) (m := m) (w := w)
  have f := F9.ca (F9.rf (u := 20) (I := J)) (z := z) (n := n) (k1 := k1) (k2 := k2) (k3 := k3) (m := m) (w := w)
  exact ⟨fun z => f.trans (h.1 z), fun z => by rw [g 26 (Or.inr (by decide))]; exact h.2.1 z, fun z => by rw [g 32 (Or.inr (by decide))]; exact h.2.2 z⟩
theorem HdF.al (h : HdF I J) (g : ∀ a, 20 ≤ a → a ≤ 37 → K a = J a) : HdF I K := ⟨fun z => by rw [g 20 (by decide) (by decide)]; exact h.1 z, fun z => by rw [g 26 (by decide) (by decide)]; exact h.2.1 z, fun z => by rw [g 32 (by decide) (by decide)]; exact h.2.2 z⟩
theorem wrS_6 {s : Int32} : wrS I x s 4 6 = I 4 6 := by
  unfold wrS
  by_cases g : I 4 3 < 400
  · rw [if_pos g]
    unfold wr1
    rw [pt_f (by decide), pt_m (by decide)]
  · rw [if_neg g]
theorem wrF_6 : wrF I x 4 6 = I 4 6 := by
  unfold wrF
  rw [wrS_6, wrS_6, wrS_6, wrS_6]
/-- the Run of made, of twelve -/
theorem RuF.u26 (h : RuF I J) (g : ∀ a, a < 26 ∨ 31 < a → ¬ a = 38 → K a = J a) (e : J 26 9 = -1 → K 26 9 = -1) : RuF I K := ⟨fun a h1 h2 => (g a (Or.inl (by omega)) (by omega)).trans (h.1 a h1 h2), by rw [g 4 (Or.inl (by decide)) (by decide)]; exact h.2.1, fun z => e (h.2.2.1 z), fun z => by rw [g 32 (Or.inr (by decide)) (by decide)]; exact h.2.2.2 z⟩
theorem twH_9 {y : Int32} : twH n k1 k2 k3 m I x y 26 9 = -1 := by
  unfold twH
  rw [pt_f (by decide), pt_s]
theorem twH_g {y : Int32} : Gt I (twH n k1 k2 k3 m I x y) := fun a h1 h2 => by
  unfold twH
  rw [pt_n (by omega), pt_n (by omega)]
  exact (Gt.tw 12 0 _ (Gt.gu (fun _ _ _ => rfl) ((Gu.rf.pt (by omega) (by omega)).pt (by omega) (by omega)))) a h1 h2
theorem twJ_g {y v : Int32} : Gt I (twJ n k1 k2 k3 m (twH n k1 k2 k3 m I x y) v) := by
  unfold twJ
  split
  · exact twH_g
  · split
    · exact twH_g
    · exact Gt.gu twH_g Gu.rf.ca
theorem twJ_9 {y v : Int32} : twJ n k1 k2 k3 m (twH n k1 k2 k3 m I x y) v 26 9 = -1 := by
  unfold twJ
  split
  · exact twH_9
  · split
    · exact twH_9
    · exact (F9.ca F9.rf).trans twH_9
end RUF
