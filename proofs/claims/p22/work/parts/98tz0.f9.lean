/-! group C: by how much a hand slips stays, whatever a RUN does -/
def F9 (u : Nat) (C D : mI) : Prop := D u 9 = C u 9
section F9S
variable {u z a k n k1 k2 k3 m s : Nat} {I J : mI} {x c b w v1 v2 kd : Int32} {t : Bool}
theorem F9.rf : F9 u I I := rfl
theorem F9.pt (h : F9 u I J) (hk : ¬ a = u ∨ ¬ k = 9) : F9 u I (put J a k x) := by
  refine Eq.trans ?_ h
  rcases hk with hk | hk
  · exact pt_m (fun z => hk z.symm)
  · by_cases e : u = a
    · subst e
      exact pt_f (fun z => hk z.symm)
    · exact pt_m e
theorem F9.up {f : Nat → Int32} (h : F9 u I J) (hk : ¬ a = u) : F9 u I (va_up J a f) := by
  refine Eq.trans ?_ h
  show va_up J a f u 9 = J u 9
  rw [uu_n _ _ (fun z => hk z.symm)]
theorem F9.ic (h : F9 u I J) (hk : ¬ a = u ∨ ¬ k = 9) : F9 u I (inc J a k) := h.pt hk
theorem F9.dc (h : F9 u I J) (hk : ¬ a = u ∨ ¬ k = 9) : F9 u I (dcr J a k) := h.pt hk
theorem F9.ob (h : F9 u I J) (hk : ¬ a = u ∨ ¬ k = 9) : F9 u I (orb J a k c) := h.pt hk
theorem F9.use (h : F9 u I J) : F9 u I (useF J u c t) := by
  unfold useF
  split
  · exact (h.dc (by omega)).ic (by omega)
  · exact (h.ic (by omega)).ob (by omega)
theorem F9.los (h : F9 u I J) : F9 u I (losF J u c) := by
  unfold losF
  split
  · exact (h.dc (by omega)).ic (by omega)
  · exact h
theorem F9.sl (h : F9 u I J) : F9 u I (slF J u) := by
  unfold slF
  split
  · exact h
  · exact h.pt (by omega)
theorem F9.mv (h : F9 u I J) : F9 u I (mv1 J u c b) := ((h.dc (by omega)).ic (by omega)).ic (by omega)
theorem F9.mov (h : F9 u I J) : F9 u I (movF J u c b) := by
  unfold movF
  split
  · exact h.mv.ob (by omega)
  · exact h.mv
theorem F9.tB (h : F9 u I J) : F9 u I (stB J u c b) := by
  unfold stB
  split
  · exact h.sl.ic (by omega)
  · exact h.sl.mov
theorem F9.tA (h : F9 u I J) : F9 u I (stA J u c b) := by
  unfold stA
  repeat' split
  all_goals first | exact h.ic (by omega) | exact h.tB
theorem F9.str (h : F9 u I J) : F9 u I (strF J u c b) := by
  unfold strF
  repeat' split
  all_goals first | exact h.ic (by omega) | exact h.use.tA | exact h.use
theorem F9.sho (h : F9 u I J) : F9 u I (shoF J u c) := by
  unfold shoF
  repeat' split
  all_goals first | exact h.ic (by omega) | exact h.use.ob (by omega) | exact h.use
theorem F9.pn1 (h : F9 u I J) : F9 u I (pu1 J u c) := by
  unfold pu1
  split
  · exact (h.ob (by omega)).los
  · exact h
theorem F9.pun (h : F9 u I J) : F9 u I (punF J u c) := by
  unfold punF
  repeat' split
  all_goals first | exact h.ic (by omega) | exact (h.use.ic (by omega)).pn1 | exact h.use
theorem F9.wel (h : F9 u I J) : F9 u I (welF J u c x) := by
  unfold welF
  repeat' split
  all_goals first | exact h.ic (by omega) | exact (h.use.ob (by omega)).pt (by omega) | exact h.use
theorem F9.fir (h : F9 u I J) : F9 u I (firF J u z c) := by
  unfold firF
  repeat' split
  all_goals first | exact h | exact (((h.ic (by omega)).pt (by omega)).pt (by omega)).los | exact h.ic (by omega)
theorem F9.pu (h : F9 u I J) : F9 u I (puF J u c) := by
  unfold puF
  split
  · exact (h.pt (by omega)).pt (by omega)
  · exact h
theorem F9.po (h : F9 u I J) : F9 u I (poF J u) := by
  unfold poF
  split
  · exact h
  · exact h.pt (by omega)
theorem F9.st (h : F9 u I J) : F9 u I (stF J u w) := by
  unfold stF
  repeat' split
  all_goals first | exact h.po.po.pu | exact h.po.pu | exact h.pu
theorem F9.rk : ∀ (N : Nat) (i : Int32) (J : mI), F9 u I J → F9 u I (rkF u k m N i J)
  | 0, _, _, h => h
  | N + 1, _, _, h => F9.rk N _ _ h.st
theorem F9.re (h : F9 u I J) : F9 u I (reF J u k2 k3 m s) := F9.rk _ _ _ (h.pt (by omega))
theorem F9.pa (h : F9 u I J) : F9 u I (paF J u z n k1 s x).1 := by
  unfold paF
  repeat' split
  all_goals first | exact h | exact h.fir | exact h.fir.pt (by omega) | exact h.str | exact h.sho | exact h.pun | exact h.wel
theorem F9.pas (h : F9 u I J) : F9 u I (pasF J u z n k1 k2 k3 m w x).1 := by
  unfold pasF
  split
  · exact h.re.pa
  · exact h
theorem F9.be (h : F9 u I J) : F9 u I (begF J u z) := by
  unfold begF be1 filF cpyF
  exact (((((((h.pt (by omega)).up (by omega)).up (by omega)).pt (by omega)).up (by omega)).up (by omega)).pt (by omega)).pt (by omega)
theorem F9.cr : ∀ (N g : Nat) (a : Int32) (J : mI), F9 u I J → F9 u I (crF u z n k1 k2 k3 m w N g a J).1
  | 0, _, _, _, h => h
  | N + 1, g, a, J, h => by
    unfold crF
    split
    · exact F9.cr N _ _ _ h.pas
    · exact h
theorem F9.ca (h : F9 u I J) : F9 u I (finF (carF J u z n k1 k2 k3 m w).1 u z) := by
  unfold finF carF
  exact ((F9.cr _ _ _ _ h.be).pt (by omega)).pt (by omega)
end F9S
