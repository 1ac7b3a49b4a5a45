/-! the Planner's maker over any base -/
section MK
variable {d f P c n : Nat} {w : Nat → Nat} {S S1 : mS} {I I1 : mI} {L L1 : mL} {R R1 : mR} {Q : mQ}
theorem forgeM (hc : c = 3 ∨ c = 4 ∨ c = 5) (h1 : S.1 = f + 1) (hk : S.2.2.1 f = 0) (h : ∀ S' I' L' R', S'.1 = f + (8 + 3 * c) → S'.2.1 = S.2.1 + xW c → Ext S S' → FoS S' R' f c (nW c) → FoI I' f c (nW c) (wt c) → (∀ a, a < f → I' a = I a ∧ R' a = R a) → Q .null S' I' L' R') : EvM (d + 3) 0 [.ref f, .int (nI c)] S I L R Q := by
  rcases hc with rfl | rfl | rfl
  · exact forge3_ h1 hk h
  · exact forge4_ h1 hk h
  · exact forge5_ h1 hk h
theorem exN {g u k z : Nat} (h : S1.1 = g) : Ext S1 (g + 1, u, va_up S1.2.2.1 g k, va_up S1.2.2.2 g z) := ⟨by show S1.1 ≤ g + 1; omega, fun a ha => ⟨if_neg (by omega), if_neg (by omega)⟩⟩
def Stg (S : mS) (I : mI) (R : mR) (P c n : Nat) (w : Nat → Nat) (S' : mS) (I' : mI) (R' : mR) (g : Nat) : Prop := S'.1 = g ∧ Ext S S' ∧ (ok S' P 3 ∧ (ok S' (P + 1) 11 ∧ S'.2.2.2 (P + 1) = 6) ∧ ok S' (P + 2) 11 ∧ S'.2.2.2 (P + 2) = 6) ∧ (R' P 0 = some (P + 3) ∧ R' P 7 = some (P + 1) ∧ R' P 8 = some (P + 2)) ∧ (∀ a, a < P → I' a = I a ∧ R' a = R a) ∧ FoS S' R' (P + 3) c n ∧ FoI I' (P + 3) c n w ∧ ∀ k, I' (P + 1) k = 0
theorem Stg.ext {S' S2 : mS} {I' I2 : mI} {R' R2 : mR} {g g2 : Nat} (h : Stg S I R P c n w S' I' R' g) (hg : P + 11 + 3 * c ≤ g) (e : Ext S' S2) (e1 : S2.1 = g2) (fr : ∀ a, a < g → I2 a = I' a ∧ R2 a = R' a) : Stg S I R P c n w S2 I2 R2 g2 := by
  obtain ⟨a1, a2, ⟨b1, ⟨b2, b3⟩, b4, b5⟩, ⟨r0, r7, r8⟩, a5, a6, a7, a8⟩ := h
  refine ⟨e1, a2.tr e, ⟨e.ok b1, ⟨e.ok b2, e.len b2.1 b3⟩, e.ok b4, e.len b4.1 b5⟩, ⟨?_, ?_, ?_⟩, fun a ha => ?_, e.fo (fun a x y => (fr a (by omega)).2) a6, ⟨?_, ?_, fun i hi => ?_⟩, fun k => ?_⟩
  · rw [(fr P (by omega)).2]; exact r0
  · rw [(fr P (by omega)).2]; exact r7
  · rw [(fr P (by omega)).2]; exact r8
  · rw [(fr a (by omega)).1, (fr a (by omega)).2]; exact a5 a ha
  · rw [(fr (P + 3) (by omega)).1]; exact a7.1
  · rw [(fr (P + 3) (by omega)).1]; exact a7.2.1
  · rw [(fr (P + 3 + 1) (by omega)).1]; exact a7.2.2 i hi
  · rw [(fr (P + 1) (by omega)).1]; exact a8 k
theorem Stg.prf {S' : mS} {I' : mI} {R' : mR} {g k : Nat} {x : Option Nat} (h : Stg S I R P c n w S' I' R' g) (h0 : ¬ 0 = k) (h7 : ¬ 7 = k) (h8 : ¬ 8 = k) : Stg S I R P c n w S' I' (va_up R' P (va_up (R' P) k x)) g := by
  obtain ⟨a1, a2, a3, ⟨r0, r7, r8⟩, a5, a6, a7, a8⟩ := h
  refine ⟨a1, a2, a3, ⟨?_, ?_, ?_⟩, fun a ha => ⟨(a5 a ha).1, ?_⟩, Ext.rf.fo (fun a x y => uu_n _ _ (by omega)) a6, a7, a8⟩
  · rw [uu_s, uu_n _ _ h0]; exact r0
  · rw [uu_s, uu_n _ _ h7]; exact r7
  · rw [uu_s, uu_n _ _ h8]; exact r8
  · rw [uu_n _ _ (by omega)]; exact (a5 a ha).2
theorem stg_lv {g m : Nat} {bo : Int32} (h : Stg S I R P c n w S1 I1 R1 g) (hg : P + 11 + 3 * c ≤ g) (hm : m ≤ 7) (hm1 : 1 < m) (hn : n < 2 ^ 24) (hb : bo = 0 ∨ bo = 1) (hq : ∀ S2 I2 L2 R2, Stg S I R P c n w S2 I2 R2 (g + 3 + m) → S2.2.1 = S1.2.1 + 8 + (m + m * n) + n → Ext S1 S2 → LvS S2 R2 g (P + 3) (g + 1) m n → (∀ a, a < g → I2 a = I1 a ∧ R2 a = R1 a) → Q .null S2 I2 L2 R2) : EvM (d + 1) 29 [.ref g, .ref (P + 3), .int bo, .int (nI m)] (g + 1, S1.2.1 + 8, va_up S1.2.2.1 g 2, va_up S1.2.2.2 g 0) (va_up I1 g (fun _ => 0)) (va_up L1 g (fun _ => 0)) (va_up R1 g (fun _ => none)) Q := by
  have h' := h
  obtain ⟨s1, a2, a3, a4, a5, a6, a7, a8⟩ := h'
  have e0 : Ext S1 (g + 1, S1.2.1 + 8, va_up S1.2.2.1 g 2, va_up S1.2.2.2 g 0) := exN s1
  refine lv_init (l := g) (f := P + 3) (g := g + 1) (m := m) (n := n) rfl (by omega) (by omega) (by omega) (if_pos rfl) ?_ ?_ hm hm1 hn hb (fun S2 I2 L2 R2 b1 b2 b3 b4 b5 b6 => ?_)
  · show va_up S1.2.2.1 g 2 (P + 3) = 0
    rw [up_is, if_neg (by omega)]
    exact a6.1.1.2
  · rw [up_is, if_neg (by omega)]
    exact a7.2.1
  have fr : ∀ a, a < g → I2 a = I1 a ∧ R2 a = R1 a := fun a ha => by
    have q := b5 a (by omega) (by omega)
    exact ⟨q.1.trans (uu_n _ _ (by omega)), q.2.trans (uu_n _ _ (by omega))⟩
  have e2 := e0.tr b2
  exact hq S2 I2 L2 R2 (h.ext hg e2 (by have := b1.1; omega) fr) b1.2 e2 b3 fr
end MK
