/-! group B: both contracts of recipe joined -/
theorem m_recB {d t : Nat} {S : mS} {I Z : mI} {L : mL} {R : mR} {Q : mQ} (hS : Pm S) (hR : Pr R) (h : InvM I t) (hb : ∀ n, n ≤ 400 → I 54 7 = nI n → Byt Z (I 59) n) (hq : ∀ v J L', InvM J t → OutM I J → (J 54 7 = 0 ∧ RlO I J (I 56)) → (∀ n w, n ≤ 400 → I 54 7 = nI n → w ≤ 8 → I 56 1 = nI w → rRec I J w (undF Z 13 n) v) → Q (.int v) S J L' R) : EvM (d + 9) 181 [.ref 54] S I L R Q := by
  obtain ⟨w, w1, e1, _⟩ := h.1.2.2.2.2
  obtain ⟨n, n1, e7⟩ := h.2.2.1
  have k1 := m_recipe (d := d) (L := L) (Q := fun v S' J L' R' => ∃ x, v = .int x ∧ S' = S ∧ R' = R ∧ InvM J t ∧ OutM I J ∧ (J 54 7 = 0 ∧ RlO I J (I 56))) hS hR h (fun v J L' k1 k2 k3 => ⟨v, rfl, rfl, rfl, k1, k2, k3⟩)
  have k2 := recE (d := d) (L := L) (Z := Z) (w := w) (n := n) (Q := fun v S' J L' R' => ∃ x, v = .int x ∧ rRec I J w (undF Z 13 n) x) hS hR (by omega) e1 n1 e7 (hb n n1 e7) (fun J L' v k _ => ⟨v, rfl, k⟩)
  refine evm_mono (evm_and k1 k2) (fun v S' J L' R' k => ?_)
  obtain ⟨⟨x, rfl, rfl, rfl, a1, a2, a3⟩, ⟨y, ey, b1⟩⟩ := k
  have exy : x = y := by
    injection ey
  subst exy
  refine hq x J L' a1 a2 a3 (fun n' w' n1' e7' w1' e1' => ?_)
  obtain rfl : n' = n := (nI_eq (by omega) (by omega)).mp (e7'.symm.trans e7)
  obtain rfl : w' = w := (nI_eq (by omega) (by omega)).mp (e1'.symm.trans e1)
  exact b1
