/-! group B: both contracts of recipe joined -/
theorem evm_and {d j : Nat} {as : List Value} {S : mS} {I : mI} {L : mL} {R : mR} {Q1 Q2 : mQ} (k1 : EvM d j as S I L R Q1) (k2 : EvM d j as S I L R Q2) : EvM d j as S I L R (fun v S I L R => Q1 v S I L R ∧ Q2 v S I L R) := by
  obtain ⟨a, n, r, hr, hq⟩ := k1
  obtain ⟨_, m, r2, hr2, hq2⟩ := k2
  have e := run_one hr hr2
  subst e
  exact ⟨a, n, r, hr, ⟨hq, hq2⟩⟩
theorem evm_mono {d j : Nat} {as : List Value} {S : mS} {I : mI} {L : mL} {R : mR} {Q1 Q2 : mQ} (k : EvM d j as S I L R Q1) (h : ∀ v S I L R, Q1 v S I L R → Q2 v S I L R) : EvM d j as S I L R Q2 := by
  obtain ⟨a, n, r, hr, hq⟩ := k
  exact ⟨a, n, r, hr, h _ _ _ _ _ hq⟩
theorem m_recB {d t : Nat} {S : mS} {I Z : mI} {L : mL} {R : mR} {Q : mQ} (hS : Pm S) (hR : Pr R) (h : InvM I t) (hb : ∀ n, n ≤ 400 → I 54 7 = nI n → Byt Z (I 59) n) (hq : ∀ v J L', InvM J t → OutM I J → (J 54 7 = 0 ∧ RlO I J (I 56)) → (∀ n w, n ≤ 400 → I 54 7 = nI n → w ≤ 8 → I 56 1 = nI w → rRec I J w (undF Z 13 n) v) → TdM I J (some v) → Q (.int v) S J L' R) : EvM (d + 9) 181 [.ref 54] S I L R Q := by
  obtain ⟨w, w1, e1, _⟩ := h.1.2.2.2.2
  obtain ⟨n, n1, e7⟩ := h.2.2.1
  have k1 := m_recipe (d := d) (L := L) (Q := fun v S' J L' R' => ∃ x, v = .int x ∧ S' = S ∧ R' = R ∧ InvM J t ∧ OutM I J ∧ (J 54 7 = 0 ∧ RlO I J (I 56))) hS hR h (fun v J L' k1 k2 k3 => ⟨v, rfl, rfl, rfl, k1, k2, k3⟩)
  have k2 := recE (d := d) (L := L) (Z := Z) (w := w) (n := n) (Q := fun v S' J L' R' => ∃ x, v = .int x ∧ rRec I J w (undF Z 13 n) x ∧ TdM I J (some x)) hS hR (by omega) e1 n1 e7 (hb n n1 e7) (fun J L' v k ⟨M, q1, q2, q3⟩ => ⟨v, rfl, k, q3.trans telF_1, q2.trans (telF_5 (funext q1))⟩)
  refine evm_mono (evm_and k1 k2) (fun v S' J L' R' k => ?_)
  obtain ⟨⟨x, rfl, rfl, rfl, a1, a2, a3⟩, ⟨y, ey, b1, b2⟩⟩ := k
  have exy : x = y := by
    injection ey
  subst exy
  refine hq x J L' a1 a2 a3 (fun n' w' n1' e7' w1' e1' => ?_) b2
  obtain rfl : n' = n := (nI_eq (by omega) (by omega)).mp (e7'.symm.trans e7)
  obtain rfl : w' = w := (nI_eq (by omega) (by omega)).mp (e1'.symm.trans e1)
  exact b1
