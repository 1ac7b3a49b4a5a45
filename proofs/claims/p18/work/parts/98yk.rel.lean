/-! the relation: heats, even, striker, reached, plan -/
section RK
variable {c th B : Nat} {A A2 : Nat → Nat} {I : mI}
theorem r_striker {w : Nat → Nat} {r s : Nat} {nu v u : Int32} (h : ∃ v1, MinH w c nu B r s v1 ∧ ((v1 = -1 ∧ v = -1) ∨ (¬ v1 = -1 ∧ ∃ v2, MinH w c nu (B + 1) r s v2 ∧ v = if v2 = -1 then -1 else v1 - v2))) (k : ∃ v1, MinH w c nu B r s v1 ∧ ((v1 = -1 ∧ u = -1) ∨ (¬ v1 = -1 ∧ ∃ v2, MinH w c nu (B + 1) r s v2 ∧ u = if v2 = -1 then -1 else v1 - v2))) : v = u := by
  obtain ⟨a, a1, a2⟩ := h
  obtain ⟨b, b1, b2⟩ := k
  obtain rfl := a1.eq b1
  rcases a2 with ⟨z, a3⟩ | ⟨z, x, x1, x2⟩
  · rcases b2 with ⟨_, b3⟩ | ⟨y, _⟩
    · rw [a3, b3]
    · exact absurd z y
  · rcases b2 with ⟨y, _⟩ | ⟨_, y, y1, y2⟩
    · exact absurd y z
    · obtain rfl := x1.eq y1
      rw [x2, y2]
theorem r_reached {r : Nat} {nu x v u : Int32} (hc : c = 3 ∨ c = 4 ∨ c = 5) (hr : r < 9 ^ c) (h : ((x < 0 ∨ 6 < x) ∧ v = -1) ∨ ∃ n, n ≤ 6 ∧ x = nI n ∧ ∃ f : Nat → Bool, (∀ k, k < 64 * nW c → (f k = true ↔ LvD true (wt c) c nu B r n k)) ∧ v = nI (cnt f (64 * nW c))) (k : (inB x.toInt64 0 6 = false ∧ u = -1) ∨ ∃ n g, n ≤ 6 ∧ x = nI n ∧ (∀ k, k < 59049 → (g k = true ↔ Lev (wt c) c nu B r n k)) ∧ u = nI (cnt g 59049)) : v = u := by
  have b : inB x.toInt64 0 6 = true ↔ ¬ x < 0 ∧ ¬ 6 < x := inBc rfl rfl
  rcases h with ⟨z, h1⟩ | ⟨n, n6, e, f, f1, h1⟩
  · rcases k with ⟨_, k1⟩ | ⟨m, g, m6, e2, _, _⟩
    · rw [h1, k1]
    · exfalso
      rw [e2] at z
      rcases z with z | z
      · exact nI_pos (by omega) z
      · exact nI_nlt (a := 6) (b := m) (by omega) (by omega) z
  · rcases k with ⟨y, _⟩ | ⟨m, g, m6, e2, g1, k1⟩
    · exfalso
      rw [b.mpr ⟨by rw [e]; exact nI_pos (by omega), by rw [e]; exact nI_nlt (a := 6) (b := n) (by omega) (by omega)⟩] at y
      cases y
    · obtain rfl : n = m := (nI_eq (by omega) (by omega)).mp (e.symm.trans e2)
      obtain ⟨n1, n2⟩ := n9c hc
      have lt : ∀ j, LvD true (wt c) c nu B r n j → j < 9 ^ c := fun j z => LvD_lt (WNc hc) hr n j z
      have c1 : cnt f (64 * nW c) = cnt f (9 ^ c) := cnt_tail (fun j j1 j2 => eq_false_of_ne_true (fun z => by
        have := lt j ((f1 j j2).mp z)
        omega)) n1
      have c2 : cnt g 59049 = cnt g (9 ^ c) := cnt_tail (fun j j1 j2 => eq_false_of_ne_true (fun z => by
        have := lt j ((LvD_lev n j).mpr ((g1 j j2).mp z))
        omega)) n2
      have c3 : cnt f (9 ^ c) = cnt g (9 ^ c) := cnt_cong (fun j hj => Bool.eq_iff_iff.mpr ((f1 j (by omega)).trans ((LvD_lev n j).trans (g1 j (by omega)).symm)))
      rw [h1, k1, c1, c2, c3]
theorem r_plan {r s : Nat} {nu i x v u : Int32} (hc : c = 3 ∨ c = 4 ∨ c = 5) (h : ((i < 0 ∨ ¬ i < 6 ∨ x < -1 ∨ ¬ x < nI c) ∧ v = -1) ∨ (¬ i < 0 ∧ i < 6 ∧ ¬ x < -1 ∧ x < nI c ∧ PlT (wt c) c (9 ^ c) nu B r s i x v)) (k : PlU c nu B r s i x u) : v = u := by
  have c5 : c ≤ 5 := by omega
  have nk : ∀ k, k < 5 → ¬ nI k = (-1 : Int32) := by decide
  have nm : ∀ k, k < 5 → ¬ nI k < (-1 : Int32) := by decide
  have m1 : (-1 : Int32) < nI c := by
    rcases hc with rfl | rfl | rfl <;> decide
  obtain ⟨b, b1, b2⟩ := k
  rcases h with ⟨z, h1⟩ | ⟨i0, i6, x1, x2, a, a1, a2⟩
  · rcases b2 with ⟨_, b3⟩ | ⟨j0, j1, H, pc, pr, H6, eH, _, b8⟩
    · rw [h1, b3]
    · exfalso
      rcases z with z | z | z | z
      · exact j0 z
      · rw [eH] at j1
        refine z ?_
        rw [Int32.lt_iff_toInt_lt] at j1 ⊢
        rw [nI_toInt (by omega)] at j1
        have : (6 : Int32).toInt = 6 := rfl
        omega
      · rcases b8 with ⟨y1, _⟩ | ⟨l, l1, l2, _⟩
        · rw [y1] at z
          exact absurd z (by decide)
        · rw [l2] at z
          exact nm l (by omega) z
      · rcases b8 with ⟨y1, _⟩ | ⟨l, l1, l2, _⟩
        · rw [y1] at z
          exact z m1
        · rw [l2] at z
          exact z (nI_lt l1 (by omega))
  · obtain rfl := a1.eq b1
    rcases a2 with ⟨a3, a4⟩ | ⟨a3, a4, H, pc, pr, a5, a6, a7, a8⟩
    · rcases b2 with ⟨_, b3⟩ | ⟨j0, j1, _⟩
      · rw [a4, b3]
      · exact absurd a3 (fun z => z.elim j0 (fun z => z j1))
    · rcases b2 with ⟨b3, _⟩ | ⟨j0, j1, H', pc', pr', b5, b6, b7, b8⟩
      · exfalso
        rcases b3 with b3 | ⟨b3, b4⟩
        · exact b3.elim a3 (fun z => z a4)
        · rcases a8 with ⟨y1, _⟩ | ⟨l, l1, l2, _⟩
          · exact b3 y1
          · exact b4 ⟨by rw [l2]; exact nI_pos (by omega), x2⟩
      · exact PlT.eq (N := 9 ^ c) c5 ⟨a, a1, Or.inr ⟨a3, a4, H, pc, pr, a5, a6, a7, a8⟩⟩ ⟨a, a1, Or.inr ⟨j0, j1, H', pc', pr', b5, b6, b7, b8⟩⟩
end RK
