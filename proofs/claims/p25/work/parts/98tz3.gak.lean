/-! group G: what calls leave of the Gate: PIECES and the cache, or the cache is forgotten -/
def GaK (I J : mI) : Prop := ((∀ a, (a = 10 ∨ a = 11 ∨ (47 ≤ a ∧ a ≤ 52)) → J a = I a) ∧ J 5 9 = I 5 9) ∨ ∀ k, k < 4 → J 47 k = 0
section GAK
variable {a k n u : Nat} {I J K : mI} {x c : Int32}
theorem GaK.rf : GaK I I := Or.inl ⟨fun _ _ => rfl, rfl⟩
theorem GaK.al5 (h : GaK I J) (g : ∀ a, (a = 10 ∨ a = 11 ∨ (47 ≤ a ∧ a ≤ 52)) → K a = J a) (g5 : K 5 9 = J 5 9) : GaK I K := by
  rcases h with ⟨h1, h2⟩ | h
  · exact Or.inl ⟨fun a ha => (g a ha).trans (h1 a ha), g5.trans h2⟩
  · exact Or.inr (fun k hk => by rw [g 47 (by omega)]; exact h k hk)
theorem GaK.al (h : GaK I J) (g : ∀ a, (a = 5 ∨ a = 10 ∨ a = 11 ∨ (47 ≤ a ∧ a ≤ 52)) → K a = J a) : GaK I K := h.al5 (fun a ha => g a (by omega)) (by rw [g 5 (by omega)])
theorem GaK.p (h : GaK I J) (ha : (a < 10 ∧ ¬ a = 5) ∨ (11 < a ∧ a < 47) ∨ 52 < a) : GaK I (put J a k x) := h.al (fun b hb => pt_n (by omega))
theorem GaK.p5 (h : GaK I J) (hk : ¬ 9 = k) : GaK I (put J 5 k x) := h.al5 (fun b hb => pt_n (by omega)) (pt_f hk)
theorem GaK.gr (h : GaK I J) : GaK I (graF J) := h.p (Or.inl ⟨by decide, by decide⟩)
theorem GaK.re (h : GaK I J) : GaK I (refF J c) := by
  unfold refF
  by_cases g1 : rfP c < 0
  · rw [if_pos g1]; exact h.p (Or.inl ⟨by decide, by decide⟩)
  · rw [if_neg g1]
    by_cases g2 : rfP c < 5
    · rw [if_pos g2]; exact (h.p (Or.inl ⟨by decide, by decide⟩)).p (Or.inr (Or.inr (by decide)))
    · rw [if_neg g2]; exact h.p (Or.inl ⟨by decide, by decide⟩)
theorem GaK.gu (h : GaK I J) (g : Gu u J K) (hu : 11 < u ∧ u + 5 < 47) : GaK I K := h.al (fun b hb => g b (by omega))
theorem fil47 : filF J 47 4 0 47 k = if k < 4 then 0 else J 47 k := by
  unfold filF
  rw [uu_s]
end GAK
