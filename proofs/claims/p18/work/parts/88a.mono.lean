/-! frames of a forge's sets -/
theorem FoI.mono {I I' : mI} {f c n : Nat} {w : Nat → Nat} (h : FoI I f c n w) (h1 : I' f 0 = I f 0) (h2 : I' f 1 = I f 1) (h3 : I' (f + 1) = I (f + 1)) : FoI I' f c n w := ⟨h1.trans h.1, h2.trans h.2.1, fun i hi => by rw [h3]; exact h.2.2 i hi⟩
theorem FoL.mono {L L' : mL} {f c n : Nat} {w : Nat → Nat} (h : FoL L f c n w) (h1 : ∀ a, f + 2 ≤ a → a ≤ f + 3 + c + c → L' a = L a) : FoL L' f c n w := fun i hi k hk => by
  rw [h1 _ (by omega) (by omega), h1 _ (by omega) (by omega)]
  exact h i hi k hk
theorem FoH.mono {L L' : mL} {f c n : Nat} {w : Nat → Nat} {nu : Int32} (h : FoH L f c n w nu) (h1 : ∀ a, f + 4 + 2 * c < a → a ≤ f + 4 + 2 * c + c → L' a = L a) : FoH L' f c n w nu := fun i hi k hk => by
  rw [h1 _ (by omega) (by omega)]
  exact h i hi k hk
