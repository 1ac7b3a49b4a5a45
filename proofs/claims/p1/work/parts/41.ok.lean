/-! the law holds of every script of at most six ints -/
theorem law_ok (L : Nat) (xs : Nat → Int32) (hL : L ≤ 6) : EvM 1000 248 [.ref 0] (iS L) (iI xs) iL iR lawQ := law_start (d := 996) (fun S I Lm R F => law_of (d := 980) hL F (fun h6 => by
  subst h6
  exact ⟨kc15 F, kc16 F, kc17 F, kc18 F, kc24 F⟩))
