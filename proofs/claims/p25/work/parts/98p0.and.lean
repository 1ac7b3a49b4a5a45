/-! group G: two contracts of one call at once -/
theorem evm_and {d j : Nat} {as : List Value} {S : mS} {I : mI} {L : mL} {R : mR} {Q1 Q2 : mQ} (k1 : EvM d j as S I L R Q1) (k2 : EvM d j as S I L R Q2) : EvM d j as S I L R (fun v S I L R => Q1 v S I L R ∧ Q2 v S I L R) := by
  obtain ⟨a, n, r, hr, hq⟩ := k1
  obtain ⟨_, m, r2, hr2, hq2⟩ := k2
  have e := run_one hr hr2
  subst e
  exact ⟨a, n, r, hr, ⟨hq, hq2⟩⟩
theorem evm_mono {d j : Nat} {as : List Value} {S : mS} {I : mI} {L : mL} {R : mR} {Q1 Q2 : mQ} (k : EvM d j as S I L R Q1) (h : ∀ v S I L R, Q1 v S I L R → Q2 v S I L R) : EvM d j as S I L R Q2 := by
  obtain ⟨a, n, r, hr, hq⟩ := k
  exact ⟨a, n, r, hr, h _ _ _ _ _ hq⟩
