/-! what the Planners know: their longs; the class's calls heats, even, striker, reached, plan with their answers -/
def KL (L : mL) (s : Nat) : KT := ⟨fun c P I => PqC c P I L ∧ P + 54 + 3 * c ≤ s, fun _ _ _ _ f h => ⟨h.1.cg f (fun _ _ _ => rfl), h.2⟩⟩
theorem mat.k9 {S : mS} {R : mR} {g c n : Nat} (h : mat S R g c n) : ∀ a, g ≤ a → a < g + 1 + c → ¬ S.2.2.1 a = 9 := fun a a1 a2 => by
  by_cases e : a = g
  · rw [e, h.1.1.2]
    decide
  · have k := (h.2 (a - g - 1) (by omega)).2.1.2
    rw [show g + 1 + (a - g - 1) = a by omega] at k
    rw [k]
    decide
theorem lon.k9 {S : mS} {a n : Nat} (h : lon S a n) : ¬ S.2.2.1 a = 9 := by
  rw [h.1.2]
  decide
theorem LvS.k9 {S : mS} {R : mR} {l f m n : Nat} (h : LvS S R l f (l + 1) m n) : ∀ a, l ≤ a → a < l + m + 3 → ¬ S.2.2.1 a = 9 := fun a a1 a2 => by
  obtain ⟨⟨o0, -⟩, m1, l1⟩ := h
  by_cases e : a = l
  · rw [e, o0.2]
    decide
  by_cases e2 : a < l + 1 + 1 + m
  · exact m1.k9 a (by omega) (by omega)
  · have k := l1.k9
    rw [show l + 1 + 1 + m = a by omega] at k
    exact k
theorem PlS.k9 {S : mS} {R : mR} {P c n : Nat} (h : PlS S R P c n) : ∀ a, P ≤ a → a < P + 54 + 3 * c → ¬ S.2.2.1 a = 9 := fun a a1 a2 => by
  have ep : pL1 P c = P + 11 + 3 * c := rfl
  obtain ⟨⟨o0, ⟨o1, -⟩, o2, -⟩, -, ⟨⟨f0, f1, -⟩, -, ⟨m1, m2, m3⟩, l1, l2, l3⟩, ⟨v1, v2, v3, v4⟩, mp, lw⟩ := h
  have ne : ∀ b k, ok S b k → ¬ k = 9 → a = b → ¬ S.2.2.1 a = 9 := fun b k o z e y => z (by rw [← o.2, ← e]; exact y)
  have nl : ∀ b, lon S b n → a = b → ¬ S.2.2.1 a = 9 := fun b o e => ne b 12 o.1 (by decide) e
  by_cases e0 : a = P
  · exact ne _ _ o0 (by decide) e0
  by_cases e1 : a = P + 1
  · exact ne _ _ o1 (by decide) e1
  by_cases e2 : a = P + 2
  · exact ne _ _ o2 (by decide) e2
  by_cases e3 : a = P + 3
  · exact ne _ _ f0 (by decide) e3
  by_cases e4 : a = P + 3 + 1
  · exact ne _ _ f1 (by decide) e4
  by_cases b1 : a < P + 3 + 2 + 1 + c
  · exact m1.k9 a (by omega) b1
  by_cases b2 : a < P + 3 + 3 + c + 1 + c
  · exact m2.k9 a (by omega) b2
  by_cases b3 : a < P + 3 + 4 + 2 * c + 1 + c
  · exact m3.k9 a (by omega) b3
  by_cases e5 : a = P + 3 + 5 + 3 * c
  · exact nl _ l1 e5
  by_cases e6 : a = P + 3 + 6 + 3 * c
  · exact nl _ l2 e6
  by_cases e7 : a = P + 3 + 7 + 3 * c
  · exact nl _ l3 e7
  by_cases b4 : a < pL1 P c + 7 + 3
  · exact LvS.k9 v1 a (by omega) b4
  by_cases b5 : a < pL1 P c + 10 + 7 + 3
  · exact LvS.k9 (l := pL1 P c + 10) v2 a (by omega) b5
  by_cases b6 : a < pL1 P c + 20 + 4 + 3
  · exact LvS.k9 (l := pL1 P c + 20) v3 a (by omega) b6
  by_cases b7 : a < pL1 P c + 27 + 4 + 3
  · exact LvS.k9 (l := pL1 P c + 27) v4 a (by omega) b7
  by_cases b8 : a < pL1 P c + 34 + 1 + 7
  · exact mp.k9 a (by omega) b8
  · exact nl _ lw (by omega)
theorem XC.kl {S S1 : mS} {J : mI} {R1 : mR} {L L1 L2 : mL} {u : Nat} (X : XC (KL L S.1) S1 J R1 u) (lf : LfS S L S1 L1) (lf2 : LfS S1 L1 S1 L2) : XC (KL L2 S1.1) S1 J R1 u := by
  obtain ⟨a, ⟨b1, W, b2, b3, b4⟩, e⟩ := X
  refine ⟨a, ⟨b1, W, b2, b3, fun c P hc hP => ?_⟩, e⟩
  obtain ⟨p1, ⟨p2, p3⟩, p6, p7⟩ := b4 c P hc hP
  have p4 : PqC c P J L ∧ P + 54 + 3 * c ≤ S.1 := p3
  have s1 := lf.1
  refine ⟨p1, ⟨p2, show PqC c P J L2 ∧ P + 54 + 3 * c ≤ S1.1 from ⟨p4.1.cg (fun _ _ _ => rfl) (fun x x1 x2 => ?_), by omega⟩⟩, p6, p7⟩
  have k9 := p1.k9 x x1 x2
  rw [lf2.2.2 x (by omega) k9, lf.2.2 x (by omega) (by rw [← lf.2.1 x (by omega)]; exact k9)]
theorem XC.kl1 {S1 : mS} {J : mI} {R1 : mR} {L1 L2 : mL} {u : Nat} (X : XC (KL L1 S1.1) S1 J R1 u) (lf2 : LfS S1 L1 S1 L2) : XC (KL L2 S1.1) S1 J R1 u := X.kl LfS.rf lf2
theorem PcK.s {S S' : mS} {I I' : mI} {L L' : mL} {R R' : mR} {c : Nat} (h : PcK S I L R c S' I' L' R') : PcS S I R c S' I' R' := by
  rcases h with ⟨e1, e2, P, h0, ⟨q1, q2⟩, q3, q4⟩ | ⟨hn, s1, s2, ex, q1, ⟨q2, q3⟩, q4, q5⟩
  · exact Or.inl ⟨e1, e2, P, h0, q1, q3⟩
  · exact Or.inr ⟨hn, s1, s2, ex, q1, q2, fun a ha => ⟨(q4 a ha).1.1, (q4 a ha).2⟩, q5⟩
theorem pck_x {S S' : mS} {I I' : mI} {L L' : mL} {R R' : mR} {c t : Nat} (hc : c = 3 ∨ c = 4 ∨ c = 5) (h : XC (KL L S.1) S I R t) (p : PcK S I L R c S' I' L' R') : XC (KL L' S'.1) S' I' R' (t + 1) ∧ Ext S S' ∧ OutX I I' ∧ NoX I R I' R' := by
  refine pcs_x hc h p.s (fun P hP => ?_) (fun c' P hc' hP k f hd => ?_)
  · show PqC c P I' L' ∧ P + 54 + 3 * c ≤ S'.1
    rcases p with ⟨rfl, rfl, P0, h0, ⟨q1, q2⟩, q3, q4⟩ | ⟨hn, s1, s2, ex, q1, ⟨q2, q3⟩, q4, q5⟩
    · have e : P0 = P := Option.some.inj (h0.symm.trans hP)
      subst e
      have := (h.pl hc P0 h0).1.top
      exact ⟨q2, by omega⟩
    · rw [q5, uu_s] at hP
      cases hP
      exact ⟨q3, by omega⟩
  · have k' : PqC c' P I L ∧ P + 54 + 3 * c' ≤ S.1 := k
    obtain ⟨k1, k2⟩ := k'
    show PqC c' P I' L' ∧ P + 54 + 3 * c' ≤ S'.1
    rcases p with ⟨rfl, rfl, P0, h0, ⟨q1, q2⟩, q3, q4⟩ | ⟨hn, s1, s2, ex, q1, ⟨q2, q3⟩, q4, q5⟩
    · exact ⟨k1.cg f (fun a a1 a2 => q4 a (hd P0 h0 a a1 a2)), k2⟩
    · exact ⟨k1.cg f (fun a a1 a2 => (q4 a (by omega)).1.2), by omega⟩
section XK
variable {d t c th B : Nat} {A A2 : Nat → Nat} {S : mS} {I : mI} {L : mL} {R : mR} {Q : mQ}
theorem XC.plK (h : XC (KL L S.1) S I R t) (hc : c = 3 ∨ c = 4 ∨ c = 5) : ∀ P, R 39 c = some P → PlS S R P c (nW c) ∧ (PlI I P c (nW c) (wt c) ∧ PqC c P I L) ∧ 85 ≤ P := fun P hP => by
  obtain ⟨a, ⟨b, k⟩, e⟩ := h.pl hc P hP
  have k' : PqC c P I L ∧ P + 54 + 3 * c ≤ S.1 := k
  exact ⟨a, ⟨b, k'.1⟩, e⟩
theorem x_heats (hc : c = 3 ∨ c = 4 ∨ c = 5) (hK : StC I c A A2 th B) (h : XC (KL L S.1) S I R t) (hq : ∀ v S' I' L' R', XC (KL L' S'.1) S' I' R' (t + 1) → Ext S S' → OutX I I' → NoX I R I' R' → MinH (wt c) c (nI th) B (rnum (wt c) A c) (rnum (wt c) A2 c) v → Q (.int v) S' I' L' R') : EvM (d + 24) 115 [.ref 4] S I L R Q := by
  refine heats_k (d := d + 17) h.1.1 h.1.2 hc hK (h.plK hc) (fun v S' I' L' R' p an => ?_)
  obtain ⟨a, b, o, n⟩ := pck_x hc h p
  exact hq _ _ _ _ _ a b o n an
theorem x_even (hc : c = 3 ∨ c = 4 ∨ c = 5) (hK : StC I c A A2 th B) (h : XC (KL L S.1) S I R t) (hq : ∀ v S' I' L' R', XC (KL L' S'.1) S' I' R' (t + 1) → Ext S S' → OutX I I' → NoX I R I' R' → EvA (wt c) c (nI th) B (rnum (wt c) A2 c) v → Q (.int v) S' I' L' R') : EvM (d + 24) 118 [.ref 4] S I L R Q := by
  refine even_k (d := d + 17) h.1.1 h.1.2 hc hK (h.plK hc) (fun v S' I' L' R' p an => ?_)
  obtain ⟨a, b, o, n⟩ := pck_x hc h p
  exact hq _ _ _ _ _ a b o n an
theorem x_striker (hc : c = 3 ∨ c = 4 ∨ c = 5) (hK : StC I c A A2 th B) (h : XC (KL L S.1) S I R t) (hq : ∀ v S' I' L' R', XC (KL L' S'.1) S' I' R' (t + 1) → Ext S S' → OutX I I' → NoX I R I' R' → (∃ v1, MinH (wt c) c (nI th) B (rnum (wt c) A c) (rnum (wt c) A2 c) v1 ∧ ((v1 = -1 ∧ v = -1) ∨ (¬ v1 = -1 ∧ ∃ v2, MinH (wt c) c (nI th) (B + 1) (rnum (wt c) A c) (rnum (wt c) A2 c) v2 ∧ v = if v2 = -1 then -1 else v1 - v2))) → Q (.int v) S' I' L' R') : EvM (d + 24) 124 [.ref 4] S I L R Q := by
  refine striker_k (d := d + 17) h.1.1 h.1.2 hc hK (h.plK hc) (fun v S' I' L' R' p an => ?_)
  obtain ⟨a, b, o, n⟩ := pck_x hc h p
  exact hq _ _ _ _ _ a b o n an
theorem x_reached {x : Int32} (hc : c = 3 ∨ c = 4 ∨ c = 5) (hK : StC I c A A2 th B) (h : XC (KL L S.1) S I R t) (hq : ∀ v S' I' L' R', XC (KL L' S'.1) S' I' R' (t + 1) → Ext S S' → OutX I I' → NoX I R I' R' → (((x < 0 ∨ 6 < x) ∧ v = -1) ∨ ∃ n, n ≤ 6 ∧ x = nI n ∧ ∃ f : Nat → Bool, (∀ k, k < 64 * nW c → (f k = true ↔ LvD true (wt c) c (nI th) B (rnum (wt c) A c) n k)) ∧ v = nI (cnt f (64 * nW c))) → Q (.int v) S' I' L' R') : EvM (d + 24) 117 [.ref 4, .int x] S I L R Q := by
  refine reached_k (d := d + 17) h.1.1 h.1.2 hc hK (h.plK hc) (fun g => hq _ _ _ _ _ (h.no NoF.rf) Ext.rf NoF.rf.x (h.nx NoF.rf) (Or.inl ⟨g, rfl⟩)) (fun n n6 e v S' I' L' R' p an => ?_)
  obtain ⟨a, b, o, m⟩ := pck_x hc h p
  exact hq _ _ _ _ _ a b o m (Or.inr ⟨n, n6, e, an⟩)
theorem x_plan {i x : Int32} (hc : c = 3 ∨ c = 4 ∨ c = 5) (hK : StC I c A A2 th B) (h : XC (KL L S.1) S I R t) (hq : ∀ v S' I' L' R', XC (KL L' S'.1) S' I' R' (t + 1) → Ext S S' → OutX I I' → NoX I R I' R' → (((i < 0 ∨ ¬ i < 6 ∨ x < -1 ∨ ¬ x < nI c) ∧ v = -1) ∨ (¬ i < 0 ∧ i < 6 ∧ ¬ x < -1 ∧ x < nI c ∧ PlT (wt c) c (9 ^ c) (nI th) B (rnum (wt c) A c) (rnum (wt c) A2 c) i x v)) → Q (.int v) S' I' L' R') : EvM (d + 24) 116 [.ref 4, .int i, .int x] S I L R Q := by
  refine plan_k (d := d + 17) h.1.1 h.1.2 hc hK (h.plK hc) (fun g => hq _ _ _ _ _ (h.no NoF.rf) Ext.rf NoF.rf.x (h.nx NoF.rf) (Or.inl ⟨g, rfl⟩)) (fun g1 g2 g3 g4 v S' I' L' R' p an => ?_)
  obtain ⟨a, b, o, m⟩ := pck_x hc h p
  exact hq _ _ _ _ _ a b o m (Or.inr ⟨g1, g2, g3, g4, an⟩)
end XK
