/-! group G: soonest of both beside each other -/
def GtX (I : mI) : Prop := ∀ mm nd p, PcR mm nd p I → GtC mm nd p I
def SoV (mm nd : Nat → Nat) (p : Nat) (x w v : Int32) : Prop := ((x < 1 ∨ 3 < x ∨ w < -1 ∨ ¬ w < nI p ∨ p = 0) ∧ v = -1) ∨ (¬ p = 0 ∧ ∃ f, 1 ≤ f ∧ f ≤ 3 ∧ x = nI f ∧ ¬ w < -1 ∧ w < nI p ∧ ∀ Rr, FBr mm nd p f Rr → (w = -1 ∧ v = nI (lst mm nd f Rr)) ∨ ∃ q, q < p ∧ w = nI q ∧ v = nI ((rnl mm nd Rr (gs0 f)).2 q))
section GY
variable {d p p' t : Nat} {S : mS} {I I1 J : mI} {L : mL} {R : mR} {Q : mQ} {mm nd mm' nd' : Nat → Nat}
theorem PrM.pc (h : PrM mm nd p I) (s : SmR I 5 (I 56)) : PcR mm nd p I := by
  obtain ⟨h1, h2, h3⟩ := h
  refine ⟨h1, s.2.2.1.trans h2, fun i hi => ?_⟩
  obtain ⟨a1, a2, a3⟩ := h3 i hi
  obtain ⟨s1, s2⟩ := s.2.2.2.2 i (by omega)
  exact ⟨s1.trans a1, s2.trans (by rw [show 41 + 2 * i = 40 + 2 * i + 1 by omega]; exact a2), a3⟩
theorem PcR.un (h : PcR mm nd p I) (h' : PcR mm' nd' p' I) : p' = p ∧ ∀ i, i < p → mm' i = mm i ∧ nd' i = nd i := by
  obtain ⟨a1, a2, a3⟩ := h
  obtain ⟨b1, b2, b3⟩ := h'
  have ep : p' = p := (nI_eq (by omega) (by omega)).mp (b2.symm.trans a2)
  refine ⟨ep, fun i hi => ?_⟩
  obtain ⟨c1, c2, c3, c4, c5⟩ := a3 i hi
  obtain ⟨d1, d2, d3, d4, d5⟩ := b3 i (by omega)
  refine ⟨(nI_eq (by omega) (by omega)).mp (d1.symm.trans c1), ?_⟩
  have e := d2.symm.trans c2
  have n1 : ∀ q, q ≤ 8 → ¬ nI q = -1 := fun q hq z => nI_pos (n := q) (by omega) (by rw [z]; decide)
  by_cases z1 : nd' i = 0
  · by_cases z2 : nd i = 0
    · rw [z1, z2]
    · rw [if_pos z1, if_neg z2] at e
      exact absurd e.symm (n1 _ (by omega))
  · by_cases z2 : nd i = 0
    · rw [if_neg z1, if_pos z2] at e
      exact absurd e (n1 _ (by omega))
    · rw [if_neg z1, if_neg z2] at e
      have := (nI_eq (by omega) (by omega)).mp e
      omega
theorem PcR.cg (h : PcR mm nd p J) (e10 : J 10 = I 10) (e11 : J 11 = I 11) (e5 : J 5 9 = I 5 9) : PcR mm nd p I := by
  unfold PcR at h ⊢
  rw [e10, e11, e5] at h
  exact h
theorem GtX.go (h : GtX I) (g : GaK I I1) (o : OutM I1 J) : GtX J := fun mm nd p hp => by
  rcases g with ⟨g1, g5⟩ | g
  · have e : ∀ a, (a = 10 ∨ a = 11 ∨ (47 ≤ a ∧ a ≤ 52)) → J a = I a := fun a ha => (o a (by omega)).trans (g1 a ha)
    exact (h mm nd p (hp.cg (e 10 (by decide)) (e 11 (by decide)) (by rw [o 5 (by decide)]; exact g5))).cg (fun a h1 h2 => e a (by omega))
  · exact GtC.z (fun k hk => by rw [o 47 (by decide)]; exact g k hk)
theorem GtX.so (hp : PcR mm nd p I) (g : ∀ c, c < 40 ∨ 52 < c → J c = I c) (h : GtC mm nd p J) : GtX J := fun mm' nd' p' hp' => by
  obtain ⟨e, k⟩ := hp.un (hp'.cg (g 10 (by decide)) (g 11 (by decide)) (by rw [g 5 (by decide)]))
  rw [e]
  exact h.mn k (fun i hi => (hp.2.2 i hi).2.2.2.2)
theorem GtX.ou (h : GtX I1) (o : OutM I1 J) : GtX J := h.go GaK.rf o
theorem x_soonG {x w : Int32} (h : XC S I R t) (hM : InvM I t) (hr : Rel I R) (hg : GtX I) (hq : ∀ v S' I' L' R', XC S' I' R' (t + 1) → Ext S S' → OutX I I' → GtX I' → NoX I R I' R' ∧ SoV (mmR (I 56)) (ndR (I 56)) (pcR (I 56)) x w v → Q (.int v) S' I' L' R') : EvM (d + 24) 123 [.ref 4, .int x, .int w] S I L R Q := by
  have hp : PcR (mmR (I 56)) (ndR (I 56)) (pcR (I 56)) I := PrM.pc (RwP.pr hM.1.2.2.2.1) hr.2.1
  refine soonC (d := d + 10) h.1.1 h.1.2 hp (hg _ _ _ hp) (fun v J g gt hv => ?_)
  have f : NoF I J := NoF.rf.al (fun a ha => g a (by omega))
  exact hq _ _ _ _ _ (h.no f) Ext.rf f.x (GtX.so hp g gt) ⟨h.nx f, hv⟩
theorem sov_eq {x w v u : Int32} {n : Nat} (hn : n ≤ 8) (hv : SoV mm nd n x w v) (k : ((inB x.toInt64 1 3 = false ∨ inB w.toInt64 (-1) ((nI n).toInt64 - 1) = false ∨ n = 0) ∧ u = -1) ∨ (¬ n = 0 ∧ inB w.toInt64 (-1) ((nI n).toInt64 - 1) = true ∧ ∃ F, 1 ≤ F ∧ F ≤ 3 ∧ x = nI F ∧ ∃ Rr, FBr mm nd n F Rr ∧ ((w = -1 ∧ u = nI (lst mm nd F Rr)) ∨ ∃ q, q < n ∧ w = nI q ∧ u = nI ((rnl mm nd Rr (gs0 F)).2 q)))) : u = v := by
  have bx : inB x.toInt64 1 3 = true ↔ ¬ x < 1 ∧ ¬ 3 < x := inBc rfl rfl
  have bw : inB w.toInt64 (-1) ((nI n).toInt64 - 1) = true ↔ ¬ w < -1 ∧ w < nI n := inBu (a := -1) rfl (by omega)
  have nx : ∀ f, 1 ≤ f → f ≤ 3 → ¬ nI f < 1 ∧ ¬ 3 < nI f := fun f h1 h3 => ⟨nI_nlt (a := f) (b := 1) h1 (by omega), nI_nlt (a := 3) (b := f) h3 (by omega)⟩
  rcases hv with ⟨c, rfl⟩ | ⟨c0, f, f1, f3, ef, c1, c2, hv⟩
  · rcases k with ⟨_, ku⟩ | ⟨n0, kw, F, F1, F3, eF, _⟩
    · exact ku
    · exfalso
      rw [eF] at c
      rcases c with z | z | z | z | z
      · exact (nx F F1 F3).1 z
      · exact (nx F F1 F3).2 z
      · exact (bw.mp kw).1 z
      · exact z (bw.mp kw).2
      · exact n0 z
  · rcases k with ⟨z, _⟩ | ⟨_, _, F, F1, F3, eF, Rr, hf, k⟩
    · exfalso
      rcases z with z | z | z
      · have := bx.mpr (by rw [ef]; exact nx f f1 f3)
        rw [z] at this
        cases this
      · have := bw.mpr ⟨c1, c2⟩
        rw [z] at this
        cases this
      · exact c0 z
    · obtain rfl : F = f := (nI_eq (by omega) (by omega)).mp (eF.symm.trans ef)
      have n1 : ∀ q, q < n → ¬ nI q = -1 := fun q hq z => nI_pos (n := q) (by omega) (by rw [z]; decide)
      rcases hv Rr hf with ⟨e1, e2⟩ | ⟨q, q1, e1, e2⟩
      · rcases k with ⟨e3, e4⟩ | ⟨q', q1', e3, e4⟩
        · rw [e2, e4]
        · exact absurd (e3.symm.trans e1) (n1 q' q1')
      · rcases k with ⟨e3, e4⟩ | ⟨q', q1', e3, e4⟩
        · exact absurd (e1.symm.trans e3) (n1 q q1)
        · obtain rfl : q' = q := (nI_eq (by omega) (by omega)).mp (e3.symm.trans e1)
          rw [e2, e4]
theorem soonest_law {x w v : Int32} (hS : Pm S) (hR : Pr R) (h : InvM I t) (hv : SoV (mmR (I 56)) (ndR (I 56)) (pcR (I 56)) x w v) (hq : ∀ J L', InvM J t → OutM I J → RlN I J → Q (.int v) S J L' R) : EvM (d + 4) 227 [.ref 54, .int x, .int w] S I L R Q := by
  have hp := RwP.pr h.1.2.2.2.1
  have k1 := m_soonest (d := d) (L := L) (f := x) (w := w) (Q := fun v S' J L' R' => ∃ y, v = .int y ∧ S' = S ∧ R' = R ∧ InvM J t ∧ OutM I J ∧ RlN I J) hS hR h (fun v J L' k1 k2 k3 => ⟨v, rfl, rfl, rfl, k1, k2, k3⟩)
  have k2 := soonM (d := d) (L := L) (f := x) (w := w) (Q := fun u _ _ _ _ => u = .int v) hS hR hp (fun u J k => by rw [sov_eq hp.1 hv k])
  refine evm_mono (evm_and k1 k2) (fun v' S' J L' R' k => ?_)
  obtain ⟨⟨y, rfl, rfl, rfl, a1, a2, a3⟩, ey⟩ := k
  rw [ey]
  exact hq J L' a1 a2 a3
end GY
