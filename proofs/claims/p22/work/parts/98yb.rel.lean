/-! group B: the relation of the RECIPES' numbers of STEPS, of the FAULT, and the TAPE's bytes -/
def RtX (I : mI) (q : Nat) (τ : Nat → Int32) : Prop := I q 0 = τ 0 ∧ ∃ n, n ≤ 16 ∧ I q 0 = nI n ∧ TxR (I (q + 1)) (I (q + 2)) (I (q + 3)) τ n
theorem RtX.mv {I J : mI} {q : Nat} {τ σ : Nat → Int32} (h : RtX I q τ) (e : ∀ a, q ≤ a → a < q + 4 → J a = I a) (er : ∀ k, k < 1000 → σ k = τ k) : RtX J q σ := by
  obtain ⟨h0, n, n1, h1, h2⟩ := h
  have e0 := e q (Nat.le_refl q) (by omega)
  refine ⟨by rw [e0, er 0 (by decide)]; exact h0, n, n1, by rw [e0]; exact h1, fun s hs => ?_⟩
  rw [e (q + 1) (by omega) (by omega), e (q + 2) (by omega) (by omega), e (q + 3) (by omega) (by omega)]
  exact (h2 s hs).cg (by omega) rfl (fun _ _ => rfl) (fun _ _ _ _ _ _ _ _ => rfl) er
def RcN (I : mI) (R : mR) (z : Nat) (ρ : Nat → Int32) : Prop := I z 6 = ρ 1 ∧ ∀ i r q, I z 6 = nI r → r ≤ 8 → i < r → R (z + 4) i = some q → RtX I q (fun k => ρ (60 + 1000 * i + k))
def ByB (I : mI) : Prop := ∀ k, I 13 k = (I 13 k).toInt8.toInt32
def ExB (I : mI) (R : mR) : Prop := RcN I R 5 (I 56) ∧ (∀ j y, j < 2 → R 12 j = some y → RcN I R y (fun k => I 57 (8060 * j + k))) ∧ I 14 5 = I 54 12 ∧ ByB I
/-- what a call of the class leaves of it, what one of the reference's -/
def RcX (I : mI) (R : mR) (I1 : mI) (R1 : mR) : Prop := RcK I R I1 R1 ∧ R1 12 = R 12 ∧ (∀ j y, j < 2 → R 12 j = some y → I1 y 6 = I y 6) ∧ (ByB I → ByB I1)
def RmX (I1 J : mI) : Prop := (∀ k, (k = 1 ∨ 60 ≤ k) → k < 8060 → J 56 k = I1 56 k) ∧ J 57 = I1 57 ∧ J 54 12 = I1 54 12
theorem RcN.mv {I J : mI} {R R1 : mR} {z : Nat} {ρ σ : Nat → Int32} (h : RcN I R z ρ) (e6 : J z 6 = I z 6) (eR : R1 (z + 4) = R (z + 4)) (eq : ∀ i r q, I z 6 = nI r → r ≤ 8 → i < r → R (z + 4) i = some q → ∀ a, q ≤ a → a < q + 4 → J a = I a) (e1 : σ 1 = ρ 1) (er : ∀ k, 60 ≤ k → k < 8060 → σ k = ρ k) : RcN J R1 z σ := ⟨e6.trans (h.1.trans e1.symm), fun i r q h1 h2 h3 h4 => by
  rw [e6] at h1
  rw [eR] at h4
  exact (h.2 i r q h1 h2 h3 h4).mv (eq i r q h1 h2 h3 h4) (fun k hk => er _ (by omega) (by omega))⟩
theorem byte_k (x : Int32) : x.toInt8.toInt32.toInt8.toInt32 = x.toInt8.toInt32 := by rw [Int8.toInt8_toInt32]
section EB
variable {t : Nat} {S : mS} {I I1 J : mI} {R R1 : mR} {Q : mQ}
theorem ExB.g0 (X : XC S I R t) (h : ExB I R) (o1 : OutX I I1) (k56 : I1 5 6 = I 5 6) (k9 : R1 9 = R 9) (ky : ∀ j y, j < 2 → R 12 j = some y → R1 (y + 4) = R (y + 4)) (kq : ∀ q, Rcp I R q → I1 q = I q) (e12 : R1 12 = R 12) (ey : ∀ j y, j < 2 → R 12 j = some y → I1 y 6 = I y 6) (eb : ByB I1) (o2 : OutM I1 J) (m6 : ∀ k, (k = 1 ∨ 60 ≤ k) → k < 8060 → J 56 k = I1 56 k) (m7 : J 57 = I1 57) (hf : J 14 5 = J 54 12) : ExB J R1 := by
  obtain ⟨h1, h2, h3, h4⟩ := h
  have q85 : ∀ q, Rcp I R q → J q = I q := fun q hq => by
    have := (X.2.1.rq hq).1
    rw [o2 q (by omega), kq q hq]
  refine ⟨h1.mv ?_ k9 (fun i r q z1 z2 z3 z4 a a1 a2 => q85 a ⟨5, i, r, q, Or.inl rfl, z1, z2, z3, z4, a1, a2⟩) ?_ (fun k k1 k2 => ?_), fun j y hj hy => ?_, hf, fun k => ?_⟩
  · rw [o2 5 (by decide)]; exact k56
  · rw [m6 1 (Or.inl rfl) (by decide), o1 56 (by decide)]
  · rw [m6 _ (Or.inr (by omega)) (by omega), o1 56 (by decide)]
  · rw [e12] at hy
    have y85 := (X.2.1.img j y hj hy).2.1
    refine (h2 j y hj hy).mv ?_ (ky j y hj hy) (fun i r q z1 z2 z3 z4 a a1 a2 => q85 a ⟨y, i, r, q, Or.inr ⟨j, hj, hy⟩, z1, z2, z3, z4, a1, a2⟩) ?_ (fun k k1 k2 => ?_)
    · rw [o2 y (by omega)]; exact ey j y hj hy
    · show J 57 _ = I 57 _
      rw [m7, o1 57 (by decide)]
    · show J 57 _ = I 57 _
      rw [m7, o1 57 (by decide)]
  · rw [o2 13 (by decide)]
    exact eb k
theorem ExB.go (X : XC S I R t) (h : ExB I R) (o1 : OutX I I1) (x : RcX I R I1 R1) (o2 : OutM I1 J) (m : RmX I1 J) : ExB J R1 := by
  obtain ⟨⟨k14, k56, k9, ky, kq⟩, e12, ey, eb⟩ := x
  obtain ⟨m6, m7, m12⟩ := m
  exact h.g0 X o1 k56 k9 ky kq e12 ey (eb h.2.2.2) o2 m6 m7 (by rw [o2 14 (by decide), k14, h.2.2.1, m12, o1 54 (by decide)])
theorem RcX.no (n : NoX I R I1 R1) : RcX I R I1 R1 := ⟨n.1.2, n.1.1.2.2.1, fun j y hj hy => by rw [n.1.1.2.2.2 j y hj hy y (by omega) (by omega)], fun b k => by rw [n.1.1.1 13 (by decide)]; exact b k⟩
theorem RcX.ke (n : KeX I R I1 R1) : RcX I R I1 R1 := ⟨n.2, n.1.2.2.1, fun j y hj hy => by rw [n.1.2.2.2 j y hj hy y (by omega) (by omega)], fun b k => by rw [n.1.1 13 (by decide)]; exact b k⟩
theorem RcX.ex (X : XC S I R t) (e14 : I1 14 = I 14) (e56 : I1 5 6 = I 5 6) (e85 : ∀ a, 85 ≤ a → I1 a = I a) (eb : ByB I → ByB I1) : RcX I R I1 R := ⟨RcK.ex X e14 e56 e85, rfl, fun j y hj hy => by rw [e85 y (X.2.1.img j y hj hy).2.1], eb⟩
theorem ByB.e (e : I1 13 = I 13) (h : ByB I) : ByB I1 := fun k => by rw [e]; exact h k
theorem RmX.n (n : RlN I1 J) : RmX I1 J := ⟨fun k _ h => n.1 k h, n.2.1, n.2.2.2.2.2⟩
theorem RmX.w {ρ : Nat → Int32} (n : RlW I1 J ρ) (e : ∀ k, (k = 1 ∨ 60 ≤ k) → ρ k = I1 56 k) : RmX I1 J := ⟨fun k hk h => (n.1 k h).trans (e k hk), n.2.1, n.2.2.2.2.2⟩
theorem RmX.tt {ρ : Nat → Int32} (n : RlT I1 J ρ) (e : ∀ k, (k = 1 ∨ 60 ≤ k) → ρ k = I1 56 k) : RmX I1 J := ⟨fun k hk h => (n.1 k h).trans (e k hk), n.2.1, n.2.2.2.2⟩
/-- what is refused, or one cell -/
theorem bx_or {A B : Prop} (h : A ∧ NoX I R I1 R1 ∨ B) (k : B → RcX I R I1 R1) : RcX I R I1 R1 := h.elim (fun z => RcX.no z.2) k
theorem wrS_b {x s : Int32} (h : ByB I) : ByB (wrS I x s) := by
  unfold wrS
  by_cases g : I 4 3 < 400
  · rw [if_pos g]
    unfold wr1
    intro k
    rw [pt_n (by decide)]
    by_cases e : k = (I 4 3).toNatClampNeg
    · rw [e, pt_s]
      exact (byte_k _).symm
    · rw [pt_f e]
      exact h k
  · rw [if_neg g]
    exact h
theorem wrF_b {x : Int32} (h : ByB I) : ByB (wrF I x) := by
  unfold wrF
  exact wrS_b (wrS_b (wrS_b (wrS_b h)))
theorem Byt.of (h : ByB I) (tp : TpR I) (o1 : OutX I I1) : ∀ n, n ≤ 400 → I1 54 7 = nI n → Byt (put I 4 3 0) (I1 59) n := fun n hn e k hk => by
  have e7 : I 54 7 = nI n := by rw [← o1 54 (by decide)]; exact e
  have a := tp.2 n k e7 hn hk
  have b := h k
  rw [o1 59 (by decide), pt_n (by decide), ← a]
  obtain ⟨u, hu, eu⟩ : ∃ u, u < 256 ∧ I 13 k &&& 255 = nI u := ⟨_, Nat.mod_lt _ (by decide), pk_and (I 13 k) 8 (by decide)⟩
  refine ⟨u, hu, ?_, eu⟩
  rw [← eu]
  refine b.trans ?_
  have : (I 13 k &&& 255).toInt8 = (I 13 k).toInt8 := Int8.toBitVec_inj.mp (by
    rw [Int32.toBitVec_toInt8, Int32.toBitVec_toInt8, Int32.toBitVec_and]
    refine BitVec.eq_of_getLsbD_eq (fun i hi => ?_)
    have m : ∀ i, i < 32 → ((255 : Int32).toBitVec).getLsbD i = decide (i < 8) := by decide
    rw [BitVec.getLsbD_signExtend, BitVec.getLsbD_signExtend, BitVec.getLsbD_and, m i (by omega), decide_eq_true hi, Bool.and_true, if_pos (show i < 32 by omega), if_pos (show i < 32 by omega)])
  rw [this]
end EB
/-! group C: the hands of the class's RUNs do not slip between two calls -/
def HdR (I : mI) : Prop := I 20 9 = -1 ∧ I 26 9 = -1 ∧ I 32 9 = -1
theorem HdR.go {I I1 J : mI} (h : HdR I) (d : HdF I I1) (o : OutM I1 J) : HdR J := ⟨by rw [o 20 (by decide)]; exact d.1 h.1, by rw [o 26 (by decide)]; exact d.2.1 h.2.1, by rw [o 32 (by decide)]; exact d.2.2 h.2.2⟩
