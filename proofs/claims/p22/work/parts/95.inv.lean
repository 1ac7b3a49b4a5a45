/-! the reference's invariant -/
def dst (op : Int32) (m n : Nat) : Prop := (¬ 4 < op ∧ n = m + 1) ∨ (4 < op ∧ (op = 27 ∨ ¬ op < 32) ∧ 1 ≤ m ∧ n = m) ∨ (4 < op ∧ ¬ op = 27 ∧ op < 32 ∧ 2 ≤ m ∧ n + 1 = m)
def Dp (f : Nat → Int32) (a : Nat) : Nat → Nat → Prop
  | 0, n => n = 0
  | q + 1, n => ∃ m, Dp f a q m ∧ dst (f (a + q)) m n
theorem dst_u {op : Int32} {m n n' : Nat} (h : dst op m n) (h' : dst op m n') : n = n' := by
  rcases h with ⟨a, b⟩ | ⟨a, b, c, e⟩ | ⟨a, b, c, e, g⟩ <;> rcases h' with ⟨a', b'⟩ | ⟨a', b', c', e'⟩ | ⟨a', b', c', e', g'⟩
  · omega
  · exact absurd a' a
  · exact absurd a' a
  · exact absurd a a'
  · omega
  · rcases b with b | b
    · exact absurd b b'
    · exact absurd c' b
  · exact absurd a a'
  · rcases b' with b' | b'
    · exact absurd b' b
    · exact absurd c b'
  · omega
theorem Dp.u {f : Nat → Int32} {a : Nat} : ∀ q {n n' : Nat}, Dp f a q n → Dp f a q n' → n = n' := by
  intro q
  induction q with
  | zero => intro n n' h h'; exact h.trans h'.symm
  | succ q ih =>
    rintro n n' ⟨m, h1, h2⟩ ⟨m', h1', h2'⟩
    obtain rfl := ih h1 h1'
    exact dst_u h2 h2'
theorem Dp.cg {f g : Nat → Int32} {a : Nat} : ∀ q {n : Nat}, (∀ k, k < q → g (a + k) = f (a + k)) → Dp f a q n → Dp g a q n := by
  intro q
  induction q with
  | zero => intro n _ h; exact h
  | succ q ih =>
    rintro n e ⟨m, h1, h2⟩
    refine ⟨m, ih (fun k hk => e k (by omega)) h1, ?_⟩
    rw [e q (by omega)]
    exact h2
theorem Dp.le {f : Nat → Int32} {a : Nat} : ∀ q {n : Nat}, Dp f a q n → n ≤ q := by
  intro q
  induction q with
  | zero => intro n h; exact Nat.le_of_eq h
  | succ q ih =>
    rintro n ⟨m, h1, h2⟩
    have := ih h1
    rcases h2 with ⟨a, b⟩ | ⟨a, b, c, e⟩ | ⟨a, b, c, e, g⟩ <;> omega
theorem Dp.pre {f : Nat → Int32} {a : Nat} : ∀ N q {n : Nat}, q ≤ N → Dp f a N n → ∃ m, Dp f a q m := by
  intro N
  induction N with
  | zero => intro q n h1 h; obtain rfl : q = 0 := by omega
            exact ⟨n, h⟩
  | succ N ih =>
    intro q n h1 h
    by_cases g : q = N + 1
    · rw [g]; exact ⟨n, h⟩
    · obtain ⟨m, h2, _⟩ := h
      exact ih q (by omega) h2
def Okc (τ : Nat → Int32) (a b : Nat) : Prop := ∃ n, Dp (fun k => τ (180 + 2 * k)) a (b - a) n
def Txt (τ : Nat → Int32) : Prop := ∃ n, n ≤ 16 ∧ τ 0 = nI n ∧ ∀ s, s < n → ∃ a b c e g, a ≤ b ∧ b ≤ c ∧ c ≤ e ∧ e ≤ 400 ∧ g ≤ 15 ∧ τ (11 + 10 * s) = nI a ∧ τ (12 + 10 * s) = nI b ∧ τ (13 + 10 * s) = nI c ∧ τ (14 + 10 * s) = nI e ∧ τ (17 + 10 * s) = nI g ∧ Okc τ a b ∧ Okc τ b c ∧ Okc τ c e
theorem Okc.cg {τ σ : Nat → Int32} {a b : Nat} (h : Okc τ a b) (hb : b ≤ 400) (e : ∀ k, k < 1000 → σ k = τ k) : Okc σ a b := by
  obtain ⟨n, h⟩ := h
  exact ⟨n, h.cg _ (fun k hk => e _ (by omega))⟩
theorem Txt.cg {τ σ : Nat → Int32} (h : Txt τ) (e : ∀ k, k < 1000 → σ k = τ k) : Txt σ := by
  obtain ⟨n, h1, h2, h3⟩ := h
  refine ⟨n, h1, (e 0 (by omega)).trans h2, fun s hs => ?_⟩
  obtain ⟨a, b, c, f, g, k1, k2, k3, k4, k5, e1, e2, e3, e4, e5, o1, o2, o3⟩ := h3 s hs
  exact ⟨a, b, c, f, g, k1, k2, k3, k4, k5, (e _ (by omega)).trans e1, (e _ (by omega)).trans e2, (e _ (by omega)).trans e3, (e _ (by omega)).trans e4, (e _ (by omega)).trans e5, o1.cg (by omega) e, o2.cg (by omega) e, o3.cg (by omega) e⟩
def RwC (ρ : Nat → Int32) : Prop := ∃ c, 3 ≤ c ∧ c ≤ 5 ∧ ρ 0 = nI c
def RwZ (ρ : Nat → Int32) : Prop := (∃ n, n ≤ 1022 ∧ ρ 3 = nI n) ∧ (∃ B, B ≤ 4 ∧ ρ 10 = nI B) ∧ ∀ k, k < 5 → ∃ n, n ≤ 100 ∧ ρ (10 + k) = nI n
def RwI (ρ : Nat → Int32) : Prop := ∀ k, k < 5 → (∃ x, 1 ≤ x ∧ x ≤ 9 ∧ ρ (20 + k) = nI x) ∧ ∃ x, 1 ≤ x ∧ x ≤ 9 ∧ ρ (30 + k) = nI x
def RwP (ρ : Nat → Int32) : Prop := ∃ n, n ≤ 8 ∧ ρ 2 = nI n ∧ ∀ p, p < n → ρ (41 + 2 * p) = -1 ∨ ∃ q, q < 8 ∧ ρ (41 + 2 * p) = nI q
def RwT (ρ : Nat → Int32) : Prop := ∃ n, n ≤ 8 ∧ ρ 1 = nI n ∧ ∀ r, r < n → Txt (fun k => ρ (60 + 1000 * r + k))
def Rw (ρ : Nat → Int32) : Prop := RwC ρ ∧ RwZ ρ ∧ RwI ρ ∧ RwP ρ ∧ RwT ρ
section RW
variable {ρ σ : Nat → Int32}
theorem RwC.cg (h : RwC ρ) (e : σ 0 = ρ 0) : RwC σ := by unfold RwC; rw [e]; exact h
theorem RwZ.cg (h : RwZ ρ) (e3 : σ 3 = ρ 3) (e : ∀ k, 10 ≤ k → k < 15 → σ k = ρ k) : RwZ σ := by
  obtain ⟨h1, h2, h3⟩ := h
  refine ⟨by rw [e3]; exact h1, by rw [e 10 (by omega) (by omega)]; exact h2, fun k hk => by rw [e _ (by omega) (by omega)]; exact h3 k hk⟩
theorem RwI.cg (h : RwI ρ) (e : ∀ k, 20 ≤ k → k < 35 → σ k = ρ k) : RwI σ := by
  intro k hk
  rw [e (20 + k) (by omega) (by omega), e (30 + k) (by omega) (by omega)]
  exact h k hk
theorem RwP.cg (h : RwP ρ) (e2 : σ 2 = ρ 2) (e : ∀ k, 40 ≤ k → k < 60 → σ k = ρ k) : RwP σ := by
  obtain ⟨n, h1, h2, h3⟩ := h
  refine ⟨n, h1, e2.trans h2, fun p hp => ?_⟩
  rw [e (41 + 2 * p) (by omega) (by omega)]
  exact h3 p hp
theorem RwT.cg (h : RwT ρ) (e1 : σ 1 = ρ 1) (e : ∀ k, 60 ≤ k → σ k = ρ k) : RwT σ := by
  obtain ⟨n, h1, h2, h3⟩ := h
  exact ⟨n, h1, e1.trans h2, fun r hr => (h3 r hr).cg (fun k hk => e _ (by omega))⟩
theorem Rw.cg (h : Rw ρ) (e : ∀ k, k < 8060 → σ k = ρ k) : Rw σ := by
  obtain ⟨h1, h2, h3, h4, h5⟩ := h
  refine ⟨h1.cg (e _ (by omega)), h2.cg (e _ (by omega)) (fun k _ hk => e _ (by omega)), h3.cg (fun k _ hk => e _ (by omega)), h4.cg (e _ (by omega)) (fun k _ hk => e _ (by omega)), ?_⟩
  obtain ⟨n, g1, g2, g3⟩ := h5
  exact ⟨n, g1, (e _ (by omega)).trans g2, fun r hr => (g3 r hr).cg (fun k hk => e _ (by omega))⟩
end RW
def PlM (I : mI) : Prop := I 54 60 = -2 ∨ ((I 54 60 = -1 ∨ ∃ h, h ≤ 6 ∧ I 54 60 = nI h) ∧ ∃ c, I 56 0 = nI c ∧ 3 ≤ c ∧ c ≤ 5 ∧ (∀ i, i < c → I 72 i = nI (9 ^ (c - 1 - i))))
def Stm (I : mI) (t : Nat) : Prop := ∃ st, st ≤ 8000000 * t ∧ I 54 56 = nI st ∧ ∀ v, v < 59049 → ∃ s, s ≤ st ∧ I 77 v = nI s
def InvM (I : mI) (t : Nat) : Prop := Rw (I 56) ∧ (∀ b, b < 2 → ¬ I 58 b = 0 → Rw (fun k => I 57 (8060 * b + k))) ∧ (∃ n, n ≤ 400 ∧ I 54 7 = nI n) ∧ (∃ c, c ≤ 5 ∧ I 54 45 = nI c) ∧ PlM I ∧ Stm I t
def OutM (I J : mI) : Prop := ∀ a, (a < 54 ∨ 84 < a) → J a = I a
theorem OutM.rf {I : mI} : OutM I I := fun _ _ => rfl
theorem OutM.tr {I J K : mI} (h : OutM I J) (h2 : OutM J K) : OutM I K := fun a ha => (h2 a ha).trans (h a ha)
theorem OutM.pt {I J : mI} {a k : Nat} {x : Int32} (h : OutM I J) (ha : 54 ≤ a) (hb : a ≤ 84) : OutM I (put J a k x) := fun b hb2 => by rw [pt_n (by omega)]; exact h b hb2
theorem Stm.mono {I : mI} {t u : Nat} (h : Stm I t) (hu : t ≤ u) : Stm I u := by
  obtain ⟨st, h1, h2⟩ := h
  exact ⟨st, by omega, h2⟩
theorem InvM.mono {I : mI} {t u : Nat} (h : InvM I t) (hu : t ≤ u) : InvM I u := ⟨h.1, h.2.1, h.2.2.1, h.2.2.2.1, h.2.2.2.2.1, h.2.2.2.2.2.mono hu⟩
theorem InvM.cg {I J : mI} {t : Nat} (h : InvM I t) (e6 : J 56 = I 56) (e7 : J 57 = I 57) (e8 : J 58 = I 58) (e2 : J 72 = I 72) (es : J 77 = I 77) (f1 : J 54 7 = I 54 7) (f2 : J 54 45 = I 54 45) (f3 : J 54 56 = I 54 56) (f4 : J 54 60 = I 54 60) : InvM J t := by
  unfold InvM PlM Stm
  rw [e6, e7, e8, e2, es, f1, f2, f3, f4]
  exact h
/-- the same but for the row, the plan forgotten -/
theorem InvM.row {I J : mI} {t : Nat} (h : InvM I t) (r : Rw (J 56)) (e7 : J 57 = I 57) (e8 : J 58 = I 58) (es : J 77 = I 77) (f1 : J 54 7 = I 54 7) (f2 : J 54 45 = I 54 45) (f3 : J 54 56 = I 54 56) (f4 : J 54 60 = -2) : InvM J t := by
  unfold InvM PlM Stm
  rw [e7, e8, es, f1, f2, f3]
  exact ⟨r, h.2.1, h.2.2.1, h.2.2.2.1, Or.inl f4, h.2.2.2.2.2⟩
theorem telF_n {I : mI} {v : Int32} {a : Nat} (h4 : ¬ a = 54) (h5 : ¬ a = 55) : telF I v a = I a := by
  unfold telF
  by_cases g : v < 0
  · rw [if_pos g, pt_n h5, pt_n h4]
  · rw [if_neg g, pt_n h4]
theorem telF_f {I : mI} {v : Int32} {k : Nat} (h : ¬ k = 1) : telF I v 54 k = I 54 k := by
  unfold telF
  by_cases g : v < 0
  · rw [if_pos g, pt_m (by decide), pt_f h]
  · rw [if_neg g, pt_f h]
theorem telF_o {I J : mI} {v : Int32} (h : OutM I J) : OutM I (telF J v) := fun a ha => by rw [telF_n (by omega) (by omega)]; exact h a ha
theorem InvM.tel {I : mI} {t : Nat} {v : Int32} (h : InvM I t) : InvM (telF I v) t :=
  h.cg (telF_n (by decide) (by decide)) (telF_n (by decide) (by decide)) (telF_n (by decide) (by decide)) (telF_n (by decide) (by decide)) (telF_n (by decide) (by decide)) (telF_f (by decide)) (telF_f (by decide)) (telF_f (by decide)) (telF_f (by decide))
theorem InvM.p0 {I : mI} {t : Nat} {x : Int32} (h : InvM I t) : InvM (put I 54 0 x) t :=
  h.cg (pt_n (by decide)) (pt_n (by decide)) (pt_n (by decide)) (pt_n (by decide)) (pt_n (by decide)) (pt_f (by decide)) (pt_f (by decide)) (pt_f (by decide)) (pt_f (by decide))
theorem inI {x : Int32} {lo hi : Int64} {a b : Int} (h : inB x.toInt64 lo hi = true) (ha : lo.toInt = a) (hb : hi.toInt = b) : a ≤ x.toInt ∧ x.toInt ≤ b := by
  unfold inB at h
  rw [decide_eq_true_iff, Int64.lt_iff_toInt_lt, Int64.lt_iff_toInt_lt, Int32.toInt_toInt64, ha, hb] at h
  omega
theorem inN {x : Int32} {lo hi : Int64} {a b : Nat} (h : inB x.toInt64 lo hi = true) (ha : lo.toInt = a) (hb : hi.toInt = b) (h31 : b < 2 ^ 31) : ∃ n, a ≤ n ∧ n ≤ b ∧ x = nI n := by
  have := inI h ha hb
  refine ⟨x.toInt.toNat, by omega, by omega, ?_⟩
  exact ti_nI (z := x.toInt) rfl (by omega) (by omega)
section TL
variable {d : Nat} {S : mS} {I : mI} {L : mL} {R : mR} {Q : mQ}
theorem tel1 (hS : Pm S) (hR : Pr R) : EvM (d + 1) 141 [.ref 54, .int (-1)] S I L R Q = Q (.int (-1)) S (telF I (-1)) L R := telN hS hR (by decide) (by rw [inb_is]; exact eq_true (by decide))
theorem tel2 (hS : Pm S) (hR : Pr R) : EvM (d + 1) 141 [.ref 54, .int (-2)] S I L R Q = Q (.int (-2)) S (telF I (-2)) L R := telN hS hR (by decide) (by rw [inb_is]; exact eq_true (by decide))
theorem tel5 (hS : Pm S) (hR : Pr R) : EvM (d + 1) 141 [.ref 54, .int (-5)] S I L R Q = Q (.int (-5)) S (telF I (-5)) L R := telN hS hR (by decide) (by rw [inb_is]; exact eq_true (by decide))
theorem tel6 (hS : Pm S) (hR : Pr R) : EvM (d + 1) 141 [.ref 54, .int (-6)] S I L R Q = Q (.int (-6)) S (telF I (-6)) L R := telN hS hR (by decide) (by rw [inb_is]; exact eq_true (by decide))
theorem tel0 (hS : Pm S) (hR : Pr R) : EvM (d + 1) 141 [.ref 54, .int 0] S I L R Q = Q (.int 0) S (telF I 0) L R := telP hS hR (by decide)
theorem telI {n : Nat} (hS : Pm S) (hR : Pr R) (hn : n < 2 ^ 31) : EvM (d + 1) 141 [.ref 54, .int (nI n)] S I L R Q = Q (.int (nI n)) S (telF I (nI n)) L R := telP hS hR (nI_pos hn)
theorem cgt (hS : Pm S) : EvM (d + 1) 206 [.ref 54] S I L R Q = Q .null S (put (put I 54 59 (-1)) 54 60 (-2)) L R := by
  simp only [M206, E206_0, E206_1, E206_2, E206_5, E206_6, E206_8, E206_11, pk54 hS, rfs, rfn, cs0, csi, csl, csr, csn, kti, ktl, ktr, ktn, ktv, ktf, true_and, and_true, and_self, ↓reduceIte, Nat.reduceAdd, Nat.reduceSub, Nat.reduceMul, Nat.reduceLT, Nat.reduceLeDiff, Nat.reduceEqDiff, true_or, or_true, false_or, or_false, not_true_eq_false, not_false_eq_true, reduceCtorEq, cmp_lt, cmp_gt, cmp_eq, Int32.reduceAdd, Int32.reduceSub, Int32.reduceMul, Int32.reduceLT, Int32.reduceToNatClampNeg, eq_self, ne_eq, Int64.reduceAdd, Int64.reduceSub, Int64.reduceMul, Int64.reduceLT, pt]
end TL
