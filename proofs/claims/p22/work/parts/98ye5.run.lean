/-! group C: a RUN: the reference's beside the class's -/
/-- DROPPED stays where a STEP is done -/
def F6 (u : Nat) (C D : mI) : Prop := D (u + 2) 6 = C (u + 2) 6
section F6S
variable {u z a k : Nat} {I J : mI} {x c b s v1 v2 kd : Int32} {t : Bool}
theorem F6.rf : F6 u I I := rfl
theorem F6.pt (h : F6 u I J) (hk : ¬ a = u + 2 ∨ ¬ k = 6) : F6 u I (put J a k x) := by
  refine Eq.trans ?_ h
  rcases hk with hk | hk
  · exact pt_m (fun z => hk z.symm)
  · by_cases e : u + 2 = a
    · subst e
      exact pt_f (fun z => hk z.symm)
    · exact pt_m e
theorem F6.ic (h : F6 u I J) (hk : ¬ a = u + 2 ∨ ¬ k = 6) : F6 u I (inc J a k) := h.pt hk
theorem F6.dc (h : F6 u I J) (hk : ¬ a = u + 2 ∨ ¬ k = 6) : F6 u I (dcr J a k) := h.pt hk
theorem F6.ob (h : F6 u I J) (hk : ¬ a = u + 2 ∨ ¬ k = 6) : F6 u I (orb J a k c) := h.pt hk
theorem F6.use (h : F6 u I J) : F6 u I (useF J u c t) := by
  unfold useF
  split
  · exact (h.dc (by omega)).ic (by omega)
  · exact (h.ic (by omega)).ob (by omega)
theorem F6.los (h : F6 u I J) : F6 u I (losF J u c) := by
  unfold losF
  split
  · exact (h.dc (by omega)).ic (by omega)
  · exact h
theorem F6.sl (h : F6 u I J) : F6 u I (slF J u) := by
  unfold slF
  split
  · exact h
  · exact h.pt (by omega)
theorem F6.mv (h : F6 u I J) : F6 u I (mv1 J u c b) := ((h.dc (by omega)).ic (by omega)).ic (by omega)
theorem F6.mov (h : F6 u I J) : F6 u I (movF J u c b) := by
  unfold movF
  split
  · exact h.mv.ob (by omega)
  · exact h.mv
theorem F6.tB (h : F6 u I J) : F6 u I (stB J u c b) := by
  unfold stB
  split
  · exact h.sl.ic (by omega)
  · exact h.sl.mov
theorem F6.tA (h : F6 u I J) : F6 u I (stA J u c b) := by
  unfold stA
  repeat' split
  all_goals first | exact h.ic (by omega) | exact h.tB
theorem F6.str (h : F6 u I J) : F6 u I (strF J u c b) := by
  unfold strF
  repeat' split
  all_goals first | exact h.ic (by omega) | exact h.use.tA | exact h.use
theorem F6.sho (h : F6 u I J) : F6 u I (shoF J u c) := by
  unfold shoF
  repeat' split
  all_goals first | exact h.ic (by omega) | exact h.use.ob (by omega) | exact h.use
theorem F6.pn1 (h : F6 u I J) : F6 u I (pu1 J u c) := by
  unfold pu1
  split
  · exact (h.ob (by omega)).los
  · exact h
theorem F6.pun (h : F6 u I J) : F6 u I (punF J u c) := by
  unfold punF
  repeat' split
  all_goals first | exact h.ic (by omega) | exact (h.use.ic (by omega)).pn1 | exact h.use
theorem F6.wel (h : F6 u I J) : F6 u I (welF J u c s) := by
  unfold welF
  repeat' split
  all_goals first | exact h.ic (by omega) | exact (h.use.ob (by omega)).pt (by omega) | exact h.use
theorem F6.fir (h : F6 u I J) : F6 u I (firF J u z c) := by
  unfold firF
  repeat' split
  all_goals first | exact h | exact (((h.ic (by omega)).pt (by omega)).pt (by omega)).los | exact h.ic (by omega)
theorem stepF_6 : stepF I u z kd v1 v2 (u + 2) 6 = I (u + 2) 6 := by
  unfold stepF
  repeat' split
  all_goals first | exact F6.rf.fir | exact F6.rf.str | exact F6.rf.sho | exact F6.rf.pun | exact F6.rf.wel
end F6S
section RNN
variable {d u w z k m n r s g1 : Nat} {S : mS} {C D J J' C0 I0 : mI} {L : mL} {R : mR} {Q : mQ} {x ex : Int32}
/-- what a STEP's code comes to -/
theorem StR.cl {kd f7 : Int32} {l1 l2 l3 : List (Int32 × Int32)} {cl : List Int32} (h : StR kd f7 l1 l2 l3 cl) : pshL cl ≤ 64 ∧ evP (pvF C u) (cvF C u) cl [] ∧ ∃ vt tail, evX (pvF C u) (cvF C u) cl [] = vt :: tail ∧ tail.length ≤ 2 ∧ ((l3 = [] ∧ vt = 1) ∨ (¬ l3 = [] ∧ (vt = 0 ∨ vt = 1) ∧ Val (pvF C u) (cvF C u) l3 vt)) ∧ ((kd = 5 ∧ tail = [f7] ∧ ¬ f7 < 0 ∧ ¬ 15 < f7) ∨ (¬ kd = 5 ∧ ∃ v1, Val (pvF C u) (cvF C u) l1 v1 ∧ ((kd = 1 ∧ ∃ v2, Val (pvF C u) (cvF C u) l2 v2 ∧ tail = [v2, v1]) ∨ (¬ kd = 1 ∧ tail = [v1])))) := by
  obtain ⟨n0, n1, n2, n3, c1, c2, ct, hn, rfl, ht, hc⟩ := h
  have T : ∃ vt, (∀ st, evX (pvF C u) (cvF C u) ct st = vt :: st ∧ evP (pvF C u) (cvF C u) ct st) ∧ pshL ct + n2 ≤ n3 + 1 ∧ ((l3 = [] ∧ vt = 1) ∨ (¬ l3 = [] ∧ (vt = 0 ∨ vt = 1) ∧ Val (pvF C u) (cvF C u) l3 vt)) := by
    rcases ht with ⟨e1, e2, e3⟩ | hv
    · refine ⟨1, fun st => ?_, ?_, Or.inl ⟨e1, rfl⟩⟩
      · rw [e2]
        refine ⟨?_, evP_1 (fun z => absurd z (by decide))⟩
        show stv (pvF C u) (cvF C u) 1 st = 1 :: st
        rw [stv_p (by decide), pv_n (by decide)]
      · rw [e2, psh_2 (by decide)]
        omega
    · obtain ⟨a1, a2, a3, f, a4, a5, a6⟩ := hv
      refine ⟨f (pvF C u) (cvF C u), fun st => a5 _ _ st, by omega, Or.inr ⟨fun z => ?_, a6 trivial _ _, a1, (a4 _ _ []).2, (a4 _ _ []).1⟩⟩
      have q := (a4 (pvF C u) (cvF C u) []).1
      rw [z] at q
      cases q
  obtain ⟨vt, t1, t2, t3⟩ := T
  rcases hc with ⟨k5, e1, e2, e3, e4, f0, f15, e5, e6⟩ | ⟨k5, hv1, hc⟩
  · have h4 : ¬ f7 < -4 := fun z => f0 (Int32.lt_trans z (by decide))
    rw [e3, e4]
    have q1 : evX (pvF C u) (cvF C u) ([f7] ++ []) [] = [f7] := by
      show stv (pvF C u) (cvF C u) f7 [] = [f7]
      rw [stv_p h4, pv_n f0]
    refine ⟨?_, evP_ap (evP_1 (fun z => absurd z h4)) (by rw [q1]; exact (t1 _).2), vt, [f7], ?_, by show 1 ≤ 2; omega, t3, Or.inl ⟨k5, rfl, f0, f15⟩⟩
    · rw [psh_ap, List.append_nil, psh_2 h4]
      omega
    · rw [evX_ap, q1]
      exact (t1 _).1
  · obtain ⟨a1, a2, a3, f, a4, a5, _⟩ := hv1
    have o1 : Val (pvF C u) (cvF C u) l1 (f (pvF C u) (cvF C u)) := ⟨a1, (a4 _ _ []).2, (a4 _ _ []).1⟩
    have q0 := a5 (pvF C u) (cvF C u) []
    rcases hc with ⟨k1, b1, b2, b3, g, b4, b5, _⟩ | ⟨k1, e1, e2, e3⟩
    · have q1 := b5 (pvF C u) (cvF C u) [f (pvF C u) (cvF C u)]
      have q2 : evX (pvF C u) (cvF C u) (c1 ++ c2) [] = [g (pvF C u) (cvF C u), f (pvF C u) (cvF C u)] := by rw [evX_ap, q0.1, q1.1]
      refine ⟨?_, evP_ap (evP_ap q0.2 (by rw [q0.1]; exact q1.2)) (by rw [q2]; exact (t1 _).2), vt, [g (pvF C u) (cvF C u), f (pvF C u) (cvF C u)], ?_, Nat.le_refl 2, t3, Or.inr ⟨k5, _, o1, Or.inl ⟨k1, _, ⟨b1, (b4 _ _ []).2, (b4 _ _ []).1⟩, rfl⟩⟩⟩
      · rw [psh_ap, psh_ap]
        omega
      · rw [evX_ap, q2]
        exact (t1 _).1
    · rw [e2, List.append_nil]
      refine ⟨?_, evP_ap q0.2 (by rw [q0.1]; exact (t1 _).2), vt, _, ?_, by show 1 ≤ 2; omega, t3, Or.inr ⟨k5, _, o1, Or.inr ⟨k1, rfl⟩⟩⟩
      · rw [psh_ap]
        omega
      · rw [evX_ap, q0.1]
        exact (t1 _).1
section PAF
variable {vt kd : Int32} {tail : List Int32} {k1 : Nat}
theorem paF_0 (h : StkR u D (vt :: tail)) (hl : tail.length ≤ 2) (e : vt = 0) : paF D u z n k1 s x = (D, x + 1) := by
  have e8 : D u 8 = nI (tail.length + 1) := h.1
  have e0 : D (u + 5) tail.length = vt := h.2.1
  unfold paF
  rw [e8, if_neg (show ¬ nI (tail.length + 1) < (1 : Int32) from nI_nlt (a := tail.length + 1) (b := 1) (by omega) (by omega)), nI_m1, nI_clamp (by omega), e0, if_pos e]
theorem paF_g (h : StkR u D (vt :: tail)) (hl : tail.length ≤ 2) (e : ¬ vt = 0) (hk : D k1 s = 5) : paF D u z n k1 s x = (D, D (u + 5) 0) := by
  have e8 : D u 8 = nI (tail.length + 1) := h.1
  have e0 : D (u + 5) tail.length = vt := h.2.1
  unfold paF
  rw [e8, if_neg (show ¬ nI (tail.length + 1) < (1 : Int32) from nI_nlt (a := tail.length + 1) (b := 1) (by omega) (by omega)), nI_m1, nI_clamp (by omega), e0, if_neg e, hk, if_neg (by decide), if_neg (by decide), if_neg (by decide), if_neg (by decide), if_neg (by decide)]
theorem paF_s (h : StkR u D (vt :: tail)) (hl : tail.length ≤ 2) (e : ¬ vt = 0) (hk : D k1 s = kd) (hkd : kd = 0 ∨ kd = 1 ∨ kd = 2 ∨ kd = 3 ∨ kd = 4) : paF D u z n k1 s x = (if stepB D u z kd (D (u + 5) 0) = true then (stepF D u z kd (D (u + 5) 0) (D (u + 5) 1), x + 1) else (put (stepF D u z kd (D (u + 5) 0) (D (u + 5) 1)) (u + 2) 6 x, nI n)) := by
  have e8 : D u 8 = nI (tail.length + 1) := h.1
  have e0 : D (u + 5) tail.length = vt := h.2.1
  unfold paF
  rw [e8, if_neg (show ¬ nI (tail.length + 1) < (1 : Int32) from nI_nlt (a := tail.length + 1) (b := 1) (by omega) (by omega)), nI_m1, nI_clamp (by omega), e0, if_neg e, hk]
  rcases hkd with q | q | q | q | q <;> subst q
  · rfl
  · rw [if_neg (by decide), if_pos rfl]
    rfl
  · rw [if_neg (by decide), if_neg (by decide), if_pos rfl]
    rfl
  · rw [if_neg (by decide), if_neg (by decide), if_neg (by decide), if_pos rfl]
    rfl
  · rw [if_neg (by decide), if_neg (by decide), if_neg (by decide), if_neg (by decide), if_pos rfl]
    rfl
end PAF
theorem kd04 {kd : Int32} (h0 : ¬ kd < 0) (h5 : ¬ 5 < kd) (h : ¬ kd = 5) : kd = 0 ∨ kd = 1 ∨ kd = 2 ∨ kd = 3 ∨ kd = 4 := by
  have a : ¬ kd.toInt < 0 := fun z => h0 (Int32.lt_iff_toInt_lt.mpr z)
  have b : ¬ (5 : Int) < kd.toInt := fun z => h5 (Int32.lt_iff_toInt_lt.mpr z)
  have c : ¬ kd.toInt = 5 := fun z => h (i32e 5 z rfl)
  have e : kd.toInt = 0 ∨ kd.toInt = 1 ∨ kd.toInt = 2 ∨ kd.toInt = 3 ∨ kd.toInt = 4 := by omega
  rcases e with e | e | e | e | e
  · exact Or.inl (i32e 0 e rfl)
  · exact Or.inr (Or.inl (i32e 1 e rfl))
  · exact Or.inr (Or.inr (Or.inl (i32e 2 e rfl)))
  · exact Or.inr (Or.inr (Or.inr (Or.inl (i32e 3 e rfl))))
  · exact Or.inr (Or.inr (Or.inr (Or.inr (i32e 4 e rfl))))
theorem f15 {f : Int32} (h0 : ¬ f < 0) (h5 : ¬ 15 < f) : ∃ q, q ≤ 15 ∧ f = nI q := by
  have a : ¬ f.toInt < 0 := fun z => h0 (Int32.lt_iff_toInt_lt.mpr z)
  have b : ¬ (15 : Int) < f.toInt := fun z => h5 (Int32.lt_iff_toInt_lt.mpr z)
  exact ⟨f.toInt.toNat, by omega, ti_nI (z := f.toInt) rfl (by omega) (by omega)⟩
/-- one STEP that is passed -/
theorem pasR {k1 k2 k3 px : Nat} {y5 y6 y7 : Value} (hS : Pm S) (hR : Pr R) (hr : r < 8) (hn : n ≤ 16) (hm : m ≤ 416) (hT : TxR (C0 k1) (C0 k2) (C0 k3) (fun j => I0 56 (60 + 1000 * r + j)) n) (hy : ∀ x, m ≤ x → x < 416 → C0 k3 x = 0) (h1 : u + 5 < k1) (h2 : u + 5 < k2) (h3 : u + 5 < k3) (hzu : z + 6 < u) (hsm : SmL u z C0 I0) (hsn : s < n) (h : SR u w C J) (hsl : SlR u C J L) (e35 : J 54 35 = -1) (gC : Gu u C0 C) (gJ : Gq I0 J) (e41 : J 54 41 = nI g1) (hx : px < 16) (hq : ∀ J' L' x' y5 y6 y7, SR u w (pasF C u z n k1 k2 k3 m (nI s) (nI px)).1 J' → SlR u (pasF C u z n k1 k2 k3 m (nI s) (nI px)).1 J' L' → Gq I0 J' → J' 54 41 = nI g1 → x' ≤ 16 → ((J' 54 35 = -1 ∧ (pasF C u z n k1 k2 k3 m (nI s) (nI px)).2 = nI x') ∨ (¬ J' 54 35 = -1 ∧ (pasF C u z n k1 k2 k3 m (nI s) (nI px)).2 = nI n)) → Gu u C0 (pasF C u z n k1 k2 k3 m (nI s) (nI px)).1 → Ev (d + 5) 196 16 [.ref 54, .int (nI r), .int ex, .int (nI (60 + 1000 * r)), .int (nI x'), y5, y6, y7] [] S J' L' R Q) : Ev (d + 5) 196 95 [.ref 54, .int (nI r), .int ex, .int (nI (60 + 1000 * r)), .int (nI px), y5, y6, y7] [.int (nI s)] S J L R Q := by
  have J6 : J 56 = I0 56 := gJ.w
  have c1 : C k1 = C0 k1 := gC k1 (Or.inr h1)
  have c2 : C k2 = C0 k2 := gC k2 (Or.inr h2)
  have c3 : C k3 = C0 k3 := gC k3 (Or.inr h3)
  have ep : pasF C u z n k1 k2 k3 m (nI s) (nI px) = paF (reF C u k2 k3 m s) u z n k1 s (nI px) := by
    unfold pasF
    rw [if_pos ⟨nI_pos (by omega), nI_lt (by omega) (by omega)⟩, nI_clamp (by omega)]
  have gP : Gu u C0 (pasF C u z n k1 k2 k3 m (nI s) (nI px)).1 := gC.pas
  rw [ep] at hq gP
  obtain ⟨a, b, f1, f2, f3, f4, l1, l2, l3, s1, s2, s3, s4, r0, r1, r2, r3, r4, r5, d1, d2, d3, kd0, kd5, hst⟩ := hT s hsn
  have q1 := d1.le
  have q2 := d2.le
  have q3 := d3.le
  obtain ⟨hpsh, hevP, vt, tail, hev, htl, ht3, hcs⟩ := hst.cl (C := C) (u := u)
  have e1 : C k2 s = nI a := by rw [c2]; exact s1
  have e2 : C k2 (s + 1) = nI b := by rw [c2]; exact s2
  obtain ⟨hK, sk⟩ := re_R (u := u) (m := m) (k3 := k3) e1 e2 s3 s4 hm (by rw [c3]; exact hy) (by omega) (by omega) (by rw [c3]; exact hpsh) (by rw [c3]; exact hevP)
  rw [c3, hev] at hK
  have eD1 : reF C u k2 k3 m s k1 s = C0 k1 s := by rw [sk.1 k1 (by omega) (by omega), c1]
  have hz5 : reF C u k2 k3 m s z = C0 z ∧ reF C u k2 k3 m s (z + 3) = C0 (z + 3) := ⟨(sk.1 z (by omega) (by omega)).trans (gC z (Or.inl (by omega))), (sk.1 (z + 3) (by omega) (by omega)).trans (gC (z + 3) (Or.inl (by omega)))⟩
  have hpv : pvF (reF C u k2 k3 m s) u = pvF C u := sk.pvE
  have hcv : cvF (reF C u k2 k3 m s) u = cvF C u := sk.cvE
  have hD : ∀ J, SR u w C J → SR u w (reF C u k2 k3 m s) J := fun J k => k.g (fun k hk => sk.2 k (by omega)) (fun a h1 h2 => sk.1 a (by omega) (by omega)) rfl (fun _ _ _ => rfl) (fun _ _ _ => rfl)
  have hL : ∀ J, SlR u C J L → SlR u (reF C u k2 k3 m s) J L := fun J k => k.e (sk.2 9 (by decide)) (sk.2 10 (by decide)) rfl
  generalize reF C u k2 k3 m s = D at hK sk eD1 hz5 hpv hcv hD hL hq gP
  have m0 : nI (60 + 1000 * r) + 10 + 10 * nI s = nI (60 + 1000 * r + 10 + 10 * s) := by rw [show (10 : Int32) = nI 10 from rfl, pk_mul, nI_add, nI_add]
  have m3 : nI (60 + 1000 * r + 10 + 10 * s) + 3 = nI (60 + 1000 * r + (13 + 10 * s)) := by rw [show (3 : Int32) = nI 3 from rfl, nI_add, show 60 + 1000 * r + 10 + 10 * s + 3 = 60 + 1000 * r + (13 + 10 * s) by omega]
  have m4 : nI (60 + 1000 * r + 10 + 10 * s) + 4 = nI (60 + 1000 * r + (14 + 10 * s)) := by rw [show (4 : Int32) = nI 4 from rfl, nI_add, show 60 + 1000 * r + 10 + 10 * s + 4 = 60 + 1000 * r + (14 + 10 * s) by omega]
  have m7 : nI (60 + 1000 * r + 10 + 10 * s) + 7 = nI (60 + 1000 * r + (17 + 10 * s)) := by rw [show (7 : Int32) = nI 7 from rfl, nI_add, show 60 + 1000 * r + 10 + 10 * s + 7 = 60 + 1000 * r + (17 + 10 * s) by omega]
  have p0 : inb (nI (60 + 1000 * r + 10 + 10 * s)) 8060 = True := inb_nI (by omega) (by decide)
  have u0 : (nI (60 + 1000 * r + 10 + 10 * s)).toNatClampNeg = 60 + 1000 * r + 10 + 10 * s := nI_clamp (by omega)
  have p3 : inb (nI (60 + 1000 * r + (13 + 10 * s))) 8060 = True := inb_nI (by omega) (by decide)
  have u3 : (nI (60 + 1000 * r + (13 + 10 * s))).toNatClampNeg = 60 + 1000 * r + (13 + 10 * s) := nI_clamp (by omega)
  have p4 : inb (nI (60 + 1000 * r + (14 + 10 * s))) 8060 = True := inb_nI (by omega) (by decide)
  have u4 : (nI (60 + 1000 * r + (14 + 10 * s))).toNatClampNeg = 60 + 1000 * r + (14 + 10 * s) := nI_clamp (by omega)
  have p7 : inb (nI (60 + 1000 * r + (17 + 10 * s))) 8060 = True := inb_nI (by omega) (by decide)
  have u7 : (nI (60 + 1000 * r + (17 + 10 * s))).toNatClampNeg = 60 + 1000 * r + (17 + 10 * s) := nI_clamp (by omega)
  have v0 : I0 56 (60 + 1000 * r + 10 + 10 * s) = C0 k1 s := by rw [← r0]; congr 1; omega
  have v1 : I0 56 (60 + 1000 * r + 10 + 10 * s + 1) = nI f1 := by rw [← r1]; congr 1; omega
  have v2 : I0 56 (60 + 1000 * r + 10 + 10 * s + 2) = nI f2 := by rw [← r2]; congr 1; omega
  have v3 : I0 56 (60 + 1000 * r + 10 + 10 * s + 3) = nI f3 := by rw [← r3]; congr 1; omega
  have w3 : I0 56 (60 + 1000 * r + (13 + 10 * s)) = nI f3 := r3
  have w4 : I0 56 (60 + 1000 * r + (14 + 10 * s)) = nI f4 := r4
  have fin : ∀ (t : Bool) (J2 : mI) (y7 : Value), (t = true ∧ vt = 1 ∨ t = false ∧ vt = 0) → SR u w D J2 → SlR u D J2 L → Gq I0 J2 → J2 54 41 = nI g1 → J2 54 35 = -1 → Ev (d + 5) 196 162 [.ref 54, .int (nI r), .int ex, .int (nI (60 + 1000 * r)), .int (nI px), .int (nI s), .int (nI (60 + 1000 * r + 10 + 10 * s)), y7] [.int (bI t)] S J2 L R Q := by
    intro t J2 y7 ht k1' k2' k3' k4' k5'
    have Z6 : J2 56 = I0 56 := k3'.w
    rcases ht with ⟨rfl, ht⟩ | ⟨rfl, ht⟩
    · have vn : ¬ vt = 0 := by rw [ht]; decide
      by_cases h5 : C0 k1 s = 5
      · have h5' : (C0 k1 s = 5) = True := eq_true h5
        rcases hcs with ⟨_, ct, f0, f5⟩ | ⟨z5, _⟩
        · obtain ⟨q, q15, eq⟩ := f15 f0 f5
          have eg := paF_g (z := z) (n := n) (x := nI px) hK htl vn (eD1.trans h5)
          have e50 : D (u + 5) 0 = nI q := by
            have z := hK.2.2
            rw [ct] at z
            exact z.1.trans eq
          have w7 : I0 56 (60 + 1000 * r + (17 + 10 * s)) = nI q := eq
          rw [eg] at hq gP
          simp only [E196_162, E196_164, E196_166, E196_169, E196_170, E196_173, E196_175, E196_176, E196_177, E196_180, E196_181, E196_184, E196_186, E196_188, E196_189, E196_190, E196_192, E196_223, pk54 hS, pk56 hS, pl56 hS, pa56 hS, pi56 hS, pr54_3 hR, rfs, rfn, cs0, csi, csl, csr, csn, kti, ktl, ktr, ktn, ktv, ktf, true_and, and_true, and_self, ↓reduceIte, Nat.reduceAdd, Nat.reduceSub, Nat.reduceMul, Nat.reduceLT, Nat.reduceLeDiff, Nat.reduceEqDiff, true_or, or_true, false_or, or_false, not_true_eq_false, not_false_eq_true, reduceCtorEq, cmp_lt, cmp_gt, cmp_eq, Int32.reduceAdd, Int32.reduceSub, Int32.reduceMul, Int32.reduceLT, Int32.reduceToNatClampNeg, eq_self, ne_eq, Int64.reduceAdd, Int64.reduceSub, Int64.reduceMul, Int64.reduceLT, bI_t, n1_0, Z6, p0, u0, v0, h5', m7, p7, u7, w7]
          exact hq J2 L q _ _ _ k1' k2' k3' k4' (by omega) (Or.inl ⟨k5', e50⟩) gP
        · exact absurd h5 z5
      · have hkd := kd04 kd0 kd5 h5
        rcases hcs with ⟨z5, _⟩ | ⟨_, x1, o1, hcs⟩
        · exact absurd z5 h5
        have es := paF_s (z := z) (n := n) (x := nI px) hK htl vn eD1 hkd
        have e50 : D (u + 5) 0 = x1 := by
          rcases hcs with ⟨_, x2, _, ct⟩ | ⟨_, ct⟩
          · have z := hK.2.2
            rw [ct] at z
            exact z.2.1
          · have z := hK.2.2
            rw [ct] at z
            exact z.1
        have o2 : C0 k1 s = 1 → RdC (fun j => J2 56 (60 + 1000 * r + j)) f2 f3 l2 ∧ Val (pvF D u) (cvF D u) l2 (D (u + 5) 1) := fun q => by
          rcases hcs with ⟨_, x2, o2, ct⟩ | ⟨q', _⟩
          · have z := hK.2.2
            rw [ct] at z
            have e51 : D (u + 5) 1 = x2 := z.1
            rw [Z6, hpv, hcv, e51]
            exact ⟨d2, o2⟩
          · exact absurd q q'
        rw [es] at hq gP
        rw [e50] at hq gP
        simp only [E196_162, E196_164, E196_166, E196_169, E196_170, E196_173, E196_175, E196_176, E196_177, E196_195, E196_196, E196_198, E196_201, E196_202, E196_203, E196_205, pk54 hS, pk56 hS, pl56 hS, pa56 hS, pi56 hS, pr54_3 hR, rfs, rfn, cs0, csi, csl, csr, csn, kti, ktl, ktr, ktn, ktv, ktf, true_and, and_true, and_self, ↓reduceIte, Nat.reduceAdd, Nat.reduceSub, Nat.reduceMul, Nat.reduceLT, Nat.reduceLeDiff, Nat.reduceEqDiff, true_or, or_true, false_or, or_false, not_true_eq_false, not_false_eq_true, reduceCtorEq, cmp_lt, cmp_gt, cmp_eq, Int32.reduceAdd, Int32.reduceSub, Int32.reduceMul, Int32.reduceLT, Int32.reduceToNatClampNeg, eq_self, ne_eq, Int64.reduceAdd, Int64.reduceSub, Int64.reduceMul, Int64.reduceLT, bI_t, n1_0, Z6, p0, u0, v0, h5]
        refine dosR (d := d) (z := z) (a := f1) (b := f2) (c := f3) (v1 := x1) (v2 := D (u + 5) 1) (l1 := l1) (l2 := l2) hS hR (by omega) (by omega) k1' k2' (by omega) (by omega) (by rw [Z6]; exact v0) (by rw [Z6]; exact v1) (by rw [Z6]; exact v2) (by rw [Z6]; exact v3) (by rw [Z6]; exact d1) (by rw [hpv, hcv]; exact o1) hkd o2 (hsm.g (by rw [hz5.1]) hz5.2 Z6) (fun J3 L3 k3 s3' q3 => ?_)
        have q4 := k3'.tr q3.q
        have e3 : J3 54 41 = nI g1 := (q3.2 41 (by decide)).trans k4'
        cases hb : stepB D u z (C0 k1 s) x1
        · rw [hb, if_neg (by decide)] at hq gP
          have ne : ¬ nI px = -1 := fun z => nI_pos (n := px) (by omega) (by rw [z]; decide)
          simp only [E196_208, E196_211, E196_213, E196_216, E196_217, E196_220, E196_223, pk54 hS, rfs, rfn, cs0, csi, csl, csr, csn, kti, ktl, ktr, ktn, ktv, ktf, true_and, and_true, and_self, ↓reduceIte, Nat.reduceAdd, Nat.reduceSub, Nat.reduceMul, Nat.reduceLT, Nat.reduceLeDiff, Nat.reduceEqDiff, true_or, or_true, false_or, or_false, not_true_eq_false, not_false_eq_true, reduceCtorEq, cmp_lt, cmp_gt, cmp_eq, Int32.reduceAdd, Int32.reduceSub, Int32.reduceMul, Int32.reduceLT, Int32.reduceToNatClampNeg, eq_self, ne_eq, Int64.reduceAdd, Int64.reduceSub, Int64.reduceMul, Int64.reduceLT, bI_f, pt, nI_1]
          exact hq _ L3 (px + 1) _ _ _ (k3.o (k := 6) (m := 35) (by decide) rfl rfl) (by repeat (first | assumption | refine SlR.pj ?_ (by omega) | refine SlR.pc ?_ (by omega))) (Gq.p4 q4 (by decide)) ((pt_f (by decide)).trans e3) (by omega) (Or.inr ⟨by rw [pt_s]; exact ne, rfl⟩) gP
        · rw [hb, if_pos rfl] at hq gP
          simp only [E196_208, E196_216, E196_217, E196_220, E196_223, pk54 hS, rfs, rfn, cs0, csi, csl, csr, csn, kti, ktl, ktr, ktn, ktv, ktf, true_and, and_true, and_self, ↓reduceIte, Nat.reduceAdd, Nat.reduceSub, Nat.reduceMul, Nat.reduceLT, Nat.reduceLeDiff, Nat.reduceEqDiff, true_or, or_true, false_or, or_false, not_true_eq_false, not_false_eq_true, reduceCtorEq, cmp_lt, cmp_gt, cmp_eq, Int32.reduceAdd, Int32.reduceSub, Int32.reduceMul, Int32.reduceLT, Int32.reduceToNatClampNeg, eq_self, ne_eq, Int64.reduceAdd, Int64.reduceSub, Int64.reduceMul, Int64.reduceLT, bI_t, n1_0, pt, nI_1]
          have k35 : J3 54 35 = -1 := by
            have z := k3.out (k := 6) (by decide)
            have z0 := (hD _ h).out (k := 6) (by decide)
            rw [← z, stepF_6]
            exact z0.trans e35
          exact hq _ L3 (px + 1) _ _ _ (k3.j (m := 35) (by decide) k35.symm) (by repeat (first | assumption | refine SlR.pj ?_ (by omega) | refine SlR.pc ?_ (by omega))) (Gq.p4 q4 (by decide)) ((pt_f (by decide)).trans e3) (by omega) (Or.inl ⟨pt_s, nI_1 px⟩) gP
    · have e0 := paF_0 (z := z) (n := n) (k1 := k1) (s := s) (x := nI px) hK htl ht
      rw [e0] at hq gP
      simp only [E196_162, E196_164, E196_166, E196_195, E196_196, E196_198, E196_216, E196_217, E196_220, E196_223, pk54 hS, rfs, rfn, cs0, csi, csl, csr, csn, kti, ktl, ktr, ktn, ktv, ktf, true_and, and_true, and_self, ↓reduceIte, Nat.reduceAdd, Nat.reduceSub, Nat.reduceMul, Nat.reduceLT, Nat.reduceLeDiff, Nat.reduceEqDiff, true_or, or_true, false_or, or_false, not_true_eq_false, not_false_eq_true, reduceCtorEq, cmp_lt, cmp_gt, cmp_eq, Int32.reduceAdd, Int32.reduceSub, Int32.reduceMul, Int32.reduceLT, Int32.reduceToNatClampNeg, eq_self, ne_eq, Int64.reduceAdd, Int64.reduceSub, Int64.reduceMul, Int64.reduceLT, bI_f, pt, nI_1]
      exact hq _ L (px + 1) _ _ _ (k1'.j (m := 35) (by decide) k5'.symm) (by repeat (first | assumption | refine SlR.pj ?_ (by omega) | refine SlR.pc ?_ (by omega))) (Gq.p4 k3' (by decide)) ((pt_f (by decide)).trans k4') (by omega) (Or.inl ⟨pt_s, nI_1 px⟩) gP
  rcases ht3 with ⟨z3, zt⟩ | ⟨z3, zt, o3⟩
  · have e34 : f4 = f3 := by
      have := d3.1
      rw [z3] at this
      exact this
    have h6 : (nI f3 = nI f4) = True := eq_true (by rw [e34])
    simp only [E196_95, E196_97, E196_98, E196_100, E196_101, E196_103, E196_105, E196_106, E196_107, E196_109, E196_110, E196_113, E196_115, E196_116, E196_117, E196_118, E196_119, E196_122, E196_124, E196_125, E196_126, E196_127, E196_157, E196_158, pk54 hS, pk56 hS, pl56 hS, pa56 hS, pi56 hS, pr54_3 hR, rfs, rfn, cs0, csi, csl, csr, csn, kti, ktl, ktr, ktn, ktv, ktf, true_and, and_true, and_self, ↓reduceIte, Nat.reduceAdd, Nat.reduceSub, Nat.reduceMul, Nat.reduceLT, Nat.reduceLeDiff, Nat.reduceEqDiff, true_or, or_true, false_or, or_false, not_true_eq_false, not_false_eq_true, reduceCtorEq, cmp_lt, cmp_gt, cmp_eq, Int32.reduceAdd, Int32.reduceSub, Int32.reduceMul, Int32.reduceLT, Int32.reduceToNatClampNeg, eq_self, ne_eq, Int64.reduceAdd, Int64.reduceSub, Int64.reduceMul, Int64.reduceLT, m0, m3, m4, p3, u3, p4, u4, J6, w3, w4, h6]
    exact fin true J _ (Or.inl ⟨rfl, zt⟩) (hD J h) (hL J hsl) gJ e41 e35
  · have l0 : 0 < l3.length := by
      match l3, z3 with
      | [], z => exact absurd rfl z
      | _ :: _, _ => exact Nat.succ_pos _
    have e34 : f4 = f3 + l3.length := d3.1
    have h6 : (nI f3 = nI f4) = False := eq_false (fun z => by
      have := (nI_eq (by omega) (by omega)).mp z
      omega)
    simp only [E196_95, E196_97, E196_98, E196_100, E196_101, E196_103, E196_105, E196_106, E196_107, E196_109, E196_110, E196_113, E196_115, E196_116, E196_117, E196_118, E196_119, E196_122, E196_124, E196_125, E196_126, E196_127, E196_130, E196_131, E196_132, E196_133, E196_136, E196_138, E196_139, E196_140, E196_141, E196_142, E196_145, E196_147, E196_148, E196_149, E196_150, pk54 hS, pk56 hS, pl56 hS, pa56 hS, pi56 hS, pr54_3 hR, rfs, rfn, cs0, csi, csl, csr, csn, kti, ktl, ktr, ktn, ktv, ktf, true_and, and_true, and_self, ↓reduceIte, Nat.reduceAdd, Nat.reduceSub, Nat.reduceMul, Nat.reduceLT, Nat.reduceLeDiff, Nat.reduceEqDiff, true_or, or_true, false_or, or_false, not_true_eq_false, not_false_eq_true, reduceCtorEq, cmp_lt, cmp_gt, cmp_eq, Int32.reduceAdd, Int32.reduceSub, Int32.reduceMul, Int32.reduceLT, Int32.reduceToNatClampNeg, eq_self, ne_eq, Int64.reduceAdd, Int64.reduceSub, Int64.reduceMul, Int64.reduceLT, m0, m3, m4, p3, u3, p4, u4, J6, w3, w4, h6]
    refine rckJ (d := d + 1) hS hR h (by omega) r5 (by rw [J6]; exact d3) o3.1 o3.2.1 o3.2.2 (fun J2 hJ2 => ?_)
    have q2 : Gq I0 J2 := gJ.tr (Gr.r7 hJ2).q
    have e2' : J2 54 41 = nI g1 := by rw [hJ2 54 (by decide)]; exact e41
    have e3' : J2 54 35 = -1 := by rw [hJ2 54 (by decide)]; exact e35
    have k2 : SR u w D J2 := (hD J h).g (fun _ _ => rfl) (fun _ _ _ => rfl) (by rw [hJ2 56 (by decide)]) (fun a x y => hJ2 a (by omega)) (fun k _ _ => by rw [hJ2 54 (by decide)])
    have s2' : SlR u D J2 L := (hL J hsl).e rfl rfl (by rw [hJ2 54 (by decide)])
    rcases zt with zt | zt
    · have h7 : (vt = 1) = False := by rw [zt]; exact eq_false (by decide)
      simp only [E196_153, E196_154, E196_161, rfs, rfn, cs0, csi, csl, csr, csn, kti, ktl, ktr, ktn, ktv, ktf, true_and, and_true, and_self, ↓reduceIte, Nat.reduceAdd, Nat.reduceSub, Nat.reduceMul, Nat.reduceLT, Nat.reduceLeDiff, Nat.reduceEqDiff, true_or, or_true, false_or, or_false, not_true_eq_false, not_false_eq_true, reduceCtorEq, cmp_lt, cmp_gt, cmp_eq, Int32.reduceAdd, Int32.reduceSub, Int32.reduceMul, Int32.reduceLT, Int32.reduceToNatClampNeg, eq_self, ne_eq, Int64.reduceAdd, Int64.reduceSub, Int64.reduceMul, Int64.reduceLT, h7]
      exact fin false J2 _ (Or.inr ⟨rfl, zt⟩) k2 s2' q2 e2' e3'
    · have h7 : (vt = 1) = True := eq_true zt
      simp only [E196_153, E196_154, E196_157, E196_158, rfs, rfn, cs0, csi, csl, csr, csn, kti, ktl, ktr, ktn, ktv, ktf, true_and, and_true, and_self, ↓reduceIte, Nat.reduceAdd, Nat.reduceSub, Nat.reduceMul, Nat.reduceLT, Nat.reduceLeDiff, Nat.reduceEqDiff, true_or, or_true, false_or, or_false, not_true_eq_false, not_false_eq_true, reduceCtorEq, cmp_lt, cmp_gt, cmp_eq, Int32.reduceAdd, Int32.reduceSub, Int32.reduceMul, Int32.reduceLT, Int32.reduceToNatClampNeg, eq_self, ne_eq, Int64.reduceAdd, Int64.reduceSub, Int64.reduceMul, Int64.reduceLT, h7]
      exact fin true J2 _ (Or.inl ⟨rfl, zt⟩) k2 s2' q2 e2' e3'
end RNN
