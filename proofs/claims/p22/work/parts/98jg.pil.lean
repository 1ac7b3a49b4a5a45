/-! group B: the pile as a list; what the reference's reader holds at a turn -/
def pil (P : Nat → Int32) : Nat → List Int32
  | 0 => []
  | q + 1 => P q :: pil P q
theorem pil_cg {P P' : Nat → Int32} : ∀ q, (∀ i, i < q → P' i = P i) → pil P' q = pil P q
  | 0, _ => rfl
  | q + 1, h => by
    show P' q :: pil P' q = P q :: pil P q
    rw [h q (by omega), pil_cg q (fun i hi => h i (by omega))]
theorem pil_up {P : Nat → Int32} {q : Nat} {x : Int32} : pil (va_up P q x) (q + 1) = x :: pil P q := by
  show va_up P q x q :: pil (va_up P q x) q = _
  rw [uu_s, pil_cg q (fun i hi => uu_n _ _ (by omega))]
theorem pil_sR {P : Nat → Int32} {k : Int32} {p' : Nat} : ∀ p, p' ≤ p → (∀ i, p' ≤ i → i < p → ¬ bnF (P i) < k) → (p' = 0 ∨ bnF (P (p' - 1)) < k) → rSR k (pil P p) = pil P p'
  | 0, h, _, _ => by
    obtain rfl : p' = 0 := by omega
    rfl
  | p + 1, h, h1, h2 => by
    by_cases e : p' = p + 1
    · subst e
      rcases h2 with h2 | h2
      · omega
      · exact rsr_b h2
    · exact (rsr_c (h1 p (by omega) (by omega))).trans (pil_sR p (by omega) (fun i i1 i2 => h1 i i1 (by omega)) h2)
theorem pil_in {P : Nat → Int32} {v : Int32} : ∀ p, ((v = -1 ∧ ∀ i, i < p → P i < 30) ∨ (∃ i, i < p ∧ v = P i ∧ ¬ P i < 30 ∧ ∀ j, i < j → j < p → P j < 30)) → v = rIn (pil P p)
  | 0, h => by
    rcases h with ⟨h, _⟩ | ⟨i, h, _⟩
    · exact h
    · omega
  | p + 1, h => by
    show v = if P p < 30 then rIn (pil P p) else P p
    by_cases g : P p < 30
    · rw [if_pos g]
      refine pil_in p ?_
      rcases h with ⟨h, h1⟩ | ⟨i, h1, h2, h3, h4⟩
      · exact Or.inl ⟨h, fun i hi => h1 i (by omega)⟩
      · have : ¬ i = p := fun z => h3 (by rw [z]; exact g)
        exact Or.inr ⟨i, by omega, h2, h3, fun j j1 j2 => h4 j j1 (by omega)⟩
    · rw [if_neg g]
      rcases h with ⟨h, h1⟩ | ⟨i, h1, h2, h3, h4⟩
      · exact absurd (h1 p (by omega)) g
      · rcases Nat.lt_or_ge i p with l | l
        · exact absurd (h4 p l (by omega)) g
        · rw [h2, show i = p by omega]
theorem inBx {x a b : Int32} {lo hi : Int64} (ha : lo = a.toInt64) (hb : hi = b.toInt64) : inB x.toInt64 lo hi = true ↔ ¬ x.toInt < a.toInt ∧ ¬ b.toInt < x.toInt := by
  unfold inB
  rw [decide_eq_true_iff, ha, hb, Int64.lt_iff_toInt_lt, Int64.lt_iff_toInt_lt, Int32.toInt_toInt64, Int32.toInt_toInt64, Int32.toInt_toInt64]
theorem in20 {x : Int32} : inB x.toInt64 20 21 = true ↔ (x = 20 ∨ x = 21) := by
  rw [inBx (lo := 20) (hi := 21) (a := 20) (b := 21) rfl rfl, show (20 : Int32).toInt = 20 from rfl, show (21 : Int32).toInt = 21 from rfl]
  constructor
  · intro h
    have : x.toInt = 20 ∨ x.toInt = 21 := by omega
    rcases this with z | z
    · exact Or.inl (Int32.toInt_inj.mp z)
    · exact Or.inr (Int32.toInt_inj.mp z)
  · rintro (z | z) <;> (rw [z]; decide)
theorem in24 {x : Int32} : inB x.toInt64 24 26 = true ↔ (x = 24 ∨ x = 25 ∨ x = 26) := by
  rw [inBx (lo := 24) (hi := 26) (a := 24) (b := 26) rfl rfl, show (24 : Int32).toInt = 24 from rfl, show (26 : Int32).toInt = 26 from rfl]
  constructor
  · intro h
    have : x.toInt = 24 ∨ x.toInt = 25 ∨ x.toInt = 26 := by omega
    rcases this with z | z | z
    · exact Or.inl (Int32.toInt_inj.mp z)
    · exact Or.inr (Or.inl (Int32.toInt_inj.mp z))
    · exact Or.inr (Or.inr (Int32.toInt_inj.mp z))
  · rintro (z | z | z) <;> (rw [z]; decide)
/-- the code that is written so far -/
def Cde (J : mI) (κ : List (Int32 × Int32)) : Prop := J 54 15 = nI κ.length ∧ κ.length ≤ 400 ∧ ∀ k x, κ[k]? = some x → J 60 k = x.1 ∧ J 61 k = x.2
theorem Cde.cg {J K : mI} {κ : List (Int32 × Int32)} (h : Cde J κ) (e15 : K 54 15 = J 54 15) (e60 : K 60 = J 60) (e61 : K 61 = J 61) : Cde K κ := ⟨e15.trans h.1, h.2.1, fun k x hx => by rw [e60, e61]; exact h.2.2 k x hx⟩
theorem Cde.nc {J : mI} {κ : List (Int32 × Int32)} {nc : Nat} (h : Cde J κ) (e : J 54 15 = nI nc) (hn : nc ≤ 400) : nc = κ.length := by
  have := h.2.1
  exact (nI_eq (by omega) (by omega)).mp (e.symm.trans h.1)
theorem Cde.em {J : mI} {κ : List (Int32 × Int32)} {nc : Nat} {op arg : Int32} (h : Cde J κ) (e : J 54 15 = nI nc) (hn : nc < 400) : Cde (put (put (put J 60 nc op) 61 nc arg) 54 15 (nI (nc + 1))) (κ ++ [(op, arg)]) := by
  obtain rfl := h.nc e (by omega)
  have el : (κ ++ [(op, arg)]).length = κ.length + 1 := by rw [List.length_append]; rfl
  refine ⟨by rw [el]; exact pt_s, by omega, fun k x hx => ?_⟩
  have e60 : put (put (put J 60 κ.length op) 61 κ.length arg) 54 15 (nI (κ.length + 1)) 60 k = put J 60 κ.length op 60 k := by rw [pt_m (by decide), pt_m (by decide)]
  have e61 : put (put (put J 60 κ.length op) 61 κ.length arg) 54 15 (nI (κ.length + 1)) 61 k = put (put J 60 κ.length op) 61 κ.length arg 61 k := pt_m (by decide)
  rw [e60, e61]
  by_cases g : k < κ.length
  · rw [List.getElem?_append_left g] at hx
    rw [pt_f (by omega), pt_f (by omega), pt_m (by decide)]
    exact h.2.2 k x hx
  · by_cases g2 : k = κ.length
    · subst g2
      rw [List.getElem?_append_right (Nat.le_refl _), Nat.sub_self] at hx
      have ex : (op, arg) = x := Option.some.inj hx
      subst ex
      rw [pt_s, pt_s]
      exact ⟨rfl, rfl⟩
    · rw [List.getElem?_append_right (by omega)] at hx
      have : [(op, arg)][k - κ.length]? = none := List.getElem?_eq_none (by show 1 ≤ _; omega)
      rw [this] at hx
      cases hx
theorem evm_and {d j : Nat} {as : List Value} {S : mS} {I : mI} {L : mL} {R : mR} {Q1 Q2 : mQ} (k1 : EvM d j as S I L R Q1) (k2 : EvM d j as S I L R Q2) : EvM d j as S I L R (fun v S I L R => Q1 v S I L R ∧ Q2 v S I L R) := by
  obtain ⟨a, n, r, hr, hq⟩ := k1
  obtain ⟨_, m, r2, hr2, hq2⟩ := k2
  have e := run_one hr hr2
  subst e
  exact ⟨a, n, r, hr, ⟨hq, hq2⟩⟩
theorem evm_mono {d j : Nat} {as : List Value} {S : mS} {I : mI} {L : mL} {R : mR} {Q1 Q2 : mQ} (k : EvM d j as S I L R Q1) (h : ∀ v S I L R, Q1 v S I L R → Q2 v S I L R) : EvM d j as S I L R Q2 := by
  obtain ⟨a, n, r, hr, hq⟩ := k
  exact ⟨a, n, r, hr, h _ _ _ _ _ hq⟩
/-- settle: what it writes -/
theorem st_lpC {d : Nat} {S : mS} {L : mL} {R : mR} {Q : mQ} {least : Int32} {P : Nat → Int32} (hS : Pm S) (hR : Pr R) : ∀ (q : Nat) (I : mI) (κ : List (Int32 × Int32)), Cde I κ → κ.length + q ≤ 400 → I 54 19 = nI q → I 62 = P → (∀ J, Cde J (κ ++ rZp (rSP least (pil P q))) → Q .null S J L R) → Ev (d + 2) 169 0 [.ref 54, .int least] [] S I L R Q := by
  intro q
  induction q with
  | zero =>
    intro I κ hc h4 e19 eP hq
    have e1 : ((0 : Int32) < nI 0) = False := eq_false (by decide)
    simp only [E169_0, E169_1, E169_4, E169_52, pk54 hS, rfs, rfn, cs0, csi, csl, csr, csn, kti, ktl, ktr, ktn, ktv, ktf, true_and, and_true, and_self, ↓reduceIte, Nat.reduceAdd, Nat.reduceSub, Nat.reduceMul, Nat.reduceLT, Nat.reduceLeDiff, Nat.reduceEqDiff, true_or, or_true, false_or, or_false, not_true_eq_false, not_false_eq_true, reduceCtorEq, cmp_lt, cmp_gt, cmp_eq, Int32.reduceAdd, Int32.reduceSub, Int32.reduceMul, Int32.reduceLT, Int32.reduceToNatClampNeg, eq_self, ne_eq, Int64.reduceAdd, Int64.reduceSub, Int64.reduceMul, Int64.reduceLT, e19, e1]
    refine hq I ?_
    rw [show rZp (rSP least (pil P 0)) = [] from rfl, List.append_nil]
    exact hc
  | succ q ih =>
    intro I κ hc h4 e19 eP hq
    have e1 : ((0 : Int32) < nI (q + 1)) = True := eq_true (nI_lt (a := 0) (b := q + 1) (by omega) (by omega))
    have a0 : inb (nI q) 400 = True := inb_nI (by omega) (by decide)
    have b0 : (nI q).toNatClampNeg = q := nI_clamp (by omega)
    have eP' : I 62 q = P q := by rw [eP]
    have epil : pil P (q + 1) = P q :: pil P q := rfl
    by_cases g : bnF (P q) < least
    · simp only [E169_0, E169_1, E169_4, E169_7, E169_8, E169_11, E169_12, E169_15, E169_16, E169_17, E169_18, E169_21, E169_22, E169_52, bnd_m, pk54 hS, pk62 hS, pl62 hS, pa62 hS, pi62 hS, pr54_18 hR, rfs, rfn, cs0, csi, csl, csr, csn, kti, ktl, ktr, ktn, ktv, ktf, true_and, and_true, and_self, ↓reduceIte, Nat.reduceAdd, Nat.reduceSub, Nat.reduceMul, Nat.reduceLT, Nat.reduceLeDiff, Nat.reduceEqDiff, true_or, or_true, false_or, or_false, not_true_eq_false, not_false_eq_true, reduceCtorEq, cmp_lt, cmp_gt, cmp_eq, Int32.reduceAdd, Int32.reduceSub, Int32.reduceMul, Int32.reduceLT, Int32.reduceToNatClampNeg, eq_self, ne_eq, Int64.reduceAdd, Int64.reduceSub, Int64.reduceMul, Int64.reduceLT, e19, e1, nI_m1, a0, b0, eP', g]
      refine hq I ?_
      rw [epil, rsp_b g, show rZp [] = [] from rfl, List.append_nil]
      exact hc
    · have e15' : put I 54 19 (nI q) 54 15 = nI κ.length := by rw [pt_f (by decide)]; exact hc.1
      rw [E169_0]
      simp only [E169_1, E169_4, E169_7, E169_8, E169_11, E169_12, E169_15, E169_16, E169_17, E169_18, E169_21, E169_22, E169_25, E169_26, E169_27, E169_30, E169_31, E169_32, E169_35, E169_36, E169_37, E169_40, E169_41, E169_44, E169_45, E169_46, E169_49, bnd_m, emt hS hR e15' (show κ.length < 400 by omega), pk54 hS, pk62 hS, pl62 hS, pa62 hS, pi62 hS, pr54_18 hR, rfs, rfn, cs0, csi, csl, csr, csn, kti, ktl, ktr, ktn, ktv, ktf, true_and, and_true, and_self, ↓reduceIte, Nat.reduceAdd, Nat.reduceSub, Nat.reduceMul, Nat.reduceLT, Nat.reduceLeDiff, Nat.reduceEqDiff, true_or, or_true, false_or, or_false, not_true_eq_false, not_false_eq_true, reduceCtorEq, cmp_lt, cmp_gt, cmp_eq, Int32.reduceAdd, Int32.reduceSub, Int32.reduceMul, Int32.reduceLT, Int32.reduceToNatClampNeg, eq_self, ne_eq, Int64.reduceAdd, Int64.reduceSub, Int64.reduceMul, Int64.reduceLT, e19, e1, nI_m1, a0, b0, eP', g, pt, pt_s, pt_m]
      have c1 : Cde (put I 54 19 (nI q)) κ := hc.cg (pt_f (by decide)) (pt_n (by decide)) (pt_n (by decide))
      refine ih _ (κ ++ [(P q, 0)]) (c1.em e15' (by omega)) ?_ ?_ ?_ (fun J k => hq J ?_)
      · rw [List.length_append]
        show κ.length + 1 + q ≤ 400
        omega
      · rw [pt_f (by decide), pt_m (by decide), pt_m (by decide), pt_s]
      · rw [pt_n (by decide), pt_n (by decide), pt_n (by decide), pt_n (by decide)]; exact eP
      · rw [epil, rsp_c g]
        rw [List.append_assoc] at k
        exact k
theorem setC {d q : Nat} {S : mS} {I : mI} {L : mL} {R : mR} {Q : mQ} {least : Int32} {κ : List (Int32 × Int32)} (hS : Pm S) (hR : Pr R) (hc : Cde I κ) (h4 : κ.length + q ≤ 400) (e19 : I 54 19 = nI q) (hq : ∀ J, Cde J (κ ++ rZp (rSP least (pil (I 62) q))) → Q .null S J L R) : EvM (d + 2) 169 [.ref 54, .int least] S I L R Q := by
  simp only [M169, rfs, rfn, cs0, csi, csl, csr, csn, kti, ktl, ktr, ktn, ktv, ktf, true_and, and_true, and_self, ↓reduceIte, Nat.reduceAdd, Nat.reduceSub, Nat.reduceMul, Nat.reduceLT, Nat.reduceLeDiff, Nat.reduceEqDiff, true_or, or_true, false_or, or_false, not_true_eq_false, not_false_eq_true, reduceCtorEq, cmp_lt, cmp_gt, cmp_eq, Int32.reduceAdd, Int32.reduceSub, Int32.reduceMul, Int32.reduceLT, Int32.reduceToNatClampNeg, eq_self, ne_eq, Int64.reduceAdd, Int64.reduceSub, Int64.reduceMul, Int64.reduceLT]
  exact st_lpC (d := d) hS hR q I κ hc h4 e19 rfl hq
/-- at a turn: token i stands, the pile is ρ, nP parts and o brackets were opened; a: where the code began -/
def RbS (X : mI) (Y T P : Nat → Int32) (n m : Nat) (p : Nat → Nat) (a : Nat) (J : mI) (L : mL) (i : Nat) (ρ : List Int32) (nP o : Nat) (κ : List (Int32 × Int32)) : Prop := RTi X Y T P n m p J L i ∧ J 54 13 = 0 ∧ J 54 14 = nI nP ∧ J 54 20 = nI o ∧ (∃ q nc, J 54 19 = nI q ∧ ρ = pil (J 62) q ∧ J 54 15 = nI nc ∧ nc + q ≤ i ∧ a ≤ nc) ∧ i ≤ m ∧ nP ≤ 60 ∧ o ≤ 8 ∧ J 54 12 = -1 ∧ Cde J κ
def BaS (P : Nat → Int32) (a : Nat) (J : mI) (j : Nat) : Prop := J 54 13 = 1 ∧ J 54 12 = P j ∧ ∃ q nc, J 54 19 = nI q ∧ J 54 15 = nI nc ∧ nc + q ≤ 400 ∧ a ≤ nc
