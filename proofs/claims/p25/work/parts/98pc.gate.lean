/-! group G (p25): the class's Gate exactly: its small methods -/
def arL (fr : Nat → Nat) : Nat → List Nat
  | 0 => []
  | k + 1 => ins (fr k) (arL fr k)
def arX (fr : Nat → Nat) (i : Nat) : Nat → List Nat
  | 0 => []
  | k + 1 => if k = i then arX fr i k else ins (fr k) (arX fr i k)
def GaS (mm nd ch : Nat → Nat) (p f : Nat) (J : mI) : Prop := J 40 8 = nI p ∧ J 40 9 = nI f ∧ ∀ i, i < p → J 41 i = nI (mm i) ∧ J 42 i = (if nd i = 0 then -1 else nI (nd i - 1)) ∧ J 43 i = nI (ch i)
def GaB (mm nd ch : Nat → Nat) (p f : Nat) : Prop := p ≤ 8 ∧ 1 ≤ f ∧ f ≤ 3 ∧ ∀ i, i < p → 1 ≤ mm i ∧ mm i ≤ 200 ∧ nd i ≤ i ∧ ch i ≤ 1600
def GaN (mm : Nat → Nat) (f : Nat) (a : List Nat) (s : gSt) (J : mI) : Prop := (∃ fr : Nat → Nat, (∀ k, k < f → J 46 k = nI (fr k)) ∧ arL fr f = s.1) ∧ mxl s.1 ≤ 1600 ∧ ∀ i, i ∈ a → J 44 i = nI (s.2 i) ∧ J 45 i = nI (s.2 i + mm i)
def Msk (P : Nat) (a : List Nat) : Prop := P < 256 ∧ ∀ i, i < 8 → (P.testBit i = true ↔ i ∈ a)
section GC
variable {d p f n t : Nat} {S : mS} {I : mI} {L : mL} {R : mR} {Q : mQ} {mm nd ch fr : Nat → Nat} {a : List Nat} {s : gSt}
theorem mx2_comm (x y : Nat) : mx2 x y = mx2 y x := by
  unfold mx2
  repeat' split
  all_goals omega
theorem mx2_nI {x y : Nat} (hx : x < 2 ^ 31) (hy : y < 2 ^ 31) : (if nI x < nI y then nI y else nI x) = nI (mx2 x y) := by
  unfold mx2
  by_cases g : x < y
  · rw [if_pos g, if_pos (nI_lt g hy)]
  · rw [if_neg g, if_neg (nI_nlt (by omega) hx)]
theorem mkb : ∀ P, P < 256 → ∀ i, i < 8 → ((nI P >>> (nI i &&& 31)) &&& 1 = 0 ↔ P.testBit i = false) ∧ nI P ||| 1 <<< (nI i &&& 31) = nI (P ||| 2 ^ i) ∧ P ||| 2 ^ i < 256 := by decide +kernel
theorem Msk.b {P i : Nat} (h : Msk P a) (hi : i < 8) : (nI P >>> (nI i &&& 31)) &&& 1 = 0 ↔ ¬ i ∈ a := by
  rw [(mkb P h.1 i hi).1, ← h.2 i hi]
  cases P.testBit i
  · exact ⟨fun _ z => (by cases z), fun _ => rfl⟩
  · exact ⟨fun z => (by cases z), fun z => absurd rfl z⟩
theorem Msk.o {P i : Nat} (h : Msk P a) (hi : i < 8) : nI P ||| 1 <<< (nI i &&& 31) = nI (P ||| 2 ^ i) ∧ Msk (P ||| 2 ^ i) (a ++ [i]) := by
  refine ⟨(mkb P h.1 i hi).2.1, (mkb P h.1 i hi).2.2, fun j hj => ?_⟩
  rw [Nat.testBit_or, Nat.testBit_two_pow, Bool.or_eq_true, h.2 j hj, List.mem_append, List.mem_singleton, decide_eq_true_iff]
  exact ⟨fun z => z.elim Or.inl (fun z => Or.inr z.symm), fun z => z.elim Or.inl (fun z => Or.inr z.symm)⟩
theorem hd_ins {x : Nat} {l : List Nat} (h : hdl (ins x l) = x) : ins x l = x :: l := by
  match l, h with
  | [], _ => rfl
  | c :: l, h =>
    rw [ins_c] at h ⊢
    by_cases g : x ≤ c
    · rw [if_pos g]
    · rw [if_neg g] at h
      have : c = x := h
      omega
theorem arL_x {i : Nat} : ∀ k, i < k → arL fr k = ins (fr i) (arX fr i k)
  | 0, h => absurd h (by omega)
  | k + 1, h => by
    show ins (fr k) (arL fr k) = ins (fr i) (if k = i then arX fr i k else ins (fr k) (arX fr i k))
    by_cases e : k = i
    · subst e
      rw [if_pos rfl]
      have q : ∀ j, j ≤ k → arL fr j = arX fr k j := fun j => by
        induction j with
        | zero => intro _; rfl
        | succ j ih =>
          intro hj
          show ins (fr j) (arL fr j) = if j = k then arX fr k j else ins (fr j) (arX fr k j)
          rw [if_neg (by omega), ih (by omega)]
      rw [q k (Nat.le_refl k)]
    · rw [if_neg e, arL_x (i := i) k (by omega), ins_comm]
theorem arX_cg {i : Nat} {g : Nat → Nat} (h : ∀ k, ¬ k = i → g k = fr k) : ∀ k, arX g i k = arX fr i k
  | 0 => rfl
  | k + 1 => by
    show (if k = i then arX g i k else ins (g k) (arX g i k)) = if k = i then arX fr i k else ins (fr k) (arX fr i k)
    rw [arX_cg h k]
    by_cases e : k = i
    · rw [if_pos e, if_pos e]
    · rw [if_neg e, if_neg e, h k e]
/-- one is placed on the FIRE that is free first -/
theorem arL_up {i x : Nat} (hi : i < f) (h : hdl (arL fr f) = fr i) : arL (fun k => if k = i then x else fr k) f = ins x (arL fr f).tail := by
  rw [arL_x (fr := fun k => if k = i then x else fr k) f hi, if_pos rfl, arX_cg (fr := fr) (fun k hk => if_neg hk)]
  rw [arL_x f hi] at h ⊢
  rw [hd_ins h]
  rfl
theorem ar_sr : ∀ k, Srl (arL fr k)
  | 0 => trivial
  | k + 1 => srl_ins (ar_sr k)
theorem ar_len : ∀ k, (arL fr k).length = k
  | 0 => rfl
  | k + 1 => by
    show (ins (fr k) (arL fr k)).length = k + 1
    rw [len_ins, ar_len k]
theorem ar_mem {x : Nat} : ∀ k, x ∈ arL fr k ↔ ∃ i, i < k ∧ fr i = x
  | 0 => ⟨fun h => (by cases h), fun ⟨i, h, _⟩ => absurd h (by omega)⟩
  | k + 1 => by
    show x ∈ ins (fr k) (arL fr k) ↔ _
    rw [mem_ins, ar_mem k]
    constructor
    · rintro (e | ⟨i, h, e⟩)
      · exact ⟨k, by omega, e.symm⟩
      · exact ⟨i, by omega, e⟩
    · rintro ⟨i, h, e⟩
      by_cases g : i = k
      · exact Or.inl (by rw [← e, g])
      · exact Or.inr ⟨i, by omega, e⟩
theorem hd_le : ∀ {l : List Nat} {x : Nat}, Srl l → x ∈ l → hdl l ≤ x
  | a :: l, x, h, hx => by
    rcases List.mem_cons.mp hx with e | hx
    · rw [e]; exact Nat.le_refl _
    · exact h.1 x hx
theorem ar_le {m k : Nat} (h : mxl (arL fr m) ≤ 1600) (hk : k < m) : fr k ≤ 1600 := Nat.le_trans (mxl_mem ((ar_mem m).mpr ⟨k, hk, rfl⟩)) h
theorem ar_mono : ∀ {m k : Nat}, k ≤ m → mxl (arL fr k) ≤ mxl (arL fr m)
  | 0, k, h => by
    obtain rfl : k = 0 := by omega
    exact Nat.le_refl _
  | m + 1, k, h => by
    by_cases e : k = m + 1
    · rw [e]; exact Nat.le_refl _
    · show _ ≤ mxl (ins (fr m) (arL fr m))
      rw [mxl_ins]
      exact Nat.le_trans (ar_mono (by omega)) (mx2_r _ _)
/-- how late the last FIRE is free -/
theorem lafE_lp (hS : Pm S) (hR : Pr R) (f3 : f ≤ 3) (hf : I 40 9 = nI f) (h46 : ∀ k, k < f → I 46 k = nI (fr k)) (hb : mxl (arL fr f) ≤ 1600) (hq : Q (.int (nI (mxl (arL fr f)))) S I L R) : ∀ (N i : Nat), i + N = f → Ev (d + 1) 27 4 [.ref 40, .int (nI (mxl (arL fr i))), .int (nI i)] [] S I L R Q := by
  intro N
  induction N with
  | zero =>
    intro i hi
    obtain rfl : i = f := by omega
    have e : (nI i < nI i) = False := eq_false (nI_nlt (Nat.le_refl _) (by omega))
    rw [E27_4]
    simp only [E27_0, E27_1, E27_2, E27_3, E27_5, E27_6, E27_9, E27_12, E27_13, E27_14, E27_17, E27_18, E27_19, E27_22, E27_23, E27_24, E27_27, E27_28, E27_31, E27_34, E27_35, pk40 hS, pk46 hS, pl46 hS, pa46 hS, pi46 hS, pr40_5 hR, rfs, rfn, cs0, csi, csl, csr, csn, kti, ktl, ktr, ktn, ktv, ktf, true_and, and_true, and_self, ↓reduceIte, Nat.reduceAdd, Nat.reduceSub, Nat.reduceMul, Nat.reduceLT, Nat.reduceLeDiff, Nat.reduceEqDiff, true_or, or_true, false_or, or_false, not_true_eq_false, not_false_eq_true, reduceCtorEq, cmp_lt, cmp_gt, cmp_eq, Int32.reduceAdd, Int32.reduceSub, Int32.reduceMul, Int32.reduceLT, Int32.reduceToNatClampNeg, eq_self, ne_eq, Int64.reduceAdd, Int64.reduceSub, Int64.reduceMul, Int64.reduceLT, hf, e]
    exact hq
  | succ N ih =>
    intro i hi
    have e1 : (nI i < (3 : Int32)) = True := eq_true (nI_lt (a := i) (b := 3) (by omega) (by decide))
    have e2 : (nI i < nI f) = True := eq_true (nI_lt (by omega) (by omega))
    have e3 : inb (nI i) 3 = True := inb_nI (by omega) (by decide)
    have e4 : (nI i).toNatClampNeg = i := nI_clamp (by omega)
    have b1 := ar_le hb (show i < f by omega)
    have b2 := Nat.le_trans (ar_mono (fr := fr) (show i ≤ f by omega)) hb
    have em : (if nI (mxl (arL fr i)) < nI (fr i) then nI (fr i) else nI (mxl (arL fr i))) = nI (mxl (arL fr (i + 1))) := by
      rw [mx2_nI (by omega) (by omega), mx2_comm]
      exact congrArg nI mxl_ins.symm
    rw [E27_4]
    simp only [E27_0, E27_1, E27_2, E27_3, E27_5, E27_6, E27_9, E27_12, E27_13, E27_14, E27_17, E27_18, E27_19, E27_22, E27_23, E27_24, E27_27, E27_28, E27_31, E27_34, E27_35, pk40 hS, pk46 hS, pl46 hS, pa46 hS, pi46 hS, pr40_5 hR, rfs, rfn, cs0, csi, csl, csr, csn, kti, ktl, ktr, ktn, ktv, ktf, true_and, and_true, and_self, ↓reduceIte, Nat.reduceAdd, Nat.reduceSub, Nat.reduceMul, Nat.reduceLT, Nat.reduceLeDiff, Nat.reduceEqDiff, true_or, or_true, false_or, or_false, not_true_eq_false, not_false_eq_true, reduceCtorEq, cmp_lt, cmp_gt, cmp_eq, Int32.reduceAdd, Int32.reduceSub, Int32.reduceMul, Int32.reduceLT, Int32.reduceToNatClampNeg, eq_self, ne_eq, Int64.reduceAdd, Int64.reduceSub, Int64.reduceMul, Int64.reduceLT, hf, e1, e2, e3, e4, h46 i (by omega), em, nI_1]
    exact ih (i + 1) (by omega)
theorem lafE (hS : Pm S) (hR : Pr R) (f3 : f ≤ 3) (hf : I 40 9 = nI f) (h46 : ∀ k, k < f → I 46 k = nI (fr k)) (hb : mxl (arL fr f) ≤ 1600) (hq : Q (.int (nI (mxl (arL fr f)))) S I L R) : EvM (d + 1) 27 [.ref 40] S I L R Q := by
  have k := lafE_lp (d := d) hS hR f3 hf h46 hb hq f 0 (by omega)
  rw [show nI (mxl (arL fr 0)) = 0 from rfl, show nI 0 = 0 from rfl] at k
  simp only [M27, E27_0, E27_1, E27_2, E27_3, E27_5, E27_6, E27_9, E27_12, E27_13, E27_14, E27_17, E27_18, E27_19, E27_22, E27_23, E27_24, E27_27, E27_28, E27_31, E27_34, E27_35, rfs, rfn, cs0, csi, csl, csr, csn, kti, ktl, ktr, ktn, ktv, ktf, true_and, and_true, and_self, ↓reduceIte, Nat.reduceAdd, Nat.reduceSub, Nat.reduceMul, Nat.reduceLT, Nat.reduceLeDiff, Nat.reduceEqDiff, true_or, or_true, false_or, or_false, not_true_eq_false, not_false_eq_true, reduceCtorEq, cmp_lt, cmp_gt, cmp_eq, Int32.reduceAdd, Int32.reduceSub, Int32.reduceMul, Int32.reduceLT, Int32.reduceToNatClampNeg, eq_self, ne_eq, Int64.reduceAdd, Int64.reduceSub, Int64.reduceMul, Int64.reduceLT]
  exact k
/-- the FIRE that is free first -/
theorem frfE_lp (hS : Pm S) (hR : Pr R) (f3 : f ≤ 3) (hf : I 40 9 = nI f) (h46 : ∀ k, k < f → I 46 k = nI (fr k)) (hb : mxl (arL fr f) ≤ 1600) (hq : ∀ j, j < f → hdl (arL fr f) = fr j → Q (.int (nI j)) S I L R) : ∀ (N i j : Nat), i + N = f → j < i → hdl (arL fr i) = fr j → Ev (d + 1) 28 4 [.ref 40, .int (nI j), .int (nI i)] [] S I L R Q := by
  intro N
  induction N with
  | zero =>
    intro i j hi hj hm
    obtain rfl : i = f := by omega
    have e : (nI i < nI i) = False := eq_false (nI_nlt (Nat.le_refl _) (by omega))
    rw [E28_4]
    simp only [E28_0, E28_1, E28_2, E28_3, E28_5, E28_6, E28_9, E28_12, E28_13, E28_14, E28_17, E28_18, E28_21, E28_22, E28_23, E28_24, E28_27, E28_28, E28_29, E28_32, E28_33, E28_34, E28_37, E28_40, E28_41, pk40 hS, pk46 hS, pl46 hS, pa46 hS, pi46 hS, pr40_5 hR, rfs, rfn, cs0, csi, csl, csr, csn, kti, ktl, ktr, ktn, ktv, ktf, true_and, and_true, and_self, ↓reduceIte, Nat.reduceAdd, Nat.reduceSub, Nat.reduceMul, Nat.reduceLT, Nat.reduceLeDiff, Nat.reduceEqDiff, true_or, or_true, false_or, or_false, not_true_eq_false, not_false_eq_true, reduceCtorEq, cmp_lt, cmp_gt, cmp_eq, Int32.reduceAdd, Int32.reduceSub, Int32.reduceMul, Int32.reduceLT, Int32.reduceToNatClampNeg, eq_self, ne_eq, Int64.reduceAdd, Int64.reduceSub, Int64.reduceMul, Int64.reduceLT, hf, e]
    exact hq j hj hm
  | succ N ih =>
    intro i j hi hj hm
    have e1 : (nI i < (3 : Int32)) = True := eq_true (nI_lt (a := i) (b := 3) (by omega) (by decide))
    have e2 : (nI i < nI f) = True := eq_true (nI_lt (by omega) (by omega))
    have e3 : inb (nI i) 3 = True := inb_nI (by omega) (by decide)
    have e4 : inb (nI j) 3 = True := inb_nI (by omega) (by decide)
    have e5 : (nI i).toNatClampNeg = i := nI_clamp (by omega)
    have e6 : (nI j).toNatClampNeg = j := nI_clamp (by omega)
    have b1 := ar_le hb (show i < f by omega)
    have b2 := ar_le hb (show j < f by omega)
    have hh : hdl (arL fr (i + 1)) = if fr i ≤ fr j then fr i else fr j := by
      show hdl (ins (fr i) (arL fr i)) = _
      have l0 : 0 < (arL fr i).length := by rw [ar_len]; omega
      generalize arL fr i = l at hm l0
      match l, l0, hm with
      | c :: l, _, hm =>
        have hc : c = fr j := hm
        rw [ins_c, hc]
        by_cases g : fr i ≤ fr j
        · rw [if_pos g, if_pos g]; rfl
        · rw [if_neg g, if_neg g]; rfl
    rw [E28_4]
    by_cases g : fr i < fr j
    · have g' : (nI (fr i) < nI (fr j)) = True := eq_true (nI_lt g (by omega))
      simp only [E28_0, E28_1, E28_2, E28_3, E28_5, E28_6, E28_9, E28_12, E28_13, E28_14, E28_17, E28_18, E28_21, E28_22, E28_23, E28_24, E28_27, E28_28, E28_29, E28_32, E28_33, E28_34, E28_37, E28_40, E28_41, pk40 hS, pk46 hS, pl46 hS, pa46 hS, pi46 hS, pr40_5 hR, rfs, rfn, cs0, csi, csl, csr, csn, kti, ktl, ktr, ktn, ktv, ktf, true_and, and_true, and_self, ↓reduceIte, Nat.reduceAdd, Nat.reduceSub, Nat.reduceMul, Nat.reduceLT, Nat.reduceLeDiff, Nat.reduceEqDiff, true_or, or_true, false_or, or_false, not_true_eq_false, not_false_eq_true, reduceCtorEq, cmp_lt, cmp_gt, cmp_eq, Int32.reduceAdd, Int32.reduceSub, Int32.reduceMul, Int32.reduceLT, Int32.reduceToNatClampNeg, eq_self, ne_eq, Int64.reduceAdd, Int64.reduceSub, Int64.reduceMul, Int64.reduceLT, hf, e1, e2, e3, e4, e5, e6, h46 i (by omega), h46 j (by omega), g', nI_1]
      exact ih (i + 1) i (by omega) (by omega) (by rw [hh, if_pos (by omega)])
    · have g' : (nI (fr i) < nI (fr j)) = False := eq_false (nI_nlt (by omega) (by omega))
      simp only [E28_0, E28_1, E28_2, E28_3, E28_5, E28_6, E28_9, E28_12, E28_13, E28_14, E28_17, E28_18, E28_21, E28_22, E28_23, E28_24, E28_27, E28_28, E28_29, E28_32, E28_33, E28_34, E28_37, E28_40, E28_41, pk40 hS, pk46 hS, pl46 hS, pa46 hS, pi46 hS, pr40_5 hR, rfs, rfn, cs0, csi, csl, csr, csn, kti, ktl, ktr, ktn, ktv, ktf, true_and, and_true, and_self, ↓reduceIte, Nat.reduceAdd, Nat.reduceSub, Nat.reduceMul, Nat.reduceLT, Nat.reduceLeDiff, Nat.reduceEqDiff, true_or, or_true, false_or, or_false, not_true_eq_false, not_false_eq_true, reduceCtorEq, cmp_lt, cmp_gt, cmp_eq, Int32.reduceAdd, Int32.reduceSub, Int32.reduceMul, Int32.reduceLT, Int32.reduceToNatClampNeg, eq_self, ne_eq, Int64.reduceAdd, Int64.reduceSub, Int64.reduceMul, Int64.reduceLT, hf, e1, e2, e3, e4, e5, e6, h46 i (by omega), h46 j (by omega), g', nI_1]
      refine ih (i + 1) j (by omega) (by omega) ?_
      rw [hh]
      split <;> omega
theorem frfE (hS : Pm S) (hR : Pr R) (f1 : 1 ≤ f) (f3 : f ≤ 3) (hf : I 40 9 = nI f) (h46 : ∀ k, k < f → I 46 k = nI (fr k)) (hb : mxl (arL fr f) ≤ 1600) (hq : ∀ j, j < f → hdl (arL fr f) = fr j → Q (.int (nI j)) S I L R) : EvM (d + 1) 28 [.ref 40] S I L R Q := by
  have k := frfE_lp (d := d) hS hR f3 hf h46 hb hq (f - 1) 1 0 (by omega) (by omega) rfl
  rw [show nI 0 = 0 from rfl, show nI 1 = 1 from rfl] at k
  simp only [M28, E28_0, E28_1, E28_2, E28_3, E28_5, E28_6, E28_9, E28_12, E28_13, E28_14, E28_17, E28_18, E28_21, E28_22, E28_23, E28_24, E28_27, E28_28, E28_29, E28_32, E28_33, E28_34, E28_37, E28_40, E28_41, rfs, rfn, cs0, csi, csl, csr, csn, kti, ktl, ktr, ktn, ktv, ktf, true_and, and_true, and_self, ↓reduceIte, Nat.reduceAdd, Nat.reduceSub, Nat.reduceMul, Nat.reduceLT, Nat.reduceLeDiff, Nat.reduceEqDiff, true_or, or_true, false_or, or_false, not_true_eq_false, not_false_eq_true, reduceCtorEq, cmp_lt, cmp_gt, cmp_eq, Int32.reduceAdd, Int32.reduceSub, Int32.reduceMul, Int32.reduceLT, Int32.reduceToNatClampNeg, eq_self, ne_eq, Int64.reduceAdd, Int64.reduceSub, Int64.reduceMul, Int64.reduceLT]
  exact k
/-- whether its NEED is placed -/
theorem rdBE {P i : Nat} (hB : GaB mm nd ch p f) (h : GaS mm nd ch p f I) (hP : Msk P a) (hi : i < p) : rdB I i (nI P) = true ↔ Rdy nd a i := by
  obtain ⟨_, h2, _⟩ := h.2.2 i hi
  have hl := (hB.2.2.2 i hi).2.2.1
  have p8 := hB.1
  unfold rdB
  rw [decide_eq_true_iff, h2]
  unfold Rdy
  by_cases e : nd i = 0
  · rw [if_pos e]
    exact ⟨fun _ => Or.inl e, fun _ => Or.inl (by decide)⟩
  · rw [if_neg e, hP.b (show nd i - 1 < 8 by omega)]
    exact ⟨fun z => z.elim (fun z => absurd z (nI_pos (by omega))) (fun z => Or.inr (Classical.byContradiction z)), fun z => z.elim (fun z => absurd z e) (fun z => Or.inr (fun y => y z))⟩
/-- how early it can begin -/
theorem earE {i : Nat} (hS : Pm S) (hR : Pr R) (hB : GaB mm nd ch p f) (h : GaS mm nd ch p f I) (hN : GaN mm f a s I) (hi : i < p) (hr : Rdy nd a i) (ht : t ≤ 1600) (hm : ∀ c, c ∈ a → s.2 c + mm c ≤ 1600) (hq : Q (.int (nI (mx2 t (ned mm nd s.2 i)))) S I L R) : EvM (d + 1) 26 [.ref 40, .int (nI i), .int (nI t)] S I L R Q := by
  obtain ⟨_, h2, _⟩ := h.2.2 i hi
  have hl := (hB.2.2.2 i hi).2.2.1
  have p8 := hB.1
  have e3 : inb (nI i) 8 = True := inb_nI (by omega) (by decide)
  have e4 : (nI i).toNatClampNeg = i := nI_clamp (by omega)
  unfold ned at hq
  by_cases e : nd i = 0
  · rw [if_pos e] at h2 hq
    have h1 : ((-1 : Int32) < 0) = True := eq_true (by decide)
    have hz : mx2 t 0 = t := by unfold mx2; split <;> omega
    rw [hz] at hq
    simp only [M26, E26_0, E26_1, E26_4, E26_5, E26_6, E26_7, E26_8, E26_11, E26_12, E26_14, E26_17, E26_18, E26_19, E26_22, E26_23, E26_24, E26_27, E26_30, E26_31, pk40 hS, pk42 hS, pl42 hS, pa42 hS, pi42 hS, pk45 hS, pl45 hS, pa45 hS, pi45 hS, pr40_1 hR, pr40_4 hR, rfs, rfn, cs0, csi, csl, csr, csn, kti, ktl, ktr, ktn, ktv, ktf, true_and, and_true, and_self, ↓reduceIte, Nat.reduceAdd, Nat.reduceSub, Nat.reduceMul, Nat.reduceLT, Nat.reduceLeDiff, Nat.reduceEqDiff, true_or, or_true, false_or, or_false, not_true_eq_false, not_false_eq_true, reduceCtorEq, cmp_lt, cmp_gt, cmp_eq, Int32.reduceAdd, Int32.reduceSub, Int32.reduceMul, Int32.reduceLT, Int32.reduceToNatClampNeg, eq_self, ne_eq, Int64.reduceAdd, Int64.reduceSub, Int64.reduceMul, Int64.reduceLT, e3, e4, h2, h1]
    exact hq
  · rw [if_neg e] at h2 hq
    have q := hr.resolve_left e
    have h1 : (nI (nd i - 1) < 0) = False := eq_false (nI_pos (by omega))
    have h3 : (nI (nd i - 1) < (8 : Int32)) = True := eq_true (nI_lt (a := nd i - 1) (b := 8) (by omega) (by decide))
    have e5 : inb (nI (nd i - 1)) 8 = True := inb_nI (by omega) (by decide)
    have e6 : (nI (nd i - 1)).toNatClampNeg = nd i - 1 := nI_clamp (by omega)
    have h45 := (hN.2.2 _ q).2
    have hm' := hm _ q
    have em : (if nI t < nI (s.2 (nd i - 1) + mm (nd i - 1)) then nI (s.2 (nd i - 1) + mm (nd i - 1)) else nI t) = nI (mx2 t (s.2 (nd i - 1) + mm (nd i - 1))) := mx2_nI (by omega) (by omega)
    simp only [M26, E26_0, E26_1, E26_4, E26_5, E26_6, E26_7, E26_8, E26_11, E26_12, E26_14, E26_17, E26_18, E26_19, E26_22, E26_23, E26_24, E26_27, E26_30, E26_31, pk40 hS, pk42 hS, pl42 hS, pa42 hS, pi42 hS, pk45 hS, pl45 hS, pa45 hS, pi45 hS, pr40_1 hR, pr40_4 hR, rfs, rfn, cs0, csi, csl, csr, csn, kti, ktl, ktr, ktn, ktv, ktf, true_and, and_true, and_self, ↓reduceIte, Nat.reduceAdd, Nat.reduceSub, Nat.reduceMul, Nat.reduceLT, Nat.reduceLeDiff, Nat.reduceEqDiff, true_or, or_true, false_or, or_false, not_true_eq_false, not_false_eq_true, reduceCtorEq, cmp_lt, cmp_gt, cmp_eq, Int32.reduceAdd, Int32.reduceSub, Int32.reduceMul, Int32.reduceLT, Int32.reduceToNatClampNeg, eq_self, ne_eq, Int64.reduceAdd, Int64.reduceSub, Int64.reduceMul, Int64.reduceLT, e3, e4, e5, e6, h2, h1, h3, h45, em]
    exact hq
end GC
