/-! group B: the pile as a list; what the reference's reader holds at a turn -/
def pil (P : Nat → Int32) : Nat → List Int32
  | 0 => []
  | q + 1 => P q :: pil P q
theorem pil_cg {P P' : Nat → Int32} : ∀ q, (∀ i, i < q → P' i = P i) → pil P' q = pil P q
  | 0, _ => rfl
  | q + 1, h => by
    show P' q :: pil P' q = P q :: pil P q
    rw [h q (by omega), pil_cg q (fun i hi => h i (by omega))]
theorem pil_up {P : Nat → Int32} {q : Nat} {x : Int32} : pil (va_up P q x) (q + 1) = x :: pil P q := by
  show va_up P q x q :: pil (va_up P q x) q = _
  rw [uu_s, pil_cg q (fun i hi => uu_n _ _ (by omega))]
theorem pil_sR {P : Nat → Int32} {k : Int32} {p' : Nat} : ∀ p, p' ≤ p → (∀ i, p' ≤ i → i < p → ¬ bnF (P i) < k) → (p' = 0 ∨ bnF (P (p' - 1)) < k) → rSR k (pil P p) = pil P p'
  | 0, h, _, _ => by
    obtain rfl : p' = 0 := by omega
    rfl
  | p + 1, h, h1, h2 => by
    by_cases e : p' = p + 1
    · subst e
      rcases h2 with h2 | h2
      · omega
      · exact rsr_b h2
    · exact (rsr_c (h1 p (by omega) (by omega))).trans (pil_sR p (by omega) (fun i i1 i2 => h1 i i1 (by omega)) h2)
theorem pil_in {P : Nat → Int32} {v : Int32} : ∀ p, ((v = -1 ∧ ∀ i, i < p → P i < 30) ∨ (∃ i, i < p ∧ v = P i ∧ ¬ P i < 30 ∧ ∀ j, i < j → j < p → P j < 30)) → v = rIn (pil P p)
  | 0, h => by
    rcases h with ⟨h, _⟩ | ⟨i, h, _⟩
    · exact h
    · omega
  | p + 1, h => by
    show v = if P p < 30 then rIn (pil P p) else P p
    by_cases g : P p < 30
    · rw [if_pos g]
      refine pil_in p ?_
      rcases h with ⟨h, h1⟩ | ⟨i, h1, h2, h3, h4⟩
      · exact Or.inl ⟨h, fun i hi => h1 i (by omega)⟩
      · have : ¬ i = p := fun z => h3 (by rw [z]; exact g)
        exact Or.inr ⟨i, by omega, h2, h3, fun j j1 j2 => h4 j j1 (by omega)⟩
    · rw [if_neg g]
      rcases h with ⟨h, h1⟩ | ⟨i, h1, h2, h3, h4⟩
      · exact absurd (h1 p (by omega)) g
      · rcases Nat.lt_or_ge i p with l | l
        · exact absurd (h4 p l (by omega)) g
        · rw [h2, show i = p by omega]
theorem inBx {x a b : Int32} {lo hi : Int64} (ha : lo = a.toInt64) (hb : hi = b.toInt64) : inB x.toInt64 lo hi = true ↔ ¬ x.toInt < a.toInt ∧ ¬ b.toInt < x.toInt := by
  unfold inB
  rw [decide_eq_true_iff, ha, hb, Int64.lt_iff_toInt_lt, Int64.lt_iff_toInt_lt, Int32.toInt_toInt64, Int32.toInt_toInt64, Int32.toInt_toInt64]
theorem in20 {x : Int32} : inB x.toInt64 20 21 = true ↔ (x = 20 ∨ x = 21) := by
  rw [inBx (lo := 20) (hi := 21) (a := 20) (b := 21) rfl rfl, show (20 : Int32).toInt = 20 from rfl, show (21 : Int32).toInt = 21 from rfl]
  constructor
  · intro h
    have : x.toInt = 20 ∨ x.toInt = 21 := by omega
    rcases this with z | z
    · exact Or.inl (Int32.toInt_inj.mp z)
    · exact Or.inr (Int32.toInt_inj.mp z)
  · rintro (z | z) <;> (rw [z]; decide)
theorem in24 {x : Int32} : inB x.toInt64 24 26 = true ↔ (x = 24 ∨ x = 25 ∨ x = 26) := by
  rw [inBx (lo := 24) (hi := 26) (a := 24) (b := 26) rfl rfl, show (24 : Int32).toInt = 24 from rfl, show (26 : Int32).toInt = 26 from rfl]
  constructor
  · intro h
    have : x.toInt = 24 ∨ x.toInt = 25 ∨ x.toInt = 26 := by omega
    rcases this with z | z | z
    · exact Or.inl (Int32.toInt_inj.mp z)
    · exact Or.inr (Or.inl (Int32.toInt_inj.mp z))
    · exact Or.inr (Or.inr (Int32.toInt_inj.mp z))
  · rintro (z | z | z) <;> (rw [z]; decide)
/-- at a turn: token i stands, the pile is ρ, nP parts and o brackets were opened; a: where the code began -/
def RbS (X : mI) (Y T P : Nat → Int32) (n m : Nat) (p : Nat → Nat) (a : Nat) (J : mI) (L : mL) (i : Nat) (ρ : List Int32) (nP o : Nat) : Prop := RTi X Y T P n m p J L i ∧ J 54 13 = 0 ∧ J 54 14 = nI nP ∧ J 54 20 = nI o ∧ (∃ q nc, J 54 19 = nI q ∧ ρ = pil (J 62) q ∧ J 54 15 = nI nc ∧ nc + q ≤ i ∧ a ≤ nc) ∧ i ≤ m ∧ nP ≤ 60 ∧ o ≤ 8 ∧ J 54 12 = -1
def BaS (P : Nat → Int32) (a : Nat) (J : mI) (j : Nat) : Prop := J 54 13 = 1 ∧ J 54 12 = P j ∧ ∃ q nc, J 54 19 = nI q ∧ J 54 15 = nI nc ∧ nc + q ≤ 400 ∧ a ≤ nc
