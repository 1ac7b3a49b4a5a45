/-! group B: the two ways to read, side by side: W tells of the other's turn, token, pile, parts, brackets and code; Wb of its FAULT -/
def rSP (k : Int32) : List Int32 → List Int32
  | [] => []
  | x :: r => if bnF x < k then [] else x :: rSP k r
def rSR (k : Int32) : List Int32 → List Int32
  | [] => []
  | x :: r => if bnF x < k then x :: r else rSR k r
def rIn : List Int32 → Int32
  | [] => -1
  | x :: r => if x < 30 then rIn r else x
def rCq : List Int32 → Bool
  | [] => false
  | x :: r => if x = 20 ∨ x = 21 then rCq r else decide (x = 24 ∨ x = 25 ∨ x = 26)
def rZp (l : List Int32) : List (Int32 × Int32) := l.map (fun x => (x, 0))
def rTa (T : Nat → Int32) (t i : Nat) : Prop := t = 1 ∨ (t = 0 ∧ ¬ T i = -7 ∧ ¬ T i = -140)
abbrev rWT : Type := Nat → Nat → List Int32 → Nat → Nat → List (Int32 × Int32) → Prop
def rPl (t : Int32) : Prop := t = -143 ∨ t = -145
def rCm (t : Int32) : Prop := t = -160 ∨ t = -162 ∨ t = -161
def rIh (t : Int32) : Prop := t = -45 ∨ t = -46
def rPw (t : Int32) : Prop := t = -41 ∨ t = -42 ∨ t = -43 ∨ t = -44
def rCl (x : Int32) : Int32 := if x = 31 then -193 else -141
def rRA (T : Nat → Int32) (W : rWT) (Wb : Nat → Prop) : Prop := ∀ t i ρ n o κ, rTa T t i →
  (n = 60 → Wb i → W t i ρ n o κ) ∧
  (n < 60 → (T i = -191 → o < 8 → W 1 (i + 1) (31 :: ρ) (n + 1) (o + 1) κ → W t i ρ n o κ) ∧
    (T i = -191 → ¬ o < 8 → Wb i → W t i ρ n o κ) ∧
    (rIh (T i) → T (i + 1) = -140 → o < 8 → W 1 (i + 2) ((if T i = -45 then 32 else 33) :: ρ) (n + 1) (o + 1) κ → W t i ρ n o κ) ∧
    (rIh (T i) → ¬ (T (i + 1) = -140 ∧ o < 8) → Wb (i + 1) → W t i ρ n o κ) ∧
    (rPw (T i) → W 3 (i + 1) ρ (n + 1) o (κ ++ [(-40 - T i, 0)]) → W t i ρ n o κ) ∧
    (¬ T i < 0 → ¬ 99 < T i → W 3 (i + 1) ρ (n + 1) o (κ ++ [(0, T i)]) → W t i ρ n o κ) ∧
    (¬ T i = -191 → ¬ rIh (T i) → ¬ rPw (T i) → (T i < 0 ∨ 99 < T i) → Wb i → W t i ρ n o κ))
def rRB (T : Nat → Int32) (W : rWT) (Wb : Nat → Prop) : Prop := ∀ i ρ n o κ,
  (T i = -7 → W 0 (i + 1) (27 :: ρ) n o κ → W 0 i ρ n o κ) ∧
  (T i = -140 → o < 8 → W 0 (i + 1) (30 :: ρ) n (o + 1) κ → W 0 i ρ n o κ) ∧
  (T i = -140 → ¬ o < 8 → Wb i → W 0 i ρ n o κ)
def rRC (T : Nat → Int32) (tst : Bool) (W : rWT) (Wb : Nat → Prop) : Prop := ∀ i ρ n o κ,
  (rPl (T i) → W 1 (i + 1) ((if T i = -143 then 20 else 21) :: rSR 5 ρ) n o (κ ++ rZp (rSP 5 ρ)) → W 3 i ρ n o κ) ∧
  (¬ rPl (T i) → 30 < rIn ρ → (∀ r, T i = rCl (rIn ρ) → rSR 5 ρ = rIn ρ :: r → W 3 (i + 1) r n o (κ ++ rZp (rSP 5 ρ) ++ (if rIn ρ = 31 then [] else [(rIn ρ, 0)])) → W 3 i ρ n (o + 1) κ) ∧ (¬ T i = rCl (rIn ρ) → Wb i → W 3 i ρ n o κ)) ∧
  (¬ rPl (T i) → rIn ρ = -1 → tst = false → W 4 i ρ n o κ → W 3 i ρ n o κ) ∧
  (¬ rPl (T i) → ¬ 30 < rIn ρ → ¬ (rIn ρ = -1 ∧ tst = false) → (rCq ρ = true → W 2 i ρ n o κ → W 3 i ρ n o κ) ∧
    (rCq ρ = false → (rCm (T i) → W 1 (i + 1) ((if T i = -160 then 24 else if T i = -162 then 25 else 26) :: rSR 5 ρ) n o (κ ++ rZp (rSP 5 ρ)) → W 3 i ρ n o κ) ∧ (¬ rCm (T i) → Wb i → W 3 i ρ n o κ)))
def rRD (T : Nat → Int32) (W : rWT) (Wb : Nat → Prop) : Prop := ∀ i ρ n o κ,
  (T i = -6 → W 0 (i + 1) (28 :: rSR 2 ρ) n o (κ ++ rZp (rSP 2 ρ)) → W 2 i ρ n o κ) ∧
  (T i = -5 → W 0 (i + 1) (29 :: rSR 1 ρ) n o (κ ++ rZp (rSP 1 ρ)) → W 2 i ρ n o κ) ∧
  (¬ T i = -6 → ¬ T i = -5 → (rIn ρ = -1 → W 4 i ρ n o κ → W 2 i ρ n o κ) ∧
    (¬ rIn ρ = -1 → (∀ x r, T i = -141 → rSR 1 ρ = x :: r → W 2 (i + 1) r n o (κ ++ rZp (rSP 1 ρ)) → W 2 i ρ n (o + 1) κ) ∧ (¬ T i = -141 → Wb i → W 2 i ρ n o κ)))
def rStp (T : Nat → Int32) (tst : Bool) (W : rWT) (Wb : Nat → Prop) : Prop := rRA T W Wb ∧ rRB T W Wb ∧ rRC T tst W Wb ∧ rRD T W Wb
def rDl (δ : List Int32) : Prop := δ = [] ∨ δ = [20] ∨ δ = [21]
def rL3 (π : List Int32) : Prop := ∀ x, x ∈ π → x < 30
def rPA (ρ : List Int32) : Prop := (rIn ρ = -1 ∨ rIn ρ = 30) ∧ rCq ρ = false ∧ rSR 5 ρ = ρ
def rTA (ρ : List Int32) : Prop := ρ = [] ∨ ∃ r, ρ = 30 :: r
section LS
variable {δ π ρ : List Int32} {x k : Int32}
theorem rL3.nl : rL3 [] := fun x h => by cases h
theorem rL3.cn (h : rL3 π) (hx : x < 30) : rL3 (x :: π) := fun y hy => by
  rcases List.mem_cons.mp hy with rfl | hy
  · exact hx
  · exact h y hy
theorem rL3.tl (h : rL3 (x :: π)) : rL3 π := fun y hy => h y (List.mem_cons_of_mem _ hy)
theorem rL3.hd (h : rL3 (x :: π)) : x < 30 := h x (List.mem_cons_self ..)
theorem rL3.ap (h : rL3 π) (g : rL3 ρ) : rL3 (π ++ ρ) := fun y hy => by
  rcases List.mem_append.mp hy with hy | hy
  · exact h y hy
  · exact g y hy
theorem rDl.l (h : rDl δ) : rL3 δ := by
  rcases h with rfl | rfl | rfl
  · exact rL3.nl
  · exact rL3.nl.cn (by decide)
  · exact rL3.nl.cn (by decide)
theorem rin_ap : ∀ {π : List Int32}, rL3 π → rIn (π ++ ρ) = rIn ρ
  | [], _ => rfl
  | x :: π, h => by
    show (if x < 30 then rIn (π ++ ρ) else x) = _
    rw [if_pos h.hd]
    exact rin_ap h.tl
theorem rin_c (hx : x < 30) : rIn (x :: ρ) = rIn ρ := if_pos hx
theorem rin_b (hx : ¬ x < 30) : rIn (x :: ρ) = x := if_neg hx
theorem rcq_n (hx : ¬ (x = 20 ∨ x = 21)) : rCq (x :: ρ) = decide (x = 24 ∨ x = 25 ∨ x = 26) := if_neg hx
theorem rsr_b (hx : bnF x < k) : rSR k (x :: ρ) = x :: ρ := if_pos hx
theorem rsr_c (hx : ¬ bnF x < k) : rSR k (x :: ρ) = rSR k ρ := if_neg hx
theorem rsr_d (h : rDl δ) : rSR 5 (δ ++ ρ) = rSR 5 ρ := by
  rcases h with rfl | rfl | rfl
  · rfl
  · exact rsr_c (by decide)
  · exact rsr_c (by decide)
theorem rcm_d (h : rDl δ) : rCq (δ ++ ρ) = rCq ρ := by
  rcases h with rfl | rfl | rfl
  · rfl
  · exact if_pos (Or.inl rfl)
  · exact if_pos (Or.inr rfl)
theorem rsr_tA (h : rTA ρ) (hk : 0 < k) : ∀ {π : List Int32}, rL3 π → ∃ π', rL3 π' ∧ rSR k (π ++ ρ) = π' ++ ρ
  | [], _ => ⟨[], rL3.nl, by
    rcases h with rfl | ⟨r, rfl⟩
    · rfl
    · exact rsr_b (show bnF 30 < k from by rw [show bnF 30 = 0 from by decide]; exact hk)⟩
  | x :: π, g => by
    by_cases q : bnF x < k
    · exact ⟨x :: π, g, rsr_b q⟩
    · obtain ⟨π', h1, h2⟩ := rsr_tA h hk g.tl
      exact ⟨π', h1, (rsr_c q).trans h2⟩
theorem rsr_30 {r : List Int32} : ∀ {π : List Int32}, rL3 π → (∀ x, x ∈ π → ¬ bnF x < 1) → rSR 1 (π ++ 30 :: r) = 30 :: r
  | [], _, _ => rsr_b (by decide)
  | x :: π, g, q => (rsr_c (q x (List.mem_cons_self ..))).trans (rsr_30 g.tl (fun y hy => q y (List.mem_cons_of_mem _ hy)))
theorem bn30 (hx : x < 30) : ¬ bnF x < 1 := fun z => absurd hx (bnF1 z)
theorem rPA.tA (h : rTA ρ) : rPA ρ := by
  rcases h with rfl | ⟨r, rfl⟩
  · exact ⟨Or.inl rfl, rfl, rfl⟩
  · exact ⟨Or.inr rfl, (rcq_n (by decide)).trans (by decide), rsr_b (by decide)⟩
theorem rPA.c (h : rPA ρ) (hx : x = 27 ∨ x = 28 ∨ x = 29) : rPA (x :: ρ) := by
  refine ⟨?_, ?_, ?_⟩
  · rw [rin_c (by rcases hx with rfl | rfl | rfl <;> decide)]
    exact h.1
  · rcases hx with rfl | rfl | rfl
    · exact (rcq_n (by decide)).trans (by decide)
    · exact (rcq_n (by decide)).trans (by decide)
    · exact (rcq_n (by decide)).trans (by decide)
  · exact rsr_b (by rcases hx with rfl | rfl | rfl <;> decide)
theorem rPA.ap (h : rIn ρ = -1 ∨ rIn ρ = 30) (g : rL3 π) (hx : x = 28 ∨ x = 29) : rPA (x :: (π ++ ρ)) := by
  refine ⟨?_, ?_, ?_⟩
  · rw [rin_c (by rcases hx with rfl | rfl <;> decide), rin_ap g]
    exact h
  · rcases hx with rfl | rfl
    · exact (rcq_n (by decide)).trans (by decide)
    · exact (rcq_n (by decide)).trans (by decide)
  · exact rsr_b (by rcases hx with rfl | rfl <;> decide)
end LS
