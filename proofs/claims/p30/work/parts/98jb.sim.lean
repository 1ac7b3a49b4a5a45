/-! group B: the two ways to read, side by side: W tells of the other's turn, token, pile, parts, brackets and code; Wb of its FAULT -/
def rSP (k : Int32) : List Int32 → List Int32
  | [] => []
  | x :: r => if bnF x < k then [] else x :: rSP k r
def rSR (k : Int32) : List Int32 → List Int32
  | [] => []
  | x :: r => if bnF x < k then x :: r else rSR k r
def rIn : List Int32 → Int32
  | [] => -1
  | x :: r => if x < 30 then rIn r else x
def rCq : List Int32 → Bool
  | [] => false
  | x :: r => if x = 20 ∨ x = 21 then rCq r else decide (x = 24 ∨ x = 25 ∨ x = 26)
def rZp (l : List Int32) : List (Int32 × Int32) := l.map (fun x => (x, 0))
def rTa (T : Nat → Int32) (t i : Nat) : Prop := t = 1 ∨ (t = 0 ∧ ¬ T i = -7 ∧ ¬ T i = -140)
abbrev rWT : Type := Nat → Nat → List Int32 → Nat → Nat → List (Int32 × Int32) → Prop
def rPl (t : Int32) : Prop := t = -143 ∨ t = -145
def rCm (t : Int32) : Prop := t = -160 ∨ t = -162 ∨ t = -161
def rIh (t : Int32) : Prop := t = -45 ∨ t = -46
def rPw (t : Int32) : Prop := t = -41 ∨ t = -42 ∨ t = -43 ∨ t = -44
def rCl (x : Int32) : Int32 := if x = 31 then -193 else -141
def rRA (T : Nat → Int32) (W : rWT) (Wb : Nat → Prop) : Prop := ∀ t i ρ n o κ, rTa T t i →
  (n = 60 → Wb i → W t i ρ n o κ) ∧
  (n < 60 → (T i = -191 → o < 8 → W 1 (i + 1) (31 :: ρ) (n + 1) (o + 1) κ → W t i ρ n o κ) ∧
    (T i = -191 → ¬ o < 8 → Wb i → W t i ρ n o κ) ∧
    (rIh (T i) → T (i + 1) = -140 → o < 8 → W 1 (i + 2) ((if T i = -45 then 32 else 33) :: ρ) (n + 1) (o + 1) κ → W t i ρ n o κ) ∧
    (rIh (T i) → ¬ (T (i + 1) = -140 ∧ o < 8) → Wb (i + 1) → W t i ρ n o κ) ∧
    (rPw (T i) → W 3 (i + 1) ρ (n + 1) o (κ ++ [(-40 - T i, 0)]) → W t i ρ n o κ) ∧
    (¬ T i < 0 → ¬ 99 < T i → W 3 (i + 1) ρ (n + 1) o (κ ++ [(0, T i)]) → W t i ρ n o κ) ∧
    (¬ T i = -191 → ¬ rIh (T i) → ¬ rPw (T i) → (T i < 0 ∨ 99 < T i) → Wb i → W t i ρ n o κ))
def rRB (T : Nat → Int32) (W : rWT) (Wb : Nat → Prop) : Prop := ∀ i ρ n o κ,
  (T i = -7 → W 0 (i + 1) (27 :: ρ) n o κ → W 0 i ρ n o κ) ∧
  (T i = -140 → o < 8 → W 0 (i + 1) (30 :: ρ) n (o + 1) κ → W 0 i ρ n o κ) ∧
  (T i = -140 → ¬ o < 8 → Wb i → W 0 i ρ n o κ)
def rRC (T : Nat → Int32) (tst : Bool) (W : rWT) (Wb : Nat → Prop) : Prop := ∀ i ρ n o κ,
  (rPl (T i) → W 1 (i + 1) ((if T i = -143 then 20 else 21) :: rSR 5 ρ) n o (κ ++ rZp (rSP 5 ρ)) → W 3 i ρ n o κ) ∧
  (¬ rPl (T i) → 30 < rIn ρ → (∀ r, T i = rCl (rIn ρ) → rSR 5 ρ = rIn ρ :: r → W 3 (i + 1) r n o (κ ++ rZp (rSP 5 ρ) ++ (if rIn ρ = 31 then [] else [(rIn ρ, 0)])) → W 3 i ρ n (o + 1) κ) ∧ (¬ T i = rCl (rIn ρ) → Wb i → W 3 i ρ n o κ)) ∧
  (¬ rPl (T i) → rIn ρ = -1 → tst = false → W 4 i ρ n o κ → W 3 i ρ n o κ) ∧
  (¬ rPl (T i) → ¬ 30 < rIn ρ → ¬ (rIn ρ = -1 ∧ tst = false) → (rCq ρ = true → W 2 i ρ n o κ → W 3 i ρ n o κ) ∧
    (rCq ρ = false → (rCm (T i) → W 1 (i + 1) ((if T i = -160 then 24 else if T i = -162 then 25 else 26) :: rSR 5 ρ) n o (κ ++ rZp (rSP 5 ρ)) → W 3 i ρ n o κ) ∧ (¬ rCm (T i) → Wb i → W 3 i ρ n o κ)))
def rRD (T : Nat → Int32) (W : rWT) (Wb : Nat → Prop) : Prop := ∀ i ρ n o κ,
  (T i = -6 → W 0 (i + 1) (28 :: rSR 2 ρ) n o (κ ++ rZp (rSP 2 ρ)) → W 2 i ρ n o κ) ∧
  (T i = -5 → W 0 (i + 1) (29 :: rSR 1 ρ) n o (κ ++ rZp (rSP 1 ρ)) → W 2 i ρ n o κ) ∧
  (¬ T i = -6 → ¬ T i = -5 → (rIn ρ = -1 → W 4 i ρ n o κ → W 2 i ρ n o κ) ∧
    (¬ rIn ρ = -1 → (∀ x r, T i = -141 → rSR 1 ρ = x :: r → W 2 (i + 1) r n o (κ ++ rZp (rSP 1 ρ)) → W 2 i ρ n (o + 1) κ) ∧ (¬ T i = -141 → Wb i → W 2 i ρ n o κ)))
def rStp (T : Nat → Int32) (tst : Bool) (W : rWT) (Wb : Nat → Prop) : Prop := rRA T W Wb ∧ rRB T W Wb ∧ rRC T tst W Wb ∧ rRD T W Wb
def rDl (δ : List Int32) : Prop := δ = [] ∨ δ = [20] ∨ δ = [21]
def rL3 (π : List Int32) : Prop := ∀ x, x ∈ π → x < 30
def rPA (ρ : List Int32) : Prop := (rIn ρ = -1 ∨ rIn ρ = 30) ∧ rCq ρ = false ∧ rSR 5 ρ = ρ
def rTA (ρ : List Int32) : Prop := ρ = [] ∨ ∃ r, ρ = 30 :: r
section LS
variable {δ π ρ : List Int32} {x k : Int32}
theorem rL3.nl : rL3 [] := fun x h => by cases h
theorem rL3.cn (h : rL3 π) (hx : x < 30) : rL3 (x :: π) := fun y hy => by
  rcases List.mem_cons.mp hy with rfl | hy
  · exact hx
  · exact h y hy
theorem rL3.tl (h : rL3 (x :: π)) : rL3 π := fun y hy => h y (List.mem_cons_of_mem _ hy)
theorem rL3.hd (h : rL3 (x :: π)) : x < 30 := h x (List.mem_cons_self ..)
theorem rL3.ap (h : rL3 π) (g : rL3 ρ) : rL3 (π ++ ρ) := fun y hy => by
  rcases List.mem_append.mp hy with hy | hy
  · exact h y hy
  · exact g y hy
theorem rDl.l (h : rDl δ) : rL3 δ := by
  rcases h with rfl | rfl | rfl
  · exact rL3.nl
  · exact rL3.nl.cn (by decide)
  · exact rL3.nl.cn (by decide)
theorem rin_ap : ∀ {π : List Int32}, rL3 π → rIn (π ++ ρ) = rIn ρ
  | [], _ => rfl
  | x :: π, h => by
    show (if x < 30 then rIn (π ++ ρ) else x) = _
    rw [if_pos h.hd]
    exact rin_ap h.tl
theorem rin_c (hx : x < 30) : rIn (x :: ρ) = rIn ρ := if_pos hx
theorem rin_b (hx : ¬ x < 30) : rIn (x :: ρ) = x := if_neg hx
theorem rcq_n (hx : ¬ (x = 20 ∨ x = 21)) : rCq (x :: ρ) = decide (x = 24 ∨ x = 25 ∨ x = 26) := if_neg hx
theorem rsr_b (hx : bnF x < k) : rSR k (x :: ρ) = x :: ρ := if_pos hx
theorem rsr_c (hx : ¬ bnF x < k) : rSR k (x :: ρ) = rSR k ρ := if_neg hx
theorem rsr_d (h : rDl δ) : rSR 5 (δ ++ ρ) = rSR 5 ρ := by
  rcases h with rfl | rfl | rfl
  · rfl
  · exact rsr_c (by decide)
  · exact rsr_c (by decide)
theorem rcm_d (h : rDl δ) : rCq (δ ++ ρ) = rCq ρ := by
  rcases h with rfl | rfl | rfl
  · rfl
  · exact if_pos (Or.inl rfl)
  · exact if_pos (Or.inr rfl)
theorem rsr_tA (h : rTA ρ) (hk : 0 < k) : ∀ {π : List Int32}, rL3 π → ∃ π', rL3 π' ∧ rSR k (π ++ ρ) = π' ++ ρ
  | [], _ => ⟨[], rL3.nl, by
    rcases h with rfl | ⟨r, rfl⟩
    · rfl
    · exact rsr_b (show bnF 30 < k from by rw [show bnF 30 = 0 from by decide]; exact hk)⟩
  | x :: π, g => by
    by_cases q : bnF x < k
    · exact ⟨x :: π, g, rsr_b q⟩
    · obtain ⟨π', h1, h2⟩ := rsr_tA h hk g.tl
      exact ⟨π', h1, (rsr_c q).trans h2⟩
theorem rsr_30 {r : List Int32} : ∀ {π : List Int32}, rL3 π → (∀ x, x ∈ π → ¬ bnF x < 1) → rSR 1 (π ++ 30 :: r) = 30 :: r
  | [], _, _ => rsr_b (by decide)
  | x :: π, g, q => (rsr_c (q x (List.mem_cons_self ..))).trans (rsr_30 g.tl (fun y hy => q y (List.mem_cons_of_mem _ hy)))
theorem bn30 (hx : x < 30) : ¬ bnF x < 1 := fun z => absurd hx (bnF1 z)
theorem rPA.tA (h : rTA ρ) : rPA ρ := by
  rcases h with rfl | ⟨r, rfl⟩
  · exact ⟨Or.inl rfl, rfl, rfl⟩
  · exact ⟨Or.inr rfl, (rcq_n (by decide)).trans (by decide), rsr_b (by decide)⟩
theorem rPA.c (h : rPA ρ) (hx : x = 27 ∨ x = 28 ∨ x = 29) : rPA (x :: ρ) := by
  refine ⟨?_, ?_, ?_⟩
  · rw [rin_c (by rcases hx with rfl | rfl | rfl <;> decide)]
    exact h.1
  · rcases hx with rfl | rfl | rfl
    · exact (rcq_n (by decide)).trans (by decide)
    · exact (rcq_n (by decide)).trans (by decide)
    · exact (rcq_n (by decide)).trans (by decide)
  · exact rsr_b (by rcases hx with rfl | rfl | rfl <;> decide)
theorem rPA.ap (h : rIn ρ = -1 ∨ rIn ρ = 30) (g : rL3 π) (hx : x = 28 ∨ x = 29) : rPA (x :: (π ++ ρ)) := by
  refine ⟨?_, ?_, ?_⟩
  · rw [rin_c (by rcases hx with rfl | rfl <;> decide), rin_ap g]
    exact h
  · rcases hx with rfl | rfl
    · exact (rcq_n (by decide)).trans (by decide)
    · exact (rcq_n (by decide)).trans (by decide)
  · exact rsr_b (by rcases hx with rfl | rfl <;> decide)
end LS
section SM
variable (T P : Nat → Int32) (m : Nat) (tst : Bool) (W : rWT) (Wb : Nat → Prop)
def rPrt (s : mI → mI) (o : Nat) : Prop := ∀ C i n c, Cst T P m C i n o c → (∃ j, j ≤ m ∧ s C 14 5 = P j ∧ (Wb j → ∀ t ρ κ, rTa T t i → W t i ρ n o κ)) ∨ (∃ i' n' c', Cst T P m (s C) i' n' o c' ∧ c' + i ≤ c + i' ∧ i < i' ∧ ∀ t ρ κ, rTa T t i → (∀ κ', W 3 i' ρ n' o κ') → W t i ρ n o κ)
def rSmt (s : mI → mI) (o : Nat) : Prop := ∀ C i n c, Cst T P m C i n o c → (∃ j, j ≤ m ∧ s C 14 5 = P j ∧ (Wb j → ∀ t ρ κ, rTa T t i → rSR 5 ρ = ρ → W t i ρ n o κ)) ∨ (∃ i' n' c', Cst T P m (s C) i' n' o c' ∧ c' + i ≤ c + i' ∧ i < i' ∧ ¬ rPl (T i') ∧ ∀ t ρ κ, rTa T t i → rSR 5 ρ = ρ → (∀ δ κ', rDl δ → W 3 i' (δ ++ ρ) n' o κ') → W t i ρ n o κ)
def rPln (s : mI → mI) (o : Nat) : Prop := ∀ C i n c, 0 < i → Cst T P m C i n o c → (∃ j, j ≤ m ∧ s C 14 5 = P j ∧ (Wb j → ∀ ρ κ, rPA ρ → W 0 i ρ n o κ)) ∨ (∃ i' n' c', Cst T P m (s C) i' n' o c' ∧ c' + i ≤ c + i' ∧ i < i' ∧ ∀ ρ κ, rPA ρ → (∀ π κ', rL3 π → W 2 i' (π ++ ρ) n' o κ') → W 0 i ρ n o κ)
def rTst (s : mI → mI) (o : Nat) : Prop := ∀ C i n c, 0 < i → Cst T P m C i n o c → (∃ j, j ≤ m ∧ s C 14 5 = P j ∧ (Wb j → ∀ ρ κ, rTA ρ → W 0 i ρ n o κ)) ∨ (∃ i' n' c', Cst T P m (s C) i' n' o c' ∧ c' + i ≤ c + i' ∧ i < i' ∧ ¬ T i' = -6 ∧ ¬ T i' = -5 ∧ ∀ ρ κ, rTA ρ → (∀ π κ', rL3 π → W 2 i' (π ++ ρ) n' o κ') → W 0 i ρ n o κ)
def rCls (s : mI → mI) : Prop := ∀ V, Clo V → ∀ I, V I → V (s I)
end SM
section SN
variable {T P : Nat → Int32} {m : Nat} {tst : Bool} {W : rWT} {Wb : Nat → Prop}
theorem w14 {w : Int32} (h1 : ¬ -1 < w) (h2 : ¬ w < -4) : w = -1 ∨ w = -2 ∨ w = -3 ∨ w = -4 := by
  rw [Int32.lt_iff_toInt_lt, show (-1 : Int32).toInt = -1 from rfl] at h1
  rw [Int32.lt_iff_toInt_lt, show (-4 : Int32).toInt = -4 from rfl] at h2
  have h : w.toInt = -1 ∨ w.toInt = -2 ∨ w.toInt = -3 ∨ w.toInt = -4 := by omega
  rcases h with h | h | h | h
  · exact Or.inl (Int32.toInt_inj.mp h)
  · exact Or.inr (Or.inl (Int32.toInt_inj.mp h))
  · exact Or.inr (Or.inr (Or.inl (Int32.toInt_inj.mp h)))
  · exact Or.inr (Or.inr (Or.inr (Int32.toInt_inj.mp h)))
theorem sub40 {x w : Int32} (h : x - -40 = w) : x = w + -40 := by rw [← h, Int32.sub_add_cancel]
/-- a part within its bracket, behind it -/
theorem prt_of {s : mI → mI} {o : Nat} (hT : TkO T P m) (hp : rStp T tst W Wb) (cs : rCls s) (hs : o < 8 → rSmt T P m W Wb s (o + 1)) : rPrt T P m W Wb (partG s) o := by
  intro C i n c h
  obtain ⟨ra, rb, rc, rd⟩ := hp
  obtain ⟨hc, hi, hn, ho⟩ := h.le
  by_cases g : n < 60
  · have e9 : C 14 9 < 60 := by rw [h.2.2.2.2.1]; exact nI_lt (a := n) (b := 60) g (by decide)
    have ej : paJ C = C := if_pos e9
    have hk : Cst T P m (paK C) i (n + 1) o c := by
      unfold paK
      rw [ej]
      exact h.pa g
    unfold partG
    rw [ej, if_pos h.2.2.1, hk.now hT]
    generalize paK C = K at hk
    have r2 := fun t ρ κ z => ((ra t i ρ n o κ z).2 g)
    unfold partK
    by_cases q1 : T i = -191
    · rw [if_pos (hk.sy hT q1)]
      have t1 : ¬ T i = -1 := by rw [q1]; decide
      by_cases go : o < 8
      · obtain ⟨b1, b2⟩ := hk.ey (w := 91) hT (by rw [q1]; decide) t1 go
        rw [if_pos b1]
        rcases hs go _ _ _ _ b2 with ⟨j, j1, j2, j3⟩ | ⟨i', n', c', k1, k2, k3, k4, k5⟩
        · have fl := Fl.cl (x := P j) (hT.2.2.2 j j1)
          exact Or.inl ⟨j, j1, fl.ta (fl.de j2), fun wb t ρ κ z => (r2 t ρ κ z).1 q1 go (j3 wb 1 _ _ (Or.inl rfl) (rsr_b (by decide)))⟩
        · by_cases q2 : T i' = -193
          · rw [k1.de.ty hT q2]
            refine Or.inr ⟨i' + 1, n', c', k1.de.ad hT (by rw [q2]; decide), by omega, by omega, fun t ρ κ z kk => (r2 t ρ κ z).1 q1 go (k5 1 _ _ (Or.inl rfl) (rsr_b (by decide)) (fun δ κ' hd => ?_))⟩
            have en : rIn (δ ++ 31 :: ρ) = 31 := (rin_ap hd.l).trans (rin_b (by decide))
            exact ((rc i' (δ ++ 31 :: ρ) n' o κ').2.1 k4 (by rw [en]; decide)).1 ρ (by rw [en, show rCl (31 : Int32) = -193 from by decide]; exact q2) (by rw [en, rsr_d hd]; exact rsr_b (by decide)) (kk _)
          · exact Or.inl ⟨i', k1.le.2.1, k1.de.tn hT q2, fun wb t ρ κ z => (r2 t ρ κ z).1 q1 go (k5 1 _ _ (Or.inl rfl) (rsr_b (by decide)) (fun δ κ' hd => by
              have en : rIn (δ ++ 31 :: ρ) = 31 := (rin_ap hd.l).trans (rin_b (by decide))
              exact ((rc i' (δ ++ 31 :: ρ) n' (o + 1) κ').2.1 k4 (by rw [en]; decide)).2 (by rw [en, show rCl (31 : Int32) = -193 from by decide]; exact q2) wb))⟩
      · obtain ⟨b1, b2⟩ := hk.en (w := 91) hT (fun z => go z.2)
        rw [if_neg b1]
        exact Or.inl ⟨i, hi, b2, fun wb t ρ κ z => (r2 t ρ κ z).2.1 q1 go wb⟩
    · rw [if_neg (hk.sn hT q1)]
      by_cases q5 : rIh (T i)
      · have t1 : ¬ T i = -1 := by rcases q5 with q | q <;> (rw [q]; decide)
        rw [if_pos (show T i - -40 = -5 ∨ T i - -40 = -6 from Or.elim q5 (fun q => Or.inl (by rw [q]; decide)) (fun q => Or.inr (by rw [q]; decide)))]
        have ka := hk.ad hT t1
        have hi1 := ka.le.2.1
        by_cases gq : T (i + 1) = -140 ∧ o < 8
        · obtain ⟨g1, go⟩ := gq
          obtain ⟨b1, b2⟩ := ka.ey (w := 40) hT (by rw [g1]; decide) (by rw [g1]; decide) go
          rw [if_pos b1]
          have sb : ∀ ρ : List Int32, rSR 5 ((if T i = -45 then (32 : Int32) else 33) :: ρ) = (if T i = -45 then (32 : Int32) else 33) :: ρ := fun ρ => by
            rcases q5 with q | q
            · rw [q]; exact rsr_b (by decide)
            · rw [q]; exact rsr_b (by decide)
          have nb : ∀ ρ : List Int32, rIn ((if T i = -45 then (32 : Int32) else 33) :: ρ) = (if T i = -45 then (32 : Int32) else 33) := fun ρ => by
            rcases q5 with q | q
            · rw [q]; exact rin_b (by decide)
            · rw [q]; exact rin_b (by decide)
          have x30 : 30 < (if T i = -45 then (32 : Int32) else 33) := by
            rcases q5 with q | q
            · rw [q]; decide
            · rw [q]; decide
          have xcl : rCl (if T i = -45 then (32 : Int32) else 33) = -141 := by
            rcases q5 with q | q
            · rw [q]; decide
            · rw [q]; decide
          rcases hs go _ _ _ _ b2 with ⟨j, j1, j2, j3⟩ | ⟨i', n', c', k1, k2, k3, k4, k5⟩
          · have fl := Fl.cl (x := P j) (hT.2.2.2 j j1)
            exact Or.inl ⟨j, j1, fl.em (fl.ta (fl.de j2)), fun wb t ρ κ z => (r2 t ρ κ z).2.2.1 q5 g1 go (j3 wb 1 _ _ (Or.inl rfl) (sb ρ))⟩
          · by_cases q2 : T i' = -141
            · rw [k1.de.ty hT q2]
              have kd := k1.de.ad hT (by rw [q2]; decide)
              refine Or.inr ⟨i' + 1, n', c' + 1, kd.em hT (by omega), by omega, by omega, fun t ρ κ z kk => (r2 t ρ κ z).2.2.1 q5 g1 go (k5 1 _ _ (Or.inl rfl) (sb ρ) (fun δ κ' hd => ?_))⟩
              have en := (rin_ap (ρ := (if T i = -45 then (32 : Int32) else 33) :: ρ) hd.l).trans (nb ρ)
              exact ((rc i' (δ ++ (if T i = -45 then (32 : Int32) else 33) :: ρ) n' o κ').2.1 k4 (by rw [en]; exact x30)).1 ρ (by rw [en, xcl]; exact q2) (by rw [en, rsr_d hd]; exact sb ρ) (kk _)
            · have fl := Fl.cl (x := P i') (hT.2.2.2 i' k1.le.2.1)
              exact Or.inl ⟨i', k1.le.2.1, fl.em (k1.de.tn hT q2), fun wb t ρ κ z => (r2 t ρ κ z).2.2.1 q5 g1 go (k5 1 _ _ (Or.inl rfl) (sb ρ) (fun δ κ' hd => by
                have en := (rin_ap (ρ := (if T i = -45 then (32 : Int32) else 33) :: ρ) hd.l).trans (nb ρ)
                exact ((rc i' (δ ++ (if T i = -45 then (32 : Int32) else 33) :: ρ) n' (o + 1) κ').2.1 k4 (by rw [en]; exact x30)).2 (by rw [en, xcl]; exact q2) wb))⟩
        · obtain ⟨b1, b2⟩ := ka.en (w := 40) hT (fun z => gq ⟨by rw [z.1]; decide, z.2⟩)
          rw [if_neg b1]
          exact Or.inl ⟨i + 1, hi1, b2, fun wb t ρ κ z => (r2 t ρ κ z).2.2.2.1 q5 gq wb⟩
      · rw [if_neg (show ¬ (T i - -40 = -5 ∨ T i - -40 = -6) from fun z => q5 (Or.elim z (fun z => Or.inl ((sub40 z).trans (by decide))) (fun z => Or.inr ((sub40 z).trans (by decide)))))]
        by_cases q6 : rPw (T i)
        · have t1 : ¬ T i = -1 := by rcases q6 with q | q | q | q <;> (rw [q]; decide)
          rw [if_neg (show ¬ -1 < T i - -40 by rcases q6 with q | q | q | q <;> (rw [q]; decide)), if_neg (show ¬ T i - -40 < -4 by rcases q6 with q | q | q | q <;> (rw [q]; decide))]
          exact Or.inr ⟨i + 1, n + 1, c + 1, (hk.ad hT t1).em hT (by omega), by omega, by omega, fun t ρ κ z kk => (r2 t ρ κ z).2.2.2.2.1 q6 (kk _)⟩
        · have en : ∀ X Y : mI, (if -1 < T i - -40 then X else if T i - -40 < -4 then X else Y) = X := fun X Y => by
            by_cases u1 : -1 < T i - -40
            · rw [if_pos u1]
            · by_cases u2 : T i - -40 < -4
              · rw [if_neg u1, if_pos u2]
              · refine absurd ?_ q6
                rcases w14 u1 u2 with u | u | u | u
                · exact Or.inl ((sub40 u).trans (by decide))
                · exact Or.inr (Or.inl ((sub40 u).trans (by decide)))
                · exact Or.inr (Or.inr (Or.inl ((sub40 u).trans (by decide))))
                · exact Or.inr (Or.inr (Or.inr ((sub40 u).trans (by decide))))
          rw [en]
          by_cases q7 : T i < 0 ∨ 99 < T i
          · exact Or.inl ⟨i, hi, hk.nn hT q7, fun wb t ρ κ z => (r2 t ρ κ z).2.2.2.2.2.2 q1 q5 q6 q7 wb⟩
          · exact Or.inr ⟨i + 1, n + 1, c + 1, hk.ny hT (fun z => q7 (Or.inl z)) (fun z => q7 (Or.inr z)), by omega, by omega, fun t ρ κ z kk => (r2 t ρ κ z).2.2.2.2.2.1 (fun z => q7 (Or.inl z)) (fun z => q7 (Or.inr z)) (kk _)⟩
  · obtain rfl : n = 60 := by omega
    have e9 : ¬ C 14 9 < 60 := by rw [h.2.2.2.2.1]; exact nI_nlt (a := 60) (b := 60) (by omega) (by decide)
    have ej : paJ C = faiF C := if_neg e9
    unfold partG
    rw [ej, h.fa hT, if_neg (hT.2.2.2 i hi)]
    exact Or.inl ⟨i, hi, h.fa hT, fun wb t ρ κ z => (ra t i ρ 60 o κ z).1 rfl wb⟩
theorem sum_ok {p : mI → mI} {o : Nat} (hT : TkO T P m) (hp : rStp T tst W Wb) (cp : rCls p) (hr : rPrt T P m W Wb p o) : ∀ (N : Nat) (C : mI) (i n c : Nat), 800 ≤ 2 * N + i → Cst T P m C i n o c → (∃ j, j ≤ m ∧ sumL p N C 14 5 = P j ∧ (Wb j → ∀ δ ρ κ, rDl δ → rSR 5 ρ = ρ → W 3 i (δ ++ ρ) n o κ)) ∨ (∃ i' n' c', Cst T P m (sumL p N C) i' n' o c' ∧ c' + i ≤ c + i' ∧ i ≤ i' ∧ ¬ rPl (T i') ∧ ∀ δ ρ κ, rDl δ → rSR 5 ρ = ρ → (∀ δ κ', rDl δ → W 3 i' (δ ++ ρ) n' o κ') → W 3 i (δ ++ ρ) n o κ) := by
  intro N
  induction N with
  | zero =>
    intro C i n c hN h
    have h1 := h.le
    have h2 := hT.1
    omega
  | succ N ih =>
    intro C i n c hN h
    have h1 := h.le
    have step : ∀ (y x : Int32), rPl (T i) → (x = 20 ∨ x = 21) → (if T i = -143 then (20 : Int32) else 21) = x → (∃ j, j ≤ m ∧ sumL p N (emiF (p (advF C)) y) 14 5 = P j ∧ (Wb j → ∀ δ ρ κ, rDl δ → rSR 5 ρ = ρ → W 3 i (δ ++ ρ) n o κ)) ∨ (∃ i' n' c', Cst T P m (sumL p N (emiF (p (advF C)) y)) i' n' o c' ∧ c' + i ≤ c + i' ∧ i ≤ i' ∧ ¬ rPl (T i') ∧ ∀ δ ρ κ, rDl δ → rSR 5 ρ = ρ → (∀ δ κ', rDl δ → W 3 i' (δ ++ ρ) n' o κ') → W 3 i (δ ++ ρ) n o κ) := by
      intro y x hl hx ex
      have t1 : ¬ T i = -1 := by rcases hl with q | q <;> (rw [q]; decide)
      have one : ∀ δ ρ κ, rDl δ → rSR 5 ρ = ρ → (∀ κ', W 1 (i + 1) (x :: ρ) n o κ') → W 3 i (δ ++ ρ) n o κ := fun δ ρ κ hd hs kk => (hp.2.2.1 i (δ ++ ρ) n o κ).1 hl (by rw [ex, rsr_d hd, hs]; exact kk _)
      rcases hr _ _ _ _ (h.ad hT t1) with ⟨j, j1, j2, j3⟩ | ⟨i', n', c', k1, k2, k3, k5⟩
      · have fl := Fl.cl (x := P j) (hT.2.2.2 j j1)
        exact Or.inl ⟨j, j1, fl.su (fun I z => cp _ fl I z) N _ (fl.em j2), fun wb δ ρ κ hd hs => one δ ρ κ hd hs (fun κ' => j3 wb 1 _ _ (Or.inl rfl))⟩
      · rcases ih _ _ _ _ (by omega) (k1.em (w := y) hT (by omega)) with ⟨j, j1, j2, j3⟩ | ⟨i2, n2, c2, m1, m2, m3, m4, m5⟩
        · refine Or.inl ⟨j, j1, j2, fun wb δ ρ κ hd hs => one δ ρ κ hd hs (fun κ' => k5 1 _ _ (Or.inl rfl) (fun κ2 => ?_))⟩
          have u := j3 wb [x] ρ κ2 (Or.elim hx (fun e => Or.inr (Or.inl (by rw [e]))) (fun e => Or.inr (Or.inr (by rw [e])))) hs
          exact u
        · refine Or.inr ⟨i2, n2, c2, m1, by omega, by omega, m4, fun δ ρ κ hd hs kk => one δ ρ κ hd hs (fun κ' => k5 1 _ _ (Or.inl rfl) (fun κ2 => ?_))⟩
          have u := m5 [x] ρ κ2 (Or.elim hx (fun e => Or.inr (Or.inl (by rw [e]))) (fun e => Or.inr (Or.inr (by rw [e])))) hs kk
          exact u
    unfold sumL
    by_cases q1 : T i = -143
    · rw [if_pos (h.sy hT q1)]
      exact step (-8) 20 (Or.inl q1) (Or.inl rfl) (if_pos q1)
    · rw [if_neg (h.sn hT q1)]
      by_cases q2 : T i = -145
      · rw [if_pos (h.sy hT q2)]
        exact step (-9) 21 (Or.inr q2) (Or.inr rfl) (if_neg q1)
      · rw [if_neg (h.sn hT q2)]
        exact Or.inr ⟨i, n, c, h, Nat.le_refl _, Nat.le_refl _, fun z => Or.elim z q1 q2, fun δ ρ κ hd hs kk => kk δ κ hd⟩
theorem smt_of {p : mI → mI} {o : Nat} (hT : TkO T P m) (hp : rStp T tst W Wb) (cp : rCls p) (hr : rPrt T P m W Wb p o) : rSmt T P m W Wb (sumF p) o := by
  intro C i n c h
  unfold sumF
  rcases hr _ _ _ _ h with ⟨j, j1, j2, j3⟩ | ⟨i', n', c', k1, k2, k3, k5⟩
  · have fl := Fl.cl (x := P j) (hT.2.2.2 j j1)
    exact Or.inl ⟨j, j1, fl.su (fun I z => cp _ fl I z) 400 _ j2, fun wb t ρ κ z _ => j3 wb t ρ κ z⟩
  · rcases sum_ok hT hp cp hr 400 _ _ _ _ (by omega) k1 with ⟨j, j1, j2, j3⟩ | ⟨i2, n2, c2, m1, m2, m3, m4, m5⟩
    · exact Or.inl ⟨j, j1, j2, fun wb t ρ κ z hs => k5 t ρ κ z (fun κ' => j3 wb [] ρ κ' (Or.inl rfl) hs)⟩
    · exact Or.inr ⟨i2, n2, c2, m1, by omega, by omega, m4, fun t ρ κ z hs kk => k5 t ρ κ z (fun κ' => m5 [] ρ κ' (Or.inl rfl) hs kk)⟩
theorem prt_b (hT : TkO T P m) (hp : rStp T tst W Wb) : ∀ b o, o + b = 8 → rPrt T P m W Wb (partF b) o
  | 0, o, h => prt_of hT hp (fun _ _ _ z => z) (fun g => absurd g (by omega))
  | b + 1, o, h => prt_of hT hp (fun V hV => hV.sf (hV.pf b)) (fun g => smt_of hT hp (fun V hV => hV.pf b) (prt_b hT hp b (o + 1) (by omega)))
theorem smt_b (hT : TkO T P m) (hp : rStp T tst W Wb) {b o : Nat} (h : o + b = 8) : rSmt T P m W Wb (sumF (partF b)) o := smt_of hT hp (fun V hV => hV.pf b) (prt_b hT hp b o h)
end SN
