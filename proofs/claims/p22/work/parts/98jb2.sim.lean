/-! group C: the two ways to read, side by side, with the code that each writes -/
def rBd (k : Int32) (π : List Int32) : Prop := ∀ x, x ∈ π → x < 30 ∧ ¬ bnF x < k
section LB
variable {δ π ρ β : List Int32} {x k : Int32}
theorem rsr_len : ∀ {ρ : List Int32}, (rSR k ρ).length ≤ ρ.length
  | [] => Nat.le_refl _
  | x :: r => by
    by_cases q : bnF x < k
    · rw [rsr_b q]; exact Nat.le_refl _
    · rw [rsr_c q]
      exact Nat.le_trans rsr_len (Nat.le_succ _)
theorem rsp_b (hx : bnF x < k) : rSP k (x :: ρ) = [] := if_pos hx
theorem rsp_c (hx : ¬ bnF x < k) : rSP k (x :: ρ) = x :: rSP k ρ := if_neg hx
theorem rsp_nil : ∀ {ρ : List Int32}, rSR k ρ = ρ → rSP k ρ = []
  | [], _ => rfl
  | x :: r, h => by
    by_cases q : bnF x < k
    · exact rsp_b q
    · rw [rsr_c q] at h
      have l := rsr_len (k := k) (ρ := r)
      rw [h] at l
      exact absurd l (by show ¬ r.length + 1 ≤ r.length; omega)
theorem rBd.nl : rBd k [] := fun x h => by cases h
theorem rBd.cn (h : rBd k π) (hx : x < 30) (hb : ¬ bnF x < k) : rBd k (x :: π) := fun y hy => by
  rcases List.mem_cons.mp hy with rfl | hy
  · exact ⟨hx, hb⟩
  · exact h y hy
theorem rBd.tl (h : rBd k (x :: π)) : rBd k π := fun y hy => h y (List.mem_cons_of_mem _ hy)
theorem rBd.hd (h : rBd k (x :: π)) : x < 30 ∧ ¬ bnF x < k := h x (List.mem_cons_self ..)
theorem rBd.ap (h : rBd k π) (g : rBd k ρ) : rBd k (π ++ ρ) := fun y hy => by
  rcases List.mem_append.mp hy with hy | hy
  · exact h y hy
  · exact g y hy
theorem rBd.l3 (h : rBd k π) : rL3 π := fun x hx => (h x hx).1
theorem bn_le {a b : Int32} (h : ¬ bnF x < a) (hab : b ≤ a) : ¬ bnF x < b := fun z => h (Int32.lt_of_lt_of_le z hab)
theorem rBd.mo {j : Int32} (h : rBd k π) (hj : j ≤ k) : rBd j π := fun x hx => ⟨(h x hx).1, bn_le (h x hx).2 hj⟩
/-- what binds no less goes, down to where it stops -/
theorem rsr_bd (hs : rSR k β = β) : ∀ {π : List Int32}, rBd k π → rSR k (π ++ β) = β ∧ rSP k (π ++ β) = π
  | [], _ => ⟨hs, rsp_nil hs⟩
  | x :: π, h => by
    obtain ⟨h1, h2⟩ := rsr_bd hs h.tl
    exact ⟨(rsr_c h.hd.2).trans h1, (rsp_c h.hd.2).trans (congrArg (List.cons x) h2)⟩
theorem rDl.bd (h : rDl δ) : rBd 5 δ := by
  rcases h with rfl | rfl | rfl
  · exact rBd.nl
  · exact rBd.nl.cn (by decide) (by decide)
  · exact rBd.nl.cn (by decide) (by decide)
def rAl (α : List Int32) : Prop := α = [] ∨ α = [29]
theorem rsr_tA1 (h : rTA ρ) (hk : 0 < k) : rSR k ρ = ρ := by
  rcases h with rfl | ⟨r, rfl⟩
  · rfl
  · exact rsr_b (show bnF 30 < k from by rw [show bnF 30 = 0 from by decide]; exact hk)
theorem rAl.s2 {α : List Int32} (h : rAl α) (hρ : rTA ρ) : rSR 2 (α ++ ρ) = α ++ ρ := by
  rcases h with rfl | rfl
  · exact rsr_tA1 hρ (by decide)
  · exact rsr_b (by decide)
theorem rAl.b1 {α : List Int32} (h : rAl α) : rBd 1 α := by
  rcases h with rfl | rfl
  · exact rBd.nl
  · exact rBd.nl.cn (by decide) (by decide)
theorem rAl.pa {α : List Int32} (h : rAl α) (hρ : rTA ρ) : rPA (α ++ ρ) := by
  rcases h with rfl | rfl
  · exact rPA.tA hρ
  · exact (rPA.tA hρ).c (Or.inr (Or.inr rfl))
theorem bo01 {p : Prop} [Decidable p] : bI (decide p) = 0 ∨ bI (decide p) = 1 := by
  by_cases h : p
  · rw [decide_eq_true h]; exact Or.inr rfl
  · rw [decide_eq_false h]; exact Or.inl rfl
/-- tests are 0 or 1 -/
theorem jn_cm {w : Int32} (h : w = -10 ∨ w = -11 ∨ w = -12) (a b : Int32) : jnF w a b = 0 ∨ jnF w a b = 1 := by
  unfold jnF
  rcases h with rfl | rfl | rfl
  · rw [if_neg (by decide), if_neg (by decide), if_neg (by decide), if_pos rfl]; exact bo01
  · rw [if_neg (by decide), if_neg (by decide), if_pos rfl]; exact bo01
  · rw [if_neg (by decide), if_pos rfl]; exact bo01
theorem jn_ao {w : Int32} (h : w = -13 ∨ w = -14) (a b : Int32) (ha : a = 0 ∨ a = 1) (hb : b = 0 ∨ b = 1) : jnF w a b = 0 ∨ jnF w a b = 1 := by
  rcases h with rfl | rfl <;> rcases ha with rfl | rfl <;> rcases hb with rfl | rfl <;> decide
end LB
section SM
variable (T P : Nat → Int32) (m : Nat) (tst : Bool) (W : rWT) (Wb : Nat → Prop)
def rPrt (s : mI → mI) (o : Nat) : Prop := ∀ C i n c, Cst T P m C i n o c → (∃ j, j ≤ m ∧ s C 14 5 = P j ∧ (Wb j → ∀ t ρ κ, rTa T t i → W t i ρ n o κ)) ∨ (∃ i' n' c', Cst T P m (s C) i' n' o c' ∧ c' + i ≤ c + i' ∧ i < i' ∧ c ≤ c' ∧ Kp c C (s C) ∧ ∀ t ρ κ, rTa T t i → (∀ l, Ve False n n' l (Sg (s C) c c') → W 3 i' ρ n' o (κ ++ l)) → W t i ρ n o κ)
def rSmt (s : mI → mI) (o : Nat) : Prop := ∀ C i n c, Cst T P m C i n o c → (∃ j, j ≤ m ∧ s C 14 5 = P j ∧ (Wb j → ∀ t ρ κ, rTa T t i → rSR 5 ρ = ρ → W t i ρ n o κ)) ∨ (∃ i' n' c', Cst T P m (s C) i' n' o c' ∧ c' + i ≤ c + i' ∧ i < i' ∧ ¬ rPl (T i') ∧ c ≤ c' ∧ Kp c C (s C) ∧ ∀ t ρ κ, rTa T t i → rSR 5 ρ = ρ → (∀ δ l, rDl δ → Ve False n n' (l ++ rZp δ) (Sg (s C) c c') → W 3 i' (δ ++ ρ) n' o (κ ++ l)) → W t i ρ n o κ)
def rPln (s : mI → mI) (o : Nat) : Prop := ∀ C i n c, 0 < i → Cst T P m C i n o c → (∃ j, j ≤ m ∧ s C 14 5 = P j ∧ (Wb j → ∀ ρ κ, rPA ρ → W 0 i ρ n o κ)) ∨ (∃ i' n' c', Cst T P m (s C) i' n' o c' ∧ c' + i ≤ c + i' ∧ i < i' ∧ c ≤ c' ∧ Kp c C (s C) ∧ ∀ ρ κ, rPA ρ → (∀ π l, rBd 3 π → Ve True n n' (l ++ rZp π) (Sg (s C) c c') → W 2 i' (π ++ ρ) n' o (κ ++ l)) → W 0 i ρ n o κ)
def rTst (s : mI → mI) (o : Nat) : Prop := ∀ C i n c, 0 < i → Cst T P m C i n o c → (∃ j, j ≤ m ∧ s C 14 5 = P j ∧ (Wb j → ∀ ρ κ, rTA ρ → W 0 i ρ n o κ)) ∨ (∃ i' n' c', Cst T P m (s C) i' n' o c' ∧ c' + i ≤ c + i' ∧ i < i' ∧ ¬ T i' = -6 ∧ ¬ T i' = -5 ∧ c ≤ c' ∧ Kp c C (s C) ∧ ∀ ρ κ, rTA ρ → (∀ π l, rBd 1 π → Ve True n n' (l ++ rZp π) (Sg (s C) c c') → W 2 i' (π ++ ρ) n' o (κ ++ l)) → W 0 i ρ n o κ)
def rCls (s : mI → mI) : Prop := ∀ V, Clo V → ∀ I, V I → V (s I)
end SM
section SN
variable {T P : Nat → Int32} {m : Nat} {tst : Bool} {W : rWT} {Wb : Nat → Prop}
theorem w14 {w : Int32} (h1 : ¬ -1 < w) (h2 : ¬ w < -4) : w = -1 ∨ w = -2 ∨ w = -3 ∨ w = -4 := by
  rw [Int32.lt_iff_toInt_lt, show (-1 : Int32).toInt = -1 from rfl] at h1
  rw [Int32.lt_iff_toInt_lt, show (-4 : Int32).toInt = -4 from rfl] at h2
  have h : w.toInt = -1 ∨ w.toInt = -2 ∨ w.toInt = -3 ∨ w.toInt = -4 := by omega
  rcases h with h | h | h | h
  · exact Or.inl (Int32.toInt_inj.mp h)
  · exact Or.inr (Or.inl (Int32.toInt_inj.mp h))
  · exact Or.inr (Or.inr (Or.inl (Int32.toInt_inj.mp h)))
  · exact Or.inr (Or.inr (Or.inr (Int32.toInt_inj.mp h)))
theorem sub40 {x w : Int32} (h : x - -40 = w) : x = w + -40 := by rw [← h, Int32.sub_add_cancel]
theorem neg4 {x : Int32} (h : ¬ x < 0) : ¬ x < -4 := fun z => h (Int32.lt_trans z (by decide))
/-- a part within its bracket, behind it -/
theorem prt_of {s : mI → mI} {o : Nat} (hT : TkO T P m) (hp : rStp T tst W Wb) (cs : rCls s) (hs : o < 8 → rSmt T P m W Wb s (o + 1)) : rPrt T P m W Wb (partG s) o := by
  intro C i n c h
  obtain ⟨ra, rb, rc, rd⟩ := hp
  obtain ⟨hc, hi, hn, ho⟩ := h.le
  by_cases g : n < 60
  · have e9 : C 14 9 < 60 := by rw [h.2.2.2.2.1]; exact nI_lt (a := n) (b := 60) g (by decide)
    have ej : paJ C = C := if_pos e9
    have hk : Cst T P m (paK C) i (n + 1) o c := by
      unfold paK
      rw [ej]
      exact h.pa g
    have k15 : paK C 15 = C 15 := by
      unfold paK
      rw [ej]
      exact pt_n (by decide)
    unfold partG
    rw [ej, if_pos h.2.2.1, hk.now hT]
    generalize paK C = K at hk k15
    have r2 := fun t ρ κ z => ((ra t i ρ n o κ z).2 g)
    have kK : Kp c C K := Kp.e k15
    unfold partK
    by_cases q1 : T i = -191
    · rw [if_pos (hk.sy hT q1)]
      have t1 : ¬ T i = -1 := by rw [q1]; decide
      by_cases go : o < 8
      · obtain ⟨b1, b2⟩ := hk.ey (w := 91) hT (by rw [q1]; decide) t1 go
        rw [if_pos b1]
        rcases hs go _ _ _ _ b2 with ⟨j, j1, j2, j3⟩ | ⟨i', n', c', k1, k2, k3, k4, kc, kp, k5⟩
        · have fl := Fl.cl (x := P j) (hT.2.2.2 j j1)
          exact Or.inl ⟨j, j1, fl.ta (fl.de j2), fun wb t ρ κ z => (r2 t ρ κ z).1 q1 go (j3 wb 1 _ _ (Or.inl rfl) (rsr_b (by decide)))⟩
        · by_cases q2 : T i' = -193
          · rw [k1.de.ty hT q2]
            have e15 : advF (decB (s (entF K 91))) 15 = s (entF K 91) 15 := ad15.trans de15
            refine Or.inr ⟨i' + 1, n', c', k1.de.ad hT (by rw [q2]; decide), by omega, by omega, kc, ((kK.tr (Kp.e en15) (Nat.le_refl c)).tr kp (Nat.le_refl c)).tr (Kp.e e15) (Nat.le_refl c), fun t ρ κ z kk => (r2 t ρ κ z).1 q1 go (k5 1 _ _ (Or.inl rfl) (rsr_b (by decide)) (fun δ l hd hv => ?_))⟩
            have en : rIn (δ ++ 31 :: ρ) = 31 := (rin_ap hd.l).trans (rin_b (by decide))
            obtain ⟨s1, s2⟩ := rsr_bd (β := 31 :: ρ) (k := 5) (rsr_b (by decide)) hd.bd
            have u := ((rc i' (δ ++ 31 :: ρ) n' o (κ ++ l)).2.1 k4 (by rw [en]; decide)).1 ρ (by rw [en, show rCl (31 : Int32) = -193 from by decide]; exact q2) (by rw [en]; exact s1)
            rw [en, if_pos rfl, List.append_nil, s2, List.append_assoc] at u
            exact u (kk _ (by rw [Sg.e15 e15]; exact hv.lo (by omega)))
          · exact Or.inl ⟨i', k1.le.2.1, k1.de.tn hT q2, fun wb t ρ κ z => (r2 t ρ κ z).1 q1 go (k5 1 _ _ (Or.inl rfl) (rsr_b (by decide)) (fun δ l hd _ => by
              have en : rIn (δ ++ 31 :: ρ) = 31 := (rin_ap hd.l).trans (rin_b (by decide))
              exact ((rc i' (δ ++ 31 :: ρ) n' (o + 1) (κ ++ l)).2.1 k4 (by rw [en]; decide)).2 (by rw [en, show rCl (31 : Int32) = -193 from by decide]; exact q2) wb))⟩
      · obtain ⟨b1, b2⟩ := hk.en (w := 91) hT (fun z => go z.2)
        rw [if_neg b1]
        exact Or.inl ⟨i, hi, b2, fun wb t ρ κ z => (r2 t ρ κ z).2.1 q1 go wb⟩
    · rw [if_neg (hk.sn hT q1)]
      by_cases q5 : rIh (T i)
      · have t1 : ¬ T i = -1 := by rcases q5 with q | q <;> (rw [q]; decide)
        rw [if_pos (show T i - -40 = -5 ∨ T i - -40 = -6 from Or.elim q5 (fun q => Or.inl (by rw [q]; decide)) (fun q => Or.inr (by rw [q]; decide)))]
        have ka := hk.ad hT t1
        have hi1 := ka.le.2.1
        by_cases gq : T (i + 1) = -140 ∧ o < 8
        · obtain ⟨g1, go⟩ := gq
          obtain ⟨b1, b2⟩ := ka.ey (w := 40) hT (by rw [g1]; decide) (by rw [g1]; decide) go
          rw [if_pos b1]
          have hx : ∃ x : Int32, (if T i = -45 then (32 : Int32) else 33) = x ∧ (x = 32 ∨ x = 33) ∧ cM (x, 0) = T i - -40 := by
            rcases q5 with q | q
            · exact ⟨32, by rw [q]; decide, Or.inl rfl, by rw [q]; decide⟩
            · exact ⟨33, by rw [q]; decide, Or.inr rfl, by rw [q]; decide⟩
          obtain ⟨x, ex, x3, xc⟩ := hx
          have sb : ∀ ρ : List Int32, rSR 5 (x :: ρ) = x :: ρ := fun ρ => by
            rcases x3 with rfl | rfl
            · exact rsr_b (by decide)
            · exact rsr_b (by decide)
          have nb : ∀ ρ : List Int32, rIn (x :: ρ) = x := fun ρ => by
            rcases x3 with rfl | rfl
            · exact rin_b (by decide)
            · exact rin_b (by decide)
          have x30 : 30 < x := by rcases x3 with rfl | rfl <;> decide
          have x31 : ¬ x = 31 := by rcases x3 with rfl | rfl <;> decide
          have xcl : rCl x = -141 := by rcases x3 with rfl | rfl <;> decide
          rw [ex] at r2
          rcases hs go _ _ _ _ b2 with ⟨j, j1, j2, j3⟩ | ⟨i', n', c', k1, k2, k3, k4, kc, kp, k5⟩
          · have fl := Fl.cl (x := P j) (hT.2.2.2 j j1)
            exact Or.inl ⟨j, j1, fl.em (fl.ta (fl.de j2)), fun wb t ρ κ z => (r2 t ρ κ z).2.2.1 q5 g1 go (j3 wb 1 _ _ (Or.inl rfl) (sb ρ))⟩
          · by_cases q2 : T i' = -141
            · rw [k1.de.ty hT q2]
              have kd := k1.de.ad hT (by rw [q2]; decide)
              have e15 : advF (decB (s (entF (advF K) 40))) 15 = s (entF (advF K) 40) 15 := ad15.trans de15
              obtain ⟨z1, z2⟩ := kd.k15 (w := T i - -40) hT
              have kq : Kp c C (advF (decB (s (entF (advF K) 40)))) := ((kK.tr (Kp.e (en15.trans ad15)) (Nat.le_refl c)).tr kp (Nat.le_refl c)).tr (Kp.e e15) (Nat.le_refl c)
              refine Or.inr ⟨i' + 1, n', c' + 1, kd.em hT (by omega), by omega, by omega, by omega, kq.tr z1 kc, fun t ρ κ z kk => (r2 t ρ κ z).2.2.1 q5 g1 go (k5 1 _ _ (Or.inl rfl) (sb ρ) (fun δ l hd hv => ?_))⟩
              have en := (rin_ap (ρ := x :: ρ) hd.l).trans (nb ρ)
              obtain ⟨s1, s2⟩ := rsr_bd (β := x :: ρ) (k := 5) (sb ρ) hd.bd
              have u := ((rc i' (δ ++ x :: ρ) n' o (κ ++ l)).2.1 k4 (by rw [en]; exact x30)).1 ρ (by rw [en, xcl]; exact q2) (by rw [en]; exact s1)
              rw [en, if_neg x31, s2, List.append_assoc κ l, List.append_assoc κ] at u
              refine u (kk _ ?_)
              rw [Sg.cat kc (Nat.le_succ c') z1, z2, Sg.e15 e15]
              refine (hv.un (y := (x, 0)) ?_ xc ?_ ?_).lo (by omega)
              · exact Or.inr (Or.inr (Or.inl (Or.inr x3)))
              · rcases q5 with q | q <;> (rw [q]; decide)
              · rcases q5 with q | q <;> (rw [q]; decide)
            · have fl := Fl.cl (x := P i') (hT.2.2.2 i' k1.le.2.1)
              exact Or.inl ⟨i', k1.le.2.1, fl.em (k1.de.tn hT q2), fun wb t ρ κ z => (r2 t ρ κ z).2.2.1 q5 g1 go (k5 1 _ _ (Or.inl rfl) (sb ρ) (fun δ l hd _ => by
                have en := (rin_ap (ρ := x :: ρ) hd.l).trans (nb ρ)
                exact ((rc i' (δ ++ x :: ρ) n' (o + 1) (κ ++ l)).2.1 k4 (by rw [en]; exact x30)).2 (by rw [en, xcl]; exact q2) wb))⟩
        · obtain ⟨b1, b2⟩ := ka.en (w := 40) hT (fun z => gq ⟨by rw [z.1]; decide, z.2⟩)
          rw [if_neg b1]
          exact Or.inl ⟨i + 1, hi1, b2, fun wb t ρ κ z => (r2 t ρ κ z).2.2.2.1 q5 gq wb⟩
      · rw [if_neg (show ¬ (T i - -40 = -5 ∨ T i - -40 = -6) from fun z => q5 (Or.elim z (fun z => Or.inl ((sub40 z).trans (by decide))) (fun z => Or.inr ((sub40 z).trans (by decide)))))]
        by_cases q6 : rPw (T i)
        · have t1 : ¬ T i = -1 := by rcases q6 with q | q | q | q <;> (rw [q]; decide)
          rw [if_neg (show ¬ -1 < T i - -40 by rcases q6 with q | q | q | q <;> (rw [q]; decide)), if_neg (show ¬ T i - -40 < -4 by rcases q6 with q | q | q | q <;> (rw [q]; decide))]
          have kd := hk.ad hT t1
          obtain ⟨z1, z2⟩ := kd.k15 (w := T i - -40) hT
          refine Or.inr ⟨i + 1, n + 1, c + 1, kd.em hT (by omega), by omega, by omega, by omega, (kK.tr (Kp.e ad15) (Nat.le_refl c)).tr z1 (Nat.le_refl c), fun t ρ κ z kk => (r2 t ρ κ z).2.2.2.2.1 q6 (kk _ ?_)⟩
          rw [z2]
          refine Ve.at_ ?_ ?_ ?_
          · exact Or.inr (Or.inl (by rcases q6 with q | q | q | q <;> (rw [q]; decide)))
          · rcases q6 with q | q | q | q <;> (rw [q]; decide)
          · rcases q6 with q | q | q | q <;> (rw [q]; decide)
        · have en : ∀ X Y : mI, (if -1 < T i - -40 then X else if T i - -40 < -4 then X else Y) = X := fun X Y => by
            by_cases u1 : -1 < T i - -40
            · rw [if_pos u1]
            · by_cases u2 : T i - -40 < -4
              · rw [if_neg u1, if_pos u2]
              · refine absurd ?_ q6
                rcases w14 u1 u2 with u | u | u | u
                · exact Or.inl ((sub40 u).trans (by decide))
                · exact Or.inr (Or.inl ((sub40 u).trans (by decide)))
                · exact Or.inr (Or.inr (Or.inl ((sub40 u).trans (by decide))))
                · exact Or.inr (Or.inr (Or.inr ((sub40 u).trans (by decide))))
          rw [en]
          by_cases q7 : T i < 0 ∨ 99 < T i
          · exact Or.inl ⟨i, hi, hk.nn hT q7, fun wb t ρ κ z => (r2 t ρ κ z).2.2.2.2.2.2 q1 q5 q6 q7 wb⟩
          · have p1 : ¬ T i < 0 := fun z => q7 (Or.inl z)
            have p2 : ¬ 99 < T i := fun z => q7 (Or.inr z)
            obtain ⟨z1, z2⟩ := hk.k15n (w := 99) hT p1 p2
            refine Or.inr ⟨i + 1, n + 1, c + 1, hk.ny hT p1 p2, by omega, by omega, by omega, kK.tr z1 (Nat.le_refl c), fun t ρ κ z kk => (r2 t ρ κ z).2.2.2.2.2.1 p1 p2 (kk _ ?_)⟩
            rw [z2]
            exact Ve.at_ (Or.inl ⟨rfl, p1⟩) (if_pos rfl) (neg4 p1)
  · obtain rfl : n = 60 := by omega
    have e9 : ¬ C 14 9 < 60 := by rw [h.2.2.2.2.1]; exact nI_nlt (a := 60) (b := 60) (by omega) (by decide)
    have ej : paJ C = faiF C := if_neg e9
    unfold partG
    rw [ej, h.fa hT, if_neg (hT.2.2.2 i hi)]
    exact Or.inl ⟨i, hi, h.fa hT, fun wb t ρ κ z => (ra t i ρ 60 o κ z).1 rfl wb⟩
theorem sum_ok {p : mI → mI} {o : Nat} (hT : TkO T P m) (hp : rStp T tst W Wb) (cp : rCls p) (hr : rPrt T P m W Wb p o) {n0 c0 : Nat} : ∀ (N : Nat) (C : mI) (i n c : Nat), 800 ≤ 2 * N + i → c0 ≤ c → Cst T P m C i n o c → (∃ j, j ≤ m ∧ sumL p N C 14 5 = P j ∧ (Wb j → ∀ δ ρ κ, rDl δ → rSR 5 ρ = ρ → W 3 i (δ ++ ρ) n o κ)) ∨ (∃ i' n' c', Cst T P m (sumL p N C) i' n' o c' ∧ c' + i ≤ c + i' ∧ i ≤ i' ∧ ¬ rPl (T i') ∧ c ≤ c' ∧ Kp c C (sumL p N C) ∧ ∀ δ ρ κ l, rDl δ → rSR 5 ρ = ρ → Ve False n0 n (l ++ rZp δ) (Sg C c0 c) → (∀ δ l, rDl δ → Ve False n0 n' (l ++ rZp δ) (Sg (sumL p N C) c0 c') → W 3 i' (δ ++ ρ) n' o (κ ++ l)) → W 3 i (δ ++ ρ) n o (κ ++ l)) := by
  intro N
  induction N with
  | zero =>
    intro C i n c hN h0 h
    have h1 := h.le
    have h2 := hT.1
    omega
  | succ N ih =>
    intro C i n c hN h0 h
    have h1 := h.le
    have step : ∀ (y x : Int32), rPl (T i) → (x = 20 ∨ x = 21) → (if T i = -143 then (20 : Int32) else 21) = x → cM (x, 0) = y → y < -7 → (∃ j, j ≤ m ∧ sumL p N (emiF (p (advF C)) y) 14 5 = P j ∧ (Wb j → ∀ δ ρ κ, rDl δ → rSR 5 ρ = ρ → W 3 i (δ ++ ρ) n o κ)) ∨ (∃ i' n' c', Cst T P m (sumL p N (emiF (p (advF C)) y)) i' n' o c' ∧ c' + i ≤ c + i' ∧ i ≤ i' ∧ ¬ rPl (T i') ∧ c ≤ c' ∧ Kp c C (sumL p N (emiF (p (advF C)) y)) ∧ ∀ δ ρ κ l, rDl δ → rSR 5 ρ = ρ → Ve False n0 n (l ++ rZp δ) (Sg C c0 c) → (∀ δ l, rDl δ → Ve False n0 n' (l ++ rZp δ) (Sg (sumL p N (emiF (p (advF C)) y)) c0 c') → W 3 i' (δ ++ ρ) n' o (κ ++ l)) → W 3 i (δ ++ ρ) n o (κ ++ l)) := by
      intro y x hl hx ex xc y7
      have t1 : ¬ T i = -1 := by rcases hl with q | q <;> (rw [q]; decide)
      have one : ∀ δ ρ κ, rDl δ → rSR 5 ρ = ρ → W 1 (i + 1) (x :: ρ) n o (κ ++ rZp δ) → W 3 i (δ ++ ρ) n o κ := fun δ ρ κ hd hs kk => (hp.2.2.1 i (δ ++ ρ) n o κ).1 hl (by rw [ex, (rsr_bd hs hd.bd).1, (rsr_bd hs hd.bd).2]; exact kk)
      have dx : rDl [x] := Or.elim hx (fun e => Or.inr (Or.inl (by rw [e]))) (fun e => Or.inr (Or.inr (by rw [e])))
      rcases hr _ _ _ _ (h.ad hT t1) with ⟨j, j1, j2, j3⟩ | ⟨i', n', c', k1, k2, k3, kc, kp, k5⟩
      · have fl := Fl.cl (x := P j) (hT.2.2.2 j j1)
        exact Or.inl ⟨j, j1, fl.su (fun I z => cp _ fl I z) N _ (fl.em j2), fun wb δ ρ κ hd hs => one δ ρ κ hd hs (j3 wb 1 _ _ (Or.inl rfl))⟩
      · obtain ⟨z1, z2⟩ := k1.k15 (w := y) hT
        have kC : Kp c C (emiF (p (advF C)) y) := ((Kp.e ad15).tr kp (Nat.le_refl c)).tr z1 kc
        rcases ih _ _ _ _ (by omega) (show c0 ≤ c' + 1 by omega) (k1.em (w := y) hT (by omega)) with ⟨j, j1, j2, j3⟩ | ⟨i2, n2, c2, m1, m2, m3, m4, mc, mp, m5⟩
        · exact Or.inl ⟨j, j1, j2, fun wb δ ρ κ hd hs => one δ ρ κ hd hs (k5 1 _ _ (Or.inl rfl) (fun l _ => j3 wb [x] ρ _ dx hs))⟩
        · refine Or.inr ⟨i2, n2, c2, m1, by omega, by omega, m4, by omega, kC.tr mp (by omega), fun δ ρ κ l hd hs hv kk => one δ ρ (κ ++ l) hd hs (k5 1 _ _ (Or.inl rfl) (fun l2 hv2 => ?_))⟩
          have u := m5 [x] ρ κ (l ++ rZp δ ++ l2) dx hs ?_ kk
          · rw [List.append_assoc κ l, List.append_assoc κ]
            exact u
          · rw [Sg.cat (show c0 ≤ c' by omega) (Nat.le_succ c') z1, z2, Sg.cat h0 kc kp, Sg.e15 ad15]
            exact hv.bin hv2 (y := (x, 0)) (Or.inr (Or.inr (Or.inr (by rcases hx with e | e <;> (rw [e]; decide))))) xc y7 (fun z => z.elim)
    unfold sumL
    by_cases q1 : T i = -143
    · rw [if_pos (h.sy hT q1)]
      exact step (-8) 20 (Or.inl q1) (Or.inl rfl) (if_pos q1) (by decide) (by decide)
    · rw [if_neg (h.sn hT q1)]
      by_cases q2 : T i = -145
      · rw [if_pos (h.sy hT q2)]
        exact step (-9) 21 (Or.inr q2) (Or.inr rfl) (if_neg q1) (by decide) (by decide)
      · rw [if_neg (h.sn hT q2)]
        exact Or.inr ⟨i, n, c, h, Nat.le_refl _, Nat.le_refl _, fun z => Or.elim z q1 q2, Nat.le_refl _, Kp.rf, fun δ ρ κ l hd hs hv kk => kk δ l hd hv⟩
theorem smt_of {p : mI → mI} {o : Nat} (hT : TkO T P m) (hp : rStp T tst W Wb) (cp : rCls p) (hr : rPrt T P m W Wb p o) : rSmt T P m W Wb (sumF p) o := by
  intro C i n c h
  unfold sumF
  rcases hr _ _ _ _ h with ⟨j, j1, j2, j3⟩ | ⟨i', n', c', k1, k2, k3, kc, kp, k5⟩
  · have fl := Fl.cl (x := P j) (hT.2.2.2 j j1)
    exact Or.inl ⟨j, j1, fl.su (fun I z => cp _ fl I z) 400 _ j2, fun wb t ρ κ z _ => j3 wb t ρ κ z⟩
  · rcases sum_ok hT hp cp hr (n0 := n) (c0 := c) 400 _ _ _ _ (by omega) kc k1 with ⟨j, j1, j2, j3⟩ | ⟨i2, n2, c2, m1, m2, m3, m4, mc, mp, m5⟩
    · exact Or.inl ⟨j, j1, j2, fun wb t ρ κ z hs => k5 t ρ κ z (fun l _ => j3 wb [] ρ _ (Or.inl rfl) hs)⟩
    · exact Or.inr ⟨i2, n2, c2, m1, by omega, by omega, m4, by omega, kp.tr mp kc, fun t ρ κ z hs kk => k5 t ρ κ z (fun l hv => m5 [] ρ κ l (Or.inl rfl) hs (by rw [show rZp [] = [] from rfl, List.append_nil]; exact hv) kk)⟩
theorem prt_b (hT : TkO T P m) (hp : rStp T tst W Wb) : ∀ b o, o + b = 8 → rPrt T P m W Wb (partF b) o
  | 0, o, h => prt_of hT hp (fun _ _ _ z => z) (fun g => absurd g (by omega))
  | b + 1, o, h => prt_of hT hp (fun V hV => hV.sf (hV.pf b)) (fun g => smt_of hT hp (fun V hV => hV.pf b) (prt_b hT hp b (o + 1) (by omega)))
theorem smt_b (hT : TkO T P m) (hp : rStp T tst W Wb) {b o : Nat} (h : o + b = 8) : rSmt T P m W Wb (sumF (partF b)) o := smt_of hT hp (fun V hV => hV.pf b) (prt_b hT hp b o h)
end SN
