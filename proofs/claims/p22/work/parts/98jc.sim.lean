/-! group C: PLAINS and tests, side by side, with the code that each writes -/
section SO
variable {T P : Nat → Int32} {m : Nat} {W : rWT} {Wb : Nat → Prop}
theorem not_ok {o : Nat} (hT : TkO T P m) (hp : rStp T true W Wb) : ∀ (N : Nat) (C : mI) (i n c : Nat) (b : Bool), 401 ≤ N + i → Cst T P m C i n o c → ∃ i', Cst T P m (notL N C b).1 i' n o c ∧ i ≤ i' ∧ ((notL N C b).2 = b ∨ i < i') ∧ ¬ T i' = -7 ∧ (notL N C b).1 15 = C 15 ∧ ∀ ρ κ, rPA ρ → (∀ ν, (∀ x, x ∈ ν → x = 27) → (notL N C b).2 = (if ν.length % 2 = 0 then b else !b) → rPA (ν ++ ρ) → W 0 i' (ν ++ ρ) n o κ) → W 0 i ρ n o κ := by
  intro N
  induction N with
  | zero =>
    intro C i n c b hN h
    have h1 := h.le
    have h2 := hT.1
    omega
  | succ N ih =>
    intro C i n c b hN h
    unfold notL
    by_cases q : T i = -7
    · rw [if_pos (h.sy hT q)]
      obtain ⟨i', k1, k2, k3, k4, k15, k5⟩ := ih (advF C) (i + 1) n c (!b) (by omega) (h.ad hT (by rw [q]; decide))
      refine ⟨i', k1, by omega, Or.inr (by omega), k4, k15.trans ad15, fun ρ κ hρ kk => (hp.2.1 i ρ n o κ).1 q (k5 (27 :: ρ) κ (hρ.c (Or.inl rfl)) (fun ν h1 hb h2 => ?_))⟩
      have e : ν ++ 27 :: ρ = (ν ++ [27]) ++ ρ := by rw [List.append_assoc]; rfl
      rw [e] at h2 ⊢
      refine kk _ (fun x hx => ?_) ?_ h2
      · rcases List.mem_append.mp hx with hx | hx
        · exact h1 x hx
        · exact List.mem_singleton.mp hx
      · have el : (ν ++ [27]).length = ν.length + 1 := by rw [List.length_append]; rfl
        rw [hb, el]
        by_cases z : ν.length % 2 = 0
        · rw [if_pos z, if_neg (show ¬ (ν.length + 1) % 2 = 0 by omega)]
        · rw [if_neg z, if_pos (show (ν.length + 1) % 2 = 0 by omega)]
          cases b <;> rfl
    · rw [if_neg (h.sn hT q)]
      exact ⟨i, h, Nat.le_refl _, Or.inl rfl, q, rfl, fun ρ κ hρ kk => kk [] (fun x hx => by cases hx) rfl hρ⟩
/-- a PLAIN behind its NOTs -/
theorem plK_ok {t s : mI → mI} {o : Nat} (hT : TkO T P m) (hp : rStp T true W Wb) (ct : rCls t) (cs : rCls s) (hs : rSmt T P m W Wb s o) (ht : o < 8 → rTst T P m W Wb t (o + 1)) {C : mI} {i n c : Nat} (h : Cst T P m C i n o c) (q7 : ¬ T i = -7) : (∃ j, j ≤ m ∧ plainK t s C 14 5 = P j ∧ (Wb j → ∀ ρ κ, rPA ρ → W 0 i ρ n o κ)) ∨ (∃ i' n' c', Cst T P m (plainK t s C) i' n' o c' ∧ c' + i ≤ c + i' ∧ i < i' ∧ c ≤ c' ∧ Kp c C (plainK t s C) ∧ ∀ ρ κ, rPA ρ → (∀ π l, rBd 4 π → Ve True n n' (l ++ rZp π) (Sg (plainK t s C) c c') → W 2 i' (π ++ ρ) n' o (κ ++ l)) → W 0 i ρ n o κ) := by
  obtain ⟨ra, rb, rc, rd⟩ := hp
  obtain ⟨hc, hi, hn, ho⟩ := h.le
  unfold plainK
  by_cases q1 : T i = -140
  · rw [if_pos (h.sy hT q1)]
    by_cases go : o < 8
    · obtain ⟨b1, b2⟩ := h.ey (w := 40) hT (by rw [q1]; decide) (by rw [q1]; decide) go
      rw [if_pos b1]
      rcases ht go _ _ _ _ (Nat.succ_pos _) b2 with ⟨j, j1, j2, j3⟩ | ⟨i', n', c', k1, k2, k3, k4, k5, kc, kp, k6⟩
      · have fl := Fl.cl (x := P j) (hT.2.2.2 j j1)
        exact Or.inl ⟨j, j1, fl.ta (fl.de j2), fun wb ρ κ hρ => (rb i ρ n o κ).2.1 q1 go (j3 wb _ _ (Or.inr ⟨ρ, rfl⟩))⟩
      · have en : ∀ π ρ : List Int32, rL3 π → ¬ rIn (π ++ 30 :: ρ) = -1 := fun π ρ hπ z => by
          rw [rin_ap hπ, rin_b (by decide)] at z
          exact absurd z (by decide)
        by_cases q2 : T i' = -141
        · rw [k1.de.ty hT q2]
          have e15 : advF (decB (t (entF C 40))) 15 = t (entF C 40) 15 := ad15.trans de15
          refine Or.inr ⟨i' + 1, n', c', k1.de.ad hT (by rw [q2]; decide), by omega, by omega, kc, ((Kp.e en15).tr kp (Nat.le_refl c)).tr (Kp.e e15) (Nat.le_refl c), fun ρ κ hρ kk => (rb i ρ n o κ).2.1 q1 go (k6 _ _ (Or.inr ⟨ρ, rfl⟩) (fun π l hπ hv => ?_))⟩
          obtain ⟨s1, s2⟩ := rsr_bd (β := 30 :: ρ) (k := 1) (rsr_b (by decide)) hπ
          have u := (((rd i' (π ++ 30 :: ρ) n' o (κ ++ l)).2.2 k4 k5).2 (en π ρ hπ.l3)).1 30 ρ q2 s1
          rw [s2, List.append_assoc] at u
          refine u (kk [] _ rBd.nl ?_)
          rw [show rZp [] = [] from rfl, List.append_nil, Sg.e15 e15]
          exact hv
        · exact Or.inl ⟨i', k1.le.2.1, k1.de.tn hT q2, fun wb ρ κ hρ => (rb i ρ n o κ).2.1 q1 go (k6 _ _ (Or.inr ⟨ρ, rfl⟩) (fun π l hπ _ => (((rd i' (π ++ 30 :: ρ) n' (o + 1) (κ ++ l)).2.2 k4 k5).2 (en π ρ hπ.l3)).2 q2 wb))⟩
    · obtain ⟨b1, b2⟩ := h.en (w := 40) hT (fun z => go z.2)
      rw [if_neg b1]
      exact Or.inl ⟨i, hi, b2, fun wb ρ κ hρ => (rb i ρ n o κ).2.2 q1 go wb⟩
  · rw [if_neg (h.sn hT q1)]
    have t0 : rTa T 0 i := Or.inr ⟨rfl, q7, q1⟩
    rcases hs _ _ _ _ h with ⟨j, j1, j2, j3⟩ | ⟨i', n', c', k1, k2, k3, k4, kc, kp, k5⟩
    · have fl := Fl.cl (x := P j) (hT.2.2.2 j j1)
      exact Or.inl ⟨j, j1, fl.em (cs _ fl _ (fl.ta j2)), fun wb ρ κ hρ => j3 wb 0 ρ κ t0 hρ.2.2⟩
    · have n30 : ∀ δ ρ : List Int32, rDl δ → rPA ρ → ¬ 30 < rIn (δ ++ ρ) := fun δ ρ hd hρ => by
        rw [rin_ap hd.l]
        rcases hρ.1 with e | e <;> (rw [e]; decide)
      have ca := fun (δ ρ : List Int32) (κ' : List (Int32 × Int32)) (hd : rDl δ) (hρ : rPA ρ) => ((rc i' (δ ++ ρ) n' o κ').2.2.2 k4 (n30 δ ρ hd hρ) (fun z => by cases z.2)).2 (by rw [rcm_d hd]; exact hρ.2.1)
      by_cases q3 : rCm (T i')
      · have es : T i' = sgt (s C) := by
          unfold sgt
          by_cases u1 : T i' = -160
          · rw [if_pos (k1.sy hT u1)]; exact u1
          · rw [if_neg (k1.sn hT u1)]
            by_cases u2 : T i' = -162
            · rw [if_pos (k1.sy hT u2)]; exact u2
            · rw [if_neg (k1.sn hT u2)]
              rcases q3 with u | u | u
              · exact absurd u u1
              · exact absurd u u2
              · exact u
        have eg : sgn (s C) = cM ((if T i' = -160 then (24 : Int32) else if T i' = -162 then 25 else 26), 0) := by
          unfold sgn
          by_cases u1 : T i' = -160
          · rw [if_pos (k1.sy hT u1), if_pos u1]; decide
          · rw [if_neg (k1.sn hT u1), if_neg u1]
            by_cases u2 : T i' = -162
            · rw [if_pos (k1.sy hT u2), if_pos u2]; decide
            · rw [if_neg (k1.sn hT u2), if_neg u2]; decide
        have t1 : ¬ T i' = -1 := by rcases q3 with u | u | u <;> (rw [u]; decide)
        rw [k1.ty hT es]
        generalize hx : (if T i' = -160 then (24 : Int32) else if T i' = -162 then 25 else 26) = x at ca eg
        have hx3 : x = 24 ∨ x = 25 ∨ x = 26 := by
          rcases q3 with u | u | u <;> (rw [u] at hx; rw [← hx]; decide)
        have x30 : x < 30 := by rcases hx3 with u | u | u <;> (rw [u]; decide)
        have xb : bnF x < 5 := by rcases hx3 with u | u | u <;> (rw [u]; decide)
        have x4 : ¬ bnF x < 4 := by rcases hx3 with u | u | u <;> (rw [u]; decide)
        have xc : ∀ ρ : List Int32, rCq (x :: ρ) = true := fun ρ => by
          show (if x = 20 ∨ x = 21 then rCq ρ else decide (x = 24 ∨ x = 25 ∨ x = 26)) = true
          rw [if_neg (by rcases hx3 with u | u | u <;> (rw [u]; decide))]
          exact decide_eq_true hx3
        have xw : cM (x, 0) = -10 ∨ cM (x, 0) = -11 ∨ cM (x, 0) = -12 := by
          rcases hx3 with u | u | u <;> (rw [u]; decide)
        have xw7 : cM (x, 0) < -7 := by rcases hx3 with u | u | u <;> (rw [u]; decide)
        have one : ∀ ρ κ, rPA ρ → (∀ δ l, rDl δ → Ve False n n' (l ++ rZp δ) (Sg (s C) c c') → W 1 (i' + 1) (x :: ρ) n' o (κ ++ l ++ rZp δ)) → W 0 i ρ n o κ := fun ρ κ hρ kk => k5 0 ρ κ t0 hρ.2.2 (fun δ l hd hv => (ca δ ρ (κ ++ l) hd hρ).1 q3 (by rw [(rsr_bd hρ.2.2 hd.bd).1, (rsr_bd hρ.2.2 hd.bd).2]; exact kk δ l hd hv))
        rcases hs _ _ _ _ (k1.ad hT t1) with ⟨j, j1, j2, j3⟩ | ⟨i2, n2, c2, m1, m2, m3, m4, mc, mp, m5⟩
        · have fl := Fl.cl (x := P j) (hT.2.2.2 j j1)
          exact Or.inl ⟨j, j1, fl.em j2, fun wb ρ κ hρ => one ρ κ hρ (fun δ l _ _ => j3 wb 1 _ _ (Or.inl rfl) (rsr_b xb))⟩
        · obtain ⟨z1, z2⟩ := m1.k15 (w := sgn (s C)) hT
          refine Or.inr ⟨i2, n2, c2 + 1, m1.em hT (by omega), by omega, by omega, by omega, ((kp.tr (Kp.e ad15) kc).tr mp kc).tr z1 (by omega), fun ρ κ hρ kk => one ρ κ hρ (fun δ l hd hv => m5 1 _ _ (Or.inl rfl) (rsr_b xb) (fun δ2 l2 hd2 hv2 => ?_))⟩
          have n3 : ¬ 30 < rIn (δ2 ++ x :: ρ) := by
            rw [rin_ap hd2.l, rin_c x30]
            rcases hρ.1 with e | e <;> (rw [e]; decide)
          refine ((rc i2 (δ2 ++ x :: ρ) n2 o _).2.2.2 m4 n3 (fun z => by cases z.2)).1 (by rw [rcm_d hd2]; exact xc ρ) ?_
          have u := kk (δ2 ++ [x]) (l ++ rZp δ ++ l2) ((hd2.bd.mo (by decide)).ap (rBd.nl.cn x30 x4)) ?_
          · rw [List.append_assoc δ2] at u
            rw [List.append_assoc κ l, List.append_assoc κ]
            exact u
          · have b := hv.bin (tb := True) hv2 (y := (x, 0)) (Or.inr (Or.inr (Or.inr (by rcases hx3 with e | e | e <;> (rw [e]; decide))))) rfl xw7 (fun _ a b _ _ => jn_cm xw a b)
            rw [Sg.cat (show c ≤ c2 by omega) (Nat.le_succ c2) z1, z2, Sg.cat kc mc mp, Sg.e15 ad15, eg, rZp_ap]
            rw [show rZp [x] = [(x, 0)] from rfl, List.append_assoc (l ++ rZp δ) l2, ← List.append_assoc l2, ← List.append_assoc (l ++ rZp δ)]
            exact b
      · have es : ¬ T i' = sgt (s C) := fun z => q3 (by
          unfold sgt at z
          by_cases u1 : T i' = -160
          · exact Or.inl u1
          · rw [if_neg (k1.sn hT u1)] at z
            by_cases u2 : T i' = -162
            · exact Or.inr (Or.inl u2)
            · rw [if_neg (k1.sn hT u2)] at z
              exact Or.inr (Or.inr z))
        have fl := Fl.cl (x := P i') (hT.2.2.2 i' k1.le.2.1)
        exact Or.inl ⟨i', k1.le.2.1, fl.em (cs _ fl _ (k1.tn hT es)), fun wb ρ κ hρ => k5 0 ρ κ t0 hρ.2.2 (fun δ l hd _ => (ca δ ρ (κ ++ l) hd hρ).2 q3 wb)⟩
theorem pln_of {t s : mI → mI} {o : Nat} (hT : TkO T P m) (hp : rStp T true W Wb) (ct : rCls t) (cs : rCls s) (hs : rSmt T P m W Wb s o) (ht : o < 8 → rTst T P m W Wb t (o + 1)) : rPln T P m W Wb (plainG t s) o := by
  intro C i n c h0 h
  obtain ⟨i1, k1, k2, k3, k4, k15, k5⟩ := not_ok hT hp 400 C i n c false (by omega) h
  unfold plainG
  rcases plK_ok hT hp ct cs hs ht k1 k4 with ⟨j, j1, j2, j3⟩ | ⟨i2, n2, c2, m1, m2, m3, mc, mp, m5⟩
  · have fl := Fl.cl (x := P j) (hT.2.2.2 j j1)
    refine Or.inl ⟨j, j1, ?_, fun wb ρ κ hρ => k5 ρ κ hρ (fun ν h1 _ h2 => j3 wb _ _ h2)⟩
    by_cases g : (notL 400 C false).2 = true
    · rw [if_pos g]
      exact fl.em j2
    · rw [if_neg g]
      exact j2
  · have kq : Kp c C (plainK t s (notL 400 C false).1) := (Kp.e k15).tr mp (Nat.le_refl c)
    have fin : ∀ (D : mI) (c3 : Nat), (∀ (ν : List Int32) (π : List Int32) (l : List (Int32 × Int32)), (∀ x, x ∈ ν → x = 27) → (notL 400 C false).2 = (if ν.length % 2 = 0 then false else true) → Ve True n n2 (l ++ rZp π) (Sg (plainK t s (notL 400 C false).1) c c2) → Ve True n n2 (l ++ rZp (π ++ ν)) (Sg D c c3)) → ∀ ρ κ, rPA ρ → (∀ π l, rBd 3 π → Ve True n n2 (l ++ rZp π) (Sg D c c3) → W 2 i2 (π ++ ρ) n2 o (κ ++ l)) → W 0 i ρ n o κ := fun D c3 hD ρ κ hρ kk => k5 ρ κ hρ (fun ν h1 hb h2 => m5 _ _ h2 (fun π l hπ hv => by
      have b27 : rBd 3 ν := fun x hx => by
        rw [h1 x hx]
        exact ⟨by decide, by decide⟩
      have u := kk (π ++ ν) l ((hπ.mo (by decide)).ap b27) (hD ν π l h1 hb hv)
      rw [List.append_assoc] at u
      exact u))
    by_cases g : (notL 400 C false).2 = true
    · rw [if_pos g]
      have hc := h.le.1
      have l1 : i < i1 := by
        rcases k3 with k3 | k3
        · rw [g] at k3; cases k3
        · exact k3
      obtain ⟨z1, z2⟩ := m1.k15 (w := -7) hT
      refine Or.inr ⟨i2, n2, c2 + 1, m1.em hT (by omega), by omega, by omega, by omega, kq.tr z1 mc, fin _ _ (fun ν π l h1 hb hv => ?_)⟩
      rw [g] at hb
      have od : ¬ ν.length % 2 = 0 := fun z => by rw [if_pos z] at hb; cases hb
      have w := hv.nts ν.length ν rfl h1
      rw [if_neg od, List.append_assoc, ← rZp_ap] at w
      rw [Sg.cat mc (Nat.le_succ c2) z1, z2]
      exact w
    · rw [if_neg g]
      refine Or.inr ⟨i2, n2, c2, m1, by omega, by omega, mc, kq, fin _ _ (fun ν π l h1 hb hv => ?_)⟩
      have ev : ν.length % 2 = 0 := Classical.byContradiction (fun z => g (by rw [if_neg z] at hb; exact hb))
      have w := hv.nts ν.length ν rfl h1
      rw [if_pos ev, List.append_assoc, ← rZp_ap] at w
      exact w
theorem and_ok {p : mI → mI} {o : Nat} (hT : TkO T P m) (hp : rStp T true W Wb) (cp : rCls p) (hr : rPln T P m W Wb p o) {n0 c0 : Nat} : ∀ (N : Nat) (C : mI) (i n c : Nat), 800 ≤ 2 * N + i → c0 ≤ c → Cst T P m C i n o c → (∃ j, j ≤ m ∧ andL p N C 14 5 = P j ∧ (Wb j → ∀ ρ α π κ, rTA ρ → rAl α → rBd 2 π → W 2 i (π ++ (α ++ ρ)) n o κ)) ∨ (∃ i' n' c', Cst T P m (andL p N C) i' n' o c' ∧ c' + i ≤ c + i' ∧ i ≤ i' ∧ ¬ T i' = -6 ∧ c ≤ c' ∧ Kp c C (andL p N C) ∧ ∀ ρ α π κ l, rTA ρ → rAl α → rBd 2 π → Ve True n0 n (l ++ rZp π) (Sg C c0 c) → (∀ π' l', rBd 2 π' → Ve True n0 n' (l' ++ rZp π') (Sg (andL p N C) c0 c') → W 2 i' (π' ++ (α ++ ρ)) n' o (κ ++ l')) → W 2 i (π ++ (α ++ ρ)) n o (κ ++ l)) := by
  intro N
  induction N with
  | zero =>
    intro C i n c hN h0 h
    have h1 := h.le
    have h2 := hT.1
    omega
  | succ N ih =>
    intro C i n c hN h0 h
    have h1 := h.le
    unfold andL
    by_cases q : T i = -6
    · rw [if_pos (h.sy hT q)]
      have one : ∀ ρ α π κ, rTA ρ → rAl α → rBd 2 π → (rPA (28 :: (α ++ ρ)) → W 0 (i + 1) (28 :: (α ++ ρ)) n o (κ ++ rZp π)) → W 2 i (π ++ (α ++ ρ)) n o κ := fun ρ α π κ hρ hα hπ kk => by
        obtain ⟨e1, e2⟩ := rsr_bd (hα.s2 hρ) hπ
        exact (hp.2.2.2 i (π ++ (α ++ ρ)) n o κ).1 q (by rw [e1, e2]; exact kk ((hα.pa hρ).c (Or.inr (Or.inl rfl))))
      rcases hr _ _ _ _ (Nat.succ_pos _) (h.ad hT (by rw [q]; decide)) with ⟨j, j1, j2, j3⟩ | ⟨i', n', c', k1, k2, k3, kc, kp, k5⟩
      · have fl := Fl.cl (x := P j) (hT.2.2.2 j j1)
        exact Or.inl ⟨j, j1, fl.an (fun I z => cp _ fl I z) N _ (fl.em j2), fun wb ρ α π κ hρ hα hπ => one ρ α π κ hρ hα hπ (fun g2 => j3 wb _ _ g2)⟩
      · obtain ⟨z1, z2⟩ := k1.k15 (w := -13) hT
        have kC : Kp c C (emiF (p (advF C)) (-13)) := ((Kp.e ad15).tr kp (Nat.le_refl c)).tr z1 kc
        have b28 : ∀ π : List Int32, rBd 3 π → rBd 2 (π ++ [28]) := fun π hπ => (hπ.mo (by decide)).ap (rBd.nl.cn (by decide) (by decide))
        have eq : ∀ π β : List Int32, π ++ 28 :: β = (π ++ [28]) ++ β := fun π β => by rw [List.append_assoc]; rfl
        rcases ih _ _ _ _ (by omega) (show c0 ≤ c' + 1 by omega) (k1.em (w := -13) hT (by omega)) with ⟨j, j1, j2, j3⟩ | ⟨i2, n2, c2, m1, m2, m3, m4, mc, mp, m5⟩
        · exact Or.inl ⟨j, j1, j2, fun wb ρ α π κ hρ hα hπ => one ρ α π κ hρ hα hπ (fun g2 => k5 _ _ g2 (fun π2 l2 hπ2 _ => by
            rw [eq]
            exact j3 wb ρ α _ _ hρ hα (b28 _ hπ2)))⟩
        · refine Or.inr ⟨i2, n2, c2, m1, by omega, by omega, m4, by omega, kC.tr mp (by omega), fun ρ α π κ l hρ hα hπ hv kk => one ρ α π (κ ++ l) hρ hα hπ (fun g2 => k5 _ _ g2 (fun π2 l2 hπ2 hv2 => ?_))⟩
          rw [eq, List.append_assoc κ l, List.append_assoc κ]
          refine m5 ρ α _ κ (l ++ rZp π ++ l2) hρ hα (b28 _ hπ2) ?_ kk
          have b := hv.bin (tb := True) hv2 (y := (28, 0)) (Or.inr (Or.inr (Or.inr (by decide)))) (show cM (28, 0) = -13 by decide) (by decide) (fun _ a b ha hb => jn_ao (Or.inl rfl) a b (ha trivial) (hb trivial))
          rw [Sg.cat (show c0 ≤ c' by omega) (Nat.le_succ c') z1, z2, Sg.cat h0 kc kp, Sg.e15 ad15, rZp_ap]
          rw [show rZp [28] = [(28, 0)] from rfl, List.append_assoc (l ++ rZp π) l2, ← List.append_assoc l2, ← List.append_assoc (l ++ rZp π)]
          exact b
    · rw [if_neg (h.sn hT q)]
      exact Or.inr ⟨i, n, c, h, Nat.le_refl _, Nat.le_refl _, q, Nat.le_refl _, Kp.rf, fun ρ α π κ l hρ hα hπ hv kk => kk π l hπ hv⟩
theorem or_ok {p : mI → mI} {o : Nat} (hT : TkO T P m) (hp : rStp T true W Wb) (cp : rCls p) (hr : rPln T P m W Wb p o) {n0 c0 : Nat} : ∀ (N k : Nat) (C : mI) (i n c e : Nat), k + N ≤ 400 → 0 < i → 800 ≤ 2 * N + i → c + e ≤ i → ((k = 0 ∧ e = 0 ∧ c = c0 ∧ n = n0) ∨ (0 < k ∧ e = 1)) → c0 ≤ c → Cst T P m C i n o c → (∃ j, j ≤ m ∧ orL p N k C 14 5 = P j ∧ (Wb j → ∀ ρ α κ, rTA ρ → rAl α → W 0 i (α ++ ρ) n o κ)) ∨ (∃ i' n' c', Cst T P m (orL p N k C) i' n' o c' ∧ c' + i ≤ c + i' + e ∧ i < i' ∧ ¬ T i' = -6 ∧ ¬ T i' = -5 ∧ c ≤ c' ∧ Kp c C (orL p N k C) ∧ ∀ ρ α κ l, rTA ρ → ((k = 0 ∧ α = [] ∧ l = []) ∨ (0 < k ∧ α = [29] ∧ Ve True n0 n l (Sg C c0 c))) → (∀ π l', rBd 1 π → Ve True n0 n' (l' ++ rZp π) (Sg (orL p N k C) c0 c') → W 2 i' (π ++ ρ) n' o (κ ++ l')) → W 0 i (α ++ ρ) n o (κ ++ l)) := by
  intro N
  induction N with
  | zero =>
    intro k C i n c e hk h0 hN he hke hc0 h
    have h1 := h.le
    have h2 := hT.1
    omega
  | succ N ih =>
    intro k C i n c e hk h0 hN he hke hc0 h
    have h1 := h.le
    unfold orL
    rcases hr _ _ _ _ h0 h with ⟨j, j1, j2, j3⟩ | ⟨i1, n1, c1, k1, k2, k3, kc, kp, k5⟩
    · have fl := Fl.cl (x := P j) (hT.2.2.2 j j1)
      have fk : Fl (P j) (orK p k C) := by
        unfold orK
        split
        · exact fl.em (fl.an (fun I z => cp _ fl I z) 400 _ j2)
        · exact fl.an (fun I z => cp _ fl I z) 400 _ j2
      refine Or.inl ⟨j, j1, ?_, fun wb ρ α κ hρ hα => j3 wb _ _ (hα.pa hρ)⟩
      split
      · exact fl.ol (fun I z => cp _ fl I z) N _ _ (fl.ad fk)
      · exact fl.n5 fk (by decide)
    · rcases and_ok hT hp cp hr (n0 := n) (c0 := c) 400 _ _ _ _ (by omega) kc k1 with ⟨j, j1, j2, j3⟩ | ⟨i2, n2, c2, m1, m2, m3, m4, mc, mp, m5⟩
      · have fl := Fl.cl (x := P j) (hT.2.2.2 j j1)
        have fk : Fl (P j) (orK p k C) := by
          unfold orK
          split
          · exact fl.em j2
          · exact j2
        refine Or.inl ⟨j, j1, ?_, fun wb ρ α κ hρ hα => k5 _ _ (hα.pa hρ) (fun π l hπ _ => j3 wb ρ α π _ hρ hα (hπ.mo (by decide)))⟩
        split
        · exact fl.ol (fun I z => cp _ fl I z) N _ _ (fl.ad fk)
        · exact fl.n5 fk (by decide)
      · have hK : Cst T P m (orK p k C) i2 n2 o (c2 + e) := by
          unfold orK
          rcases hke with ⟨rfl, rfl, _⟩ | ⟨g, rfl⟩
          · rw [if_neg (show ¬ 0 < nI 0 by decide)]
            exact m1
          · rw [if_pos (show (0 : Int32) < nI k from nI_lt (a := 0) (b := k) g (by omega))]
            exact m1.em hT (by omega)
        have kA : Kp c C (andL p 400 (p C)) := kp.tr mp kc
        have kK : Kp c C (orK p k C) := by
          unfold orK
          rcases hke with ⟨rfl, rfl, _⟩ | ⟨g, rfl⟩
          · rw [if_neg (show ¬ 0 < nI 0 by decide)]
            exact kA
          · rw [if_pos (show (0 : Int32) < nI k from nI_lt (a := 0) (b := k) g (by omega))]
            exact kA.tr (m1.k15 (w := -14) hT).1 (by omega)
        /- all that has been read comes to one value -/
        have al : ∀ (α π : List Int32) (l l2 : List (Int32 × Int32)), ((k = 0 ∧ α = [] ∧ l = []) ∨ (0 < k ∧ α = [29] ∧ Ve True n0 n l (Sg C c0 c))) → Ve True n n2 (l2 ++ rZp π) (Sg (andL p 400 (p C)) c c2) → Ve True n0 n2 (l ++ l2 ++ rZp (π ++ α)) (Sg (orK p k C) c0 (c2 + e)) := fun α π l l2 hα hv => by
          rcases hke with ⟨rfl, rfl, rfl, rfl⟩ | ⟨g, rfl⟩
          · rcases hα with ⟨_, rfl, rfl⟩ | ⟨z, _⟩
            · unfold orK
              rw [if_neg (show ¬ 0 < nI 0 by decide), List.append_nil, List.nil_append]
              exact hv
            · omega
          · rcases hα with ⟨z, _⟩ | ⟨_, rfl, hl⟩
            · omega
            · have b := hl.bin (tb := True) hv (y := (29, 0)) (Or.inr (Or.inr (Or.inr (by decide)))) (show cM (29, 0) = -14 by decide) (by decide) (fun _ a b ha hb => jn_ao (Or.inr rfl) a b (ha trivial) (hb trivial))
              obtain ⟨z1, z2⟩ := m1.k15 (w := -14) hT
              unfold orK
              rw [if_pos (show (0 : Int32) < nI k from nI_lt (a := 0) (b := k) g (by omega)), Sg.cat (show c0 ≤ c2 by omega) (Nat.le_succ c2) z1, z2, Sg.cat hc0 (show c ≤ c2 by omega) kA, rZp_ap]
              rw [show rZp [29] = [(29, 0)] from rfl, List.append_assoc l l2, ← List.append_assoc l2, ← List.append_assoc l]
              exact b
        have to2 : ∀ ρ α κ l, rTA ρ → rAl α → (∀ π l2, rBd 2 π → Ve True n n2 (l2 ++ rZp π) (Sg (andL p 400 (p C)) c c2) → W 2 i2 (π ++ (α ++ ρ)) n2 o (κ ++ l ++ l2)) → W 0 i (α ++ ρ) n o (κ ++ l) := fun ρ α κ l hρ hα kk => k5 _ _ (hα.pa hρ) (fun π l1 hπ hv => m5 ρ α π (κ ++ l) l1 hρ hα (hπ.mo (by decide)) hv kk)
        have aO : ∀ {α : List Int32} {l : List (Int32 × Int32)}, ((k = 0 ∧ α = [] ∧ l = []) ∨ (0 < k ∧ α = [29] ∧ Ve True n0 n l (Sg C c0 c))) → rAl α := fun z => z.elim (fun y => Or.inl y.2.1) (fun y => Or.inr y.2.1)
        have b1 : ∀ {π α : List Int32}, rBd 2 π → rAl α → rBd 1 (π ++ α) := fun hπ hα => (hπ.mo (by decide)).ap hα.b1
        by_cases q : T i2 = -5
        · rw [if_pos (hK.sy hT q)]
          have one : ∀ ρ α π κ, rTA ρ → rAl α → rBd 2 π → W 0 (i2 + 1) (29 :: ρ) n2 o (κ ++ rZp (π ++ α)) → W 2 i2 (π ++ (α ++ ρ)) n2 o κ := fun ρ α π κ hρ hα hπ kk => by
            obtain ⟨e1, e2⟩ := rsr_bd (rsr_tA1 hρ (k := 1) (by decide)) (b1 hπ hα)
            rw [List.append_assoc] at e1 e2
            exact (hp.2.2.2 i2 (π ++ (α ++ ρ)) n2 o κ).2.1 q (by rw [e1, e2]; exact kk)
          rcases ih (k + 1) _ _ _ _ 1 (by omega) (Nat.succ_pos _) (by omega) (by omega) (Or.inr ⟨Nat.succ_pos _, rfl⟩) (by omega) (hK.ad hT (by rw [q]; decide)) with ⟨j, j1, j2, j3⟩ | ⟨i3, n3, c3, l1, l2, l3, l4, l5, lc, lp, l6⟩
          · exact Or.inl ⟨j, j1, j2, fun wb ρ α κ hρ hα => by
              have u := to2 ρ α κ [] hρ hα (fun π l2 hπ _ => one ρ α π _ hρ hα hπ (j3 wb ρ [29] _ hρ (Or.inr rfl)))
              rw [List.append_nil] at u
              exact u⟩
          · refine Or.inr ⟨i3, n3, c3, l1, by omega, by omega, l4, l5, by omega, (kK.tr (Kp.e ad15) (Nat.le_refl c)).tr lp (by omega), fun ρ α κ l hρ hα kk => to2 ρ α κ l hρ (aO hα) (fun π l2 hπ hv => one ρ α π _ hρ (aO hα) hπ ?_)⟩
            have u := l6 ρ [29] κ (l ++ l2 ++ rZp (π ++ α)) hρ (Or.inr ⟨Nat.succ_pos _, rfl, by rw [Sg.e15 ad15]; exact al α π l l2 hα hv⟩) kk
            rw [List.append_assoc κ l, List.append_assoc κ]
            exact u
        · rw [if_neg (hK.sn hT q)]
          have e15 : put (orK p k C) 14 8 (orK p k C 14 8 + 0) 15 = orK p k C 15 := pt_n (by decide)
          refine Or.inr ⟨i2, n2, c2 + e, hK.p0, by omega, by omega, m4, q, by omega, kK.tr (Kp.e e15) (Nat.le_refl c), fun ρ α κ l hρ hα kk => to2 ρ α κ l hρ (aO hα) (fun π l2 hπ hv => ?_)⟩
          have u := kk (π ++ α) (l ++ l2) (b1 hπ (aO hα)) (by rw [Sg.e15 e15]; exact al α π l l2 hα hv)
          rw [List.append_assoc π] at u
          rw [List.append_assoc κ]
          exact u
theorem tst_of {p : mI → mI} {o : Nat} (hT : TkO T P m) (hp : rStp T true W Wb) (cp : rCls p) (hr : rPln T P m W Wb p o) : rTst T P m W Wb (testF p) o := by
  intro C i n c h0 h
  unfold testF
  have hc := h.le.1
  rcases or_ok hT hp cp hr (n0 := n) (c0 := c) 400 0 C i n c 0 (by omega) h0 (by omega) (by omega) (Or.inl ⟨rfl, rfl, rfl, rfl⟩) (Nat.le_refl c) h with ⟨j, j1, j2, j3⟩ | ⟨i', n', c', k1, k2, k3, k4, k5, kc, kp, k6⟩
  · exact Or.inl ⟨j, j1, j2, fun wb ρ κ hρ => j3 wb ρ [] κ hρ (Or.inl rfl)⟩
  · refine Or.inr ⟨i', n', c', k1, k2, k3, k4, k5, kc, kp, fun ρ κ hρ kk => ?_⟩
    have u := k6 ρ [] κ [] hρ (Or.inl ⟨rfl, rfl, rfl⟩) kk
    rw [List.append_nil] at u
    exact u
theorem pln_b (hT : TkO T P m) (hp : rStp T true W Wb) : ∀ b o, o + b = 8 → rPln T P m W Wb (plainF b) o
  | 0, o, h => pln_of hT hp (fun _ _ _ z => z) (fun V hV => hV.sf (hV.pf 0)) (smt_b hT hp h) (fun g => absurd g (by omega))
  | b + 1, o, h => pln_of hT hp (fun V hV => hV.te (hV.pF b)) (fun V hV => hV.sf (hV.pf (b + 1))) (smt_b hT hp h) (fun g => tst_of hT hp (fun V hV => hV.pF b) (pln_b hT hp b (o + 1) (by omega)))
theorem tst_b (hT : TkO T P m) (hp : rStp T true W Wb) : rTst T P m W Wb (testF (plainF 8)) 0 := tst_of hT hp (fun V hV => hV.pF 8) (pln_b hT hp 8 0 rfl)
end SO
