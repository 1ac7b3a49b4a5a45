/-! group B: PLAINS and tests, side by side -/
section SO
variable {T P : Nat → Int32} {m : Nat} {W : rWT} {Wb : Nat → Prop}
theorem not_ok {o : Nat} (hT : TkO T P m) (hp : rStp T true W Wb) : ∀ (N : Nat) (C : mI) (i n c : Nat) (b : Bool), 401 ≤ N + i → Cst T P m C i n o c → ∃ i', Cst T P m (notL N C b).1 i' n o c ∧ i ≤ i' ∧ ((notL N C b).2 = b ∨ i < i') ∧ ¬ T i' = -7 ∧ ∀ ρ κ, rPA ρ → (∀ ν, rL3 ν → rPA (ν ++ ρ) → W 0 i' (ν ++ ρ) n o κ) → W 0 i ρ n o κ := by
  intro N
  induction N with
  | zero =>
    intro C i n c b hN h
    have h1 := h.le
    have h2 := hT.1
    omega
  | succ N ih =>
    intro C i n c b hN h
    unfold notL
    by_cases q : T i = -7
    · rw [if_pos (h.sy hT q)]
      obtain ⟨i', k1, k2, k3, k4, k5⟩ := ih (advF C) (i + 1) n c (!b) (by omega) (h.ad hT (by rw [q]; decide))
      refine ⟨i', k1, by omega, Or.inr (by omega), k4, fun ρ κ hρ kk => (hp.2.1 i ρ n o κ).1 q (k5 (27 :: ρ) κ (hρ.c (Or.inl rfl)) (fun ν h1 h2 => ?_))⟩
      have e : ν ++ 27 :: ρ = (ν ++ [27]) ++ ρ := by rw [List.append_assoc]; rfl
      rw [e] at h2 ⊢
      exact kk _ (h1.ap (rL3.nl.cn (by decide))) h2
    · rw [if_neg (h.sn hT q)]
      exact ⟨i, h, Nat.le_refl _, Or.inl rfl, q, fun ρ κ hρ kk => kk [] rL3.nl hρ⟩
/-- a PLAIN behind its NOTs -/
theorem plK_ok {t s : mI → mI} {o : Nat} (hT : TkO T P m) (hp : rStp T true W Wb) (ct : rCls t) (cs : rCls s) (hs : rSmt T P m W Wb s o) (ht : o < 8 → rTst T P m W Wb t (o + 1)) {C : mI} {i n c : Nat} (h : Cst T P m C i n o c) (q7 : ¬ T i = -7) : (∃ j, j ≤ m ∧ plainK t s C 14 5 = P j ∧ (Wb j → ∀ ρ κ, rPA ρ → W 0 i ρ n o κ)) ∨ (∃ i' n' c', Cst T P m (plainK t s C) i' n' o c' ∧ c' + i ≤ c + i' ∧ i < i' ∧ ∀ ρ κ, rPA ρ → (∀ π κ', rL3 π → W 2 i' (π ++ ρ) n' o κ') → W 0 i ρ n o κ) := by
  obtain ⟨ra, rb, rc, rd⟩ := hp
  obtain ⟨hc, hi, hn, ho⟩ := h.le
  unfold plainK
  by_cases q1 : T i = -140
  · rw [if_pos (h.sy hT q1)]
    by_cases go : o < 8
    · obtain ⟨b1, b2⟩ := h.ey (w := 40) hT (by rw [q1]; decide) (by rw [q1]; decide) go
      rw [if_pos b1]
      rcases ht go _ _ _ _ (Nat.succ_pos _) b2 with ⟨j, j1, j2, j3⟩ | ⟨i', n', c', k1, k2, k3, k4, k5, k6⟩
      · have fl := Fl.cl (x := P j) (hT.2.2.2 j j1)
        exact Or.inl ⟨j, j1, fl.ta (fl.de j2), fun wb ρ κ hρ => (rb i ρ n o κ).2.1 q1 go (j3 wb _ _ (Or.inr ⟨ρ, rfl⟩))⟩
      · have en : ∀ π ρ : List Int32, rL3 π → ¬ rIn (π ++ 30 :: ρ) = -1 := fun π ρ hπ z => by
          rw [rin_ap hπ, rin_b (by decide)] at z
          exact absurd z (by decide)
        by_cases q2 : T i' = -141
        · rw [k1.de.ty hT q2]
          refine Or.inr ⟨i' + 1, n', c', k1.de.ad hT (by rw [q2]; decide), by omega, by omega, fun ρ κ hρ kk => (rb i ρ n o κ).2.1 q1 go (k6 _ _ (Or.inr ⟨ρ, rfl⟩) (fun π κ' hπ => ?_))⟩
          exact (((rd i' (π ++ 30 :: ρ) n' o κ').2.2 k4 k5).2 (en π ρ hπ)).1 30 ρ q2 (rsr_30 hπ (fun x hx => bn30 (hπ x hx))) (kk [] _ rL3.nl)
        · exact Or.inl ⟨i', k1.le.2.1, k1.de.tn hT q2, fun wb ρ κ hρ => (rb i ρ n o κ).2.1 q1 go (k6 _ _ (Or.inr ⟨ρ, rfl⟩) (fun π κ' hπ => (((rd i' (π ++ 30 :: ρ) n' (o + 1) κ').2.2 k4 k5).2 (en π ρ hπ)).2 q2 wb))⟩
    · obtain ⟨b1, b2⟩ := h.en (w := 40) hT (fun z => go z.2)
      rw [if_neg b1]
      exact Or.inl ⟨i, hi, b2, fun wb ρ κ hρ => (rb i ρ n o κ).2.2 q1 go wb⟩
  · rw [if_neg (h.sn hT q1)]
    have t0 : rTa T 0 i := Or.inr ⟨rfl, q7, q1⟩
    rcases hs _ _ _ _ h with ⟨j, j1, j2, j3⟩ | ⟨i', n', c', k1, k2, k3, k4, k5⟩
    · have fl := Fl.cl (x := P j) (hT.2.2.2 j j1)
      exact Or.inl ⟨j, j1, fl.em (cs _ fl _ (fl.ta j2)), fun wb ρ κ hρ => j3 wb 0 ρ κ t0 hρ.2.2⟩
    · have n30 : ∀ δ ρ : List Int32, rDl δ → rPA ρ → ¬ 30 < rIn (δ ++ ρ) := fun δ ρ hd hρ => by
        rw [rin_ap hd.l]
        rcases hρ.1 with e | e <;> (rw [e]; decide)
      have ca := fun (δ ρ : List Int32) (κ' : List (Int32 × Int32)) (hd : rDl δ) (hρ : rPA ρ) => ((rc i' (δ ++ ρ) n' o κ').2.2.2 k4 (n30 δ ρ hd hρ) (fun z => by cases z.2)).2 (by rw [rcm_d hd]; exact hρ.2.1)
      by_cases q3 : rCm (T i')
      · have es : T i' = sgt (s C) := by
          unfold sgt
          by_cases u1 : T i' = -160
          · rw [if_pos (k1.sy hT u1)]; exact u1
          · rw [if_neg (k1.sn hT u1)]
            by_cases u2 : T i' = -162
            · rw [if_pos (k1.sy hT u2)]; exact u2
            · rw [if_neg (k1.sn hT u2)]
              rcases q3 with u | u | u
              · exact absurd u u1
              · exact absurd u u2
              · exact u
        have t1 : ¬ T i' = -1 := by rcases q3 with u | u | u <;> (rw [u]; decide)
        rw [k1.ty hT es]
        generalize hx : (if T i' = -160 then (24 : Int32) else if T i' = -162 then 25 else 26) = x at ca
        have hx3 : x = 24 ∨ x = 25 ∨ x = 26 := by
          rcases q3 with u | u | u <;> (rw [u] at hx; rw [← hx]; decide)
        have x30 : x < 30 := by rcases hx3 with u | u | u <;> (rw [u]; decide)
        have xb : bnF x < 5 := by rcases hx3 with u | u | u <;> (rw [u]; decide)
        have xc : ∀ ρ : List Int32, rCq (x :: ρ) = true := fun ρ => by
          show (if x = 20 ∨ x = 21 then rCq ρ else decide (x = 24 ∨ x = 25 ∨ x = 26)) = true
          rw [if_neg (by rcases hx3 with u | u | u <;> (rw [u]; decide))]
          exact decide_eq_true hx3
        have one : ∀ ρ κ, rPA ρ → (∀ κ', W 1 (i' + 1) (x :: ρ) n' o κ') → W 0 i ρ n o κ := fun ρ κ hρ kk => k5 0 ρ κ t0 hρ.2.2 (fun δ κ' hd => (ca δ ρ κ' hd hρ).1 q3 (by rw [rsr_d hd, hρ.2.2]; exact kk _))
        rcases hs _ _ _ _ (k1.ad hT t1) with ⟨j, j1, j2, j3⟩ | ⟨i2, n2, c2, m1, m2, m3, m4, m5⟩
        · have fl := Fl.cl (x := P j) (hT.2.2.2 j j1)
          exact Or.inl ⟨j, j1, fl.em j2, fun wb ρ κ hρ => one ρ κ hρ (fun κ' => j3 wb 1 _ _ (Or.inl rfl) (rsr_b xb))⟩
        · refine Or.inr ⟨i2, n2, c2 + 1, m1.em hT (by omega), by omega, by omega, fun ρ κ hρ kk => one ρ κ hρ (fun κ' => m5 1 _ _ (Or.inl rfl) (rsr_b xb) (fun δ κ2 hd => ?_))⟩
          have n3 : ¬ 30 < rIn (δ ++ x :: ρ) := by
            rw [rin_ap hd.l, rin_c x30]
            rcases hρ.1 with e | e <;> (rw [e]; decide)
          refine ((rc i2 (δ ++ x :: ρ) n2 o κ2).2.2.2 m4 n3 (fun z => by cases z.2)).1 (by rw [rcm_d hd]; exact xc ρ) ?_
          have u := kk (δ ++ [x]) κ2 (hd.l.ap (rL3.nl.cn x30))
          rw [List.append_assoc] at u
          exact u
      · have es : ¬ T i' = sgt (s C) := fun z => q3 (by
          unfold sgt at z
          by_cases u1 : T i' = -160
          · exact Or.inl u1
          · rw [if_neg (k1.sn hT u1)] at z
            by_cases u2 : T i' = -162
            · exact Or.inr (Or.inl u2)
            · rw [if_neg (k1.sn hT u2)] at z
              exact Or.inr (Or.inr z))
        have fl := Fl.cl (x := P i') (hT.2.2.2 i' k1.le.2.1)
        exact Or.inl ⟨i', k1.le.2.1, fl.em (cs _ fl _ (k1.tn hT es)), fun wb ρ κ hρ => k5 0 ρ κ t0 hρ.2.2 (fun δ κ' hd => (ca δ ρ κ' hd hρ).2 q3 wb)⟩
theorem pln_of {t s : mI → mI} {o : Nat} (hT : TkO T P m) (hp : rStp T true W Wb) (ct : rCls t) (cs : rCls s) (hs : rSmt T P m W Wb s o) (ht : o < 8 → rTst T P m W Wb t (o + 1)) : rPln T P m W Wb (plainG t s) o := by
  intro C i n c h0 h
  obtain ⟨i1, k1, k2, k3, k4, k5⟩ := not_ok hT hp 400 C i n c false (by omega) h
  unfold plainG
  rcases plK_ok hT hp ct cs hs ht k1 k4 with ⟨j, j1, j2, j3⟩ | ⟨i2, n2, c2, m1, m2, m3, m5⟩
  · have fl := Fl.cl (x := P j) (hT.2.2.2 j j1)
    refine Or.inl ⟨j, j1, ?_, fun wb ρ κ hρ => k5 ρ κ hρ (fun ν h1 h2 => j3 wb _ _ h2)⟩
    by_cases g : (notL 400 C false).2 = true
    · rw [if_pos g]
      exact fl.em j2
    · rw [if_neg g]
      exact j2
  · have fin : ∀ ρ κ, rPA ρ → (∀ π κ', rL3 π → W 2 i2 (π ++ ρ) n2 o κ') → W 0 i ρ n o κ := fun ρ κ hρ kk => k5 ρ κ hρ (fun ν h1 h2 => m5 _ _ h2 (fun π κ' hπ => by
      have u := kk (π ++ ν) κ' (hπ.ap h1)
      rw [List.append_assoc] at u
      exact u))
    by_cases g : (notL 400 C false).2 = true
    · rw [if_pos g]
      have hc := h.le.1
      have l1 : i < i1 := by
        rcases k3 with k3 | k3
        · rw [g] at k3; cases k3
        · exact k3
      exact Or.inr ⟨i2, n2, c2 + 1, m1.em hT (by omega), by omega, by omega, fin⟩
    · rw [if_neg g]
      exact Or.inr ⟨i2, n2, c2, m1, by omega, by omega, fin⟩
theorem and_ok {p : mI → mI} {o : Nat} (hT : TkO T P m) (hp : rStp T true W Wb) (cp : rCls p) (hr : rPln T P m W Wb p o) : ∀ (N : Nat) (C : mI) (i n c : Nat), 800 ≤ 2 * N + i → Cst T P m C i n o c → (∃ j, j ≤ m ∧ andL p N C 14 5 = P j ∧ (Wb j → ∀ ρ π κ, rTA ρ → rL3 π → W 2 i (π ++ ρ) n o κ)) ∨ (∃ i' n' c', Cst T P m (andL p N C) i' n' o c' ∧ c' + i ≤ c + i' ∧ i ≤ i' ∧ ¬ T i' = -6 ∧ ∀ ρ π κ, rTA ρ → rL3 π → (∀ π' κ', rL3 π' → W 2 i' (π' ++ ρ) n' o κ') → W 2 i (π ++ ρ) n o κ) := by
  intro N
  induction N with
  | zero =>
    intro C i n c hN h
    have h1 := h.le
    have h2 := hT.1
    omega
  | succ N ih =>
    intro C i n c hN h
    have h1 := h.le
    unfold andL
    by_cases q : T i = -6
    · rw [if_pos (h.sy hT q)]
      have one : ∀ ρ π κ, rTA ρ → rL3 π → (∀ π1 κ', rL3 π1 → rPA (28 :: (π1 ++ ρ)) → W 0 (i + 1) (28 :: (π1 ++ ρ)) n o κ') → W 2 i (π ++ ρ) n o κ := fun ρ π κ hρ hπ kk => by
        obtain ⟨π1, e1, e2⟩ := rsr_tA hρ (k := 2) (by decide) hπ
        exact (hp.2.2.2 i (π ++ ρ) n o κ).1 q (by rw [e2]; exact kk π1 _ e1 (rPA.ap (rPA.tA hρ).1 e1 (Or.inl rfl)))
      rcases hr _ _ _ _ (Nat.succ_pos _) (h.ad hT (by rw [q]; decide)) with ⟨j, j1, j2, j3⟩ | ⟨i', n', c', k1, k2, k3, k5⟩
      · have fl := Fl.cl (x := P j) (hT.2.2.2 j j1)
        exact Or.inl ⟨j, j1, fl.an (fun I z => cp _ fl I z) N _ (fl.em j2), fun wb ρ π κ hρ hπ => one ρ π κ hρ hπ (fun π1 κ' g1 g2 => j3 wb _ _ g2)⟩
      · have go : ∀ ρ π1, rL3 π1 → ∀ π κ', rL3 π → (∀ π κ', rL3 π → W 2 i' (π ++ ρ) n' o κ') → W 2 i' (π ++ 28 :: (π1 ++ ρ)) n' o κ' := fun ρ π1 g1 π κ' hπ kk => by
          have u := kk (π ++ 28 :: π1) κ' (hπ.ap (g1.cn (by decide)))
          rw [List.append_assoc] at u
          exact u
        rcases ih _ _ _ _ (by omega) (k1.em (w := -13) hT (by omega)) with ⟨j, j1, j2, j3⟩ | ⟨i2, n2, c2, m1, m2, m3, m4, m5⟩
        · exact Or.inl ⟨j, j1, j2, fun wb ρ π κ hρ hπ => one ρ π κ hρ hπ (fun π1 κ' g1 g2 => k5 _ _ g2 (fun π2 κ2 hπ2 => go ρ π1 g1 π2 κ2 hπ2 (fun π3 κ3 hπ3 => j3 wb ρ π3 κ3 hρ hπ3)))⟩
        · exact Or.inr ⟨i2, n2, c2, m1, by omega, by omega, m4, fun ρ π κ hρ hπ kk => one ρ π κ hρ hπ (fun π1 κ' g1 g2 => k5 _ _ g2 (fun π2 κ2 hπ2 => go ρ π1 g1 π2 κ2 hπ2 (fun π3 κ3 hπ3 => m5 ρ π3 κ3 hρ hπ3 kk)))⟩
    · rw [if_neg (h.sn hT q)]
      exact Or.inr ⟨i, n, c, h, Nat.le_refl _, Nat.le_refl _, q, fun ρ π κ hρ hπ kk => kk π κ hπ⟩
theorem or_ok {p : mI → mI} {o : Nat} (hT : TkO T P m) (hp : rStp T true W Wb) (cp : rCls p) (hr : rPln T P m W Wb p o) : ∀ (N k : Nat) (C : mI) (i n c e : Nat), k + N ≤ 400 → 0 < i → 800 ≤ 2 * N + i → c + e ≤ i → ((k = 0 ∧ e = 0) ∨ (0 < k ∧ e = 1)) → Cst T P m C i n o c → (∃ j, j ≤ m ∧ orL p N k C 14 5 = P j ∧ (Wb j → ∀ ρ α κ, rTA ρ → rL3 α → rPA (α ++ ρ) → W 0 i (α ++ ρ) n o κ)) ∨ (∃ i' n' c', Cst T P m (orL p N k C) i' n' o c' ∧ c' + i ≤ c + i' + e ∧ i < i' ∧ ¬ T i' = -6 ∧ ¬ T i' = -5 ∧ ∀ ρ α κ, rTA ρ → rL3 α → rPA (α ++ ρ) → (∀ π κ', rL3 π → W 2 i' (π ++ ρ) n' o κ') → W 0 i (α ++ ρ) n o κ) := by
  intro N
  induction N with
  | zero =>
    intro k C i n c e hk h0 hN he hke h
    have h1 := h.le
    have h2 := hT.1
    omega
  | succ N ih =>
    intro k C i n c e hk h0 hN he hke h
    have h1 := h.le
    unfold orL
    rcases hr _ _ _ _ h0 h with ⟨j, j1, j2, j3⟩ | ⟨i1, n1, c1, k1, k2, k3, k5⟩
    · have fl := Fl.cl (x := P j) (hT.2.2.2 j j1)
      have fk : Fl (P j) (orK p k C) := by
        unfold orK
        split
        · exact fl.em (fl.an (fun I z => cp _ fl I z) 400 _ j2)
        · exact fl.an (fun I z => cp _ fl I z) 400 _ j2
      refine Or.inl ⟨j, j1, ?_, fun wb ρ α κ hρ hα g => j3 wb _ _ g⟩
      split
      · exact fl.ol (fun I z => cp _ fl I z) N _ _ (fl.ad fk)
      · exact fl.n5 fk (by decide)
    · have go : ∀ ρ α, rL3 α → ∀ π κ', rL3 π → (∀ π κ', rL3 π → W 2 i1 (π ++ ρ) n1 o κ') → W 2 i1 (π ++ (α ++ ρ)) n1 o κ' := fun ρ α g1 π κ' hπ kk => by
        have u := kk (π ++ α) κ' (hπ.ap g1)
        rw [List.append_assoc] at u
        exact u
      rcases and_ok hT hp cp hr 400 _ _ _ _ (by omega) k1 with ⟨j, j1, j2, j3⟩ | ⟨i2, n2, c2, m1, m2, m3, m4, m5⟩
      · have fl := Fl.cl (x := P j) (hT.2.2.2 j j1)
        have fk : Fl (P j) (orK p k C) := by
          unfold orK
          split
          · exact fl.em j2
          · exact j2
        refine Or.inl ⟨j, j1, ?_, fun wb ρ α κ hρ hα g => k5 _ _ g (fun π κ' hπ => go ρ α hα π κ' hπ (fun π2 κ2 hπ2 => j3 wb ρ π2 κ2 hρ hπ2))⟩
        split
        · exact fl.ol (fun I z => cp _ fl I z) N _ _ (fl.ad fk)
        · exact fl.n5 fk (by decide)
      · have hK : Cst T P m (orK p k C) i2 n2 o (c2 + e) := by
          unfold orK
          rcases hke with ⟨rfl, rfl⟩ | ⟨g, rfl⟩
          · rw [if_neg (show ¬ 0 < nI 0 by decide)]
            exact m1
          · rw [if_pos (show (0 : Int32) < nI k from nI_lt (a := 0) (b := k) g (by omega))]
            exact m1.em hT (by omega)
        have to2 : ∀ ρ α κ, rTA ρ → rL3 α → rPA (α ++ ρ) → (∀ π κ', rL3 π → W 2 i2 (π ++ ρ) n2 o κ') → W 0 i (α ++ ρ) n o κ := fun ρ α κ hρ hα g kk => k5 _ _ g (fun π κ' hπ => go ρ α hα π κ' hπ (fun π2 κ2 hπ2 => m5 ρ π2 κ2 hρ hπ2 kk))
        by_cases q : T i2 = -5
        · rw [if_pos (hK.sy hT q)]
          have one : ∀ ρ π κ, rTA ρ → rL3 π → (∀ α κ', rL3 α → rPA (α ++ ρ) → W 0 (i2 + 1) (α ++ ρ) n2 o κ') → W 2 i2 (π ++ ρ) n2 o κ := fun ρ π κ hρ hπ kk => by
            obtain ⟨π1, e1, e2⟩ := rsr_tA hρ (k := 1) (by decide) hπ
            exact (hp.2.2.2 i2 (π ++ ρ) n2 o κ).2.1 q (by rw [e2]; exact kk (29 :: π1) _ (e1.cn (by decide)) (rPA.ap (rPA.tA hρ).1 e1 (Or.inr rfl)))
          rcases ih (k + 1) _ _ _ _ 1 (by omega) (Nat.succ_pos _) (by omega) (by omega) (Or.inr ⟨Nat.succ_pos _, rfl⟩) (hK.ad hT (by rw [q]; decide)) with ⟨j, j1, j2, j3⟩ | ⟨i3, n3, c3, l1, l2, l3, l4, l5, l6⟩
          · exact Or.inl ⟨j, j1, j2, fun wb ρ α κ hρ hα g => to2 ρ α κ hρ hα g (fun π κ' hπ => one ρ π κ' hρ hπ (fun α2 κ2 z1 z2 => j3 wb ρ α2 κ2 hρ z1 z2))⟩
          · exact Or.inr ⟨i3, n3, c3, l1, by omega, by omega, l4, l5, fun ρ α κ hρ hα g kk => to2 ρ α κ hρ hα g (fun π κ' hπ => one ρ π κ' hρ hπ (fun α2 κ2 z1 z2 => l6 ρ α2 κ2 hρ z1 z2 kk))⟩
        · rw [if_neg (hK.sn hT q)]
          exact Or.inr ⟨i2, n2, c2 + e, hK.p0, by omega, by omega, m4, q, fun ρ α κ hρ hα g kk => to2 ρ α κ hρ hα g kk⟩
theorem tst_of {p : mI → mI} {o : Nat} (hT : TkO T P m) (hp : rStp T true W Wb) (cp : rCls p) (hr : rPln T P m W Wb p o) : rTst T P m W Wb (testF p) o := by
  intro C i n c h0 h
  unfold testF
  have hc := h.le.1
  rcases or_ok hT hp cp hr 400 0 C i n c 0 (by omega) h0 (by omega) (by omega) (Or.inl ⟨rfl, rfl⟩) h with ⟨j, j1, j2, j3⟩ | ⟨i', n', c', k1, k2, k3, k4, k5, k6⟩
  · exact Or.inl ⟨j, j1, j2, fun wb ρ κ hρ => j3 wb ρ [] κ hρ rL3.nl (rPA.tA hρ)⟩
  · exact Or.inr ⟨i', n', c', k1, k2, k3, k4, k5, fun ρ κ hρ kk => k6 ρ [] κ hρ rL3.nl (rPA.tA hρ) kk⟩
theorem pln_b (hT : TkO T P m) (hp : rStp T true W Wb) : ∀ b o, o + b = 8 → rPln T P m W Wb (plainF b) o
  | 0, o, h => pln_of hT hp (fun _ _ _ z => z) (fun V hV => hV.sf (hV.pf 0)) (smt_b hT hp h) (fun g => absurd g (by omega))
  | b + 1, o, h => pln_of hT hp (fun V hV => hV.te (hV.pF b)) (fun V hV => hV.sf (hV.pf (b + 1))) (smt_b hT hp h) (fun g => tst_of hT hp (fun V hV => hV.pF b) (pln_b hT hp b (o + 1) (by omega)))
theorem tst_b (hT : TkO T P m) (hp : rStp T true W Wb) : rTst T P m W Wb (testF (plainF 8)) 0 := tst_of hT hp (fun V hV => hV.pF 8) (pln_b hT hp 8 0 rfl)
end SO
