theorem elK_ty {c : Nat} (h1 : 14 ≤ c) (h2 : c < 17) : ∃ r : vw_C, vwCl[elK c]? = some r ∧ gTy c = .object r.1 := by
  rcases (show c = 14 ∨ c = 15 ∨ c = 16 by omega) with rfl | rfl | rfl
  · exact ⟨_, rfl, rfl⟩
  · exact ⟨_, rfl, rfl⟩
  · exact ⟨_, rfl, rfl⟩
theorem elK_lt (c : Nat) : elK c < 10 := by
  unfold elK
  repeat' split
  all_goals decide
theorem so82 : sOK (ck_s (fun _ => .aastore) 1) f_saa := by
  intro E p l e Rm s m args below meth c own nm cc nL ret n0 u0 Q pc o ls st S I L R q hC hk hf hn hu hcl hsl hfr hlo hll kk H locs lsA hH hS hl
  obtain ⟨hdg, hnx⟩ := ck_s.is hk
  unfold f_saa at hf
  split at hf
  · split at hf
    · rename_i v i a st' hok
      cases hf
      dsimp only at kk
      rw [hnx] at kk
      obtain ⟨⟨⟨ha, hk8, hk9⟩, hv, hvk⟩, hin⟩ := hok
      have hcell := g_arr hH ha (by omega) (by omega)
      obtain ⟨r, hr, hty⟩ := elK_ty hk8 hk9
      have hRA := (hC.2.2.2.2.2.2.2.2.1.2 (S.2.2.1 a) (by omega) (by omega)).2
      rw [hty] at hRA
      obtain ⟨kA, comp, k1, k2, k3, -⟩ := hRA
      have hcls := (hC.2.2.2.2.2.2.2.2.1.1 _ r hr).2
      have hcomp : comp = E.1.1 (elK (S.2.2.1 a)) := Option.some.inj (k3.symm.trans hcls.1)
      subst hcomp
      have hcls2 := hcls
      obtain ⟨kC, hkC, -⟩ := hcls.2
      have hv19 : S.2.2.1 v < 10 := by rw [hvk]; exact elK_lt _
      obtain ⟨r', hr', cellV, g1, g2, g3, -⟩ := (hH.2.1 v (hH.four (by omega)) hv).2.1 hv19
      rw [hvk] at g2
      have hfin := g_ast (p := p) (l := l) (e := e) (Rm := Rm) (m := m) (args := args) (below := below) (meth := meth) (c := c) (pc := pc) (cells := S.1 - n0) (slots := S.2.1 - u0) (lsA := lsA) (rest := List.map (grv E) st') (Q := Q) hH hS ha (by omega) (by omega) (fun _ _ => rfl) (fun _ _ => rfl) (fun _ h => up_ne h) (gvl_upR (a := a) (k := i.toNatClampNeg) (v := some v) (mkd_r hk8 (by omega))) (fun H1 locs1 g1 g2 => kk H1 locs1 lsA g1 g2 hl)
      refine W.aast hC.1 hC.2.1 hcell (fun q h => by cases h) (fun h => by cases h) k1 k2 rfl hkC ⟨hin.1, by rw [arrV_size]; exact hin.2⟩ g1 (fun q h => by rw [g3] at h; cases h) (by rw [g2]; exact hkC) (by rw [g2]; exact va_assign hcls2) rfl rfl hdg hfin
    · cases hf
  · split at hf
    · rename_i i a st' hok
      cases hf
      dsimp only at kk
      rw [hnx] at kk
      obtain ⟨⟨ha, hk8, hk9⟩, hin⟩ := hok
      have hcell := g_arr hH ha (by omega) (by omega)
      obtain ⟨r, hr, hty⟩ := elK_ty hk8 hk9
      have hAr := (hC.2.2.2.2.2.2.2.2.1.2 (S.2.2.1 a) (by omega) (by omega)).1
      rw [hty] at hAr
      have hfin := g_ast (p := p) (l := l) (e := e) (Rm := Rm) (m := m) (args := args) (below := below) (meth := meth) (c := c) (pc := pc) (cells := S.1 - n0) (slots := S.2.1 - u0) (lsA := lsA) (rest := List.map (grv E) st') (Q := Q) hH hS ha (by omega) (by omega) (fun _ _ => rfl) (fun _ _ => rfl) (fun _ h => up_ne h) (gvl_upR (a := a) (k := i.toNatClampNeg) (v := none) (mkd_r hk8 (by omega))) (fun H1 locs1 g1 g2 => kk H1 locs1 lsA g1 g2 hl)
      exact va_WaastN hC.1 hC.2.1 hcell (hAr _ _) (fun h => by cases h) (g_in hin) rfl rfl hdg hfin
    · cases hf
  · cases hf
theorem gH.grow {E : gE} {S S' : mS} {I I' : mI} {L L' : mL} {R R' : mR} {H H' : Heap} {k : Nat} (h : gH E S I L R H) (hn : S'.1 = S.1 + k) (hz : H'.size = H.size + k) (ho : ∀ q, q < H.size → H'[q]? = H[q]?)
    (hK : ∀ b, b < S.1 → S'.2.2.1 b = S.2.2.1 b) (hN : ∀ b, b < S.1 → S'.2.2.2 b = S.2.2.2 b) (hI : ∀ b, b < S.1 → I' b = I b) (hL : ∀ b, b < S.1 → L' b = L b) (hR : ∀ b, b < S.1 → R' b = R b)
    (hc : ∀ b, S.1 ≤ b → b < S.1 + k → S'.2.2.1 b < 19 ∧ gcl E S' I' L' R' b H') : gH E S' I' L' R' H' := by
  have h4 := h.1.1
  refine ⟨⟨by omega, by rw [hz, h.1.2, hn]; omega⟩, fun b hb4 hb => ?_, fun j hj => ?_⟩
  · rcases Nat.lt_or_ge b S.1 with hlt | hge
    · obtain ⟨g1, g2⟩ := h.2.1 b hb4 hlt
      refine ⟨by rw [hK b hlt]; exact g1, ?_⟩
      have e : gvl E S'.2.2.1 I' L' R' b = gvl E S.2.2.1 I L R b := by funext j; simp only [gvl, hI b hlt, hL b hlt, hR b hlt, hK b hlt]
      have hlt2 : gad E b < H.size := by
        unfold gad
        rw [if_neg (by omega), h.1.2]
        omega
      refine ⟨fun h1 => ?_, fun h1 => ?_⟩
      · rw [hK b hlt] at h1 ⊢
        obtain ⟨r, a1, a2⟩ := g2.1 h1
        exact ⟨r, a1, by rw [e]; exact a2.kept (ho _ hlt2)⟩
      · rw [hK b hlt] at h1 ⊢
        rw [ho _ hlt2, e, hN b hlt]
        exact g2.2 h1
    · exact hc b hge (by omega)
  · obtain ⟨g1, g2, g3⟩ := h.2.2 j hj
    exact ⟨by rw [hK j (by omega)]; exact g1, by rw [hN j (by omega)]; exact g2, by rw [hI j (by omega)]; exact g3⟩
theorem va_S.grow {A : Nat → Prop} {H0 H H' : Heap} {locs : List Loc} (h : va_S A H0 H locs) (hz : H.size ≤ H'.size) (ho : ∀ q, q < H.size → H'[q]? = H[q]?) : va_S A H0 H' locs :=
  ⟨Nat.le_trans h.1 hz, fun q h1 h2 => (ho q (Nat.lt_of_lt_of_le h1 h.1)).trans (h.2.1 q h1 h2), h.2.2⟩
theorem up_lt {α : Type} {f : Nat → α} {n b : Nat} {v : α} (h : b < n) : va_up f n v b = f b := if_neg (by omega)
theorem up_at {α : Type} {f : Nat → α} {n : Nat} {v : α} : va_up f n v n = v := if_pos rfl
def ck84 : gCk := fun own _ cc pc o => match vwCl[o.2.2.1]?, o.2.2.2.2.2 with
  | some r, [i1, i2, i3] => decide (decode cc pc = .ok (.new o.2.2.2.2.1, 3)) && (decide (o.2.1 = pc + 3) && (decide (o.2.2.2.1 = r.2.2) && (wd i1 (.classLink own o.2.2.2.2.1 r.1) && (wd i2 (.instantiable r.1 r.2.2) && wd i3 (.initialized r.1)))))
  | _, _ => false
theorem so84 : sOK ck84 f_new := by
  intro E p l e Rm s m args below meth c own nm cc nL ret n0 u0 Q pc o ls st S I L R q hC hk hf hn hu hcl hsl hfr hlo hll kk H locs lsA hH hS hl
  unfold ck84 at hk
  split at hk
  · rename_i r i1 i2 i3 hr he
    simp only [Bool.and_eq_true, decide_eq_true_eq] at hk
    obtain ⟨hdg, hnx, hN, h1, h2, h3⟩ := hk
    cases hf
    dsimp only at kk hcl hsl
    rw [hnx, hN] at kk
    rw [hN] at hsl
    have hts := hC.2.2.2.2.2.1
    obtain ⟨hin, -, hty, hdf, hci⟩ := gcls hr
    have hKn := hC.2.2.2.2.2.2.2.2.1.1 _ r hr
    refine W.newcK hC.1 hC.2.1 hC.2.2.2.2.1 (hts _ (wd.is h1)) (hts _ (wd.is h2)) (hts _ (wd.is h3)) rfl hdg (by omega) (by omega) hKn.2.1 rfl fun H1 kC hkC e1 z1 o1 => ?_
    have e4 : S.1 + 1 - n0 = S.1 - n0 + 1 := by omega
    have e5 : S.2.1 + r.2.2 - u0 = S.2.1 - u0 + r.2.2 := by omega
    have k2 := kk H1 locs lsA (hH.grow (k := 1) rfl z1 o1 (fun b hb => up_lt hb) (fun b hb => up_lt hb) (fun b hb => up_lt hb) (fun b hb => up_lt hb) (fun b hb => up_lt hb) (fun b hb1 hb2 => ?_)) (hS.grow (by omega) o1) hl
    · rw [e4, e5] at k2
      have e6 : List.map (grv E) (Value.ref S.1 :: st) = .ref H.size :: List.map (grv E) st := by
        show Value.ref (gad E S.1) :: _ = _
        rw [gad_new hH]
      rw [e6] at k2
      exact k2
    · have hb : b = S.1 := by omega
      subst hb
      have eK : va_up S.2.2.1 S.1 o.2.2.1 S.1 = o.2.2.1 := up_at
      refine ⟨by show va_up S.2.2.1 S.1 o.2.2.1 S.1 < 19; rw [eK]; omega, fun _ => ⟨r, by show vwCl[va_up S.2.2.1 S.1 o.2.2.1 S.1]? = _; rw [eK]; exact hr, ?_⟩, fun h9 => ?_⟩
      · show t_OB (gad E S.1) (E.1.1 (va_up S.2.2.1 S.1 o.2.2.1 S.1)) r.2.2 (E.1.2 (va_up S.2.2.1 S.1 o.2.2.1 S.1)) H1 _
        rw [eK, gad_new hH]
        refine (u_born (gty o.2.2.1) hts hin hKn hkC e1 hty).to (fun k hk => ?_)
        rw [hdf k hk]
        simp only [gvl, up_at]
        rfl
      · have : 10 ≤ va_up S.2.2.1 S.1 o.2.2.1 S.1 := h9
        rw [eK] at this
        omega
  · cases hk
def atk (k : Nat) : ArrayType := if k = 10 then .byte else if k = 11 then .int else if k = 12 then .long else .boolean
def ck85 : gCk := fun _ _ cc pc o => decide (decode cc pc = .ok (.newarray (atk o.2.2.1), 2)) && (decide (o.2.1 = pc + 2) && (decide (10 ≤ o.2.2.1 ∧ o.2.2.1 < 14) && wd (ex0 o) (.arrayClass (gTy o.2.2.1))))
theorem atk_ty {k : Nat} (h1 : 10 ≤ k) (h2 : k < 14) : newarray.typeOf (atk k) = gTy k ∧ (∀ N, N ≤ 67108864 → N * componentBytes (gTy k) ≤ 536870912) ∧ (defaultValue (gTy k) = if mkd k 0 = 0 then .int 0 else .long 0) ∧ (∀ j, mkd k j = mkd k 0) ∧ (mkd k 0 = 0 ∨ mkd k 0 = 1) ∧ (∀ U cA, va_RA U cA (gTy k) → U.vm.findClass ("[" ++ (gTy k).toString) = some cA) := by
  rcases (show k = 10 ∨ k = 11 ∨ k = 12 ∨ k = 13 by omega) with rfl | rfl | rfl | rfl
  · exact ⟨rfl, fun N h => (show N * 1 ≤ _ by omega), rfl, fun _ => rfl, Or.inl rfl, fun _ _ h => h⟩
  · exact ⟨rfl, fun N h => (show N * 4 ≤ _ by omega), rfl, fun _ => rfl, Or.inl rfl, fun _ _ h => h⟩
  · exact ⟨rfl, fun N h => (show N * 8 ≤ _ by omega), rfl, fun _ => rfl, Or.inr rfl, fun _ _ h => h⟩
  · exact ⟨rfl, fun N h => (show N * 1 ≤ _ by omega), rfl, fun _ => rfl, Or.inl rfl, fun _ _ h => h⟩
theorem so85 : sOK ck85 f_na := by
  intro E p l e Rm s m args below meth c own nm cc nL ret n0 u0 Q pc o ls st S I L R q hC hk hf hn hu hcl hsl hfr hlo hll kk H locs lsA hH hS hl
  unfold ck85 at hk
  simp only [Bool.and_eq_true, decide_eq_true_eq] at hk
  obtain ⟨hdg, hnx, ⟨hk1, hk2⟩, h1⟩ := hk
  obtain ⟨t1, t2, t3, t4, t5, t6⟩ := atk_ty hk1 hk2
  unfold f_na at hf
  split at hf
  · split at hf
    · rename_i n st' hok
      cases hf
      dsimp only at kk hcl hsl
      rw [hnx] at kk
      have hts := hC.2.2.2.2.2.1
      refine va_newaK hC.1 hC.2.1 (by rw [t1]; exact hts _ (wd.is h1)) rfl hdg rfl hok.1 rfl (by rw [t1]; exact t2 _ hok.2) (by omega) (by omega) rfl fun H1 cA e1 z1 o1 hAr hNm => ?_
      rw [t1] at e1 hNm
      have hcA : cA = E.2.1 o.2.2.1 := Option.some.inj (hNm.symm.trans (t6 _ _ (hC.2.2.2.2.2.2.2.2.1.2 o.2.2.1 hk1 (by omega)).2))
      have e4 : S.1 + 1 - n0 = S.1 - n0 + 1 := by omega
      have e5 : S.2.1 + n.toNatClampNeg - u0 = S.2.1 - u0 + n.toNatClampNeg := by omega
      have k2 := kk H1 locs lsA (hH.grow (k := 1) rfl z1 o1 (fun b hb => up_lt hb) (fun b hb => up_lt hb) (fun b hb => up_lt hb) (fun b hb => up_lt hb) (fun b hb => up_lt hb) (fun b hb1 hb2 => ?_)) (hS.grow (by omega) o1) hl
      · rw [e4, e5] at k2
        have e6 : List.map (grv E) (Value.ref S.1 :: st') = .ref H.size :: List.map (grv E) st' := by
          show Value.ref (gad E S.1) :: _ = _
          rw [gad_new hH]
        rw [e6] at k2
        exact k2
      · have hb : b = S.1 := by omega
        subst hb
        have eK : va_up S.2.2.1 S.1 o.2.2.1 S.1 = o.2.2.1 := up_at
        refine ⟨by show va_up S.2.2.1 S.1 o.2.2.1 S.1 < 19; rw [eK]; omega, fun h9 => ?_, fun _ => ?_⟩
        · have : va_up S.2.2.1 S.1 o.2.2.1 S.1 < 10 := h9
          rw [eK] at this
          omega
        · show H1[gad E S.1]? = some (arrV (E.2.1 (va_up S.2.2.1 S.1 o.2.2.1 S.1)) (va_up S.2.2.2 S.1 n.toNatClampNeg S.1) _)
          rw [eK, up_at, gad_new hH, e1, hcA, t3]
          congr 2
          funext j
          simp only [gvl, up_at, t4 j]
          rcases t5 with t | t <;> rw [t] <;> rfl
    · cases hf
  · cases hf
def ck86 : gCk := fun own _ cc pc o => match o.2.2.2.2.2 with
  | [i1, i2] => decide (decode cc pc = .ok (.anewarray o.2.2.2.1, 3)) && (decide (o.2.1 = pc + 3) && (decide (14 ≤ o.2.2.1 ∧ o.2.2.1 < 17) && (match gTy o.2.2.1 with | .object C => wd i1 (.classLink own o.2.2.2.1 C) && wsp (.arrayOver (.object C)) | _ => false)))
  | _ => false
theorem so86 : sOK ck86 f_na := by
  intro E p l e Rm s m args below meth c own nm cc nL ret n0 u0 Q pc o ls st S I L R q hC hk hf hn hu hcl hsl hfr hlo hll kk H locs lsA hH hS hl
  unfold ck86 at hk
  split at hk
  · simp only [Bool.and_eq_true, decide_eq_true_eq] at hk
    obtain ⟨hdg, hnx, ⟨hk1, hk2⟩, h1⟩ := hk
    obtain ⟨r, hr, hty⟩ := elK_ty hk1 hk2
    rw [hty] at h1
    dsimp only at h1
    simp only [Bool.and_eq_true] at h1
    unfold f_na at hf
    split at hf
    · split at hf
      · rename_i n st' hok
        cases hf
        dsimp only at kk hcl hsl
        rw [hnx] at kk
        have hts := hC.2.2.2.2.2.1
        refine W.anew hC.1 hC.2.1 hC.2.2.2.2.1 (hts _ (wd.is h1.1)) (wsp.ao h1.2 hC.2.2.2.2.2.2.2.2.2.1) rfl hdg rfl hok.1 (by have := hok.2; omega) (by omega) (by omega) fun cA kA comp f1 f2 f3 f4 => ?_
        have hRA := (hC.2.2.2.2.2.2.2.2.1.2 o.2.2.1 (by omega) (by omega)).2
        rw [hty] at hRA
        obtain ⟨kA', comp', k1, k2, k3, k4⟩ := hRA
        have hcA : cA = E.2.1 o.2.2.1 := Option.some.inj (f1.symm.trans k4)
        generalize hH1 : H.push ({ cls := cA, slots := Array.replicate n.toNatClampNeg .null, vm := .none } : Cell) = H1
        have z1 : H1.size = H.size + 1 := by rw [← hH1, Array.size_push]
        have e1 : H1[H.size]? = some (arrV cA n.toNatClampNeg (fun _ => .null)) := by rw [← hH1, Array.getElem?_push_size, ← arrV_new]
        have o1 : ∀ q : Nat, q < H.size → H1[q]? = H[q]? := fun q hq => by rw [← hH1, Array.getElem?_push, if_neg (Nat.ne_of_lt hq)]
        have e4 : S.1 + 1 - n0 = S.1 - n0 + 1 := by omega
        have e5 : S.2.1 + n.toNatClampNeg - u0 = S.2.1 - u0 + n.toNatClampNeg := by omega
        have k2 := kk H1 locs lsA (hH.grow (k := 1) rfl z1 o1 (fun b hb => up_lt hb) (fun b hb => up_lt hb) (fun b hb => up_lt hb) (fun b hb => up_lt hb) (fun b hb => up_lt hb) (fun b hb1 hb2 => ?_)) (hS.grow (by omega) o1) hl
        · rw [e4, e5] at k2
          have e6 : List.map (grv E) (Value.ref S.1 :: st') = .ref H.size :: List.map (grv E) st' := by
            show Value.ref (gad E S.1) :: _ = _
            rw [gad_new hH]
          rw [e6] at k2
          exact k2
        · have hb : b = S.1 := by omega
          subst hb
          have eK : va_up S.2.2.1 S.1 o.2.2.1 S.1 = o.2.2.1 := up_at
          refine ⟨by show va_up S.2.2.1 S.1 o.2.2.1 S.1 < 19; rw [eK]; omega, fun h9 => ?_, fun _ => ?_⟩
          · have : va_up S.2.2.1 S.1 o.2.2.1 S.1 < 10 := h9
            rw [eK] at this
            omega
          · show H1[gad E S.1]? = some (arrV (E.2.1 (va_up S.2.2.1 S.1 o.2.2.1 S.1)) (va_up S.2.2.2 S.1 n.toNatClampNeg S.1) _)
            rw [eK, up_at, gad_new hH, e1, hcA]
            congr 2
            funext j
            rw [gvl_r (show mkd (va_up S.2.2.1 S.1 o.2.2.1 S.1) j = 2 by rw [up_at]; exact mkd_r hk1 (by omega)), up_at]
            rfl
      · cases hf
    · cases hf
  · cases hk
def ck90 : gCk := fun own _ cc pc o => match o.2.2.2.2.2 with
  | [i1, i2, i3, i4] => decide (decode cc pc = .ok (.invokestatic o.2.2.2.1, 3)) && (decide (o.2.1 = pc + 3) && (decide (o.2.2.1 = 11 ∨ o.2.2.1 = 12) && (wd i1 (.methodLink own o.2.2.2.1 arraycopyName) && (wd i2 (.native arraycopyName) && (wd i3 (.static arraycopyName) && wd i4 (.initialized "java/lang/System"))))))
  | _ => false
theorem clN {z : Int32} (hz : ¬ z < 0) : z.toInt = (z.toNatClampNeg : Int) := by
  have hz0 : (0 : Int) ≤ z.toInt := by
    have := Int32.not_lt.mp hz
    simpa using Int32.le_iff_toInt_le.mp this
  show z.toInt = ((z.toInt.toNat : Nat) : Int)
  omega
section GC
variable {E : gE} {p : Program} {l : Launch} {e : Env} {Rm : Room} {s : State} {m : MethodId} {args : Array Value} {below : List Frame} {meth : Method} {c : Code} {own nm : String} {cc : ByteArray} {nL : Nat} {ret : Option FieldType} {Q : State → Prop} {pc : Nat} {S : mS} {I : mI} {L : mL} {R : mR} {H : Heap} {locs : List Loc} {cells slots : Nat} {lsA : Array Slot} {rest : List Value}
/-- a copy between two arrays of one kind of numbers -/
theorem g_cpy {α : Type} (mk : α → Value) (hC : gCx E p s m args meth c own nm cc nL ret) (hH : gH E S I L R H) (hS : va_S (gA E) s.heap H locs) (hsz : lsA.size = nL) {ix kd a b : Nat} (hlink : (Cond.methodLink own ix arraycopyName) ∈ gt) (hnat : Cond.native arraycopyName ∈ gt) (hstat : Cond.static arraycopyName ∈ gt) (hini : Cond.initialized "java/lang/System" ∈ gt)
    (h10 : 10 ≤ kd) (h19 : kd < 19) (ha : a < S.1) (hka : S.2.2.1 a = kd) (hb : b < S.1) (hkb : S.2.2.1 b = kd) {f g : Nat → α} (hf : gvl E S.2.2.1 I L R a = fun j => mk (f j)) (hg : gvl E S.2.2.1 I L R b = fun j => mk (g j)) (hprim : refKind (gTy kd) = false) (hfit : ∀ z, fits (gTy kd) (mk z) = true) (hmk : ∀ (U : State) (c9 : ClassId) (z : α), U.takes c9 (mk z))
    {sp dp n : Int32} (h1 : ¬ sp < 0) (h2 : ¬ dp < 0) (h3 : ¬ n < 0) (h4 : sp.toNatClampNeg + n.toNatClampNeg ≤ S.2.2.2 a) (h5 : dp.toNatClampNeg + n.toNatClampNeg ≤ S.2.2.2 b) (hframes : 1 ≤ Rm.frames) (hlocals : (rest.map fun v => v.category).sum + (nativeFrameWords "java/lang/System" "arraycopy" 5 + 11) ≤ Rm.locals) (hdg : decode cc pc = .ok (.invokestatic ix, 3))
    {I' : mI} {L' : mL} {R' : mR} (hI : ∀ x, x ≠ b → I' x = I x) (hL : ∀ x, x ≠ b → L' x = L x) (hR : ∀ x, x ≠ b → R' x = R x) (hv : gvl E S.2.2.1 I' L' R' b = fun j => mk (va_cpy f g sp.toNatClampNeg dp.toNatClampNeg n.toNatClampNeg j))
    (kk : ∀ (H1 : Heap) (locs1 : List Loc), gH E S I' L' R' H1 → va_S (gA E) s.heap H1 locs1 → W p l e Rm s m args below meth c H1 locs1 cells slots Q (F0 m (pc + 3) lsA rest)) : W p l e Rm s m args below meth c H locs cells slots Q (F0 m pc lsA (.int n :: .int dp :: .ref (gad E b) :: .int sp :: .ref (gad E a) :: rest)) := by
  have hts := hC.2.2.2.2.2.1
  have hb4 : 4 ≤ b := hH.four (by omega)
  have hc0 := g_arr hH ha (by omega) (by omega)
  have hc1 := g_arr hH hb (by omega) (by omega)
  rw [hka, hf] at hc0
  rw [hkb, hg] at hc1
  have hArr := (hC.2.2.2.2.2.2.2.2.1.2 kd h10 h19).1
  intro T hT X
  obtain ⟨-, k0, hk0, cm0, hkk0⟩ := hArr (S.2.2.2 a) (fun j => mk (f j))
  obtain ⟨-, k1, hk1, cm1, hkk1⟩ := hArr (S.2.2.2 b) (fun j => mk (g j))
  obtain ⟨vm', X', step⟩ := X.arraycopy hC.1 hC.2.2.2.2.1 (hts _ hlink) (hts _ hnat) (hts _ hstat) (hts _ hini) (src := gad E a) (dst := gad E b) (cs := arrV (E.2.1 kd) (S.2.2.2 a) (fun j => mk (f j))) (cd := arrV (E.2.1 kd) (S.2.2.2 b) (fun j => mk (g j))) (srcPos := sp) (destPos := dp) (n := n) (by rw [hT]; exact hc0) (by rw [hT]; exact hc1)
    (fun _ h => by cases h) (fun _ h => by cases h) (fun h => by cases h) (fun h => by cases h) hk0 hk1 hkk0 hkk1 (by simp [hprim]) h1 h2 h3
    (by rw [clN h1, clN h3, arrV_size]; omega)
    (by rw [clN h2, clN h3, arrV_size]; omega)
    (fun vm₁ _ i hi => by
      have e : (arrV (E.2.1 kd) (S.2.2.2 a) (fun j => mk (f j))).slots.getD (sp.toNatClampNeg + i) .null = mk (f (sp.toNatClampNeg + i)) := by
        rw [Array.getD_eq_getD_getElem?, arrV_read _ _ (by omega)]
        rfl
      refine ⟨?_, ?_⟩
      · rw [e]
        exact hfit _
      · rw [e]
        exact hmk _ _ _)
    (g := F0 m pc lsA (.int n :: .int dp :: .ref (gad E b) :: .int sp :: .ref (gad E a) :: rest)) rfl (by show lsA.size = _; rw [hsz, hC.2.2.2.1]) (rest := rest) rfl (by rw [hC.2.1]; exact hdg) hframes (by show 2 * 0 + _ + _ ≤ _; omega)
  have e1 : copied (arrV (E.2.1 kd) (S.2.2.2 a) (fun j => mk (f j))) (arrV (E.2.1 kd) (S.2.2.2 b) (fun j => mk (g j))) sp dp n = arrV (E.2.1 kd) (S.2.2.2 b) (fun j => mk (va_cpy f g sp.toNatClampNeg dp.toNatClampNeg n.toNatClampNeg j)) := va_copied mk (E.2.1 kd) (E.2.1 kd) f g h4
  rw [e1] at X' step
  have hl9 : gad E b < H.size := (Array.getElem?_eq_some_iff.mp hc1).1
  generalize hcell : arrV (E.2.1 kd) (S.2.2.2 b) (fun j => mk (va_cpy f g sp.toNatClampNeg dp.toNatClampNeg n.toNatClampNeg j)) = cell at X' step
  have hheap : ((T.setVm vm').setCell (gad E b) cell).heap = H.setIfInBounds (gad E b) cell := by rw [← hT]; rfl
  have oq : ∀ q : Nat, q ≠ gad E b → (H.setIfInBounds (gad E b) cell)[q]? = H[q]? := fun q hq => by simp [Array.getElem?_setIfInBounds, Ne.symm hq]
  obtain ⟨t, a1, b1⟩ := kk _ _ (hH.put hb4 (by simp) oq hI hL hR ⟨fun h9 => by omega, fun _ => by rw [hkb, hv, hcell]; simp [Array.getElem?_setIfInBounds, hl9]⟩) ⟨by simp; exact hS.1, fun q g1 g2 => by
      rw [oq q (fun e => g2 (by rw [e]; exact gad_ge hb4))]
      exact hS.2.1 q g1 g2, fun q hq => by
      rcases List.mem_append.mp hq with h | h
      · exact hS.2.2 q h
      · obtain ⟨z, -, hz⟩ := List.mem_map.mp h
        rw [← hz]
        exact gad_ge hb4⟩ _ hheap X'
  exact ⟨t, step t a1, b1⟩
end GC
theorem so90 : sOK ck90 f_ac := by
  intro E p l e Rm s m args below meth c own nm cc nL ret n0 u0 Q pc o ls st S I L R q hC hk hf hn hu hcl hsl hfr hlo hll kk H locs lsA hH hS hl
  unfold ck90 at hk
  split at hk
  · simp only [Bool.and_eq_true, decide_eq_true_eq] at hk
    obtain ⟨hdg, hnx, hkd, h1, h2, h3, h4⟩ := hk
    unfold f_ac at hf
    split at hf
    · split at hf
      · rename_i n dp b sp a st' hok
        cases hf
        dsimp only at kk
        rw [hnx] at kk
        obtain ⟨⟨⟨⟨⟨ha, hka⟩, hb, hkb⟩, g1, g2, g3⟩, g4, g5⟩, hcs⟩ := hok
        have hlo9 : ((List.map (grv E) st').map fun v => v.category).sum + (nativeFrameWords "java/lang/System" "arraycopy" 5 + 11) ≤ Rm.locals := by
          rw [cs_map]
          have : nativeFrameWords "java/lang/System" "arraycopy" 5 + 11 ≤ 56 := by decide
          omega
        rcases hkd with hkd | hkd
        · rw [hkd] at hka hkb kk
          refine g_cpy (fun z => Value.int z) hC hH hS hl.1 (wd.is h1) (wd.is h2) (wd.is h3) (wd.is h4) (kd := 11) (by decide) (by decide) ha hka hb hkb (f := I a) (g := I b) (by funext j; exact gvl_i (by rw [hka]; rfl)) (by funext j; exact gvl_i (by rw [hkb]; rfl)) rfl (fun _ => rfl) (fun _ _ _ => trivial) g1 g2 g3 g4 g5 hfr hlo9 hdg (fun _ h => up_ne h) (fun _ _ => rfl) (fun _ _ => rfl) ?_ (fun H1 locs1 y1 y2 => kk H1 locs1 lsA y1 y2 hl)
          funext j
          show gvl E S.2.2.1 (va_up I b _) L R b j = _
          rw [gvl_i (by rw [hkb]; rfl), up_at]
        · rw [hkd] at hka hkb kk
          refine g_cpy (fun z => Value.long z) hC hH hS hl.1 (wd.is h1) (wd.is h2) (wd.is h3) (wd.is h4) (kd := 12) (by decide) (by decide) ha hka hb hkb (f := L a) (g := L b) (by funext j; exact gvl_l (by rw [hka]; rfl)) (by funext j; exact gvl_l (by rw [hkb]; rfl)) rfl (fun _ => rfl) (fun _ _ _ => trivial) g1 g2 g3 g4 g5 hfr hlo9 hdg (fun _ _ => rfl) (fun _ h => up_ne h) (fun _ _ => rfl) ?_ (fun H1 locs1 y1 y2 => kk H1 locs1 lsA y1 y2 hl)
          funext j
          show gvl E S.2.2.1 I (va_up L b _) R b j = _
          rw [gvl_l (by rw [hkb]; rfl), up_at]
      · cases hf
    · cases hf
  · cases hk
