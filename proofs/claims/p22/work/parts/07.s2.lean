theorem gwX0 : ∀ w ∈ wsX00, w ∈ gt := by decide +kernel
theorem gdX0 : ∀ k, k < 10 → defaultValue (tyX0 k) = (if mkd 0 k = 0 then .int 0 else if mkd 0 k = 1 then .long 0 else .null) := by decide +kernel
theorem gwX1 : ∀ w ∈ wsX10, w ∈ gt := by decide +kernel
theorem gdX1 : ∀ k, k < 10 → defaultValue (tyX1 k) = (if mkd 1 k = 0 then .int 0 else if mkd 1 k = 1 then .long 0 else .null) := by decide +kernel
theorem gwX2 : ∀ w ∈ wsX20, w ∈ gt := by decide +kernel
theorem gdX2 : ∀ k, k < 8 → defaultValue (tyX2 k) = (if mkd 2 k = 0 then .int 0 else if mkd 2 k = 1 then .long 0 else .null) := by decide +kernel
theorem gwX3 : ∀ w ∈ wsX30, w ∈ gt := by decide +kernel
theorem gdX3 : ∀ k, k < 13 → defaultValue (tyX3 k) = (if mkd 3 k = 0 then .int 0 else if mkd 3 k = 1 then .long 0 else .null) := by decide +kernel
theorem gwX4 : ∀ w ∈ wsX40, w ∈ gt := by decide +kernel
theorem gdX4 : ∀ k, k < 11 → defaultValue (tyX4 k) = (if mkd 4 k = 0 then .int 0 else if mkd 4 k = 1 then .long 0 else .null) := by decide +kernel
theorem gwX5 : ∀ w ∈ wsX50, w ∈ gt := by decide +kernel
theorem gdX5 : ∀ k, k < 4 → defaultValue (tyX5 k) = (if mkd 5 k = 0 then .int 0 else if mkd 5 k = 1 then .long 0 else .null) := by decide +kernel
theorem gwX6 : ∀ w ∈ wsX60, w ∈ gt := by decide +kernel
theorem gdX6 : ∀ k, k < 11 → defaultValue (tyX6 k) = (if mkd 6 k = 0 then .int 0 else if mkd 6 k = 1 then .long 0 else .null) := by decide +kernel
theorem gwX7 : ∀ w ∈ wsX70, w ∈ gt := by decide +kernel
theorem gdX7 : ∀ k, k < 10 → defaultValue (tyX7 k) = (if mkd 7 k = 0 then .int 0 else if mkd 7 k = 1 then .long 0 else .null) := by decide +kernel
theorem gwX8 : ∀ w ∈ wsX80, w ∈ gt := by decide +kernel
theorem gdX8 : ∀ k, k < 14 → defaultValue (tyX8 k) = (if mkd 8 k = 0 then .int 0 else if mkd 8 k = 1 then .long 0 else .null) := by decide +kernel
theorem gwX9 : ∀ w ∈ wsX90, w ∈ gt := by decide +kernel
theorem gdX9 : ∀ k, k < 67 → defaultValue (tyX9 k) = (if mkd 9 k = 0 then .int 0 else if mkd 9 k = 1 then .long 0 else .null) := by decide +kernel
def gty (c : Nat) : Nat → FieldType := ([tyX0, tyX1, tyX2, tyX3, tyX4, tyX5, tyX6, tyX7, tyX8, tyX9] : List (Nat → FieldType)).getD c tyX0
theorem gcls {ci : Nat} {r : vw_C} (h : vwCl[ci]? = some r) : (∀ w ∈ u_ws r.1 r.2.1 r.2.2, w ∈ gt) ∧ (∀ a, a < r.2.2 → ∀ b, b < r.2.2 → a ≠ b → (r.2.1 a).2.1 ≠ (r.2.1 b).2.1) ∧ (∀ k, k < r.2.2 → parseFieldDescriptor (r.2.1 k).2.2.1 = some (gty ci k)) ∧ (∀ k, k < r.2.2 → defaultValue (gty ci k) = (if mkd ci k = 0 then .int 0 else if mkd ci k = 1 then .long 0 else .null)) ∧ ci < 10 := by
  match ci, h with
  | 0, h => cases h; exact ⟨gwX0, nmX0, tyX0_ok, gdX0, by decide⟩
  | 1, h => cases h; exact ⟨gwX1, nmX1, tyX1_ok, gdX1, by decide⟩
  | 2, h => cases h; exact ⟨gwX2, nmX2, tyX2_ok, gdX2, by decide⟩
  | 3, h => cases h; exact ⟨gwX3, nmX3, tyX3_ok, gdX3, by decide⟩
  | 4, h => cases h; exact ⟨gwX4, nmX4, tyX4_ok, gdX4, by decide⟩
  | 5, h => cases h; exact ⟨gwX5, nmX5, tyX5_ok, gdX5, by decide⟩
  | 6, h => cases h; exact ⟨gwX6, nmX6, tyX6_ok, gdX6, by decide⟩
  | 7, h => cases h; exact ⟨gwX7, nmX7, tyX7_ok, gdX7, by decide⟩
  | 8, h => cases h; exact ⟨gwX8, nmX8, tyX8_ok, gdX8, by decide⟩
  | 9, h => cases h; exact ⟨gwX9, nmX9, tyX9_ok, gdX9, by decide⟩
  | ci + 10, h => simp [vwCl] at h
theorem gvl_up {E : gE} {K : Nat → Nat} {I : mI} {L : mL} {R : mR} {a k : Nat} {v : Int32} (h : mkd (K a) k = 0) : gvl E K (va_up I a (va_up (I a) k v)) L R a = updV (gvl E K I L R a) k (.int v) := by
  funext j
  by_cases hj : j = k
  · subst hj
    simp [gvl, updV, va_up, h]
  · simp [gvl, updV, va_up, hj]
theorem gvl_upL {E : gE} {K : Nat → Nat} {I : mI} {L : mL} {R : mR} {a k : Nat} {v : Int64} (h : mkd (K a) k = 1) : gvl E K I (va_up L a (va_up (L a) k v)) R a = updV (gvl E K I L R a) k (.long v) := by
  funext j
  by_cases hj : j = k
  · subst hj
    simp [gvl, updV, va_up, h]
  · simp [gvl, updV, va_up, hj]
theorem gvl_upR {E : gE} {K : Nat → Nat} {I : mI} {L : mL} {R : mR} {a k : Nat} {v : Option Nat} (h : mkd (K a) k = 2) : gvl E K I L (va_up R a (va_up (R a) k v)) a = updV (gvl E K I L R a) k (va_rf (v.map (gad E))) := by
  funext j
  by_cases hj : j = k
  · subst hj
    simp [gvl, updV, va_up, h]
  · simp [gvl, updV, va_up, hj]
theorem gvl_i {E : gE} {K : Nat → Nat} {I : mI} {L : mL} {R : mR} {a k : Nat} (h : mkd (K a) k = 0) : gvl E K I L R a k = .int (I a k) := by simp [gvl, h]
theorem gvl_l {E : gE} {K : Nat → Nat} {I : mI} {L : mL} {R : mR} {a k : Nat} (h : mkd (K a) k = 1) : gvl E K I L R a k = .long (L a k) := by simp [gvl, h]
theorem gvl_r {E : gE} {K : Nat → Nat} {I : mI} {L : mL} {R : mR} {a k : Nat} (h : mkd (K a) k = 2) : gvl E K I L R a k = va_rf ((R a k).map (gad E)) := by simp [gvl, h]
theorem gcl.kept {E : gE} {S : mS} {I I' : mI} {L L' : mL} {R R' : mR} {b : Nat} {H H' : Heap} (h : gcl E S I L R b H) (hq : H'[gad E b]? = H[gad E b]?) (hI : I' b = I b) (hL : L' b = L b) (hR : R' b = R b) : gcl E S I' L' R' b H' := by
  have e : gvl E S.2.2.1 I' L' R' b = gvl E S.2.2.1 I L R b := by funext k; simp only [gvl, hI, hL, hR]
  refine ⟨fun h1 => ?_, fun h1 => ?_⟩
  · obtain ⟨r, g1, g2⟩ := h.1 h1
    exact ⟨r, g1, by rw [e]; exact g2.kept hq⟩
  · rw [hq, e]; exact h.2 h1
theorem gH.put {E : gE} {S : mS} {I I' : mI} {L L' : mL} {R R' : mR} {a : Nat} {H H' : Heap} (h : gH E S I L R H) (ha4 : 4 ≤ a) (hz : H'.size = H.size) (ho : ∀ q, q ≠ gad E a → H'[q]? = H[q]?) (hI : ∀ b, b ≠ a → I' b = I b) (hL : ∀ b, b ≠ a → L' b = L b) (hR : ∀ b, b ≠ a → R' b = R b) (hc : gcl E S I' L' R' a H') : gH E S I' L' R' H' := by
  refine ⟨⟨h.1.1, by rw [hz]; exact h.1.2⟩, fun b hb4 hb => ?_, fun k hk => ?_⟩
  · obtain ⟨g1, g2⟩ := h.2.1 b hb4 hb
    refine ⟨g1, ?_⟩
    by_cases e : b = a
    · subst e; exact hc
    · exact g2.kept (ho _ (fun z => e (gad_inj hb4 ha4 z))) (hI b e) (hL b e) (hR b e)
  · obtain ⟨g1, g2, g3⟩ := h.2.2 k hk
    exact ⟨g1, g2, by rw [hI k (by omega)]; exact g3⟩
theorem gH.four {E : gE} {S : mS} {I : mI} {L : mL} {R : mR} {a : Nat} {H : Heap} (h : gH E S I L R H) (hK : S.2.2.1 a < 19) : 4 ≤ a := by
  rcases Nat.lt_or_ge a 4 with q | q
  · have := (h.2.2 a q).1
    omega
  · exact q
section GO
variable {E : gE} {p : Program} {l : Launch} {e : Env} {Rm : Room} {s : State} {m : MethodId} {args : Array Value} {below : List Frame} {meth : Method} {c : Code} {own nm : String} {cc : ByteArray} {nL : Nat} {ret : Option FieldType} {Q : State → Prop} {pc : Nat} {S : mS} {I : mI} {L : mL} {R : mR} {H : Heap} {locs : List Loc} {cells slots : Nat} {lsA : Array Slot} {rest : List Value}
theorem g_get (hC : gCx E p s m args meth c own nm cc nL ret) (hH : gH E S I L R H) {a ci k ix : Nat} {r : vw_C} (ha : a < S.1) (hK : S.2.2.1 a = ci) (hc : vwCl[ci]? = some r) (hk : k < r.2.2) (hl : Cond.fieldLink own ix (r.2.1 k).1 (r.2.1 k).2.1 (r.2.1 k).2.2.1 ∈ gt) (hdg : decode cc pc = .ok (.getfield ix, 3))
    (kk : W p l e Rm s m args below meth c H locs cells slots Q (F0 m (pc + 3) lsA (gvl E S.2.2.1 I L R a k :: rest))) : W p l e Rm s m args below meth c H locs cells slots Q (F0 m pc lsA (.ref (gad E a) :: rest)) := by
  obtain ⟨hin, -, -, -, hci⟩ := gcls hc
  have ha4 : 4 ≤ a := hH.four (by omega)
  obtain ⟨r', h1, cell, q1, q2, q3, q4⟩ := (hH.2.1 a ha4 ha).2.1 (by omega)
  rw [hK] at h1
  have hr : r' = r := Option.some.inj (h1.symm.trans hc)
  subst hr
  have hts := hC.2.2.2.2.2.1
  obtain ⟨hS9, hfc, kC, hkC, hkind⟩ := hC.2.2.2.2.2.2.2.2.1.1 ci _ hc
  obtain ⟨cf, kf, fi, f, hi, hsl⟩ := hS9 k hk
  refine W.getf hC.1 hC.2.1 hC.2.2.2.2.1 (hts _ hl) hi (u_facts hfc hkC (u_lays hts hin hk) hi).1 q1 (by rw [q3]; exact fun h => by cases h) (v := gvl E S.2.2.1 I L R a k) ?_ rfl rfl hdg kk
  rw [hsl, ← hK]
  exact q4 k hk
theorem g_apart (hC : gCx E p s m args meth c own nm cc nL ret) {ci : Nat} {r : vw_C} (hc : vwCl[ci]? = some r) : ∀ x y, x < r.2.2 → y < r.2.2 → x ≠ y → (E.1.2 ci) x ≠ (E.1.2 ci) y := by
  intro x y hx hy hne
  obtain ⟨hin, hnm, hty, -, hci⟩ := gcls hc
  have hts := hC.2.2.2.2.2.1
  obtain ⟨hS9, -⟩ := hC.2.2.2.2.2.2.2.2.1.1 ci _ hc
  obtain ⟨_, _, _, fa, hia, ea⟩ := hS9 x hx
  obtain ⟨_, _, _, fb, hib, eb⟩ := hS9 y hy
  rw [← ea, ← eb]
  refine u_apart (u_lays hts hin hx) (u_lays hts hin hy) hia hib ?_
  rw [(State.fieldFound?_type hia (hty x hx)).1, (State.fieldFound?_type hib (hty y hy)).1]
  exact hnm x hx y hy hne
/-- a field is written: of any field, or a final one in its maker -/
theorem g_put (hC : gCx E p s m args meth c own nm cc nL ret) (hH : gH E S I L R H) (hS : va_S (gA E) s.heap H locs) {a ci k ix : Nat} {r : vw_C} {I' : mI} {L' : mL} {R' : mR} {v : Value} {ty : FieldType} (ha : a < S.1) (hK : S.2.2.1 a = ci) (hc : vwCl[ci]? = some r) (hk : k < r.2.2) (hl : Cond.fieldLink own ix (r.2.1 k).1 (r.2.1 k).2.1 (r.2.1 k).2.2.1 ∈ gt)
    (hfin : (r.2.1 k).2.2.2 = false ∨ ((r.2.1 k).2.2.2 = true ∧ nm = "<init>" ∧ (r.2.1 k).1 = own)) (hd : parseFieldDescriptor (r.2.1 k).2.2.1 = some ty) (hna : narrow ty v = v) (hfit : fits ty v = true) (hdg : decode cc pc = .ok (.putfield ix, 3))
    (hI : ∀ b, b ≠ a → I' b = I b) (hL : ∀ b, b ≠ a → L' b = L b) (hR : ∀ b, b ≠ a → R' b = R b) (hv : gvl E S.2.2.1 I' L' R' a = updV (gvl E S.2.2.1 I L R a) k v)
    (kk : ∀ (H1 : Heap) (locs1 : List Loc), gH E S I' L' R' H1 → va_S (gA E) s.heap H1 locs1 → W p l e Rm s m args below meth c H1 locs1 cells slots Q (F0 m (pc + 3) lsA rest)) : W p l e Rm s m args below meth c H locs cells slots Q (F0 m pc lsA (v :: .ref (gad E a) :: rest)) := by
  have hap := g_apart hC hc
  obtain ⟨hin, -, -, -, hci⟩ := gcls hc
  have ha4 : 4 ≤ a := hH.four (by omega)
  obtain ⟨r', h1, cell, q1, q2, q3, q4⟩ := (hH.2.1 a ha4 ha).2.1 (by omega)
  rw [hK] at h1 q2 q4
  have hr : r' = r := Option.some.inj (h1.symm.trans hc)
  subst hr
  have hts := hC.2.2.2.2.2.1
  obtain ⟨hS9, hfc, kC, hkC, hkind⟩ := hC.2.2.2.2.2.2.2.2.1.1 ci _ hc
  obtain ⟨cf, kf, fi, f, hi, hsl⟩ := hS9 k hk
  have hlay := hts _ (hin _ (u_in_lay hk))
  have hst := (u_facts hfc hkC (u_lays hts hin hk) hi).1
  have fin : ∀ H' : Heap, H'[gad E a]? = some (cell.setSlot f.slot v) → H'.size = H.size → (∀ q, q ≠ gad E a → H'[q]? = H[q]?) → W p l e Rm s m args below meth c H' (locs ++ [⟨gad E a, f.slot⟩]) cells slots Q (F0 m (pc + 3) lsA rest) := by
    intro H' e1 e2 e3
    rw [hsl] at e1
    refine kk H' _ (hH.put ha4 e2 e3 hI hL hR ⟨fun _ => ⟨r', by rw [hK]; exact hc, ?_⟩, fun h9 => by omega⟩) (hS.put e2 e3 (gad_ge ha4))
    rw [hv, hK]
    exact ⟨_, e1, q2, q3, t_set q4 hap hk v⟩
  rcases hfin with hfin | ⟨hfin, hin2, hdecl⟩
  · unfold u_lay at hlay
    rw [if_neg (by rw [hfin]; decide)] at hlay
    have h6 := u_store hfc hkC hkind hlay hi hd hna hfit
    exact W.putK hC.1 hC.2.1 (f := f) ⟨hC.2.2.2.2.1, hts _ hl, ⟨_, _, _, hi⟩, hst⟩ (by rw [q2]; exact h6) q1 q3 (by rw [hsl]; exact k2_hasslot (q4 k hk)) rfl rfl hdg fin
  · unfold u_lay at hlay
    rw [if_pos hfin] at hlay
    have hcf : m.cls = cf := by
      obtain ⟨_, _, c', _, _, _, -, -, hf', -, -, -, hown2, -⟩ := Cond.laysFinal_spec hlay
      have e1 : c' = cf := by have := hi.symm.trans hf'; simp at this; exact this.1.symm
      rw [hdecl] at hown2
      rw [← e1]; exact Option.some.inj (hC.2.2.2.2.1.symm.trans hown2)
    have h6 := u_fits hfc hkC hkind (Or.inr hlay) hi hd hna hfit
    exact W.putFinK hC.1 hC.2.1 hC.2.2.2.2.1 (hts _ hl) hi hst hcf (hC.2.2.2.2.2.2.2.1 hin2) (by rw [q2]; exact h6) q1 q3 (by rw [hsl]; exact k2_hasslot (q4 k hk)) rfl rfl hdg fin
theorem g_arr (hH : gH E S I L R H) {a : Nat} (ha : a < S.1) (h1 : 10 ≤ S.2.2.1 a) (h2 : S.2.2.1 a < 19) : H[gad E a]? = some (arrV (E.2.1 (S.2.2.1 a)) (S.2.2.2 a) (gvl E S.2.2.1 I L R a)) := (hH.2.1 a (hH.four h2) ha).2.2 h1
theorem g_in {cI : ClassId} {n : Nat} {f : Nat → Value} {i : Int32} (h : ¬ i < 0 ∧ i.toNatClampNeg < n) : ¬ (i < 0 ∨ (arrV cI n f).slots.size ≤ i.toNatClampNeg) := by
  rw [arrV_size]
  rintro (q | q)
  · exact h.1 q
  · omega
/-- behind a store into an array -/
theorem g_ast (hH : gH E S I L R H) (hS : va_S (gA E) s.heap H locs) {a k : Nat} {v : Value} {I' : mI} {L' : mL} {R' : mR} (ha : a < S.1) (h1 : 10 ≤ S.2.2.1 a) (h2 : S.2.2.1 a < 19) (hI : ∀ b, b ≠ a → I' b = I b) (hL : ∀ b, b ≠ a → L' b = L b) (hR : ∀ b, b ≠ a → R' b = R b) (hv : gvl E S.2.2.1 I' L' R' a = updV (gvl E S.2.2.1 I L R a) k v)
    (kk : ∀ (H1 : Heap) (locs1 : List Loc), gH E S I' L' R' H1 → va_S (gA E) s.heap H1 locs1 → W p l e Rm s m args below meth c H1 locs1 cells slots Q (F0 m (pc + 1) lsA rest)) :
    ∀ H' : Heap, H'[gad E a]? = some ((arrV (E.2.1 (S.2.2.1 a)) (S.2.2.2 a) (gvl E S.2.2.1 I L R a)).setSlot k v) → H'.size = H.size → (∀ q, q ≠ gad E a → H'[q]? = H[q]?) → W p l e Rm s m args below meth c H' (locs ++ [⟨gad E a, k⟩]) cells slots Q (F0 m (pc + 1) lsA rest) := by
  intro H' e1 e2 e3
  have ha4 := hH.four h2
  refine kk H' _ (hH.put ha4 e2 e3 hI hL hR ⟨fun h9 => by omega, fun _ => ?_⟩) (hS.put e2 e3 (gad_ge ha4))
  rw [e1, arrV_store, hv]
end GO
theorem up_ne {α : Type} {f : Nat → α} {a b : Nat} {v : α} (h : b ≠ a) : va_up f a v b = f b := if_neg h
def ck67 : gCk := fun own nm cc pc o => match vwCl[o.2.2.1]? with
  | none => false
  | some r => decide (o.2.2.2.1 < r.2.2) && (decide (decode cc pc = .ok (.getfield o.2.2.2.2.1, 3)) && (decide (o.2.1 = pc + 3) && (wd (ex0 o) (.fieldLink own o.2.2.2.2.1 (r.2.1 o.2.2.2.1).1 (r.2.1 o.2.2.2.1).2.1 (r.2.1 o.2.2.2.1).2.2.1) && (decide (mkd o.2.2.1 o.2.2.2.1 = 0)))))
theorem so67 : sOK ck67 f_gi := by
  intro E p l e Rm s m args below meth c own nm cc nL ret n0 u0 Q pc o ls st S I L R q hC hk hf hn hu hcl hsl hfr hlo hll kk H locs lsA hH hS hl
  unfold ck67 at hk
  split at hk
  · cases hk
  · rename_i r hr
    simp only [Bool.and_eq_true, decide_eq_true_eq] at hk
    obtain ⟨h1, hdg, hnx, h2, h3⟩ := hk
    unfold f_gi at hf
    split at hf
    · split at hf
      · rename_i hok
        cases hf
        dsimp only at kk
        rw [hnx] at kk
        have k2 := kk H locs lsA hH hS hl
        refine g_get hC hH hok.1 hok.2 hr h1 (wd.is h2) hdg ?_
        rw [gvl_i (by rw [hok.2]; exact h3)]
        exact k2
      · cases hf
    · cases hf
def ck68 : gCk := fun own nm cc pc o => match vwCl[o.2.2.1]? with
  | none => false
  | some r => decide (o.2.2.2.1 < r.2.2) && (decide (decode cc pc = .ok (.getfield o.2.2.2.2.1, 3)) && (decide (o.2.1 = pc + 3) && (wd (ex0 o) (.fieldLink own o.2.2.2.2.1 (r.2.1 o.2.2.2.1).1 (r.2.1 o.2.2.2.1).2.1 (r.2.1 o.2.2.2.1).2.2.1) && (decide (mkd o.2.2.1 o.2.2.2.1 = 1)))))
theorem so68 : sOK ck68 f_gl := by
  intro E p l e Rm s m args below meth c own nm cc nL ret n0 u0 Q pc o ls st S I L R q hC hk hf hn hu hcl hsl hfr hlo hll kk H locs lsA hH hS hl
  unfold ck68 at hk
  split at hk
  · cases hk
  · rename_i r hr
    simp only [Bool.and_eq_true, decide_eq_true_eq] at hk
    obtain ⟨h1, hdg, hnx, h2, h3⟩ := hk
    unfold f_gl at hf
    split at hf
    · split at hf
      · rename_i hok
        cases hf
        dsimp only at kk
        rw [hnx] at kk
        have k2 := kk H locs lsA hH hS hl
        refine g_get hC hH hok.1 hok.2 hr h1 (wd.is h2) hdg ?_
        rw [gvl_l (by rw [hok.2]; exact h3)]
        exact k2
      · cases hf
    · cases hf
def ck69 : gCk := fun own nm cc pc o => match vwCl[o.2.2.1]? with
  | none => false
  | some r => decide (o.2.2.2.1 < r.2.2) && (decide (decode cc pc = .ok (.getfield o.2.2.2.2.1, 3)) && (decide (o.2.1 = pc + 3) && (wd (ex0 o) (.fieldLink own o.2.2.2.2.1 (r.2.1 o.2.2.2.1).1 (r.2.1 o.2.2.2.1).2.1 (r.2.1 o.2.2.2.1).2.2.1) && (decide (mkd o.2.2.1 o.2.2.2.1 = 2)))))
theorem so69 : sOK ck69 f_gr := by
  intro E p l e Rm s m args below meth c own nm cc nL ret n0 u0 Q pc o ls st S I L R q hC hk hf hn hu hcl hsl hfr hlo hll kk H locs lsA hH hS hl
  unfold ck69 at hk
  split at hk
  · cases hk
  · rename_i r hr
    simp only [Bool.and_eq_true, decide_eq_true_eq] at hk
    obtain ⟨h1, hdg, hnx, h2, h3⟩ := hk
    unfold f_gr at hf
    split at hf
    · split at hf
      · rename_i hok
        cases hf
        dsimp only at kk
        rw [hnx] at kk
        have k2 := kk H locs lsA hH hS hl
        refine g_get hC hH hok.1 hok.2 hr h1 (wd.is h2) hdg ?_
        rw [gvl_r (by rw [hok.2]; exact h3)]
        rw [← grv_rf]; exact k2
      · cases hf
    · cases hf
theorem nz {v : Int32} (h : v = 0 ∨ v = 1) : narrow .boolean (.int v) = .int v ∧ fits .boolean (.int v) = true := by
  rcases h with rfl | rfl
  · exact ⟨by decide, by decide⟩
  · exact ⟨by decide, by decide⟩
theorem nr {ty : FieldType} (h : ty.isReference = true) (v : Option Nat) : narrow ty (va_rf v) = va_rf v ∧ fits ty (va_rf v) = true := by
  cases ty <;> first | (cases v <;> exact ⟨rfl, rfl⟩) | cases h
def ck70 : gCk := fun own nm cc pc o => match vwCl[o.2.2.1]? with
  | none => false
  | some r => decide (o.2.2.2.1 < r.2.2) && (decide (decode cc pc = .ok (.putfield o.2.2.2.2.1, 3)) && (decide (o.2.1 = pc + 3) && (wd (ex0 o) (.fieldLink own o.2.2.2.2.1 (r.2.1 o.2.2.2.1).1 (r.2.1 o.2.2.2.1).2.1 (r.2.1 o.2.2.2.1).2.2.1) && (decide (mkd o.2.2.1 o.2.2.2.1 = 0) && (decide ((r.2.1 o.2.2.2.1).2.2.2 = false) && decide (parseFieldDescriptor (r.2.1 o.2.2.2.1).2.2.1 = some .int))))))
theorem so70 : sOK ck70 f_pi := by
  intro E p l e Rm s m args below meth c own nm cc nL ret n0 u0 Q pc o ls st S I L R q hC hk hf hn hu hcl hsl hfr hlo hll kk H locs lsA hH hS hl
  unfold ck70 at hk
  split at hk
  · cases hk
  · rename_i r hr
    simp only [Bool.and_eq_true, decide_eq_true_eq] at hk
    obtain ⟨h1, hdg, hnx, h2, h3, hfin, hty⟩ := hk
    have hty := hty
    unfold f_pi at hf
    split at hf
    · split at hf
      · rename_i hok
        cases hf
        dsimp only at kk
        rw [hnx] at kk
        refine g_put hC hH hS (I' := _) (L' := _) (R' := _) hok.1 hok.2 hr h1 (wd.is h2) (Or.inl hfin) hty rfl rfl hdg (fun _ h => up_ne h) (fun _ _ => rfl) (fun _ _ => rfl) (gvl_up (by rw [hok.2]; exact h3)) (fun H1 locs1 g1 g2 => kk H1 locs1 lsA g1 g2 hl)
      · cases hf
    · cases hf
def ck92 : gCk := fun own nm cc pc o => match vwCl[o.2.2.1]? with
  | none => false
  | some r => decide (o.2.2.2.1 < r.2.2) && (decide (decode cc pc = .ok (.putfield o.2.2.2.2.1, 3)) && (decide (o.2.1 = pc + 3) && (wd (ex0 o) (.fieldLink own o.2.2.2.2.1 (r.2.1 o.2.2.2.1).1 (r.2.1 o.2.2.2.1).2.1 (r.2.1 o.2.2.2.1).2.2.1) && (decide (mkd o.2.2.1 o.2.2.2.1 = 0) && ((decide ((r.2.1 o.2.2.2.1).2.2.2 = true) && (decide (nm = "<init>") && decide ((r.2.1 o.2.2.2.1).1 = own))) && decide (parseFieldDescriptor (r.2.1 o.2.2.2.1).2.2.1 = some .int))))))
theorem so92 : sOK ck92 f_pi := by
  intro E p l e Rm s m args below meth c own nm cc nL ret n0 u0 Q pc o ls st S I L R q hC hk hf hn hu hcl hsl hfr hlo hll kk H locs lsA hH hS hl
  unfold ck92 at hk
  split at hk
  · cases hk
  · rename_i r hr
    simp only [Bool.and_eq_true, decide_eq_true_eq] at hk
    obtain ⟨h1, hdg, hnx, h2, h3, hfin, hty⟩ := hk
    have hty := hty
    unfold f_pi at hf
    split at hf
    · split at hf
      · rename_i hok
        cases hf
        dsimp only at kk
        rw [hnx] at kk
        refine g_put hC hH hS (I' := _) (L' := _) (R' := _) hok.1 hok.2 hr h1 (wd.is h2) (Or.inr hfin) hty rfl rfl hdg (fun _ h => up_ne h) (fun _ _ => rfl) (fun _ _ => rfl) (gvl_up (by rw [hok.2]; exact h3)) (fun H1 locs1 g1 g2 => kk H1 locs1 lsA g1 g2 hl)
      · cases hf
    · cases hf
def ck71 : gCk := fun own nm cc pc o => match vwCl[o.2.2.1]? with
  | none => false
  | some r => decide (o.2.2.2.1 < r.2.2) && (decide (decode cc pc = .ok (.putfield o.2.2.2.2.1, 3)) && (decide (o.2.1 = pc + 3) && (wd (ex0 o) (.fieldLink own o.2.2.2.2.1 (r.2.1 o.2.2.2.1).1 (r.2.1 o.2.2.2.1).2.1 (r.2.1 o.2.2.2.1).2.2.1) && (decide (mkd o.2.2.1 o.2.2.2.1 = 1) && (decide ((r.2.1 o.2.2.2.1).2.2.2 = false) && decide (parseFieldDescriptor (r.2.1 o.2.2.2.1).2.2.1 = some .long))))))
theorem so71 : sOK ck71 f_pl := by
  intro E p l e Rm s m args below meth c own nm cc nL ret n0 u0 Q pc o ls st S I L R q hC hk hf hn hu hcl hsl hfr hlo hll kk H locs lsA hH hS hl
  unfold ck71 at hk
  split at hk
  · cases hk
  · rename_i r hr
    simp only [Bool.and_eq_true, decide_eq_true_eq] at hk
    obtain ⟨h1, hdg, hnx, h2, h3, hfin, hty⟩ := hk
    have hty := hty
    unfold f_pl at hf
    split at hf
    · split at hf
      · rename_i hok
        cases hf
        dsimp only at kk
        rw [hnx] at kk
        refine g_put hC hH hS (I' := _) (L' := _) (R' := _) hok.1 hok.2 hr h1 (wd.is h2) (Or.inl hfin) hty rfl rfl hdg (fun _ _ => rfl) (fun _ h => up_ne h) (fun _ _ => rfl) (gvl_upL (by rw [hok.2]; exact h3)) (fun H1 locs1 g1 g2 => kk H1 locs1 lsA g1 g2 hl)
      · cases hf
    · cases hf
def ck93 : gCk := fun own nm cc pc o => match vwCl[o.2.2.1]? with
  | none => false
  | some r => decide (o.2.2.2.1 < r.2.2) && (decide (decode cc pc = .ok (.putfield o.2.2.2.2.1, 3)) && (decide (o.2.1 = pc + 3) && (wd (ex0 o) (.fieldLink own o.2.2.2.2.1 (r.2.1 o.2.2.2.1).1 (r.2.1 o.2.2.2.1).2.1 (r.2.1 o.2.2.2.1).2.2.1) && (decide (mkd o.2.2.1 o.2.2.2.1 = 1) && ((decide ((r.2.1 o.2.2.2.1).2.2.2 = true) && (decide (nm = "<init>") && decide ((r.2.1 o.2.2.2.1).1 = own))) && decide (parseFieldDescriptor (r.2.1 o.2.2.2.1).2.2.1 = some .long))))))
theorem so93 : sOK ck93 f_pl := by
  intro E p l e Rm s m args below meth c own nm cc nL ret n0 u0 Q pc o ls st S I L R q hC hk hf hn hu hcl hsl hfr hlo hll kk H locs lsA hH hS hl
  unfold ck93 at hk
  split at hk
  · cases hk
  · rename_i r hr
    simp only [Bool.and_eq_true, decide_eq_true_eq] at hk
    obtain ⟨h1, hdg, hnx, h2, h3, hfin, hty⟩ := hk
    have hty := hty
    unfold f_pl at hf
    split at hf
    · split at hf
      · rename_i hok
        cases hf
        dsimp only at kk
        rw [hnx] at kk
        refine g_put hC hH hS (I' := _) (L' := _) (R' := _) hok.1 hok.2 hr h1 (wd.is h2) (Or.inr hfin) hty rfl rfl hdg (fun _ _ => rfl) (fun _ h => up_ne h) (fun _ _ => rfl) (gvl_upL (by rw [hok.2]; exact h3)) (fun H1 locs1 g1 g2 => kk H1 locs1 lsA g1 g2 hl)
      · cases hf
    · cases hf
def ck95 : gCk := fun own nm cc pc o => match vwCl[o.2.2.1]? with
  | none => false
  | some r => decide (o.2.2.2.1 < r.2.2) && (decide (decode cc pc = .ok (.putfield o.2.2.2.2.1, 3)) && (decide (o.2.1 = pc + 3) && (wd (ex0 o) (.fieldLink own o.2.2.2.2.1 (r.2.1 o.2.2.2.1).1 (r.2.1 o.2.2.2.1).2.1 (r.2.1 o.2.2.2.1).2.2.1) && (decide (mkd o.2.2.1 o.2.2.2.1 = 0) && (decide ((r.2.1 o.2.2.2.1).2.2.2 = false) && decide (parseFieldDescriptor (r.2.1 o.2.2.2.1).2.2.1 = some .boolean))))))
theorem so95 : sOK ck95 f_pz := by
  intro E p l e Rm s m args below meth c own nm cc nL ret n0 u0 Q pc o ls st S I L R q hC hk hf hn hu hcl hsl hfr hlo hll kk H locs lsA hH hS hl
  unfold ck95 at hk
  split at hk
  · cases hk
  · rename_i r hr
    simp only [Bool.and_eq_true, decide_eq_true_eq] at hk
    obtain ⟨h1, hdg, hnx, h2, h3, hfin, hty⟩ := hk
    have hty := hty
    unfold f_pz at hf
    split at hf
    · split at hf
      · rename_i hok
        cases hf
        dsimp only at kk
        rw [hnx] at kk
        refine g_put hC hH hS (I' := _) (L' := _) (R' := _) hok.1.1 hok.1.2 hr h1 (wd.is h2) (Or.inl hfin) hty (nz hok.2).1 (nz hok.2).2 hdg (fun _ h => up_ne h) (fun _ _ => rfl) (fun _ _ => rfl) (gvl_up (by rw [hok.1.2]; exact h3)) (fun H1 locs1 g1 g2 => kk H1 locs1 lsA g1 g2 hl)
      · cases hf
    · cases hf
def ck96 : gCk := fun own nm cc pc o => match vwCl[o.2.2.1]? with
  | none => false
  | some r => decide (o.2.2.2.1 < r.2.2) && (decide (decode cc pc = .ok (.putfield o.2.2.2.2.1, 3)) && (decide (o.2.1 = pc + 3) && (wd (ex0 o) (.fieldLink own o.2.2.2.2.1 (r.2.1 o.2.2.2.1).1 (r.2.1 o.2.2.2.1).2.1 (r.2.1 o.2.2.2.1).2.2.1) && (decide (mkd o.2.2.1 o.2.2.2.1 = 0) && ((decide ((r.2.1 o.2.2.2.1).2.2.2 = true) && (decide (nm = "<init>") && decide ((r.2.1 o.2.2.2.1).1 = own))) && decide (parseFieldDescriptor (r.2.1 o.2.2.2.1).2.2.1 = some .boolean))))))
theorem so96 : sOK ck96 f_pz := by
  intro E p l e Rm s m args below meth c own nm cc nL ret n0 u0 Q pc o ls st S I L R q hC hk hf hn hu hcl hsl hfr hlo hll kk H locs lsA hH hS hl
  unfold ck96 at hk
  split at hk
  · cases hk
  · rename_i r hr
    simp only [Bool.and_eq_true, decide_eq_true_eq] at hk
    obtain ⟨h1, hdg, hnx, h2, h3, hfin, hty⟩ := hk
    have hty := hty
    unfold f_pz at hf
    split at hf
    · split at hf
      · rename_i hok
        cases hf
        dsimp only at kk
        rw [hnx] at kk
        refine g_put hC hH hS (I' := _) (L' := _) (R' := _) hok.1.1 hok.1.2 hr h1 (wd.is h2) (Or.inr hfin) hty (nz hok.2).1 (nz hok.2).2 hdg (fun _ h => up_ne h) (fun _ _ => rfl) (fun _ _ => rfl) (gvl_up (by rw [hok.1.2]; exact h3)) (fun H1 locs1 g1 g2 => kk H1 locs1 lsA g1 g2 hl)
      · cases hf
    · cases hf
def ck72 : gCk := fun own nm cc pc o => match vwCl[o.2.2.1]? with
  | none => false
  | some r => decide (o.2.2.2.1 < r.2.2) && (decide (decode cc pc = .ok (.putfield o.2.2.2.2.1, 3)) && (decide (o.2.1 = pc + 3) && (wd (ex0 o) (.fieldLink own o.2.2.2.2.1 (r.2.1 o.2.2.2.1).1 (r.2.1 o.2.2.2.1).2.1 (r.2.1 o.2.2.2.1).2.2.1) && (decide (mkd o.2.2.1 o.2.2.2.1 = 2) && (decide ((r.2.1 o.2.2.2.1).2.2.2 = false) && (match parseFieldDescriptor (r.2.1 o.2.2.2.1).2.2.1 with | some ty => ty.isReference | none => false))))))
theorem so72 : sOK ck72 f_pr := by
  intro E p l e Rm s m args below meth c own nm cc nL ret n0 u0 Q pc o ls st S I L R q hC hk hf hn hu hcl hsl hfr hlo hll kk H locs lsA hH hS hl
  unfold ck72 at hk
  split at hk
  · cases hk
  · rename_i r hr
    simp only [Bool.and_eq_true, decide_eq_true_eq] at hk
    obtain ⟨h1, hdg, hnx, h2, h3, hfin, hty⟩ := hk
    obtain ⟨ty, hty, href⟩ : ∃ ty, parseFieldDescriptor (r.2.1 o.2.2.2.1).2.2.1 = some ty ∧ ty.isReference = true := by
      revert hty
      cases parseFieldDescriptor (r.2.1 o.2.2.2.1).2.2.1 with
      | none => intro hty; cases hty
      | some ty => intro hty; exact ⟨ty, rfl, hty⟩
    unfold f_pr at hf
    split at hf
    · split at hf
      · rename_i hok
        cases hf
        dsimp only at kk
        rw [hnx] at kk
        refine g_put (v := va_rf (some _)) hC hH hS (I' := _) (L' := _) (R' := _) hok.1 hok.2 hr h1 (wd.is h2) (Or.inl hfin) hty (nr href (some _)).1 (nr href (some _)).2 hdg (fun _ _ => rfl) (fun _ _ => rfl) (fun _ h => up_ne h) (gvl_upR (by rw [hok.2]; exact h3)) (fun H1 locs1 g1 g2 => kk H1 locs1 lsA g1 g2 hl)
      · cases hf
    · split at hf
      · rename_i hok
        cases hf
        dsimp only at kk
        rw [hnx] at kk
        refine g_put (v := va_rf none) hC hH hS (I' := _) (L' := _) (R' := _) hok.1 hok.2 hr h1 (wd.is h2) (Or.inl hfin) hty (nr href none).1 (nr href none).2 hdg (fun _ _ => rfl) (fun _ _ => rfl) (fun _ h => up_ne h) (gvl_upR (by rw [hok.2]; exact h3)) (fun H1 locs1 g1 g2 => kk H1 locs1 lsA g1 g2 hl)
      · cases hf
    · cases hf
def ck94 : gCk := fun own nm cc pc o => match vwCl[o.2.2.1]? with
  | none => false
  | some r => decide (o.2.2.2.1 < r.2.2) && (decide (decode cc pc = .ok (.putfield o.2.2.2.2.1, 3)) && (decide (o.2.1 = pc + 3) && (wd (ex0 o) (.fieldLink own o.2.2.2.2.1 (r.2.1 o.2.2.2.1).1 (r.2.1 o.2.2.2.1).2.1 (r.2.1 o.2.2.2.1).2.2.1) && (decide (mkd o.2.2.1 o.2.2.2.1 = 2) && ((decide ((r.2.1 o.2.2.2.1).2.2.2 = true) && (decide (nm = "<init>") && decide ((r.2.1 o.2.2.2.1).1 = own))) && (match parseFieldDescriptor (r.2.1 o.2.2.2.1).2.2.1 with | some ty => ty.isReference | none => false))))))
theorem so94 : sOK ck94 f_pr := by
  intro E p l e Rm s m args below meth c own nm cc nL ret n0 u0 Q pc o ls st S I L R q hC hk hf hn hu hcl hsl hfr hlo hll kk H locs lsA hH hS hl
  unfold ck94 at hk
  split at hk
  · cases hk
  · rename_i r hr
    simp only [Bool.and_eq_true, decide_eq_true_eq] at hk
    obtain ⟨h1, hdg, hnx, h2, h3, hfin, hty⟩ := hk
    obtain ⟨ty, hty, href⟩ : ∃ ty, parseFieldDescriptor (r.2.1 o.2.2.2.1).2.2.1 = some ty ∧ ty.isReference = true := by
      revert hty
      cases parseFieldDescriptor (r.2.1 o.2.2.2.1).2.2.1 with
      | none => intro hty; cases hty
      | some ty => intro hty; exact ⟨ty, rfl, hty⟩
    unfold f_pr at hf
    split at hf
    · split at hf
      · rename_i hok
        cases hf
        dsimp only at kk
        rw [hnx] at kk
        refine g_put (v := va_rf (some _)) hC hH hS (I' := _) (L' := _) (R' := _) hok.1 hok.2 hr h1 (wd.is h2) (Or.inr hfin) hty (nr href (some _)).1 (nr href (some _)).2 hdg (fun _ _ => rfl) (fun _ _ => rfl) (fun _ h => up_ne h) (gvl_upR (by rw [hok.2]; exact h3)) (fun H1 locs1 g1 g2 => kk H1 locs1 lsA g1 g2 hl)
      · cases hf
    · split at hf
      · rename_i hok
        cases hf
        dsimp only at kk
        rw [hnx] at kk
        refine g_put (v := va_rf none) hC hH hS (I' := _) (L' := _) (R' := _) hok.1 hok.2 hr h1 (wd.is h2) (Or.inr hfin) hty (nr href none).1 (nr href none).2 hdg (fun _ _ => rfl) (fun _ _ => rfl) (fun _ h => up_ne h) (gvl_upR (by rw [hok.2]; exact h3)) (fun H1 locs1 g1 g2 => kk H1 locs1 lsA g1 g2 hl)
      · cases hf
    · cases hf
theorem so73 : sOK (ck_s (fun _ => .iaload) 1) f_ia := by
  intro E p l e Rm s m args below meth c own nm cc nL ret n0 u0 Q pc o ls st S I L R q hC hk hf hn hu hcl hsl hfr hlo hll kk H locs lsA hH hS hl
  obtain ⟨hdg, hnx⟩ := ck_s.is hk
  unfold f_ia at hf
  split at hf
  · split at hf
    · rename_i i a st' hok
      cases hf
      dsimp only at kk
      rw [hnx] at kk
      have k2 := kk H locs lsA hH hS hl
      obtain ⟨⟨ha, h11 | h19⟩, hin⟩ := hok
      · have hcell := g_arr hH ha (by omega) (by omega)
        have hAr := (hC.2.2.2.2.2.2.2.2.1.2 11 (by decide) (by decide)).1
        rw [h11] at hcell
        exact W.iald (v := .int (I a i.toNatClampNeg)) hC.1 hC.2.1 hcell (hAr _ _) (fun z => by cases z) (g_in hin) (by rw [arrV_read _ _ hin.2, gvl_i (by rw [h11]; rfl)]) rfl rfl hdg k2
      · have ha4 : a < 4 := by
          rcases Nat.lt_or_ge a 4 with z | z
          · exact z
          · have := (hH.2.1 a z ha).1
            omega
        obtain ⟨g1, g2, g3⟩ := hH.2.2 a ha4
        obtain ⟨x1, x2⟩ := hC.2.2.2.2.2.2.2.2.2.1.2.2.2.1 a ha4
        have e1 : gad E a = E.2.2.2.1 a := by unfold gad; rw [if_pos ha4]
        rw [g2] at hin
        rw [g3] at k2
        show W p l e Rm s m args below meth c H locs _ _ Q (F0 m pc lsA (.int i :: .ref (gad E a) :: List.map (grv E) st'))
        rw [e1]
        exact va_ti hC.1 hC.2.1 x1 hS (fun z => z.elim hin.1 (fun y => by omega)) rfl hdg k2
    · cases hf
  · cases hf
theorem so74 : sOK (ck_s (fun _ => .baload) 1) (f_za 10) := by
  intro E p l e Rm s m args below meth c own nm cc nL ret n0 u0 Q pc o ls st S I L R q hC hk hf hn hu hcl hsl hfr hlo hll kk H locs lsA hH hS hl
  obtain ⟨hdg, hnx⟩ := ck_s.is hk
  unfold f_za at hf
  split at hf
  · split at hf
    · rename_i i a st' hok
      cases hf
      dsimp only at kk
      rw [hnx] at kk
      have k2 := kk H locs lsA hH hS hl
      obtain ⟨⟨ha, hk9⟩, hin⟩ := hok
      have hcell := g_arr hH ha (by omega) (by omega)
      have hAr := (hC.2.2.2.2.2.2.2.2.1.2 10 (by decide) (by decide)).1
      rw [hk9] at hcell
      exact W.bald (v := .int (I a i.toNatClampNeg)) hC.1 hC.2.1 hcell (hAr _ _) (fun z => by cases z) (g_in hin) (by rw [arrV_read _ _ hin.2, gvl_i (by rw [hk9]; rfl)]) rfl rfl hdg k2
    · cases hf
  · cases hf
theorem so75 : sOK (ck_s (fun _ => .baload) 1) (f_za 13) := by
  intro E p l e Rm s m args below meth c own nm cc nL ret n0 u0 Q pc o ls st S I L R q hC hk hf hn hu hcl hsl hfr hlo hll kk H locs lsA hH hS hl
  obtain ⟨hdg, hnx⟩ := ck_s.is hk
  unfold f_za at hf
  split at hf
  · split at hf
    · rename_i i a st' hok
      cases hf
      dsimp only at kk
      rw [hnx] at kk
      have k2 := kk H locs lsA hH hS hl
      obtain ⟨⟨ha, hk9⟩, hin⟩ := hok
      have hcell := g_arr hH ha (by omega) (by omega)
      have hAr := (hC.2.2.2.2.2.2.2.2.1.2 13 (by decide) (by decide)).1
      rw [hk9] at hcell
      exact W.zald (v := .int (I a i.toNatClampNeg)) hC.1 hC.2.1 hcell (hAr _ _) (fun z => by cases z) (g_in hin) (by rw [arrV_read _ _ hin.2, gvl_i (by rw [hk9]; rfl)]) rfl rfl hdg k2
    · cases hf
  · cases hf
theorem so76 : sOK (ck_s (fun _ => .laload) 1) (f_la) := by
  intro E p l e Rm s m args below meth c own nm cc nL ret n0 u0 Q pc o ls st S I L R q hC hk hf hn hu hcl hsl hfr hlo hll kk H locs lsA hH hS hl
  obtain ⟨hdg, hnx⟩ := ck_s.is hk
  unfold f_la at hf
  split at hf
  · split at hf
    · rename_i i a st' hok
      cases hf
      dsimp only at kk
      rw [hnx] at kk
      have k2 := kk H locs lsA hH hS hl
      obtain ⟨⟨ha, hk9⟩, hin⟩ := hok
      have hcell := g_arr hH ha (by omega) (by omega)
      have hAr := (hC.2.2.2.2.2.2.2.2.1.2 12 (by decide) (by decide)).1
      rw [hk9] at hcell
      exact W.lald (v := .long (L a i.toNatClampNeg)) hC.1 hC.2.1 hcell (hAr _ _) (fun z => by cases z) (g_in hin) (by rw [arrV_read _ _ hin.2, gvl_l (by rw [hk9]; rfl)]) rfl rfl hdg k2
    · cases hf
  · cases hf
theorem mkd_r {c k : Nat} (h1 : 14 ≤ c) (h2 : c < 19) : mkd c k = 2 := by
  unfold mkd
  rw [if_neg (by omega), if_neg (by omega), if_neg (by omega), if_pos h2]
theorem gTy_r {c : Nat} (h1 : 14 ≤ c) : (gTy c).isReference = true := by
  unfold gTy
  rw [if_neg (by omega), if_neg (by omega), if_neg (by omega), if_neg (by omega)]
  repeat' split
  all_goals rfl
theorem so77 : sOK (ck_s (fun _ => .aaload) 1) f_aa := by
  intro E p l e Rm s m args below meth c own nm cc nL ret n0 u0 Q pc o ls st S I L R q hC hk hf hn hu hcl hsl hfr hlo hll kk H locs lsA hH hS hl
  obtain ⟨hdg, hnx⟩ := ck_s.is hk
  unfold f_aa at hf
  split at hf
  · split at hf
    · rename_i i a st' hok
      cases hf
      dsimp only at kk
      rw [hnx] at kk
      have k2 := kk H locs lsA hH hS hl
      obtain ⟨⟨ha, hk8, hk9⟩, hin⟩ := hok
      have hcell := g_arr hH ha (by omega) (by omega)
      have hAr := (hC.2.2.2.2.2.2.2.2.1.2 (S.2.2.1 a) (by omega) hk9).1
      refine W.aald (v := va_rf ((R a i.toNatClampNeg).map (gad E))) (ty := gTy (S.2.2.1 a)) hC.1 hC.2.1 hcell (hAr _ _) (gTy_r hk8) (fun z => by cases z) (g_in hin) (by rw [arrV_read _ _ hin.2, gvl_r (mkd_r hk8 hk9)]) rfl rfl hdg ?_
      rw [← grv_rf]
      exact k2
    · cases hf
  · cases hf
theorem so78 : sOK (ck_s (fun _ => .iastore) 1) f_sia := by
  intro E p l e Rm s m args below meth c own nm cc nL ret n0 u0 Q pc o ls st S I L R q hC hk hf hn hu hcl hsl hfr hlo hll kk H locs lsA hH hS hl
  obtain ⟨hdg, hnx⟩ := ck_s.is hk
  unfold f_sia at hf
  split at hf
  · split at hf
    · rename_i v i a st' hok
      cases hf
      dsimp only at kk
      rw [hnx] at kk
      obtain ⟨⟨ha, hk9⟩, hin⟩ := hok
      have hcell := g_arr hH ha (by omega) (by omega)
      have hAr := (hC.2.2.2.2.2.2.2.2.1.2 11 (by decide) (by decide)).1
      have hfin := g_ast (p := p) (l := l) (e := e) (Rm := Rm) (m := m) (args := args) (below := below) (meth := meth) (c := c) (pc := pc) (cells := S.1 - n0) (slots := S.2.1 - u0) (lsA := lsA) (rest := List.map (grv E) st') (Q := Q) hH hS ha (by omega) (by omega) (fun _ h => up_ne h) (fun _ _ => rfl) (fun _ _ => rfl) (gvl_up (a := a) (k := i.toNatClampNeg) (v := v) (by rw [hk9]; rfl)) (fun H1 locs1 g1 g2 => kk H1 locs1 lsA g1 g2 hl)
      rw [hk9] at hcell hfin
      exact W.iast hC.1 hC.2.1 hcell (hAr _ _) (fun z => by cases z) (g_in hin) rfl rfl hdg hfin
    · cases hf
  · cases hf
theorem so81 : sOK (ck_s (fun _ => .lastore) 1) f_sla := by
  intro E p l e Rm s m args below meth c own nm cc nL ret n0 u0 Q pc o ls st S I L R q hC hk hf hn hu hcl hsl hfr hlo hll kk H locs lsA hH hS hl
  obtain ⟨hdg, hnx⟩ := ck_s.is hk
  unfold f_sla at hf
  split at hf
  · split at hf
    · rename_i v i a st' hok
      cases hf
      dsimp only at kk
      rw [hnx] at kk
      obtain ⟨⟨ha, hk9⟩, hin⟩ := hok
      have hcell := g_arr hH ha (by omega) (by omega)
      have hAr := (hC.2.2.2.2.2.2.2.2.1.2 12 (by decide) (by decide)).1
      have hfin := g_ast (p := p) (l := l) (e := e) (Rm := Rm) (m := m) (args := args) (below := below) (meth := meth) (c := c) (pc := pc) (cells := S.1 - n0) (slots := S.2.1 - u0) (lsA := lsA) (rest := List.map (grv E) st') (Q := Q) hH hS ha (by omega) (by omega) (fun _ _ => rfl) (fun _ h => up_ne h) (fun _ _ => rfl) (gvl_upL (a := a) (k := i.toNatClampNeg) (v := v) (by rw [hk9]; rfl)) (fun H1 locs1 g1 g2 => kk H1 locs1 lsA g1 g2 hl)
      rw [hk9] at hcell hfin
      exact W.last hC.1 hC.2.1 hcell (hAr _ _) (fun z => by cases z) (g_in hin) rfl rfl hdg hfin
    · cases hf
  · cases hf
theorem so79 : sOK (ck_s (fun _ => .bastore) 1) f_sba := by
  intro E p l e Rm s m args below meth c own nm cc nL ret n0 u0 Q pc o ls st S I L R q hC hk hf hn hu hcl hsl hfr hlo hll kk H locs lsA hH hS hl
  obtain ⟨hdg, hnx⟩ := ck_s.is hk
  unfold f_sba at hf
  split at hf
  · split at hf
    · rename_i v i a st' hok
      cases hf
      dsimp only at kk
      rw [hnx] at kk
      obtain ⟨⟨ha, hk9⟩, hin⟩ := hok
      have hcell := g_arr hH ha (by omega) (by omega)
      have hAr := (hC.2.2.2.2.2.2.2.2.1.2 10 (by decide) (by decide)).1
      have hfin := g_ast (p := p) (l := l) (e := e) (Rm := Rm) (m := m) (args := args) (below := below) (meth := meth) (c := c) (pc := pc) (cells := S.1 - n0) (slots := S.2.1 - u0) (lsA := lsA) (rest := List.map (grv E) st') (Q := Q) hH hS ha (by omega) (by omega) (fun _ h => up_ne h) (fun _ _ => rfl) (fun _ _ => rfl) (gvl_up (a := a) (k := i.toNatClampNeg) (v := v.toInt8.toInt32) (by rw [hk9]; rfl)) (fun H1 locs1 g1 g2 => kk H1 locs1 lsA g1 g2 hl)
      rw [hk9] at hcell hfin
      exact W.bast hC.1 hC.2.1 hcell (hAr _ _) (fun z => by cases z) (g_in hin) rfl rfl hdg hfin
    · cases hf
  · cases hf
theorem so80 : sOK (ck_s (fun _ => .bastore) 1) f_sza := by
  intro E p l e Rm s m args below meth c own nm cc nL ret n0 u0 Q pc o ls st S I L R q hC hk hf hn hu hcl hsl hfr hlo hll kk H locs lsA hH hS hl
  obtain ⟨hdg, hnx⟩ := ck_s.is hk
  unfold f_sza at hf
  split at hf
  · split at hf
    · rename_i v i a st' hok
      cases hf
      dsimp only at kk
      rw [hnx] at kk
      obtain ⟨⟨⟨ha, hk9⟩, hz⟩, hin⟩ := hok
      have hcell := g_arr hH ha (by omega) (by omega)
      have hAr := (hC.2.2.2.2.2.2.2.2.1.2 13 (by decide) (by decide)).1
      have hfin := g_ast (p := p) (l := l) (e := e) (Rm := Rm) (m := m) (args := args) (below := below) (meth := meth) (c := c) (pc := pc) (cells := S.1 - n0) (slots := S.2.1 - u0) (lsA := lsA) (rest := List.map (grv E) st') (Q := Q) hH hS ha (by omega) (by omega) (fun _ h => up_ne h) (fun _ _ => rfl) (fun _ _ => rfl) (gvl_up (a := a) (k := i.toNatClampNeg) (v := v) (by rw [hk9]; rfl)) (fun H1 locs1 g1 g2 => kk H1 locs1 lsA g1 g2 hl)
      rw [hk9] at hcell hfin
      refine W.zast hC.1 hC.2.1 hcell (hAr _ _) (fun z => by cases z) (g_in hin) rfl rfl hdg ?_
      rw [(nz hz).1]
      exact hfin
    · cases hf
  · cases hf
theorem so83 : sOK (ck_s (fun _ => .arraylength) 1) f_len := by
  intro E p l e Rm s m args below meth c own nm cc nL ret n0 u0 Q pc o ls st S I L R q hC hk hf hn hu hcl hsl hfr hlo hll kk H locs lsA hH hS hl
  obtain ⟨hdg, hnx⟩ := ck_s.is hk
  unfold f_len at hf
  split at hf
  · split at hf
    · rename_i a st' hok
      cases hf
      dsimp only at kk
      rw [hnx] at kk
      have k2 := kk H locs lsA hH hS hl
      obtain ⟨ha, hk9⟩ := hok
      rcases Nat.lt_or_ge a 4 with ha4 | ha4
      · obtain ⟨g1, g2, g3⟩ := hH.2.2 a ha4
        obtain ⟨x1, x2⟩ := hC.2.2.2.2.2.2.2.2.2.1.2.2.2.1 a ha4
        have e1 : gad E a = E.2.2.2.1 a := by unfold gad; rw [if_pos ha4]
        rw [g2] at k2
        show W p l e Rm s m args below meth c H locs _ _ Q (F0 m pc lsA (.ref (gad E a) :: List.map (grv E) st'))
        rw [e1]
        exact va_tlen hC.1 hC.2.1 x1 hS rfl hdg k2
      · have h19 := (hH.2.1 a ha4 ha).1
        have hcell := g_arr hH ha hk9 h19
        have hAr := (hC.2.2.2.2.2.2.2.2.1.2 (S.2.2.1 a) hk9 h19).1
        exact W.alen hC.1 hC.2.1 hcell (hAr _ _) (by rw [arrV_size]; rfl) rfl rfl hdg k2
    · cases hf
  · cases hf
theorem so88 : sOK (fun own _ cc pc o => decide (decode cc pc = .ok (.getstatic o.2.2.2.1, 3)) && (decide (o.2.1 = pc + 3) && ((decide (o.2.2.1 = 1) && wd (ex0 o) (.fieldLink own o.2.2.2.1 "HotIron" "TERM_LOW" "[I")) || ((decide (o.2.2.1 = 2) && wd (ex0 o) (.fieldLink own o.2.2.2.1 "HotIron" "TERM_HIGH" "[I")) || (decide (o.2.2.1 = 3) && wd (ex0 o) (.fieldLink own o.2.2.2.1 "HotIron" "ALL_TWO" "[I")))))) f_gs := by
  intro E p l e Rm s m args below meth c own nm cc nL ret n0 u0 Q pc o ls st S I L R q hC hk hf hn hu hcl hsl hfr hlo hll kk H locs lsA hH hS hl
  simp only [Bool.and_eq_true, Bool.or_eq_true, decide_eq_true_eq] at hk
  obtain ⟨hdg, hnx, h3⟩ := hk
  cases hf
  dsimp only at kk
  rw [hnx] at kk
  have k2 := kk H locs lsA hH hS hl
  obtain ⟨z1, z2, z3, -⟩ := hC.2.2.2.2.2.2.2.2.2.1
  rcases h3 with ⟨h4, h5⟩ | ⟨h4, h5⟩ | ⟨h4, h5⟩
  · rw [h4] at k2
    exact va_gets hC.1 hC.2.1 z1 hS hC.2.2.2.2.1 (hC.2.2.2.2.2.1 _ (wd.is h5)) (fun _ h => h) hdg k2
  · rw [h4] at k2
    exact va_gets hC.1 hC.2.1 z2 hS hC.2.2.2.2.1 (hC.2.2.2.2.2.1 _ (wd.is h5)) (fun _ h => h) hdg k2
  · rw [h4] at k2
    exact va_gets hC.1 hC.2.1 z3 hS hC.2.2.2.2.1 (hC.2.2.2.2.2.1 _ (wd.is h5)) (fun _ h => h) hdg k2
theorem so98 : sOK (fun own _ cc pc o => decide (decode cc pc = .ok (.getstatic o.2.2.2.1, 3)) && (decide (o.2.1 = pc + 3) && (decide (o.2.2.1 = 3) && wsp (.fieldLinkNest own o.2.2.2.1 "HotIron" "ALL_TWO" "[I" "HotIron")))) f_gs := by
  intro E p l e Rm s m args below meth c own nm cc nL ret n0 u0 Q pc o ls st S I L R q hC hk hf hn hu hcl hsl hfr hlo hll kk H locs lsA hH hS hl
  simp only [Bool.and_eq_true, decide_eq_true_eq] at hk
  obtain ⟨hdg, hnx, h4, h5⟩ := hk
  cases hf
  dsimp only at kk
  rw [hnx] at kk
  have k2 := kk H locs lsA hH hS hl
  obtain ⟨z1, z2, z3, -⟩ := hC.2.2.2.2.2.2.2.2.2.1
  rw [h4] at k2
  exact va_getsN hC.1 hC.2.1 z3 hS hC.2.2.2.2.1 (wsp.is h5 rfl hC.2.2.2.2.2.2.2.2.2.1) (fun _ h => h) hdg k2
theorem so89 : sOK (fun own _ cc pc o => match o.2.2.2.2.2 with
    | [i1, i2, i3] => decide (decode cc pc = .ok (.invokespecial o.2.2.1, 3)) && (decide (o.2.1 = pc + 3) && (wd i1 (.methodLink own o.2.2.1 objectInit) && (wd i2 (.instanceMethod objectInit) && wd i3 (.code objectInit ⟨#[0xb1]⟩ 1 none))))
    | _ => false) f_oi := by
  intro E p l e Rm s m args below meth c own nm cc nL ret n0 u0 Q pc o ls st S I L R q hC hk hf hn hu hcl hsl hfr hlo hll kk H locs lsA hH hS hl
  dsimp only at hk
  split at hk
  · simp only [Bool.and_eq_true, decide_eq_true_eq] at hk
    obtain ⟨hdg, hnx, h1, h2, h3⟩ := hk
    unfold f_oi at hf
    split at hf
    · split at hf
      · rename_i hcs
        cases hf
        dsimp only at kk
        rw [hnx] at kk
        have k2 := kk H locs lsA hH hS hl
        refine W.objInit hC.1 hC.2.1 hC.2.2.2.2.1 (hC.2.2.2.2.2.1 _ (wd.is h1)) (hC.2.2.2.2.2.1 _ (wd.is h2)) (hC.2.2.2.2.2.1 _ (wd.is h3)) rfl (by show lsA.size = _; rw [hl.1, hC.2.2.2.1]) rfl hdg hfr ?_ k2
        rw [cs_map]
        show 2 * 0 + _ + 12 ≤ _
        omega
      · cases hf
    · cases hf
  · cases hk
theorem so100 : sOK (fun own _ cc pc o => match o.2.2.2.2.2 with
    | [i1, i2, i3, i4] => decide (decode cc pc = .ok (.invokestatic o.2.2.1, 3)) && (decide (o.2.1 = pc + 3) && (wd i1 (.methodLink own o.2.2.1 Lib.Math.max.name) && (wd i2 (.static Lib.Math.max.name) && (wd i3 (.initialized "java/lang/Math") && wd i4 (.code Lib.Math.max.name Lib.Math.max.code 2 (some .int))))))
    | _ => false) (f_mm (fun x y => if x < y then y else x)) := by
  intro E p l e Rm s m args below meth c own nm cc nL ret n0 u0 Q pc o ls st S I L R q hC hk hf hn hu hcl hsl hfr hlo hll kk H locs lsA hH hS hl
  dsimp only at hk
  split at hk
  · simp only [Bool.and_eq_true, decide_eq_true_eq] at hk
    obtain ⟨hdg, hnx, h1, h2, h3, h4⟩ := hk
    unfold f_mm at hf
    split at hf
    · split at hf
      · rename_i hcs
        cases hf
        dsimp only at kk
        rw [hnx] at kk
        have k2 := kk H locs lsA hH hS hl
        refine va_mmax hC.1 hC.2.1 (by rw [hC.2.2.2.1, hl.1]) hC.2.2.2.2.1 (hC.2.2.2.2.2.1 _ (wd.is h1)) (hC.2.2.2.2.2.1 _ (wd.is h2)) (hC.2.2.2.2.2.1 _ (wd.is h3)) (hC.2.2.2.2.2.1 _ (wd.is h4)) hfr ?_ hcl hsl hdg k2
        rw [cs_map]
        omega
      · cases hf
    · cases hf
  · cases hk
theorem so101 : sOK (fun own _ cc pc o => match o.2.2.2.2.2 with
    | [i1, i2, i3, i4] => decide (decode cc pc = .ok (.invokestatic o.2.2.1, 3)) && (decide (o.2.1 = pc + 3) && (wd i1 (.methodLink own o.2.2.1 Lib.Math.min.name) && (wd i2 (.static Lib.Math.min.name) && (wd i3 (.initialized "java/lang/Math") && wd i4 (.code Lib.Math.min.name Lib.Math.min.code 2 (some .int))))))
    | _ => false) (f_mm (fun x y => if y < x then y else x)) := by
  intro E p l e Rm s m args below meth c own nm cc nL ret n0 u0 Q pc o ls st S I L R q hC hk hf hn hu hcl hsl hfr hlo hll kk H locs lsA hH hS hl
  dsimp only at hk
  split at hk
  · simp only [Bool.and_eq_true, decide_eq_true_eq] at hk
    obtain ⟨hdg, hnx, h1, h2, h3, h4⟩ := hk
    unfold f_mm at hf
    split at hf
    · split at hf
      · rename_i hcs
        cases hf
        dsimp only at kk
        rw [hnx] at kk
        have k2 := kk H locs lsA hH hS hl
        refine va_mmin hC.1 hC.2.1 (by rw [hC.2.2.2.1, hl.1]) hC.2.2.2.2.1 (hC.2.2.2.2.2.1 _ (wd.is h1)) (hC.2.2.2.2.2.1 _ (wd.is h2)) (hC.2.2.2.2.2.1 _ (wd.is h3)) (hC.2.2.2.2.2.1 _ (wd.is h4)) hfr ?_ hcl hsl hdg k2
        rw [cs_map]
        omega
      · cases hf
    · cases hf
  · cases hk
theorem so102 : sOK (fun own _ cc pc o => match o.2.2.2.2.2 with
    | [i1, i2, i3, i4] => decide (decode cc pc = .ok (.invokestatic o.2.2.1, 3)) && (decide (o.2.1 = pc + 3) && (wd i1 (.methodLink own o.2.2.1 Lib.Math.abs.name) && (wd i2 (.static Lib.Math.abs.name) && (wd i3 (.initialized "java/lang/Math") && wd i4 (.code Lib.Math.abs.name Lib.Math.abs.code 1 (some .int))))))
    | _ => false) (f_ma) := by
  intro E p l e Rm s m args below meth c own nm cc nL ret n0 u0 Q pc o ls st S I L R q hC hk hf hn hu hcl hsl hfr hlo hll kk H locs lsA hH hS hl
  dsimp only at hk
  split at hk
  · simp only [Bool.and_eq_true, decide_eq_true_eq] at hk
    obtain ⟨hdg, hnx, h1, h2, h3, h4⟩ := hk
    unfold f_ma at hf
    split at hf
    · split at hf
      · rename_i hcs
        cases hf
        dsimp only at kk
        rw [hnx] at kk
        have k2 := kk H locs lsA hH hS hl
        refine va_mabs hC.1 hC.2.1 (by rw [hC.2.2.2.1, hl.1]) hC.2.2.2.2.1 (hC.2.2.2.2.2.1 _ (wd.is h1)) (hC.2.2.2.2.2.1 _ (wd.is h2)) (hC.2.2.2.2.2.1 _ (wd.is h3)) (hC.2.2.2.2.2.1 _ (wd.is h4)) hfr ?_ hcl hsl hdg k2
        rw [cs_map]
        omega
      · cases hf
    · cases hf
  · cases hk
