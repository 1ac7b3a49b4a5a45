theorem lit_od : ∀ i, i < 17 → UInt32.ofNat (2 * i + 1) ≠ 0 ∧ (UInt32.ofNat (2 * i + 1)).toNat = 2 * i + 1 := by decide
theorem lit_ev : ∀ k, k < 34 → UInt32.ofNat (k + 1) ≠ 0 ∧ (UInt32.ofNat (k + 1)).toNat = k + 1 := by decide
theorem fl_n0 {x : UInt32} (h : 0 < x.toNat) : x ≠ 0 := fun z => by rw [z] at h; exact absurd h (by decide)
def ck104 : gCk := fun own _ cc pc o => decide (own = "HotIron$Reader") && (decide (decode cc pc = .ok (.ldc o.2.2.2.1, 2)) && (decide (o.2.1 = pc + 2) && (decide (o.2.2.1 % 2 = 1 ∧ o.2.2.1 < 34) && decide (lsI.getD (o.2.2.1 / 2) 0 = o.2.2.2.1))))
theorem so104 : sOK ck104 f_lds := by
  intro E p l e Rm s m args below meth c own nm cc nL ret n0 u0 Q pc o ls st S I L R q hC hk hf hn hu hcl hsl hfr hlo hll kk H locs lsA hH hS hl
  unfold ck104 at hk
  simp only [Bool.and_eq_true, decide_eq_true_eq] at hk
  obtain ⟨hown, hdg, hnx, hod, hix⟩ := hk
  cases hf
  dsimp only at kk
  rw [hnx] at kk
  have k2 := kk H locs lsA hH hS hl
  have hlt := hC.2.2.2.2.2.2.2.2.2.1.2.2.2.2.2
  have hi : o.2.2.1 / 2 < 17 := by omega
  obtain ⟨u1, u2⟩ := lit_od (o.2.2.1 / 2) hi
  rw [show 2 * (o.2.2.1 / 2) + 1 = o.2.2.1 by omega] at u1 u2
  have eg : grv E (.float (UInt32.ofNat o.2.2.1)) = .ref (E.2.2.2.1 (4 + o.2.2.1)) := by
    show gfl E _ = _
    rw [gfl_ne u1, u2]
  rw [List.map_cons, eg] at k2
  have hR := hlt.2.1 (o.2.2.1 / 2) hi
  rw [hix, show 5 + 2 * (o.2.2.1 / 2) = 4 + o.2.2.1 by omega, ← hown] at hR
  exact va_ldcS hC.1 hC.2.1 hC.2.2.2.2.1 hR hdg k2
theorem so105 : sOK (ck_a (ck_s (fun o => .aload_n (fn4 o.2.2.1)) 1) (ck_c (fun o => decide (o.2.2.1 < 4)))) f_afl := by
  intro E p l e Rm s m args below meth c own nm cc nL ret n0 u0 Q pc o ls st S I L R q hC hk hf hn hu hcl hsl hfr hlo hll kk H locs lsA hH hS hl
  obtain ⟨hk, hk2⟩ := ck_a.is hk
  obtain ⟨hdg, hnx⟩ := ck_s.is hk
  unfold f_afl at hf
  split at hf
  · rename_i x hv
    split at hf
    · rename_i hx0
      cases hf
      dsimp only at kk
      rw [hnx] at kk
      have k2 := kk H locs lsA hH hS hl
      have eg : grv E (.float x) = .ref (E.2.2.2.1 (4 + x.toNat)) := gfl_ne hx0
      have g := hl.get hv (fun _ h => by cases h)
      rw [eg] at g
      rw [List.map_cons, eg] at k2
      exact lv_aload_n hC.1 hC.2.1 hdg (fn4_is (of_decide_eq_true hk2)) g k2
    · cases hf
  · cases hf
def ckFL (f d : String) : gCk := fun own _ cc pc o => decide (decode cc pc = .ok (.getfield o.2.2.1, 3)) && (decide (o.2.1 = pc + 3) && wd (ex0 o) (.fieldLink own o.2.2.1 "java/lang/String" f d))
theorem so106 : sOK (ckFL "value" "[B") f_flv := by
  intro E p l e Rm s m args below meth c own nm cc nL ret n0 u0 Q pc o ls st S I L R q hC hk hf hn hu hcl hsl hfr hlo hll kk H locs lsA hH hS hl
  unfold ckFL at hk
  simp only [Bool.and_eq_true, decide_eq_true_eq] at hk
  obtain ⟨hdg, hnx, h1⟩ := hk
  unfold f_flv at hf
  split at hf
  · rename_i x st'
    split at hf
    · rename_i hok
      cases hf
      dsimp only at kk
      rw [hnx] at kk
      have k2 := kk H locs lsA hH hS hl
      have hlt := hC.2.2.2.2.2.2.2.2.2.1.2.2.2.2.2
      obtain ⟨u1, u2⟩ := lit_ev x.toNat hok.2
      have e1 : grv E (.float x) = .ref (E.2.2.2.1 (4 + x.toNat)) := gfl_ne (fl_n0 (by omega))
      have e2 : grv E (.float (UInt32.ofNat (x.toNat + 1))) = .ref (E.2.2.2.1 (4 + (x.toNat + 1))) := by
        show gfl E _ = _
        rw [gfl_ne u1, u2]
      rw [List.map_cons, e2] at k2
      have hf9 := (hlt.1.1 (x.toNat / 2) (by omega)).2.2.1
      dsimp only at hf9
      rw [show 5 + 2 * (x.toNat / 2) = 4 + x.toNat by omega, show 6 + 2 * (x.toNat / 2) = 4 + (x.toNat + 1) by omega] at hf9
      show W p l e Rm s m args below meth c H locs _ _ Q (F0 m pc lsA (List.map (grv E) (.float x :: st')))
      rw [List.map_cons, e1]
      exact vk_getf hC.1 hC.2.1 hf9 hS hC.2.2.2.2.1 (hC.2.2.2.2.2.1 _ (wd.is h1)) (fun _ h => h) hdg k2
    · cases hf
  · cases hf
theorem so107 : sOK (ckFL "coder" "B") f_flc := by
  intro E p l e Rm s m args below meth c own nm cc nL ret n0 u0 Q pc o ls st S I L R q hC hk hf hn hu hcl hsl hfr hlo hll kk H locs lsA hH hS hl
  unfold ckFL at hk
  simp only [Bool.and_eq_true, decide_eq_true_eq] at hk
  obtain ⟨hdg, hnx, h1⟩ := hk
  unfold f_flc at hf
  split at hf
  · rename_i x st'
    split at hf
    · rename_i hok
      cases hf
      dsimp only at kk
      rw [hnx] at kk
      have k2 := kk H locs lsA hH hS hl
      have hlt := hC.2.2.2.2.2.2.2.2.2.1.2.2.2.2.2
      have e1 : grv E (.float x) = .ref (E.2.2.2.1 (4 + x.toNat)) := gfl_ne (fl_n0 (by omega))
      have hf9 := (hlt.1.1 (x.toNat / 2) (by omega)).2.1
      dsimp only at hf9
      rw [show 5 + 2 * (x.toNat / 2) = 4 + x.toNat by omega] at hf9
      show W p l e Rm s m args below meth c H locs _ _ Q (F0 m pc lsA (List.map (grv E) (.float x :: st')))
      rw [List.map_cons, e1]
      exact vk_getf hC.1 hC.2.1 hf9 hS hC.2.2.2.2.1 (hC.2.2.2.2.2.1 _ (wd.is h1)) (fun _ h => h) hdg k2
    · cases hf
  · cases hf
theorem so108 : sOK (ck_s (fun _ => .arraylength) 1) f_fln := by
  intro E p l e Rm s m args below meth c own nm cc nL ret n0 u0 Q pc o ls st S I L R q hC hk hf hn hu hcl hsl hfr hlo hll kk H locs lsA hH hS hl
  obtain ⟨hdg, hnx⟩ := ck_s.is hk
  unfold f_fln at hf
  split at hf
  · rename_i x st'
    split at hf
    · rename_i hok
      cases hf
      dsimp only at kk
      rw [hnx] at kk
      have k2 := kk H locs lsA hH hS hl
      have hlt := hC.2.2.2.2.2.2.2.2.2.1.2.2.2.2.2
      have e1 : grv E (.float x) = .ref (E.2.2.2.1 (4 + x.toNat)) := gfl_ne (fl_n0 hok.2.1)
      have hf9 := (hlt.1.1 (x.toNat / 2 - 1) (by omega)).2.2.2
      dsimp only at hf9
      rw [show 6 + 2 * (x.toNat / 2 - 1) = 4 + x.toNat by omega] at hf9
      show W p l e Rm s m args below meth c H locs _ _ Q (F0 m pc lsA (List.map (grv E) (.float x :: st')))
      rw [List.map_cons, e1]
      exact va_tlen hC.1 hC.2.1 hf9 hS rfl hdg k2
    · cases hf
  · cases hf
theorem so109 : sOK (ck_s (fun _ => .baload) 1) f_fba := by
  intro E p l e Rm s m args below meth c own nm cc nL ret n0 u0 Q pc o ls st S I L R q hC hk hf hn hu hcl hsl hfr hlo hll kk H locs lsA hH hS hl
  obtain ⟨hdg, hnx⟩ := ck_s.is hk
  unfold f_fba at hf
  split at hf
  · rename_i i x st'
    split at hf
    · rename_i hok
      cases hf
      dsimp only at kk
      rw [hnx] at kk
      have k2 := kk H locs lsA hH hS hl
      have hlt := hC.2.2.2.2.2.2.2.2.2.1.2.2.2.2.2
      have e1 : grv E (.float x) = .ref (E.2.2.2.1 (4 + x.toNat)) := gfl_ne (fl_n0 hok.1.2.1)
      have hf9 := (hlt.1.1 (x.toNat / 2 - 1) (by omega)).2.2.2
      dsimp only at hf9
      rw [show 6 + 2 * (x.toNat / 2 - 1) = 4 + x.toNat by omega] at hf9
      show W p l e Rm s m args below meth c H locs _ _ Q (F0 m pc lsA (List.map (grv E) (.int i :: .float x :: st')))
      rw [List.map_cons, List.map_cons, e1]
      exact va_tb hC.1 hC.2.1 hf9 hS (fun z => z.elim hok.2.1 (fun y => absurd hok.2.2 (Nat.not_lt.mpr y))) rfl hdg k2
    · cases hf
  · cases hf
def ckGS (C n d : String) : gCk := fun own _ cc pc o => decide (decode cc pc = .ok (.getstatic o.2.2.1, 3)) && (decide (o.2.1 = pc + 3) && wd (ex0 o) (.fieldLink own o.2.2.1 C n d))
theorem so110 : sOK (ckGS "java/lang/String" "COMPACT_STRINGS" "Z") f_gcs := by
  intro E p l e Rm s m args below meth c own nm cc nL ret n0 u0 Q pc o ls st S I L R q hC hk hf hn hu hcl hsl hfr hlo hll kk H locs lsA hH hS hl
  unfold ckGS at hk
  simp only [Bool.and_eq_true, decide_eq_true_eq] at hk
  obtain ⟨hdg, hnx, h1⟩ := hk
  cases hf
  dsimp only at kk
  rw [hnx] at kk
  have k2 := kk H locs lsA hH hS hl
  exact va_gets hC.1 hC.2.1 hC.2.2.2.2.2.2.2.2.2.1.2.2.2.2.2.2.2.1 hS hC.2.2.2.2.1 (hC.2.2.2.2.2.1 _ (wd.is h1)) (fun _ h => h) hdg k2
theorem so111 : sOK (ckGS "jdk/internal/util/Preconditions" "SIOOBE_FORMATTER" "Ljava/util/function/BiFunction;") f_gfm := by
  intro E p l e Rm s m args below meth c own nm cc nL ret n0 u0 Q pc o ls st S I L R q hC hk hf hn hu hcl hsl hfr hlo hll kk H locs lsA hH hS hl
  unfold ckGS at hk
  simp only [Bool.and_eq_true, decide_eq_true_eq] at hk
  obtain ⟨hdg, hnx, h1⟩ := hk
  cases hf
  dsimp only at kk
  rw [hnx] at kk
  have k2 := kk H locs lsA hH hS hl
  exact va_gets hC.1 hC.2.1 hC.2.2.2.2.2.2.2.2.2.1.2.2.2.2.2.2.2.2 hS hC.2.2.2.2.1 (hC.2.2.2.2.2.1 _ (wd.is h1)) (fun _ h => h) hdg k2
section WCL
variable {p : Program} {l : Launch} {e : Env} {R : Room} {s : State} {m : MethodId} {args : Array Value} {below : List Frame} {meth : Method} {c : Code} {H : Heap} {locs : List Loc} {cells slots : Nat} {Q : State → Prop} {cc : ByteArray} {pc : Nat} {ls : Array Slot} {rest : List Value} {a : Nat}
/-- an int row's clone, by its cell -/
theorem W_clone (hexec : p.tables.exec = Jvm.exec) (hb : c.code = cc) (hml : c.maxLocals = ls.size) {own ad : String} {index : Nat} (hown : s.vm.findClass own = some m.cls)
    (hlink : (Cond.methodLink own index ⟨ad, "clone", "()Ljava/lang/Object;"⟩).before args s = true) (hsame : (Cond.sameMethod ad "java/lang/Object" "clone" "()Ljava/lang/Object;").before args s = true)
    (hnat : (Cond.native ⟨"java/lang/Object", "clone", "()Ljava/lang/Object;"⟩).before args s = true) (hinst : (Cond.instanceMethod ⟨"java/lang/Object", "clone", "()Ljava/lang/Object;"⟩).before args s = true)
    (hsel : (Cond.selects ad ⟨ad, "clone", "()Ljava/lang/Object;"⟩ ⟨"java/lang/Object", "clone", "()Ljava/lang/Object;"⟩).before args s = true) (hcl : (Cond.castable ad "java/lang/Cloneable").before args s = true)
    {cA : ClassId} {n : Nat} {f : Nat → Value} {ty : FieldType} (ha : H[a]? = some (arrV cA n f)) (ht : ArrOfT s cA ty) (hnm : s.vm.findClass ad = some cA) (hfit : ∀ (i : Nat) (v : Value), (arrV cA n f).slots[i]? = some v → fits ty v = true)
    (hframes : 1 ≤ R.frames) (hlocals : (rest.map fun v => v.category).sum + 14 ≤ R.locals) (hcells : cells + 1 ≤ R.cells) (hslots : slots + n ≤ R.slots) (hdg : decode cc pc = .ok (.invokevirtual index, 3))
    (kk : ∀ H1 : Heap, H1[H.size]? = some (arrV cA n f) → H1.size = H.size + 1 → (∀ q : Nat, q < H.size → H1[q]? = H[q]?) → W p l e R s m args below meth c H1 locs (cells + 1) (slots + n) Q (F0 m (pc + 3) ls (.ref H.size :: rest))) : W p l e R s m args below meth c H locs cells slots Q (F0 m pc ls (.ref a :: rest)) := by
  have hsz : (arrV cA n f).slots.size = n := arrV_size _ _ _
  have hvm0 : (arrV cA n f).vm = .none := rfl
  have hcl0 : (arrV cA n f).cls = cA := rfl
  have hcellE : ({ cls := (arrV cA n f).cls, slots := (arrV cA n f).slots } : Cell) = arrV cA n f := rfl
  obtain ⟨c0, t0', f1, f2, f3⟩ := Cond.castable_spec hcl
  cases hnm.symm.trans f1
  intro T hT X
  have hcellT : T.heap[a]? = some (arrV cA n f) := by rw [hT]; exact ha
  obtain ⟨-, kA, hkA, comp, hkind⟩ := State.isArrayOf_alike X.warmed.alike (ht 0 (fun _ => .null))
  obtain ⟨-, kS, hkS, compS, hkindS⟩ := ht 0 (fun _ => .null)
  obtain ⟨vm', X', st⟩ := X.cloneArray hexec hown hlink hsame hnat hinst hsel (a := a) (cell := arrV cA n f) hcellT (fun k h => by rw [hvm0] at h; cases h) (by rw [hvm0]; exact fun h => by cases h) (by rw [hcl0]; exact hnm) f2 (by rw [hcl0]; exact f3)
    (fun i v hv => by
      rw [hcl0]
      have hk' : T.vm.classes[cA]? = some kA := hkA
      simpa [State.fitsSlot, State.slotType?, hk', hkind] using hfit i v hv)
    (g := F0 m pc ls (.ref a :: rest)) rfl (by rw [hml]) rfl (by rw [hb]; exact hdg) hframes (by show 2 * 0 + _ + 14 ≤ _; omega) hcells (by rw [hsz]; exact hslots) (hloader := by rw [hcl0]; exact Vm.clonesLoader_of_array hkS hkindS)
  rw [hcellE, hsz] at X'
  generalize hH1 : H.push (arrV cA n f) = H1
  obtain ⟨t, b1, b2⟩ := kk H1 (by rw [← hH1, Array.getElem?_push_size]) (by rw [← hH1, Array.size_push]) (fun q hq => by rw [← hH1, Array.getElem?_push, if_neg (Nat.ne_of_lt hq)]) ((T.setVm vm').pushCell (arrV cA n f)) (by rw [← hH1, ← hT]; rfl) X'
  refine ⟨t, st t ?_, b2⟩
  rw [hcellE, hT]
  exact b1
end WCL
def ck112 : gCk := fun own _ cc pc o => match o.2.2.2.2.2 with
  | [i1, i2, i3, i4, i5, i6] => decide (decode cc pc = .ok (.invokevirtual o.2.2.1, 3)) && (decide (o.2.1 = pc + 3) && (wd i1 (.methodLink own o.2.2.1 ⟨"[I", "clone", "()Ljava/lang/Object;"⟩) && (wd i2 (.sameMethod "[I" "java/lang/Object" "clone" "()Ljava/lang/Object;") && (wd i3 (.native ⟨"java/lang/Object", "clone", "()Ljava/lang/Object;"⟩) && (wd i4 (.instanceMethod ⟨"java/lang/Object", "clone", "()Ljava/lang/Object;"⟩) && (wd i5 (.selects "[I" ⟨"[I", "clone", "()Ljava/lang/Object;"⟩ ⟨"java/lang/Object", "clone", "()Ljava/lang/Object;"⟩) && wsp (.castable "[I" "java/lang/Cloneable")))))))
  | _ => false
theorem so112 : sOK ck112 f_cln := by
  intro E p l e Rm s m args below meth c own nm cc nL ret n0 u0 Q pc o ls st S I L R q hC hk hf hn hu hcl hsl hfr hlo hll kk H locs lsA hH hS hl
  unfold ck112 at hk
  split at hk
  · simp only [Bool.and_eq_true, decide_eq_true_eq] at hk
    obtain ⟨hdg, hnx, h1, h2, h3, h4, h5, h6⟩ := hk
    unfold f_cln at hf
    split at hf
    · rename_i a st'
      split at hf
      · rename_i hok
        cases hf
        dsimp only at kk hcl hsl
        rw [hnx] at kk
        have hts := hC.2.2.2.2.2.1
        have hcell := g_arr hH hok.1.1 (by omega) (by omega)
        rw [hok.1.2] at hcell
        have hAr := hC.2.2.2.2.2.2.2.2.1.2 11 (by decide) (by decide)
        refine W_clone hC.1 hC.2.1 (by rw [hC.2.2.2.1, hl.1]) hC.2.2.2.2.1 (hts _ (wd.is h1)) (hts _ (wd.is h2)) (hts _ (wd.is h3)) (hts _ (wd.is h4)) (hts _ (wd.is h5)) (wsp.is h6 rfl hC.2.2.2.2.2.2.2.2.2.1) hcell hAr.1 (hAr.2) (fun i v hv => ?_) hfr (by rw [cs_map]; omega) (by omega) (by omega) hdg (fun H1 e1 z1 o1 => ?_)
        · have hi : i < S.2.2.2 a := by
            have := (Array.getElem?_eq_some_iff.mp hv).1
            rwa [arrV_size] at this
          rw [arrV_read _ _ hi, gvl_i (by rw [hok.1.2]; rfl)] at hv
          cases hv
          rfl
        · have e4 : S.1 + 1 - n0 = S.1 - n0 + 1 := by omega
          have e5 : S.2.1 + S.2.2.2 a - u0 = S.2.1 - u0 + S.2.2.2 a := by omega
          have k2 := kk H1 locs lsA (hH.grow (k := 1) rfl z1 o1 (fun b hb => up_lt hb) (fun b hb => up_lt hb) (fun b hb => up_lt hb) (fun b hb => up_lt hb) (fun b hb => up_lt hb) (fun b hb1 hb2 => ?_)) (hS.grow (by omega) o1) hl
          · rw [e4, e5] at k2
            have e6 : List.map (grv E) (Value.ref S.1 :: st') = .ref H.size :: List.map (grv E) st' := by
              show Value.ref (gad E S.1) :: _ = _
              rw [gad_new hH]
            rw [e6] at k2
            exact k2
          · have hb : b = S.1 := by omega
            subst hb
            have eK : va_up S.2.2.1 S.1 11 S.1 = 11 := up_at
            refine ⟨by show va_up S.2.2.1 S.1 11 S.1 < 19; rw [eK]; omega, fun h9 => ?_, fun _ => ?_⟩
            · have : va_up S.2.2.1 S.1 11 S.1 < 10 := h9
              rw [eK] at this
              omega
            · show H1[gad E S.1]? = some (arrV (E.2.1 (va_up S.2.2.1 S.1 11 S.1)) (va_up S.2.2.2 S.1 (S.2.2.2 a) S.1) _)
              rw [eK, up_at, gad_new hH, e1]
              congr 2
              funext j
              have ea := hok.1.2
              simp only [gvl, up_at, ea]
              rfl
      · cases hf
    · cases hf
  · cases hk
def ck113 : gCk := fun own _ cc pc o => decide (decode cc pc = .ok (.checkcast o.2.2.1, 3)) && (decide (o.2.1 = pc + 3) && wd (ex0 o) (.classLink own o.2.2.1 "[I"))
theorem so113 : sOK ck113 f_cci := by
  intro E p l e Rm s m args below meth c own nm cc nL ret n0 u0 Q pc o ls st S I L R q hC hk hf hn hu hcl hsl hfr hlo hll kk H locs lsA hH hS hl
  unfold ck113 at hk
  simp only [Bool.and_eq_true, decide_eq_true_eq] at hk
  obtain ⟨hdg, hnx, h1⟩ := hk
  unfold f_cci at hf
  split at hf
  · rename_i a st'
    split at hf
    · rename_i hok
      cases hf
      dsimp only at kk
      rw [hnx] at kk
      have k2 := kk H locs lsA hH hS hl
      have hcell := g_arr hH hok.1 (by omega) (by omega)
      rw [hok.2] at hcell
      have hAr := hC.2.2.2.2.2.2.2.2.1.2 11 (by decide) (by decide)
      exact va_castE hC.1 hC.2.1 hC.2.2.2.2.1 (hC.2.2.2.2.2.1 _ (wd.is h1)) ⟨_, hcell, rfl, hAr.2⟩ hdg k2
    · cases hf
  · cases hf
