/-! the small machine's states beside the machine's -/
abbrev gE : Type := va_G × (Nat → ClassId) × Nat × (Nat → Nat) × (Nat → Nat) × (Nat → Nat → Int32)
def gad (E : gE) (k : Nat) : Nat := if k < 4 then E.2.2.2.1 k else E.2.2.1 + (k - 4)
/-- a literal, its bytes, a formatter that nobody looks at: by codes -/
def gfl (E : gE) (x : UInt32) : Value := if x = 0 then (if E.2.2.2.2.1 4 = 0 then .null else .ref (E.2.2.2.1 4)) else .ref (E.2.2.2.1 (4 + x.toNat))
def grv (E : gE) : Value → Value
  | .ref a => .ref (gad E a)
  | .int x => .int x
  | .long x => .long x
  | .float x => gfl E x
  | .double x => .double x
  | .null => .null
  | .retAddr x => .retAddr x
def gvl (E : gE) (K : Nat → Nat) (I : mI) (L : mL) (R : mR) (a k : Nat) : Value := if mkd (K a) k = 0 then .int (I a k) else if mkd (K a) k = 1 then .long (L a k) else va_rf ((R a k).map (gad E))
def gcl (E : gE) (S : mS) (I : mI) (L : mL) (R : mR) (a : Nat) (H : Heap) : Prop := (S.2.2.1 a < 10 → ∃ r, vwCl[S.2.2.1 a]? = some r ∧ t_OB (gad E a) (E.1.1 (S.2.2.1 a)) r.2.2 (E.1.2 (S.2.2.1 a)) H (gvl E S.2.2.1 I L R a)) ∧ (10 ≤ S.2.2.1 a → H[gad E a]? = some (arrV (E.2.1 (S.2.2.1 a)) (S.2.2.2 a) (gvl E S.2.2.1 I L R a)))
def gH (E : gE) (S : mS) (I : mI) (L : mL) (R : mR) (H : Heap) : Prop := (4 ≤ S.1 ∧ H.size = E.2.2.1 + (S.1 - 4)) ∧ (∀ a, 4 ≤ a → a < S.1 → S.2.2.1 a < 19 ∧ gcl E S I L R a H) ∧ ∀ k, k < 4 → S.2.2.1 k = 19 ∧ S.2.2.2 k = E.2.2.2.2.1 k ∧ I k = E.2.2.2.2.2 k
def gA (E : gE) : Nat → Prop := fun q => E.2.2.1 ≤ q
def gTy (k : Nat) : FieldType := if k = 10 then .byte else if k = 11 then .int else if k = 12 then .long else if k = 13 then .boolean else if k = 14 then .object RX3 else if k = 15 then .object RX5 else if k = 16 then .object RX7 else if k = 17 then .array .int else .array .long
def gK (E : gE) (U : State) : Prop := (∀ (c : Nat) (q : vw_C), vwCl[c]? = some q → u_Kn U q.1 q.2.1 q.2.2 (E.1.1 c) (E.1.2 c)) ∧ ∀ k, 10 ≤ k → k < 19 → ArrOfT U (E.2.1 k) (gTy k) ∧ va_RA U (E.2.1 k) (gTy k)
/-- words that hold of the tables, but don't go from state to state by themselves -/
def gsp : List Cond := [.arrayOver (.object RX3), .arrayOver (.object RX5), .arrayOver (.object RX7), .arrayOver (.array .int), .arrayOver (.array .long), .methodLinkNest RX8 9 yX7_init "HotIron", .methodLinkNest RX8 30 yX4_init "HotIron", .methodLinkNest RX8 37 yX6_init "HotIron", .methodLinkNest RX8 64 yX1_init "HotIron", .fieldLinkNest RX3 118 "HotIron" "ALL_TWO" "[I" "HotIron", .castable "[I" "java/lang/Cloneable"]
theorem aoa_moved {t : FieldType} {u U : State} (hvm : u.vm.Alike U.vm) (h : va_Nw (.arrayOver (.array t)) u) : va_Nw (.arrayOver (.array t)) U := by
  obtain ⟨comp, c, k, h1, h2, h3, h4, h5⟩ := arrayOverA_spec h
  obtain ⟨k', hk', he⟩ := hvm.2.2 _ _ h3
  have hi : (U.vm.classes.findIdx? fun (x : Class) => match x.kind with | .array component _ => component == comp | _ => false) = some c := by
    rw [hvm.findIdx?_eq _ (fun _ => rfl)]; exact h2
  have hkind : k'.kind = .array comp (.array t) := by rw [he]; exact h4
  have f1 : U.vm.findClass (FieldType.array t).toString = some comp := by rw [hvm.findClass]; exact h1
  have f2 : U.vm.findClass ("[" ++ (FieldType.array t).toString) = some c := by rw [hvm.findClass]; exact h5
  unfold va_Nw Cond.before Cond.holds
  simp only [Cond.value]
  rw [f1, Option.bind_some]
  refine (congrArg (fun o : Option Nat => (o.bind (fun c => (U.vm.classes[c]?).map fun (k : Class) => match k.kind with | .array _ ty => decide (ty = FieldType.array t) && decide (U.vm.findClass ("[" ++ (FieldType.array t).toString) = some c) | _ => false) == some true)) hi).trans ?_
  simp [hk', hkind, f2]
theorem gsp_warm {s U : State} (hW : s.WarmedH U.vm) (h : ∀ w ∈ gsp, va_Nw w s) : ∀ w ∈ gsp, va_Nw w U := by
  have h1 := h _ (List.mem_of_getElem? (i := 0) rfl)
  have h2 := h _ (List.mem_of_getElem? (i := 1) rfl)
  have h3 := h _ (List.mem_of_getElem? (i := 2) rfl)
  have h4 := h _ (List.mem_of_getElem? (i := 3) rfl)
  have h5 := h _ (List.mem_of_getElem? (i := 4) rfl)
  have h6 := h _ (List.mem_of_getElem? (i := 5) rfl)
  have h7 := h _ (List.mem_of_getElem? (i := 6) rfl)
  have h8 := h _ (List.mem_of_getElem? (i := 7) rfl)
  have h9 := h _ (List.mem_of_getElem? (i := 8) rfl)
  have h10 := h _ (List.mem_of_getElem? (i := 9) rfl)
  have h11 := h _ (List.mem_of_getElem? (i := 10) rfl)
  have a := hW.alike
  exact List.forall_mem_cons.mpr ⟨va_AO.moved a h1, List.forall_mem_cons.mpr ⟨va_AO.moved a h2, List.forall_mem_cons.mpr ⟨va_AO.moved a h3, List.forall_mem_cons.mpr ⟨aoa_moved a h4, List.forall_mem_cons.mpr ⟨aoa_moved a h5, List.forall_mem_cons.mpr ⟨va_Nw.warmM hW h6, List.forall_mem_cons.mpr ⟨va_Nw.warmM hW h7, List.forall_mem_cons.mpr ⟨va_Nw.warmM hW h8, List.forall_mem_cons.mpr ⟨va_Nw.warmM hW h9, List.forall_mem_cons.mpr ⟨va_Nw.warmF hW h10, List.forall_mem_cons.mpr ⟨va_Nw.warmC hW h11, fun _ h => absurd h List.not_mem_nil⟩⟩⟩⟩⟩⟩⟩⟩⟩⟩⟩
def gLt (E : gE) (U : State) (H : Heap) : Prop := vk_S 17 lsN lsB (fun i => E.2.2.2.1 (5 + 2 * i)) (fun i => E.2.2.2.1 (6 + 2 * i)) (gA E) U H ∧ (∀ i, i < 17 → vk_R "HotIron$Reader" (lsI.getD i 0) (lsT.getD i "") (E.2.2.2.1 (5 + 2 * i)) U) ∧ va_Z "java/lang/String" "COMPACT_STRINGS" "Z" (.int 1) (gA E) U H ∧ va_Z "jdk/internal/util/Preconditions" "SIOOBE_FORMATTER" "Ljava/util/function/BiFunction;" (gfl E 0) (gA E) U H
def gZ (E : gE) (U : State) (H : Heap) : Prop := va_Z "HotIron" "TERM_LOW" "[I" (.ref (E.2.2.2.1 1)) (gA E) U H ∧ va_Z "HotIron" "TERM_HIGH" "[I" (.ref (E.2.2.2.1 2)) (gA E) U H ∧ va_Z "HotIron" "ALL_TWO" "[I" (.ref (E.2.2.2.1 3)) (gA E) U H ∧ (∀ k, k < 4 → va_T .int (E.2.2.2.1 k) (E.2.2.2.2.1 k) (fun j => .int (E.2.2.2.2.2 k j)) (gA E) U H ∧ E.2.2.2.1 k < E.2.2.1) ∧ (∀ w ∈ gsp, va_Nw w U) ∧ gLt E U H
def gLo (E : gE) (lsA : Array Slot) (nL : Nat) (ls : List Value) : Prop := lsA.size = nL ∧ lv_wf lsA ∧ ∀ (i : Nat) (v : Value), ls[i]? = some v → (∀ q, v ≠ .retAddr q) → lsA[i]? = some (.val (grv E v))
def gCx (E : gE) (p : Program) (s : State) (m : MethodId) (args : Array Value) (meth : Method) (c : Code) (own nm : String) (cc : ByteArray) (nL : Nat) (ret : Option FieldType) : Prop :=
  p.tables.exec = Jvm.exec ∧ c.code = cc ∧ meth.sig.returnType = ret ∧ c.maxLocals = nL ∧ s.vm.findClass own = some m.cls ∧ (∀ w ∈ gt, w.before args s = true) ∧ meth.locks = false ∧ (nm = "<init>" → meth.name = "<init>") ∧ gK E s ∧ gZ E s s.heap ∧ E.2.2.1 ≤ s.heap.size
def gW (E : gE) (p : Program) (l : Launch) (e : Env) (Rm : Room) (s : State) (m : MethodId) (args : Array Value) (below : List Frame) (meth : Method) (c : Code) (nL n0 u0 : Nat) (Q : State → Prop) (pc : Nat) (ls st : List Value) (S : mS) (I : mI) (L : mL) (R : mR) : Prop :=
  ∀ (H : Heap) (locs : List Loc) (lsA : Array Slot), gH E S I L R H → va_S (gA E) s.heap H locs → gLo E lsA nL ls → W p l e Rm s m args below meth c H locs (S.1 - n0) (S.2.1 - u0) Q (F0 m pc lsA (st.map (grv E)))
abbrev gCk : Type := String → String → ByteArray → Nat → mOp → Bool
def sOK (ck : gCk) (f : mF) : Prop := ∀ (E : gE) (p : Program) (l : Launch) (e : Env) (Rm : Room) (s : State) (m : MethodId) (args : Array Value) (below : List Frame) (meth : Method) (c : Code) (own nm : String) (cc : ByteArray) (nL : Nat) (ret : Option FieldType) (n0 u0 : Nat) (Q : State → Prop) (pc : Nat) (o : mOp) (ls st : List Value) (S : mS) (I : mI) (L : mL) (R : mR) (q : mCf),
  gCx E p s m args meth c own nm cc nL ret → ck own nm cc pc o = true → f o ls st S I L R = some q → n0 ≤ S.1 → u0 ≤ S.2.1 → q.2.2.2.1.1 - n0 ≤ Rm.cells → q.2.2.2.1.2.1 - u0 ≤ Rm.slots → 1 ≤ Rm.frames → 64 ≤ Rm.locals → ls.length = nL →
  gW E p l e Rm s m args below meth c nL n0 u0 Q q.1 q.2.1 q.2.2.1 q.2.2.2.1 q.2.2.2.2.1 q.2.2.2.2.2.1 q.2.2.2.2.2.2 → gW E p l e Rm s m args below meth c nL n0 u0 Q pc ls st S I L R
/-- what a step keeps: the locals' number; cells and places don't become fewer -/
def sMo (f : mF) : Prop := ∀ (o : mOp) (ls st : List Value) (S : mS) (I : mI) (L : mL) (R : mR) (q : mCf), f o ls st S I L R = some q → q.2.1.length = ls.length ∧ S.1 ≤ q.2.2.2.1.1 ∧ S.2.1 ≤ q.2.2.2.1.2.1
def wGet (i : Nat) : Option Cond := if i < 112 then (k2_sels lw_privs)[i - 0]? else if i < 352 then tables_1_1[i - 112]? else if i < 592 then tables_1_2[i - 352]? else if i < 832 then tables_1_3[i - 592]? else if i < 1072 then tables_1_4[i - 832]? else if i < 1312 then tables_1_5[i - 1072]? else if i < 1552 then tables_1_6[i - 1312]? else tables_1_7[i - 1552]?
theorem wGet_mem {i : Nat} {c : Cond} (h : wGet i = some c) : c ∈ lw_tbl := by
  unfold wGet at h
  unfold lw_tbl tables_1
  simp only [List.mem_append]
  repeat' split at h
  · have h9 := List.mem_of_getElem? h; exact Or.inl h9
  · have h9 := List.mem_of_getElem? h; exact Or.inr (Or.inl h9)
  · have h9 := List.mem_of_getElem? h; exact Or.inr (Or.inr (Or.inl h9))
  · have h9 := List.mem_of_getElem? h; exact Or.inr (Or.inr (Or.inr (Or.inl h9)))
  · have h9 := List.mem_of_getElem? h; exact Or.inr (Or.inr (Or.inr (Or.inr (Or.inl h9))))
  · have h9 := List.mem_of_getElem? h; exact Or.inr (Or.inr (Or.inr (Or.inr (Or.inr (Or.inl h9)))))
  · have h9 := List.mem_of_getElem? h; exact Or.inr (Or.inr (Or.inr (Or.inr (Or.inr (Or.inr (Or.inl h9))))))
  · have h9 := List.mem_of_getElem? h; exact Or.inr (Or.inr (Or.inr (Or.inr (Or.inr (Or.inr (Or.inr h9))))))
def wd (i : Int) (c : Cond) : Bool := decide (wGet i.toNat = some c) && goodWord c
def wsp (c : Cond) : Bool := decide (c ∈ gsp)
theorem wsp.is {E : gE} {s : State} {H : Heap} {args : Array Value} {c : Cond} (h : wsp c = true) (hc : c.onTables = true) (hZ : gZ E s H) : c.before args s = true := va_Nw.use hc (hZ.2.2.2.2.1 c (of_decide_eq_true h))
theorem wsp.ao {E : gE} {s : State} {H : Heap} {args : Array Value} {t : FieldType} (h : wsp (.arrayOver t) = true) (hZ : gZ E s H) : (Cond.arrayOver t).before args s = true := hZ.2.2.2.2.1 _ (of_decide_eq_true h)
theorem wd.is {i : Int} {c : Cond} (h : wd i c = true) : c ∈ gt := by
  unfold wd at h
  simp only [Bool.and_eq_true, decide_eq_true_eq] at h
  exact List.mem_filter.mpr ⟨wGet_mem h.1, h.2⟩
/-- an instruction that stands alone -/
def ck_s (ins : mOp → Instr) (len : Nat) : gCk := fun _ _ cc pc o => decide (decode cc pc = .ok (ins o, len)) && decide (o.2.1 = pc + len)
theorem ck_s.is {ins : mOp → Instr} {len : Nat} {own nm : String} {cc : ByteArray} {pc : Nat} {o : mOp} (h : ck_s ins len own nm cc pc o = true) : decode cc pc = .ok (ins o, len) ∧ o.2.1 = pc + len := by
  unfold ck_s at h
  simpa only [Bool.and_eq_true, decide_eq_true_eq] using h
def ck_a (c1 c2 : gCk) : gCk := fun own nm cc pc o => c1 own nm cc pc o && c2 own nm cc pc o
theorem ck_a.is {c1 c2 : gCk} {own nm : String} {cc : ByteArray} {pc : Nat} {o : mOp} (h : ck_a c1 c2 own nm cc pc o = true) : c1 own nm cc pc o = true ∧ c2 own nm cc pc o = true := by
  unfold ck_a at h
  simpa only [Bool.and_eq_true] using h
def ck_c (g : mOp → Bool) : gCk := fun _ _ _ _ o => g o
def ex0 (o : mOp) : Int := o.2.2.2.2.2.getD 0 0
def fn4 (k : Nat) : Fin 4 := if h : k < 4 then ⟨k, h⟩ else 0
theorem fn4_is {k : Nat} (h : k < 4) : ((fn4 k : Fin 4) : Nat) = k := by unfold fn4; rw [dif_pos h]
theorem gad_inj {E : gE} {a b : Nat} (ha : 4 ≤ a) (hb : 4 ≤ b) (h : gad E a = gad E b) : a = b := by
  unfold gad at h
  rw [if_neg (by omega), if_neg (by omega)] at h
  omega
theorem gad_ge {E : gE} {a : Nat} (ha : 4 ≤ a) : E.2.2.1 ≤ gad E a := by
  unfold gad
  rw [if_neg (by omega)]
  omega
theorem gad_new {E : gE} {S : mS} {I : mI} {L : mL} {R : mR} {H : Heap} (h : gH E S I L R H) : gad E S.1 = H.size := by
  unfold gad
  rw [if_neg (by have := h.1.1; omega), h.1.2]
theorem grv_rf (E : gE) (r : Option Nat) : grv E (va_rf r) = va_rf (r.map (gad E)) := by cases r <;> rfl
theorem gfl_cat (E : gE) (x : UInt32) : (gfl E x).category = 1 := by
  unfold gfl
  by_cases h : x = 0
  · rw [if_pos h]
    by_cases h2 : E.2.2.2.2.1 4 = 0
    · rw [if_pos h2]; rfl
    · rw [if_neg h2]; rfl
  · rw [if_neg h]; rfl
theorem gfl_ne {E : gE} {x : UInt32} (h : x ≠ 0) : gfl E x = .ref (E.2.2.2.1 (4 + x.toNat)) := if_neg h
theorem grv_cat (E : gE) (v : Value) : (grv E v).category = v.category := by
  cases v <;> first | rfl | exact gfl_cat E _
theorem cs_map (E : gE) (st : List Value) : ((st.map (grv E)).map fun v => v.category).sum = cs st := by
  induction st with
  | nil => rfl
  | cons v st ih => simp only [List.map_cons, List.sum_cons, ih, grv_cat]; rfl
theorem gLo.get {E : gE} {lsA : Array Slot} {nL : Nat} {ls : List Value} (h : gLo E lsA nL ls) {i : Nat} {v : Value} (hv : ls[i]? = some v) (hr : ∀ q, v ≠ .retAddr q) : lsA[i]? = some (.val (grv E v)) := h.2.2 i v hv hr
/-- the pairs that the locals hold -/
def gps (E : gE) (ls : List Value) (k : Nat) : List (Nat × Value) := match ls with
  | [] => []
  | .retAddr _ :: l => gps E l (k + 1)
  | v :: l => (k, grv E v) :: gps E l (k + 1)
theorem gps_mem (E : gE) : ∀ (ls : List Value) (k : Nat) (q : Nat × Value), q ∈ gps E ls k ↔ ∃ (i : Nat) (v : Value), ls[i]? = some v ∧ (∀ z, v ≠ .retAddr z) ∧ q = (k + i, grv E v) := by
  intro ls
  induction ls with
  | nil => intro k q; simp [gps]
  | cons a l ih =>
    intro k q
    have step : (∃ (i : Nat) (v : Value), (a :: l)[i]? = some v ∧ (∀ z, v ≠ .retAddr z) ∧ q = (k + i, grv E v)) ↔ ((∀ z, a ≠ .retAddr z) ∧ q = (k, grv E a)) ∨ ∃ (i : Nat) (v : Value), l[i]? = some v ∧ (∀ z, v ≠ .retAddr z) ∧ q = (k + 1 + i, grv E v) := by
      constructor
      · rintro ⟨i, v, h1, h2, h3⟩
        cases i with
        | zero => simp at h1; subst h1; exact Or.inl ⟨h2, h3⟩
        | succ i => simp at h1; exact Or.inr ⟨i, v, h1, h2, by rw [h3]; congr 1; omega⟩
      · rintro (⟨h1, h2⟩ | ⟨i, v, h1, h2, h3⟩)
        · exact ⟨0, a, by simp, h1, h2⟩
        · exact ⟨i + 1, v, by simpa using h1, h2, by rw [h3]; congr 1; omega⟩
    rw [step, ← ih (k + 1) q]
    cases a <;> simp [gps]
theorem gLo.has {E : gE} {lsA : Array Slot} {nL : Nat} {ls : List Value} (h : gLo E lsA nL ls) : lv_has lsA nL (gps E ls 0) := by
  refine ⟨h.1, h.2.1, fun q hq => ?_⟩
  obtain ⟨i, v, h1, h2, rfl⟩ := (gps_mem E ls 0 q).mp hq
  rw [Nat.zero_add]
  exact h.2.2 i v h1 h2
theorem st1_get : ∀ (ls : List Value) (i : Nat) (v : Value) (k : Nat) (x : Value), (st1 ls i v)[k]? = some x → (k = i ∧ x = v) ∨ (∃ z, x = .retAddr z) ∨ (k ≠ i ∧ ls[k]? = some x ∧ ¬ (k + 1 = i ∧ x.category = 2)) := by
  intro ls
  induction ls with
  | nil => intro i v k x h; simp [st1] at h
  | cons a l ih =>
    intro i v k x h
    cases i with
    | zero =>
      cases k with
      | zero => simp [st1] at h; exact Or.inl ⟨rfl, h.symm⟩
      | succ k => simp [st1] at h; exact Or.inr (Or.inr ⟨by omega, by simpa using h, by omega⟩)
    | succ i =>
      cases k with
      | zero =>
        simp [st1] at h
        by_cases hc : i = 0 ∧ a.category = 2
        · rw [if_pos hc] at h; exact Or.inr (Or.inl ⟨0, h.symm⟩)
        · rw [if_neg hc] at h
          subst h
          exact Or.inr (Or.inr ⟨by omega, by simp, fun q => hc ⟨by omega, q.2⟩⟩)
      | succ k =>
        simp [st1] at h
        rcases ih i v k x h with ⟨h1, h2⟩ | h1 | ⟨h1, h2, h3⟩
        · exact Or.inl ⟨by omega, h2⟩
        · exact Or.inr (Or.inl h1)
        · exact Or.inr (Or.inr ⟨by omega, by simpa using h2, fun q => h3 ⟨by omega, q.2⟩⟩)
theorem st1_len : ∀ (ls : List Value) (i : Nat) (v : Value), (st1 ls i v).length = ls.length := by
  intro ls
  induction ls with
  | nil => intro i v; rfl
  | cons a l ih => intro i v; cases i <;> simp [st1, ih]
theorem st2_get : ∀ (ls : List Value) (i : Nat) (v : Value) (k : Nat) (x : Value), (st2 ls i v)[k]? = some x → (k = i ∧ x = v) ∨ (∃ z, x = .retAddr z) ∨ (k ≠ i ∧ k ≠ i + 1 ∧ ls[k]? = some x ∧ ¬ (k + 1 = i ∧ x.category = 2)) := by
  intro ls
  induction ls with
  | nil => intro i v k x h; simp [st2] at h
  | cons a l ih =>
    intro i v k x h
    cases l with
    | nil => simp [st2] at h
    | cons b l =>
      cases i with
      | zero =>
        match k, h with
        | 0, h => simp [st2] at h; exact Or.inl ⟨rfl, h.symm⟩
        | 1, h => simp [st2] at h; exact Or.inr (Or.inl ⟨0, h.symm⟩)
        | k + 2, h => simp [st2] at h; exact Or.inr (Or.inr ⟨by omega, by omega, by simpa using h, by omega⟩)
      | succ i =>
        cases k with
        | zero =>
          simp [st2] at h
          by_cases hc : i = 0 ∧ a.category = 2
          · rw [if_pos hc] at h; exact Or.inr (Or.inl ⟨0, h.symm⟩)
          · rw [if_neg hc] at h
            subst h
            exact Or.inr (Or.inr ⟨by omega, by omega, by simp, fun q => hc ⟨by omega, q.2⟩⟩)
        | succ k =>
          simp [st2] at h
          rcases ih i v k x h with ⟨h1, h2⟩ | h1 | ⟨h1, h0, h2, h3⟩
          · exact Or.inl ⟨by omega, h2⟩
          · exact Or.inr (Or.inl h1)
          · exact Or.inr (Or.inr ⟨by omega, by omega, by simpa using h2, fun q => h3 ⟨by omega, q.2⟩⟩)
theorem st2_len : ∀ (ls : List Value) (i : Nat) (v : Value), i + 1 < ls.length → (st2 ls i v).length = ls.length := by
  intro ls
  induction ls with
  | nil => intro i v h; rfl
  | cons a l ih =>
    intro i v h
    cases l with
    | nil => simp at h
    | cons b l => cases i with
      | zero => simp [st2]
      | succ i => simp only [st2, List.length_cons]; rw [ih i v (by simpa using h)]; rfl
/-- behind a store -/
theorem gLo.st1 {E : gE} {lsA ls' : Array Slot} {nL : Nat} {ls : List Value} {i : Nat} {v : Value} (h : lv_has ls' nL ((i, grv E v) :: (gps E ls 0).filter (fun q => !(q.1 == i) && !(q.1 + 1 == i && q.2.category == 2)))) : gLo E ls' nL (st1 ls i v) := by
  refine ⟨h.1, h.2.1, fun k x hx hr => ?_⟩
  rcases st1_get ls i v k x hx with ⟨rfl, rfl⟩ | ⟨z, rfl⟩ | ⟨h1, h2, h3⟩
  · exact h.2.2 _ List.mem_cons_self
  · exact absurd rfl (hr z)
  · refine h.2.2 (k, grv E x) (List.mem_cons_of_mem _ (List.mem_filter.mpr ⟨(gps_mem E ls 0 _).mpr ⟨k, x, h2, hr, by rw [Nat.zero_add]⟩, ?_⟩))
    simp only [Bool.and_eq_true, Bool.not_eq_true', beq_eq_false_iff_ne, ne_eq, Bool.and_eq_false_iff]
    refine ⟨h1, ?_⟩
    rw [grv_cat]
    by_cases hk : k + 1 = i
    · exact Or.inr (fun q => h3 ⟨hk, q⟩)
    · exact Or.inl hk
theorem gLo.st2 {E : gE} {lsA ls' : Array Slot} {nL : Nat} {ls : List Value} {i : Nat} {v : Value} (h : lv_has ls' nL ((i, grv E v) :: (gps E ls 0).filter (fun q => !(q.1 == i) && (!(q.1 == i + 1) && !(q.1 + 1 == i && q.2.category == 2))))) : gLo E ls' nL (st2 ls i v) := by
  refine ⟨h.1, h.2.1, fun k x hx hr => ?_⟩
  rcases st2_get ls i v k x hx with ⟨rfl, rfl⟩ | ⟨z, rfl⟩ | ⟨h1, h0, h2, h3⟩
  · exact h.2.2 _ List.mem_cons_self
  · exact absurd rfl (hr z)
  · refine h.2.2 (k, grv E x) (List.mem_cons_of_mem _ (List.mem_filter.mpr ⟨(gps_mem E ls 0 _).mpr ⟨k, x, h2, hr, by rw [Nat.zero_add]⟩, ?_⟩))
    simp only [Bool.and_eq_true, Bool.not_eq_true', beq_eq_false_iff_ne, ne_eq, Bool.and_eq_false_iff]
    refine ⟨h1, h0, ?_⟩
    rw [grv_cat]
    by_cases hk : k + 1 = i
    · exact Or.inr (fun q => h3 ⟨hk, q⟩)
    · exact Or.inl hk
theorem so2 : sOK (ck_s (fun o => .iconst (ex0 o)) 1) f_ic := by
  intro E p l e Rm s m args below meth c own nm cc nL ret n0 u0 Q pc o ls st S I L R q hC hk hf hn hu hcl hsl hfr hlo hll kk H locs lsA hH hS hl
  obtain ⟨hdg, hnx⟩ := ck_s.is hk
  unfold f_ic at hf
  split at hf
  · rename_i v hv
    have e0 : ex0 o = v := congrArg (fun z : List Int => z.getD 0 0) hv
    rw [e0] at hdg
    cases hf
    dsimp only at kk
    rw [hnx] at kk
    exact lv_iconst hC.1 hC.2.1 hdg rfl (kk H locs lsA hH hS hl)
  · cases hf
theorem so3 : sOK (ck_a (ck_s (fun o => .bipush (ex0 o)) 2) (ck_c (fun o => decide ((Int8.ofInt (ex0 o)).toInt32 = Int32.ofInt (ex0 o))))) f_ic := by
  intro E p l e Rm s m args below meth c own nm cc nL ret n0 u0 Q pc o ls st S I L R q hC hk hf hn hu hcl hsl hfr hlo hll kk H locs lsA hH hS hl
  obtain ⟨hk, hk2⟩ := ck_a.is hk
  obtain ⟨hdg, hnx⟩ := ck_s.is hk
  unfold f_ic at hf
  split at hf
  · rename_i v hv
    have e0 : ex0 o = v := congrArg (fun z : List Int => z.getD 0 0) hv
    have hk3 := of_decide_eq_true hk2
    rw [e0] at hdg hk3
    cases hf
    dsimp only at kk
    rw [hnx] at kk
    exact lv_bipush hC.1 hC.2.1 hdg hk3 (kk H locs lsA hH hS hl)
  · cases hf
theorem so4 : sOK (ck_a (ck_s (fun o => .sipush (ex0 o)) 3) (ck_c (fun o => decide ((Int16.ofInt (ex0 o)).toInt32 = Int32.ofInt (ex0 o))))) f_ic := by
  intro E p l e Rm s m args below meth c own nm cc nL ret n0 u0 Q pc o ls st S I L R q hC hk hf hn hu hcl hsl hfr hlo hll kk H locs lsA hH hS hl
  obtain ⟨hk, hk2⟩ := ck_a.is hk
  obtain ⟨hdg, hnx⟩ := ck_s.is hk
  unfold f_ic at hf
  split at hf
  · rename_i v hv
    have e0 : ex0 o = v := congrArg (fun z : List Int => z.getD 0 0) hv
    have hk3 := of_decide_eq_true hk2
    rw [e0] at hdg hk3
    cases hf
    dsimp only at kk
    rw [hnx] at kk
    exact lv_sipush hC.1 hC.2.1 hdg hk3 (kk H locs lsA hH hS hl)
  · cases hf
theorem so5 : sOK (ck_a (ck_s (fun o => .ldc o.2.2.1) 2) (fun own _ _ _ o => wd o.2.2.2.1 (.constant own o.2.2.1 (Int32.ofInt (ex0 o))))) f_ic := by
  intro E p l e Rm s m args below meth c own nm cc nL ret n0 u0 Q pc o ls st S I L R q hC hk hf hn hu hcl hsl hfr hlo hll kk H locs lsA hH hS hl
  obtain ⟨hk, hk2⟩ := ck_a.is hk
  obtain ⟨hdg, hnx⟩ := ck_s.is hk
  unfold f_ic at hf
  split at hf
  · rename_i v hv
    have e0 : ex0 o = v := congrArg (fun z : List Int => z.getD 0 0) hv
    have hk3 := hC.2.2.2.2.2.1 _ (wd.is hk2)
    rw [e0] at hk3
    cases hf
    dsimp only at kk
    rw [hnx] at kk
    exact lv_ldc hC.1 hC.2.1 hC.2.2.2.2.1 hk3 hdg (kk H locs lsA hH hS hl)
  · cases hf
theorem so99 : sOK (ck_a (ck_s (fun o => .ldc_w o.2.2.1) 3) (fun own _ _ _ o => wd o.2.2.2.1 (.constant own o.2.2.1 (Int32.ofInt (ex0 o))))) f_ic := by
  intro E p l e Rm s m args below meth c own nm cc nL ret n0 u0 Q pc o ls st S I L R q hC hk hf hn hu hcl hsl hfr hlo hll kk H locs lsA hH hS hl
  obtain ⟨hk, hk2⟩ := ck_a.is hk
  obtain ⟨hdg, hnx⟩ := ck_s.is hk
  unfold f_ic at hf
  split at hf
  · rename_i v hv
    have e0 : ex0 o = v := congrArg (fun z : List Int => z.getD 0 0) hv
    have hk3 := hC.2.2.2.2.2.1 _ (wd.is hk2)
    rw [e0] at hk3
    cases hf
    dsimp only at kk
    rw [hnx] at kk
    exact lv_ldcw hC.1 hC.2.1 hC.2.2.2.2.1 hk3 hdg (kk H locs lsA hH hS hl)
  · cases hf
theorem so7 : sOK (ck_a (ck_s (fun o => .ldc2_w o.2.2.1) 3) (fun own _ _ _ o => wd o.2.2.2.1 (.constantLong own o.2.2.1 (Int64.ofInt (ex0 o))))) f_lc := by
  intro E p l e Rm s m args below meth c own nm cc nL ret n0 u0 Q pc o ls st S I L R q hC hk hf hn hu hcl hsl hfr hlo hll kk H locs lsA hH hS hl
  obtain ⟨hk, hk2⟩ := ck_a.is hk
  obtain ⟨hdg, hnx⟩ := ck_s.is hk
  unfold f_lc at hf
  split at hf
  · rename_i v hv
    have e0 : ex0 o = v := congrArg (fun z : List Int => z.getD 0 0) hv
    have hk3 := hC.2.2.2.2.2.1 _ (wd.is hk2)
    rw [e0] at hk3
    cases hf
    dsimp only at kk
    rw [hnx] at kk
    exact lv_ldc2 hC.1 hC.2.1 hC.2.2.2.2.1 hk3 hdg (kk H locs lsA hH hS hl)
  · cases hf
theorem so6 : sOK (ck_a (ck_s (fun o => .lconst (if ex0 o = 0 then 0 else 1)) 1) (ck_c (fun o => decide (ex0 o = 0 ∨ ex0 o = 1)))) f_lc := by
  intro E p l e Rm s m args below meth c own nm cc nL ret n0 u0 Q pc o ls st S I L R q hC hk hf hn hu hcl hsl hfr hlo hll kk H locs lsA hH hS hl
  obtain ⟨hk, hk2⟩ := ck_a.is hk
  obtain ⟨hdg, hnx⟩ := ck_s.is hk
  unfold f_lc at hf
  split at hf
  · rename_i v hv
    have e0 : ex0 o = v := congrArg (fun z : List Int => z.getD 0 0) hv
    have hk3 := of_decide_eq_true hk2
    rw [e0] at hdg hk3
    cases hf
    dsimp only at kk
    rw [hnx] at kk
    rcases hk3 with rfl | rfl
    · exact lv_lconst hC.1 hC.2.1 hdg rfl (kk H locs lsA hH hS hl)
    · exact lv_lconst hC.1 hC.2.1 hdg rfl (kk H locs lsA hH hS hl)
  · cases hf
theorem so8 : sOK (ck_a (ck_s (fun o => .iload_n (fn4 o.2.2.1)) 1) (ck_c (fun o => decide (o.2.2.1 < 4)))) f_il := by
  intro E p l e Rm s m args below meth c own nm cc nL ret n0 u0 Q pc o ls st S I L R q hC hk hf hn hu hcl hsl hfr hlo hll kk H locs lsA hH hS hl
  obtain ⟨hk, hk2⟩ := ck_a.is hk
  obtain ⟨hdg, hnx⟩ := ck_s.is hk
  unfold f_il at hf
  split at hf
  · rename_i v hv
    cases hf
    dsimp only at kk
    rw [hnx] at kk
    exact lv_iload_n hC.1 hC.2.1 hdg (fn4_is (of_decide_eq_true hk2)) (hl.get hv (fun _ h => by cases h)) (kk H locs lsA hH hS hl)
  · cases hf
theorem so10 : sOK (ck_a (ck_s (fun o => .lload_n (fn4 o.2.2.1)) 1) (ck_c (fun o => decide (o.2.2.1 < 4)))) f_ll := by
  intro E p l e Rm s m args below meth c own nm cc nL ret n0 u0 Q pc o ls st S I L R q hC hk hf hn hu hcl hsl hfr hlo hll kk H locs lsA hH hS hl
  obtain ⟨hk, hk2⟩ := ck_a.is hk
  obtain ⟨hdg, hnx⟩ := ck_s.is hk
  unfold f_ll at hf
  split at hf
  · rename_i v hv
    cases hf
    dsimp only at kk
    rw [hnx] at kk
    exact lv_lload_n hC.1 hC.2.1 hdg (fn4_is (of_decide_eq_true hk2)) (hl.get hv (fun _ h => by cases h)) (kk H locs lsA hH hS hl)
  · cases hf
theorem so9 : sOK (ck_s (fun o => .iload o.2.2.1) 2) f_il := by
  intro E p l e Rm s m args below meth c own nm cc nL ret n0 u0 Q pc o ls st S I L R q hC hk hf hn hu hcl hsl hfr hlo hll kk H locs lsA hH hS hl
  obtain ⟨hdg, hnx⟩ := ck_s.is hk
  unfold f_il at hf
  split at hf
  · rename_i v hv
    cases hf
    dsimp only at kk
    rw [hnx] at kk
    exact lv_iload hC.1 hC.2.1 hdg (hl.get hv (fun _ h => by cases h)) (kk H locs lsA hH hS hl)
  · cases hf
theorem so11 : sOK (ck_s (fun o => .lload o.2.2.1) 2) f_ll := by
  intro E p l e Rm s m args below meth c own nm cc nL ret n0 u0 Q pc o ls st S I L R q hC hk hf hn hu hcl hsl hfr hlo hll kk H locs lsA hH hS hl
  obtain ⟨hdg, hnx⟩ := ck_s.is hk
  unfold f_ll at hf
  split at hf
  · rename_i v hv
    cases hf
    dsimp only at kk
    rw [hnx] at kk
    exact lv_lload hC.1 hC.2.1 hdg (hl.get hv (fun _ h => by cases h)) (kk H locs lsA hH hS hl)
  · cases hf
theorem so12 : sOK (ck_a (ck_s (fun o => .aload_n (fn4 o.2.2.1)) 1) (ck_c (fun o => decide (o.2.2.1 < 4)))) f_al := by
  intro E p l e Rm s m args below meth c own nm cc nL ret n0 u0 Q pc o ls st S I L R q hC hk hf hn hu hcl hsl hfr hlo hll kk H locs lsA hH hS hl
  obtain ⟨hk, hk2⟩ := ck_a.is hk
  obtain ⟨hdg, hnx⟩ := ck_s.is hk
  unfold f_al at hf
  split at hf
  · rename_i v hv
    cases hf
    dsimp only at kk
    rw [hnx] at kk
    exact lv_aload_n hC.1 hC.2.1 hdg (fn4_is (of_decide_eq_true hk2)) (hl.get hv (fun _ h => by cases h)) (kk H locs lsA hH hS hl)
  · rename_i hv
    cases hf
    dsimp only at kk
    rw [hnx] at kk
    exact lv_aload_nN hC.1 hC.2.1 hdg (fn4_is (of_decide_eq_true hk2)) (hl.get hv (fun _ h => by cases h)) (kk H locs lsA hH hS hl)
  · cases hf
theorem so13 : sOK (ck_s (fun o => .aload o.2.2.1) 2) f_al := by
  intro E p l e Rm s m args below meth c own nm cc nL ret n0 u0 Q pc o ls st S I L R q hC hk hf hn hu hcl hsl hfr hlo hll kk H locs lsA hH hS hl
  obtain ⟨hdg, hnx⟩ := ck_s.is hk
  unfold f_al at hf
  split at hf
  · rename_i v hv
    cases hf
    dsimp only at kk
    rw [hnx] at kk
    exact lv_aload hC.1 hC.2.1 hdg (hl.get hv (fun _ h => by cases h)) (kk H locs lsA hH hS hl)
  · rename_i hv
    cases hf
    dsimp only at kk
    rw [hnx] at kk
    exact lv_aloadN hC.1 hC.2.1 hdg (hl.get hv (fun _ h => by cases h)) (kk H locs lsA hH hS hl)
  · cases hf
theorem so14 : sOK (ck_a (ck_s (fun o => .istore_n (fn4 o.2.2.1)) 1) (ck_c (fun o => decide (o.2.2.1 < 4)))) f_is := by
  intro E p l e Rm s m args below meth c own nm cc nL ret n0 u0 Q pc o ls st S I L R q hC hk hf hn hu hcl hsl hfr hlo hll kk H locs lsA hH hS hl
  obtain ⟨hk, hk2⟩ := ck_a.is hk
  obtain ⟨hdg, hnx⟩ := ck_s.is hk
  unfold f_is at hf
  split at hf
  · split at hf
    · rename_i hlt
      cases hf
      dsimp only at kk
      rw [hnx] at kk
      exact lv_istore_n hC.1 hC.2.1 hdg (fn4_is (of_decide_eq_true hk2)) hl.has (hll ▸ hlt) rfl (fun ls' hl' => kk H locs ls' hH hS (gLo.st1 (lsA := lsA) hl'))
    · cases hf
  · cases hf
theorem so15 : sOK (ck_s (fun o => .istore o.2.2.1) 2) f_is := by
  intro E p l e Rm s m args below meth c own nm cc nL ret n0 u0 Q pc o ls st S I L R q hC hk hf hn hu hcl hsl hfr hlo hll kk H locs lsA hH hS hl
  obtain ⟨hdg, hnx⟩ := ck_s.is hk
  unfold f_is at hf
  split at hf
  · split at hf
    · rename_i hlt
      cases hf
      dsimp only at kk
      rw [hnx] at kk
      exact lv_istore hC.1 hC.2.1 hdg hl.has (hll ▸ hlt) rfl (fun ls' hl' => kk H locs ls' hH hS (gLo.st1 (lsA := lsA) hl'))
    · cases hf
  · cases hf
theorem so16 : sOK (ck_a (ck_s (fun o => .lstore_n (fn4 o.2.2.1)) 1) (ck_c (fun o => decide (o.2.2.1 < 4)))) f_ls := by
  intro E p l e Rm s m args below meth c own nm cc nL ret n0 u0 Q pc o ls st S I L R q hC hk hf hn hu hcl hsl hfr hlo hll kk H locs lsA hH hS hl
  obtain ⟨hk, hk2⟩ := ck_a.is hk
  obtain ⟨hdg, hnx⟩ := ck_s.is hk
  unfold f_ls at hf
  split at hf
  · split at hf
    · rename_i hlt
      cases hf
      dsimp only at kk
      rw [hnx] at kk
      exact lv_lstore_n hC.1 hC.2.1 hdg (fn4_is (of_decide_eq_true hk2)) hl.has (hll ▸ hlt) rfl (fun ls' hl' => kk H locs ls' hH hS (gLo.st2 (lsA := lsA) hl'))
    · cases hf
  · cases hf
theorem so17 : sOK (ck_s (fun o => .lstore o.2.2.1) 2) f_ls := by
  intro E p l e Rm s m args below meth c own nm cc nL ret n0 u0 Q pc o ls st S I L R q hC hk hf hn hu hcl hsl hfr hlo hll kk H locs lsA hH hS hl
  obtain ⟨hdg, hnx⟩ := ck_s.is hk
  unfold f_ls at hf
  split at hf
  · split at hf
    · rename_i hlt
      cases hf
      dsimp only at kk
      rw [hnx] at kk
      exact lv_lstore hC.1 hC.2.1 hdg hl.has (hll ▸ hlt) rfl (fun ls' hl' => kk H locs ls' hH hS (gLo.st2 (lsA := lsA) hl'))
    · cases hf
  · cases hf
theorem so18 : sOK (ck_a (ck_s (fun o => .astore_n (fn4 o.2.2.1)) 1) (ck_c (fun o => decide (o.2.2.1 < 4)))) f_as := by
  intro E p l e Rm s m args below meth c own nm cc nL ret n0 u0 Q pc o ls st S I L R q hC hk hf hn hu hcl hsl hfr hlo hll kk H locs lsA hH hS hl
  obtain ⟨hk, hk2⟩ := ck_a.is hk
  obtain ⟨hdg, hnx⟩ := ck_s.is hk
  unfold f_as at hf
  split at hf
  · split at hf
    · rename_i hlt
      cases hf
      dsimp only at kk
      rw [hnx] at kk
      exact lv_astore_n hC.1 hC.2.1 hdg (fn4_is (of_decide_eq_true hk2)) hl.has (hll ▸ hlt) rfl (fun ls' hl' => kk H locs ls' hH hS (gLo.st1 (lsA := lsA) hl'))
    · cases hf
  · split at hf
    · rename_i hlt
      cases hf
      dsimp only at kk
      rw [hnx] at kk
      exact lv_astore_nN hC.1 hC.2.1 hdg (fn4_is (of_decide_eq_true hk2)) hl.has (hll ▸ hlt) rfl (fun ls' hl' => kk H locs ls' hH hS (gLo.st1 (lsA := lsA) hl'))
    · cases hf
  · cases hf
theorem so19 : sOK (ck_s (fun o => .astore o.2.2.1) 2) f_as := by
  intro E p l e Rm s m args below meth c own nm cc nL ret n0 u0 Q pc o ls st S I L R q hC hk hf hn hu hcl hsl hfr hlo hll kk H locs lsA hH hS hl
  obtain ⟨hdg, hnx⟩ := ck_s.is hk
  unfold f_as at hf
  split at hf
  · split at hf
    · rename_i hlt
      cases hf
      dsimp only at kk
      rw [hnx] at kk
      exact lv_astore hC.1 hC.2.1 hdg hl.has (hll ▸ hlt) rfl (fun ls' hl' => kk H locs ls' hH hS (gLo.st1 (lsA := lsA) hl'))
    · cases hf
  · split at hf
    · rename_i hlt
      cases hf
      dsimp only at kk
      rw [hnx] at kk
      exact lv_astoreN hC.1 hC.2.1 hdg hl.has (hll ▸ hlt) rfl (fun ls' hl' => kk H locs ls' hH hS (gLo.st1 (lsA := lsA) hl'))
    · cases hf
  · cases hf
theorem so20 : sOK (ck_s (fun o => .iinc o.2.2.1 (ex0 o)) 3) f_ii := by
  intro E p l e Rm s m args below meth c own nm cc nL ret n0 u0 Q pc o ls st S I L R q hC hk hf hn hu hcl hsl hfr hlo hll kk H locs lsA hH hS hl
  obtain ⟨hdg, hnx⟩ := ck_s.is hk
  unfold f_ii at hf
  split at hf
  · rename_i x v hv he
    have e0 : ex0 o = v := congrArg (fun z : List Int => z.getD 0 0) he
    rw [e0] at hdg
    cases hf
    dsimp only at kk
    rw [hnx] at kk
    have hlt : o.2.2.1 < ls.length := (List.getElem?_eq_some_iff.mp hv).1
    obtain ⟨k, hk9⟩ := List.getElem?_of_mem ((gps_mem E ls 0 (o.2.2.1, .int x)).mpr ⟨o.2.2.1, .int x, hv, (fun _ h => by cases h), by rw [Nat.zero_add]; rfl⟩)
    exact lv_iinc hC.1 hC.2.1 hdg hl.has hk9 rfl (hll ▸ hlt) rfl (fun ls' hl' => kk H locs ls' hH hS (gLo.st1 (lsA := lsA) hl'))
  · cases hf
theorem so21 : sOK (ck_s (fun _ => .iadd) 1) (f_bi (fun x y => x + y)) := by
  intro E p l e Rm s m args below meth c own nm cc nL ret n0 u0 Q pc o ls st S I L R q hC hk hf hn hu hcl hsl hfr hlo hll kk H locs lsA hH hS hl
  obtain ⟨hdg, hnx⟩ := ck_s.is hk
  unfold f_bi at hf
  split at hf
  · cases hf
    dsimp only at kk
    rw [hnx] at kk
    exact lv_iadd hC.1 hC.2.1 hdg (kk H locs lsA hH hS hl)
  · cases hf
theorem so22 : sOK (ck_s (fun _ => .isub) 1) (f_bi (fun x y => x - y)) := by
  intro E p l e Rm s m args below meth c own nm cc nL ret n0 u0 Q pc o ls st S I L R q hC hk hf hn hu hcl hsl hfr hlo hll kk H locs lsA hH hS hl
  obtain ⟨hdg, hnx⟩ := ck_s.is hk
  unfold f_bi at hf
  split at hf
  · cases hf
    dsimp only at kk
    rw [hnx] at kk
    exact lv_isub hC.1 hC.2.1 hdg (kk H locs lsA hH hS hl)
  · cases hf
theorem so23 : sOK (ck_s (fun _ => .imul) 1) (f_bi (fun x y => x * y)) := by
  intro E p l e Rm s m args below meth c own nm cc nL ret n0 u0 Q pc o ls st S I L R q hC hk hf hn hu hcl hsl hfr hlo hll kk H locs lsA hH hS hl
  obtain ⟨hdg, hnx⟩ := ck_s.is hk
  unfold f_bi at hf
  split at hf
  · cases hf
    dsimp only at kk
    rw [hnx] at kk
    exact lv_imul hC.1 hC.2.1 hdg (kk H locs lsA hH hS hl)
  · cases hf
theorem so24 : sOK (ck_s (fun _ => .iand) 1) (f_bi (fun x y => x &&& y)) := by
  intro E p l e Rm s m args below meth c own nm cc nL ret n0 u0 Q pc o ls st S I L R q hC hk hf hn hu hcl hsl hfr hlo hll kk H locs lsA hH hS hl
  obtain ⟨hdg, hnx⟩ := ck_s.is hk
  unfold f_bi at hf
  split at hf
  · cases hf
    dsimp only at kk
    rw [hnx] at kk
    exact lv_iand hC.1 hC.2.1 hdg (kk H locs lsA hH hS hl)
  · cases hf
theorem so25 : sOK (ck_s (fun _ => .ior) 1) (f_bi (fun x y => x ||| y)) := by
  intro E p l e Rm s m args below meth c own nm cc nL ret n0 u0 Q pc o ls st S I L R q hC hk hf hn hu hcl hsl hfr hlo hll kk H locs lsA hH hS hl
  obtain ⟨hdg, hnx⟩ := ck_s.is hk
  unfold f_bi at hf
  split at hf
  · cases hf
    dsimp only at kk
    rw [hnx] at kk
    exact lv_ior hC.1 hC.2.1 hdg (kk H locs lsA hH hS hl)
  · cases hf
theorem so26 : sOK (ck_s (fun _ => .ixor) 1) (f_bi (fun x y => x ^^^ y)) := by
  intro E p l e Rm s m args below meth c own nm cc nL ret n0 u0 Q pc o ls st S I L R q hC hk hf hn hu hcl hsl hfr hlo hll kk H locs lsA hH hS hl
  obtain ⟨hdg, hnx⟩ := ck_s.is hk
  unfold f_bi at hf
  split at hf
  · cases hf
    dsimp only at kk
    rw [hnx] at kk
    exact lv_ixor hC.1 hC.2.1 hdg (kk H locs lsA hH hS hl)
  · cases hf
theorem so30 : sOK (ck_s (fun _ => .ishl) 1) (f_bi (fun x y => x <<< (y &&& 31))) := by
  intro E p l e Rm s m args below meth c own nm cc nL ret n0 u0 Q pc o ls st S I L R q hC hk hf hn hu hcl hsl hfr hlo hll kk H locs lsA hH hS hl
  obtain ⟨hdg, hnx⟩ := ck_s.is hk
  unfold f_bi at hf
  split at hf
  · cases hf
    dsimp only at kk
    rw [hnx] at kk
    exact lv_ishl hC.1 hC.2.1 hdg (kk H locs lsA hH hS hl)
  · cases hf
theorem so31 : sOK (ck_s (fun _ => .ishr) 1) (f_bi (fun x y => x >>> (y &&& 31))) := by
  intro E p l e Rm s m args below meth c own nm cc nL ret n0 u0 Q pc o ls st S I L R q hC hk hf hn hu hcl hsl hfr hlo hll kk H locs lsA hH hS hl
  obtain ⟨hdg, hnx⟩ := ck_s.is hk
  unfold f_bi at hf
  split at hf
  · cases hf
    dsimp only at kk
    rw [hnx] at kk
    exact lv_ishr hC.1 hC.2.1 hdg (kk H locs lsA hH hS hl)
  · cases hf
theorem so32 : sOK (ck_s (fun _ => .ladd) 1) (f_bl (fun x y => x + y)) := by
  intro E p l e Rm s m args below meth c own nm cc nL ret n0 u0 Q pc o ls st S I L R q hC hk hf hn hu hcl hsl hfr hlo hll kk H locs lsA hH hS hl
  obtain ⟨hdg, hnx⟩ := ck_s.is hk
  unfold f_bl at hf
  split at hf
  · cases hf
    dsimp only at kk
    rw [hnx] at kk
    exact lv_ladd hC.1 hC.2.1 hdg (kk H locs lsA hH hS hl)
  · cases hf
theorem so33 : sOK (ck_s (fun _ => .lsub) 1) (f_bl (fun x y => x - y)) := by
  intro E p l e Rm s m args below meth c own nm cc nL ret n0 u0 Q pc o ls st S I L R q hC hk hf hn hu hcl hsl hfr hlo hll kk H locs lsA hH hS hl
  obtain ⟨hdg, hnx⟩ := ck_s.is hk
  unfold f_bl at hf
  split at hf
  · cases hf
    dsimp only at kk
    rw [hnx] at kk
    exact lv_lsub hC.1 hC.2.1 hdg (kk H locs lsA hH hS hl)
  · cases hf
theorem so34 : sOK (ck_s (fun _ => .lmul) 1) (f_bl (fun x y => x * y)) := by
  intro E p l e Rm s m args below meth c own nm cc nL ret n0 u0 Q pc o ls st S I L R q hC hk hf hn hu hcl hsl hfr hlo hll kk H locs lsA hH hS hl
  obtain ⟨hdg, hnx⟩ := ck_s.is hk
  unfold f_bl at hf
  split at hf
  · cases hf
    dsimp only at kk
    rw [hnx] at kk
    exact lv_lmul hC.1 hC.2.1 hdg (kk H locs lsA hH hS hl)
  · cases hf
theorem so35 : sOK (ck_s (fun _ => .land) 1) (f_bl (fun x y => x &&& y)) := by
  intro E p l e Rm s m args below meth c own nm cc nL ret n0 u0 Q pc o ls st S I L R q hC hk hf hn hu hcl hsl hfr hlo hll kk H locs lsA hH hS hl
  obtain ⟨hdg, hnx⟩ := ck_s.is hk
  unfold f_bl at hf
  split at hf
  · cases hf
    dsimp only at kk
    rw [hnx] at kk
    exact lv_land hC.1 hC.2.1 hdg (kk H locs lsA hH hS hl)
  · cases hf
theorem so36 : sOK (ck_s (fun _ => .lor) 1) (f_bl (fun x y => x ||| y)) := by
  intro E p l e Rm s m args below meth c own nm cc nL ret n0 u0 Q pc o ls st S I L R q hC hk hf hn hu hcl hsl hfr hlo hll kk H locs lsA hH hS hl
  obtain ⟨hdg, hnx⟩ := ck_s.is hk
  unfold f_bl at hf
  split at hf
  · cases hf
    dsimp only at kk
    rw [hnx] at kk
    exact lv_lor hC.1 hC.2.1 hdg (kk H locs lsA hH hS hl)
  · cases hf
theorem so37 : sOK (ck_s (fun _ => .lxor) 1) (f_bl (fun x y => x ^^^ y)) := by
  intro E p l e Rm s m args below meth c own nm cc nL ret n0 u0 Q pc o ls st S I L R q hC hk hf hn hu hcl hsl hfr hlo hll kk H locs lsA hH hS hl
  obtain ⟨hdg, hnx⟩ := ck_s.is hk
  unfold f_bl at hf
  split at hf
  · cases hf
    dsimp only at kk
    rw [hnx] at kk
    exact lv_lxor hC.1 hC.2.1 hdg (kk H locs lsA hH hS hl)
  · cases hf
theorem so27 : sOK (ck_s (fun _ => .idiv) 1) (f_bd (fun x y => x / y)) := by
  intro E p l e Rm s m args below meth c own nm cc nL ret n0 u0 Q pc o ls st S I L R q hC hk hf hn hu hcl hsl hfr hlo hll kk H locs lsA hH hS hl
  obtain ⟨hdg, hnx⟩ := ck_s.is hk
  unfold f_bd at hf
  split at hf
  · split at hf
    · cases hf
    · rename_i hne
      cases hf
      dsimp only at kk
      rw [hnx] at kk
      exact lv_idiv hC.1 hC.2.1 hdg hne (kk H locs lsA hH hS hl)
  · cases hf
theorem so28 : sOK (ck_s (fun _ => .irem) 1) (f_bd (fun x y => x - x / y * y)) := by
  intro E p l e Rm s m args below meth c own nm cc nL ret n0 u0 Q pc o ls st S I L R q hC hk hf hn hu hcl hsl hfr hlo hll kk H locs lsA hH hS hl
  obtain ⟨hdg, hnx⟩ := ck_s.is hk
  unfold f_bd at hf
  split at hf
  · split at hf
    · cases hf
    · rename_i hne
      cases hf
      dsimp only at kk
      rw [hnx] at kk
      exact lv_irem hC.1 hC.2.1 hdg hne (kk H locs lsA hH hS hl)
  · cases hf
theorem so38 : sOK (ck_s (fun _ => .ldiv) 1) (f_bld (fun x y => x / y)) := by
  intro E p l e Rm s m args below meth c own nm cc nL ret n0 u0 Q pc o ls st S I L R q hC hk hf hn hu hcl hsl hfr hlo hll kk H locs lsA hH hS hl
  obtain ⟨hdg, hnx⟩ := ck_s.is hk
  unfold f_bld at hf
  split at hf
  · split at hf
    · cases hf
    · rename_i hne
      cases hf
      dsimp only at kk
      rw [hnx] at kk
      exact lv_ldiv hC.1 hC.2.1 hdg hne (kk H locs lsA hH hS hl)
  · cases hf
theorem so39 : sOK (ck_s (fun _ => .lrem) 1) (f_bld (fun x y => x - x / y * y)) := by
  intro E p l e Rm s m args below meth c own nm cc nL ret n0 u0 Q pc o ls st S I L R q hC hk hf hn hu hcl hsl hfr hlo hll kk H locs lsA hH hS hl
  obtain ⟨hdg, hnx⟩ := ck_s.is hk
  unfold f_bld at hf
  split at hf
  · split at hf
    · cases hf
    · rename_i hne
      cases hf
      dsimp only at kk
      rw [hnx] at kk
      exact lv_lrem hC.1 hC.2.1 hdg hne (kk H locs lsA hH hS hl)
  · cases hf
theorem so29 : sOK (ck_s (fun _ => .ineg) 1) (f_ui (fun x => -x)) := by
  intro E p l e Rm s m args below meth c own nm cc nL ret n0 u0 Q pc o ls st S I L R q hC hk hf hn hu hcl hsl hfr hlo hll kk H locs lsA hH hS hl
  obtain ⟨hdg, hnx⟩ := ck_s.is hk
  unfold f_ui at hf
  split at hf
  · cases hf
    dsimp only at kk
    rw [hnx] at kk
    exact (fun q => lv_ineg hC.1 hC.2.1 hdg (by simpa [grv] using q)) (kk H locs lsA hH hS hl)
  · cases hf
theorem so40 : sOK (ck_s (fun _ => .lneg) 1) (f_lneg) := by
  intro E p l e Rm s m args below meth c own nm cc nL ret n0 u0 Q pc o ls st S I L R q hC hk hf hn hu hcl hsl hfr hlo hll kk H locs lsA hH hS hl
  obtain ⟨hdg, hnx⟩ := ck_s.is hk
  unfold f_lneg at hf
  split at hf
  · cases hf
    dsimp only at kk
    rw [hnx] at kk
    exact (fun q => lv_lneg hC.1 hC.2.1 hdg (by simpa [grv] using q)) (kk H locs lsA hH hS hl)
  · cases hf
theorem so41 : sOK (ck_s (fun _ => .lshl) 1) (f_sl (fun x y => x <<< (y.toInt64 &&& 63))) := by
  intro E p l e Rm s m args below meth c own nm cc nL ret n0 u0 Q pc o ls st S I L R q hC hk hf hn hu hcl hsl hfr hlo hll kk H locs lsA hH hS hl
  obtain ⟨hdg, hnx⟩ := ck_s.is hk
  unfold f_sl at hf
  split at hf
  · cases hf
    dsimp only at kk
    rw [hnx] at kk
    exact lv_lshl hC.1 hC.2.1 hdg rfl (kk H locs lsA hH hS hl)
  · cases hf
theorem so42 : sOK (ck_s (fun _ => .lushr) 1) (f_sl (fun x y => (x.toUInt64 >>> (y.toInt64.toUInt64 &&& Int64.toUInt64 63)).toInt64)) := by
  intro E p l e Rm s m args below meth c own nm cc nL ret n0 u0 Q pc o ls st S I L R q hC hk hf hn hu hcl hsl hfr hlo hll kk H locs lsA hH hS hl
  obtain ⟨hdg, hnx⟩ := ck_s.is hk
  unfold f_sl at hf
  split at hf
  · cases hf
    dsimp only at kk
    rw [hnx] at kk
    exact lv_lushr hC.1 hC.2.1 hdg rfl (kk H locs lsA hH hS hl)
  · cases hf
theorem so43 : sOK (ck_s (fun _ => .lcmp) 1) (f_lcmp) := by
  intro E p l e Rm s m args below meth c own nm cc nL ret n0 u0 Q pc o ls st S I L R q hC hk hf hn hu hcl hsl hfr hlo hll kk H locs lsA hH hS hl
  obtain ⟨hdg, hnx⟩ := ck_s.is hk
  unfold f_lcmp at hf
  split at hf
  · cases hf
    dsimp only at kk
    rw [hnx] at kk
    exact W.lcmp hC.1 hC.2.1 hdg (kk H locs lsA hH hS hl)
  · cases hf
theorem so44 : sOK (ck_s (fun _ => .i2l) 1) (f_i2l) := by
  intro E p l e Rm s m args below meth c own nm cc nL ret n0 u0 Q pc o ls st S I L R q hC hk hf hn hu hcl hsl hfr hlo hll kk H locs lsA hH hS hl
  obtain ⟨hdg, hnx⟩ := ck_s.is hk
  unfold f_i2l at hf
  split at hf
  · cases hf
    dsimp only at kk
    rw [hnx] at kk
    exact lv_i2l hC.1 hC.2.1 hdg rfl (kk H locs lsA hH hS hl)
  · cases hf
theorem so45 : sOK (ck_s (fun _ => .l2i) 1) (f_l2i) := by
  intro E p l e Rm s m args below meth c own nm cc nL ret n0 u0 Q pc o ls st S I L R q hC hk hf hn hu hcl hsl hfr hlo hll kk H locs lsA hH hS hl
  obtain ⟨hdg, hnx⟩ := ck_s.is hk
  unfold f_l2i at hf
  split at hf
  · cases hf
    dsimp only at kk
    rw [hnx] at kk
    exact lv_l2i hC.1 hC.2.1 hdg rfl (kk H locs lsA hH hS hl)
  · cases hf
theorem so46 : sOK (ck_s (fun _ => .i2b) 1) (f_ui (fun x => x.toInt8.toInt32)) := by
  intro E p l e Rm s m args below meth c own nm cc nL ret n0 u0 Q pc o ls st S I L R q hC hk hf hn hu hcl hsl hfr hlo hll kk H locs lsA hH hS hl
  obtain ⟨hdg, hnx⟩ := ck_s.is hk
  unfold f_ui at hf
  split at hf
  · cases hf
    dsimp only at kk
    rw [hnx] at kk
    exact lv_i2b hC.1 hC.2.1 hdg rfl (kk H locs lsA hH hS hl)
  · cases hf
theorem so47 : sOK (ck_s (fun _ => .i2c) 1) (f_ui (fun x => (x.toUInt32 % 65536).toInt32)) := by
  intro E p l e Rm s m args below meth c own nm cc nL ret n0 u0 Q pc o ls st S I L R q hC hk hf hn hu hcl hsl hfr hlo hll kk H locs lsA hH hS hl
  obtain ⟨hdg, hnx⟩ := ck_s.is hk
  unfold f_ui at hf
  split at hf
  · cases hf
    dsimp only at kk
    rw [hnx] at kk
    exact lv_i2c hC.1 hC.2.1 hdg rfl (kk H locs lsA hH hS hl)
  · cases hf
theorem so48 : sOK (ck_s (fun _ => .dup) 1) (f_dup) := by
  intro E p l e Rm s m args below meth c own nm cc nL ret n0 u0 Q pc o ls st S I L R q hC hk hf hn hu hcl hsl hfr hlo hll kk H locs lsA hH hS hl
  obtain ⟨hdg, hnx⟩ := ck_s.is hk
  unfold f_dup at hf
  split at hf
  · split at hf
    · rename_i hne
      cases hf
      dsimp only at kk
      rw [hnx] at kk
      exact lv_dup hC.1 hC.2.1 hdg (by rw [grv_cat]; exact hne) (kk H locs lsA hH hS hl)
    · cases hf
  · cases hf
theorem so50 : sOK (ck_s (fun _ => .pop) 1) (f_pop) := by
  intro E p l e Rm s m args below meth c own nm cc nL ret n0 u0 Q pc o ls st S I L R q hC hk hf hn hu hcl hsl hfr hlo hll kk H locs lsA hH hS hl
  obtain ⟨hdg, hnx⟩ := ck_s.is hk
  unfold f_pop at hf
  split at hf
  · split at hf
    · rename_i hne
      cases hf
      dsimp only at kk
      rw [hnx] at kk
      exact lv_pop hC.1 hC.2.1 hdg (by rw [grv_cat]; exact hne) (kk H locs lsA hH hS hl)
    · cases hf
  · cases hf
theorem so97 : sOK (ck_s (fun _ => .pop2) 1) (f_pop2) := by
  intro E p l e Rm s m args below meth c own nm cc nL ret n0 u0 Q pc o ls st S I L R q hC hk hf hn hu hcl hsl hfr hlo hll kk H locs lsA hH hS hl
  obtain ⟨hdg, hnx⟩ := ck_s.is hk
  unfold f_pop2 at hf
  split at hf
  · split at hf
    · rename_i hne
      cases hf
      dsimp only at kk
      rw [hnx] at kk
      exact lv_pop2_2 hC.1 hC.2.1 hdg (by rw [grv_cat]; exact hne) (kk H locs lsA hH hS hl)
    · cases hf
  · cases hf
theorem so49 : sOK (ck_s (fun _ => .dup2) 1) (f_dup2) := by
  intro E p l e Rm s m args below meth c own nm cc nL ret n0 u0 Q pc o ls st S I L R q hC hk hf hn hu hcl hsl hfr hlo hll kk H locs lsA hH hS hl
  obtain ⟨hdg, hnx⟩ := ck_s.is hk
  unfold f_dup2 at hf
  split at hf
  · split at hf
    · rename_i hne
      cases hf
      dsimp only at kk
      rw [hnx] at kk
      exact lv_dup2_11 hC.1 hC.2.1 hdg (by rw [grv_cat]; exact hne.1) (by rw [grv_cat]; exact hne.2) (kk H locs lsA hH hS hl)
    · cases hf
  · cases hf
theorem ck_b.off {pc a : Nat} : (pc : Int) + ((a : Int) - (pc : Int)) = (a : Int) := by omega
theorem so51 : sOK (fun _ _ cc pc o => decide (decode cc pc = .ok (.ifCond .eq ((o.2.2.1 : Int) - (pc : Int)), 3)) && decide (o.2.1 = pc + 3)) (f_if (fun x => decide (x = 0))) := by
  intro E p l e Rm s m args below meth c own nm cc nL ret n0 u0 Q pc o ls st S I L R q hC hk hf hn hu hcl hsl hfr hlo hll kk H locs lsA hH hS hl
  simp only [Bool.and_eq_true, decide_eq_true_eq] at hk
  obtain ⟨hdg, hnx⟩ := hk
  unfold f_if at hf
  split at hf
  · cases hf
    dsimp only at kk
    have k2 := kk H locs lsA hH hS hl
    refine lv_if_eq hC.1 hC.2.1 hdg ck_b.off (fun h => ?_) (fun h => ?_)
    · rw [if_pos (decide_eq_true h)] at k2; exact k2
    · rw [if_neg (by rw [decide_eq_true_eq]; exact h), hnx] at k2; exact k2
  · cases hf
theorem so52 : sOK (fun _ _ cc pc o => decide (decode cc pc = .ok (.ifCond .ne ((o.2.2.1 : Int) - (pc : Int)), 3)) && decide (o.2.1 = pc + 3)) (f_if (fun x => !decide (x = 0))) := by
  intro E p l e Rm s m args below meth c own nm cc nL ret n0 u0 Q pc o ls st S I L R q hC hk hf hn hu hcl hsl hfr hlo hll kk H locs lsA hH hS hl
  simp only [Bool.and_eq_true, decide_eq_true_eq] at hk
  obtain ⟨hdg, hnx⟩ := hk
  unfold f_if at hf
  split at hf
  · cases hf
    dsimp only at kk
    have k2 := kk H locs lsA hH hS hl
    refine lv_if_ne hC.1 hC.2.1 hdg ck_b.off (fun h => ?_) (fun h => ?_)
    · rw [if_pos (by rw [Bool.not_eq_true', decide_eq_false_iff_not]; exact h)] at k2; exact k2
    · rw [if_neg (by rw [Bool.not_eq_true', decide_eq_false_iff_not]; exact (fun z => z h)), hnx] at k2; exact k2
  · cases hf
theorem so53 : sOK (fun _ _ cc pc o => decide (decode cc pc = .ok (.ifCond .lt ((o.2.2.1 : Int) - (pc : Int)), 3)) && decide (o.2.1 = pc + 3)) (f_if (fun x => decide (x < 0))) := by
  intro E p l e Rm s m args below meth c own nm cc nL ret n0 u0 Q pc o ls st S I L R q hC hk hf hn hu hcl hsl hfr hlo hll kk H locs lsA hH hS hl
  simp only [Bool.and_eq_true, decide_eq_true_eq] at hk
  obtain ⟨hdg, hnx⟩ := hk
  unfold f_if at hf
  split at hf
  · cases hf
    dsimp only at kk
    have k2 := kk H locs lsA hH hS hl
    refine lv_if_lt hC.1 hC.2.1 hdg ck_b.off (fun h => ?_) (fun h => ?_)
    · rw [if_pos (decide_eq_true h)] at k2; exact k2
    · rw [if_neg (by rw [decide_eq_true_eq]; exact h), hnx] at k2; exact k2
  · cases hf
theorem so54 : sOK (fun _ _ cc pc o => decide (decode cc pc = .ok (.ifCond .ge ((o.2.2.1 : Int) - (pc : Int)), 3)) && decide (o.2.1 = pc + 3)) (f_if (fun x => !decide (x < 0))) := by
  intro E p l e Rm s m args below meth c own nm cc nL ret n0 u0 Q pc o ls st S I L R q hC hk hf hn hu hcl hsl hfr hlo hll kk H locs lsA hH hS hl
  simp only [Bool.and_eq_true, decide_eq_true_eq] at hk
  obtain ⟨hdg, hnx⟩ := hk
  unfold f_if at hf
  split at hf
  · cases hf
    dsimp only at kk
    have k2 := kk H locs lsA hH hS hl
    refine lv_if_ge hC.1 hC.2.1 hdg ck_b.off (fun h => ?_) (fun h => ?_)
    · rw [if_pos (by rw [Bool.not_eq_true', decide_eq_false_iff_not]; exact (Int32.not_lt.mpr h))] at k2; exact k2
    · rw [if_neg (by rw [Bool.not_eq_true', decide_eq_false_iff_not]; exact (fun z => h (Int32.not_lt.mp z))), hnx] at k2; exact k2
  · cases hf
theorem so55 : sOK (fun _ _ cc pc o => decide (decode cc pc = .ok (.ifCond .gt ((o.2.2.1 : Int) - (pc : Int)), 3)) && decide (o.2.1 = pc + 3)) (f_if (fun x => decide (0 < x))) := by
  intro E p l e Rm s m args below meth c own nm cc nL ret n0 u0 Q pc o ls st S I L R q hC hk hf hn hu hcl hsl hfr hlo hll kk H locs lsA hH hS hl
  simp only [Bool.and_eq_true, decide_eq_true_eq] at hk
  obtain ⟨hdg, hnx⟩ := hk
  unfold f_if at hf
  split at hf
  · cases hf
    dsimp only at kk
    have k2 := kk H locs lsA hH hS hl
    refine lv_if_gt hC.1 hC.2.1 hdg ck_b.off (fun h => ?_) (fun h => ?_)
    · rw [if_pos (decide_eq_true h)] at k2; exact k2
    · rw [if_neg (by rw [decide_eq_true_eq]; exact h), hnx] at k2; exact k2
  · cases hf
theorem so56 : sOK (fun _ _ cc pc o => decide (decode cc pc = .ok (.ifCond .le ((o.2.2.1 : Int) - (pc : Int)), 3)) && decide (o.2.1 = pc + 3)) (f_if (fun x => !decide (0 < x))) := by
  intro E p l e Rm s m args below meth c own nm cc nL ret n0 u0 Q pc o ls st S I L R q hC hk hf hn hu hcl hsl hfr hlo hll kk H locs lsA hH hS hl
  simp only [Bool.and_eq_true, decide_eq_true_eq] at hk
  obtain ⟨hdg, hnx⟩ := hk
  unfold f_if at hf
  split at hf
  · cases hf
    dsimp only at kk
    have k2 := kk H locs lsA hH hS hl
    refine lv_if_le hC.1 hC.2.1 hdg ck_b.off (fun h => ?_) (fun h => ?_)
    · rw [if_pos (by rw [Bool.not_eq_true', decide_eq_false_iff_not]; exact (Int32.not_lt.mpr h))] at k2; exact k2
    · rw [if_neg (by rw [Bool.not_eq_true', decide_eq_false_iff_not]; exact (fun z => h (Int32.not_lt.mp z))), hnx] at k2; exact k2
  · cases hf
theorem so57 : sOK (fun _ _ cc pc o => decide (decode cc pc = .ok (.if_icmp .eq ((o.2.2.1 : Int) - (pc : Int)), 3)) && decide (o.2.1 = pc + 3)) (f_cp (fun x y => decide (x = y))) := by
  intro E p l e Rm s m args below meth c own nm cc nL ret n0 u0 Q pc o ls st S I L R q hC hk hf hn hu hcl hsl hfr hlo hll kk H locs lsA hH hS hl
  simp only [Bool.and_eq_true, decide_eq_true_eq] at hk
  obtain ⟨hdg, hnx⟩ := hk
  unfold f_cp at hf
  split at hf
  · cases hf
    dsimp only at kk
    have k2 := kk H locs lsA hH hS hl
    refine lv_icmp_eq hC.1 hC.2.1 hdg ck_b.off (fun h => ?_) (fun h => ?_)
    · rw [if_pos (decide_eq_true h)] at k2; exact k2
    · rw [if_neg (by rw [decide_eq_true_eq]; exact h), hnx] at k2; exact k2
  · cases hf
theorem so58 : sOK (fun _ _ cc pc o => decide (decode cc pc = .ok (.if_icmp .ne ((o.2.2.1 : Int) - (pc : Int)), 3)) && decide (o.2.1 = pc + 3)) (f_cp (fun x y => !decide (x = y))) := by
  intro E p l e Rm s m args below meth c own nm cc nL ret n0 u0 Q pc o ls st S I L R q hC hk hf hn hu hcl hsl hfr hlo hll kk H locs lsA hH hS hl
  simp only [Bool.and_eq_true, decide_eq_true_eq] at hk
  obtain ⟨hdg, hnx⟩ := hk
  unfold f_cp at hf
  split at hf
  · cases hf
    dsimp only at kk
    have k2 := kk H locs lsA hH hS hl
    refine lv_icmp_ne hC.1 hC.2.1 hdg ck_b.off (fun h => ?_) (fun h => ?_)
    · rw [if_pos (by rw [Bool.not_eq_true', decide_eq_false_iff_not]; exact h)] at k2; exact k2
    · rw [if_neg (by rw [Bool.not_eq_true', decide_eq_false_iff_not]; exact (fun z => z h)), hnx] at k2; exact k2
  · cases hf
theorem so59 : sOK (fun _ _ cc pc o => decide (decode cc pc = .ok (.if_icmp .lt ((o.2.2.1 : Int) - (pc : Int)), 3)) && decide (o.2.1 = pc + 3)) (f_cp (fun x y => decide (x < y))) := by
  intro E p l e Rm s m args below meth c own nm cc nL ret n0 u0 Q pc o ls st S I L R q hC hk hf hn hu hcl hsl hfr hlo hll kk H locs lsA hH hS hl
  simp only [Bool.and_eq_true, decide_eq_true_eq] at hk
  obtain ⟨hdg, hnx⟩ := hk
  unfold f_cp at hf
  split at hf
  · cases hf
    dsimp only at kk
    have k2 := kk H locs lsA hH hS hl
    refine lv_icmp_lt hC.1 hC.2.1 hdg ck_b.off (fun h => ?_) (fun h => ?_)
    · rw [if_pos (decide_eq_true h)] at k2; exact k2
    · rw [if_neg (by rw [decide_eq_true_eq]; exact h), hnx] at k2; exact k2
  · cases hf
theorem so60 : sOK (fun _ _ cc pc o => decide (decode cc pc = .ok (.if_icmp .ge ((o.2.2.1 : Int) - (pc : Int)), 3)) && decide (o.2.1 = pc + 3)) (f_cp (fun x y => !decide (x < y))) := by
  intro E p l e Rm s m args below meth c own nm cc nL ret n0 u0 Q pc o ls st S I L R q hC hk hf hn hu hcl hsl hfr hlo hll kk H locs lsA hH hS hl
  simp only [Bool.and_eq_true, decide_eq_true_eq] at hk
  obtain ⟨hdg, hnx⟩ := hk
  unfold f_cp at hf
  split at hf
  · cases hf
    dsimp only at kk
    have k2 := kk H locs lsA hH hS hl
    refine lv_icmp_ge hC.1 hC.2.1 hdg ck_b.off (fun h => ?_) (fun h => ?_)
    · rw [if_pos (by rw [Bool.not_eq_true', decide_eq_false_iff_not]; exact (Int32.not_lt.mpr h))] at k2; exact k2
    · rw [if_neg (by rw [Bool.not_eq_true', decide_eq_false_iff_not]; exact (fun z => h (Int32.not_lt.mp z))), hnx] at k2; exact k2
  · cases hf
theorem so61 : sOK (fun _ _ cc pc o => decide (decode cc pc = .ok (.if_icmp .gt ((o.2.2.1 : Int) - (pc : Int)), 3)) && decide (o.2.1 = pc + 3)) (f_cp (fun x y => decide (y < x))) := by
  intro E p l e Rm s m args below meth c own nm cc nL ret n0 u0 Q pc o ls st S I L R q hC hk hf hn hu hcl hsl hfr hlo hll kk H locs lsA hH hS hl
  simp only [Bool.and_eq_true, decide_eq_true_eq] at hk
  obtain ⟨hdg, hnx⟩ := hk
  unfold f_cp at hf
  split at hf
  · cases hf
    dsimp only at kk
    have k2 := kk H locs lsA hH hS hl
    refine lv_icmp_gt hC.1 hC.2.1 hdg ck_b.off (fun h => ?_) (fun h => ?_)
    · rw [if_pos (decide_eq_true h)] at k2; exact k2
    · rw [if_neg (by rw [decide_eq_true_eq]; exact h), hnx] at k2; exact k2
  · cases hf
theorem so62 : sOK (fun _ _ cc pc o => decide (decode cc pc = .ok (.if_icmp .le ((o.2.2.1 : Int) - (pc : Int)), 3)) && decide (o.2.1 = pc + 3)) (f_cp (fun x y => !decide (y < x))) := by
  intro E p l e Rm s m args below meth c own nm cc nL ret n0 u0 Q pc o ls st S I L R q hC hk hf hn hu hcl hsl hfr hlo hll kk H locs lsA hH hS hl
  simp only [Bool.and_eq_true, decide_eq_true_eq] at hk
  obtain ⟨hdg, hnx⟩ := hk
  unfold f_cp at hf
  split at hf
  · cases hf
    dsimp only at kk
    have k2 := kk H locs lsA hH hS hl
    refine lv_icmp_le hC.1 hC.2.1 hdg ck_b.off (fun h => ?_) (fun h => ?_)
    · rw [if_pos (by rw [Bool.not_eq_true', decide_eq_false_iff_not]; exact (Int32.not_lt.mpr h))] at k2; exact k2
    · rw [if_neg (by rw [Bool.not_eq_true', decide_eq_false_iff_not]; exact (fun z => h (Int32.not_lt.mp z))), hnx] at k2; exact k2
  · cases hf
theorem so63 : sOK (fun _ _ cc pc o => decide (decode cc pc = .ok (.goto ((o.2.1 : Int) - (pc : Int)), 3))) f_go := by
  intro E p l e Rm s m args below meth c own nm cc nL ret n0 u0 Q pc o ls st S I L R q hC hk hf hn hu hcl hsl hfr hlo hll kk H locs lsA hH hS hl
  have hdg := of_decide_eq_true hk
  cases hf
  exact lv_goto hC.1 hC.2.1 hdg ck_b.off (kk H locs lsA hH hS hl)
theorem so64 : sOK (fun _ _ cc pc o => decide (decode cc pc = .ok (.ifnull ((o.2.2.1 : Int) - (pc : Int)), 3)) && decide (o.2.1 = pc + 3)) f_nu := by
  intro E p l e Rm s m args below meth c own nm cc nL ret n0 u0 Q pc o ls st S I L R q hC hk hf hn hu hcl hsl hfr hlo hll kk H locs lsA hH hS hl
  simp only [Bool.and_eq_true, decide_eq_true_eq] at hk
  obtain ⟨hdg, hnx⟩ := hk
  unfold f_nu at hf
  split at hf
  · cases hf
    exact lv_ifnullN hC.1 hC.2.1 hdg ck_b.off (kk H locs lsA hH hS hl)
  · cases hf
    dsimp only at kk
    rw [hnx] at kk
    exact lv_ifnull hC.1 hC.2.1 hdg (kk H locs lsA hH hS hl)
  · cases hf
theorem so65 : sOK (fun _ _ cc pc o => decide (decode cc pc = .ok (.ifnonnull ((o.2.2.1 : Int) - (pc : Int)), 3)) && decide (o.2.1 = pc + 3)) f_nn := by
  intro E p l e Rm s m args below meth c own nm cc nL ret n0 u0 Q pc o ls st S I L R q hC hk hf hn hu hcl hsl hfr hlo hll kk H locs lsA hH hS hl
  simp only [Bool.and_eq_true, decide_eq_true_eq] at hk
  obtain ⟨hdg, hnx⟩ := hk
  unfold f_nn at hf
  split at hf
  · cases hf
    dsimp only at kk
    rw [hnx] at kk
    exact lv_ifnonnullN hC.1 hC.2.1 hdg (kk H locs lsA hH hS hl)
  · cases hf
    exact lv_ifnonnull hC.1 hC.2.1 hdg ck_b.off (kk H locs lsA hH hS hl)
  · cases hf
theorem so66 : sOK (ck_s (fun _ => .aconst_null) 1) f_an := by
  intro E p l e Rm s m args below meth c own nm cc nL ret n0 u0 Q pc o ls st S I L R q hC hk hf hn hu hcl hsl hfr hlo hll kk H locs lsA hH hS hl
  obtain ⟨hdg, hnx⟩ := ck_s.is hk
  cases hf
  dsimp only at kk
  rw [hnx] at kk
  exact lv_null hC.1 hC.2.1 hdg (kk H locs lsA hH hS hl)
def ck_ts : gCk := fun _ _ cc pc o => match o.2.2.2.2.2 with
  | [] => false
  | lo :: ts => decide (decode cc pc = .ok (.tableswitch ((o.2.1 : Int) - (pc : Int)) lo (lo + ts.length - 1) (ts.map (fun t => t - (pc : Int))).toArray, o.2.2.2.2.1)) && ts.all (fun t => decide (0 ≤ t))
theorem so91 : sOK ck_ts f_ts := by
  intro E p l e Rm s m args below meth c own nm cc nL ret n0 u0 Q pc o ls st S I L R q hC hk hf hn hu hcl hsl hfr hlo hll kk H locs lsA hH hS hl
  unfold ck_ts at hk
  unfold f_ts at hf
  split at hf
  · rename_i x st' lo ts he
    rw [he] at hk
    dsimp only at hk
    simp only [Bool.and_eq_true, decide_eq_true_eq] at hk
    obtain ⟨hdg, hpos⟩ := hk
    cases hf
    dsimp only at kk
    have k2 := kk H locs lsA hH hS hl
    by_cases hx : x.toInt < lo ∨ lo + ts.length ≤ x.toInt
    · rw [if_pos hx] at k2
      exact lv_tableOut hC.1 hC.2.1 hdg (by omega) ck_b.off k2
    · rw [if_neg hx] at k2
      have hi : (x.toInt - lo).toNat < ts.length := by omega
      have hg : ts[(x.toInt - lo).toNat]? = some ts[(x.toInt - lo).toNat] := List.getElem?_eq_getElem hi
      have hd : ts.getD (x.toInt - lo).toNat 0 = ts[(x.toInt - lo).toNat] := by rw [List.getD_eq_getElem?_getD, hg]; rfl
      have h0 : (0 : Int) ≤ ts[(x.toInt - lo).toNat] := by
        have := List.all_eq_true.mp hpos _ (List.getElem_mem hi)
        exact of_decide_eq_true this
      rw [hd] at k2
      refine lv_tableIn hC.1 hC.2.1 hdg (by omega) (by omega) (off := ts[(x.toInt - lo).toNat] - (pc : Int)) ?_ ?_ k2
      · simp [hg]
      · omega
  · cases hf
