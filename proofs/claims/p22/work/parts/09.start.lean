def R_law : String := "HotIronLaw"
def lw_P (b : Addr) (xs : List Int32) (args : Array Value) (s : State) : Prop := args = #[.ref b] ∧ s.IntsAt b xs ∧ xs.length ≤ 3072 ∧ (Jvm.Cond.and given_1 narrow_1).before args s = true
def lw_Q (_ : Array Value) (s : State) (o : Outcome) (t : State) : Prop := o = .returned (some (.int 1)) ∧ Framed s o t [] 600000 7302250
def lw_Z (below : List Frame) (a : Array Value) (s : State) : State → Prop := fun t => ∃ o, t.status = .running ∧ Ended t below o ∧ lw_Q a s o t
/-- the law's own end, with 1 on the stack, nothing written that was there before, its room as the claim has it -/
theorem lw_ret {p : Program} {l : Launch} {e : Env} {s : State} {m : MethodId} {below : List Frame} {meth : Method} {c : Code} {b : Nat} (hx : p.tables.exec = Jvm.exec) (hb : c.code = code) (hr : meth.sig.returnType = ret) (hlocks : meth.locks = false) {pc : Nat} {H : Heap} {ls : Array Slot} (hdg : decode code pc = .ok (.ireturn, 1)) : W p l e room_1 s m #[Value.ref b] below meth c H [] 600000 7302250 (lw_Z below #[Value.ref b] s) (F0 m pc ls [.int 1]) := by
  intro T hT X
  obtain ⟨fs, hret, hrun, hended, hW, hframe⟩ := X.leave (v := some (.int 1)) (hlocks := hlocks) (fun h => by rw [hr] at h; cases h)
  have hmeth' : T.vm.method? m = some meth := X.method'
  refine ⟨T.setFrames fs, ?_, .returned (some (.int 1)), hrun, hended, rfl, ⟨_, rfl⟩, hW, hframe⟩
  jvm_step X.here [X.here.top, hx, hb, hdg, hmeth', hr, ret, narrow_b1]
  (try refine ⟨rfl, ?_⟩); (try refine ⟨rfl, ?_⟩)
  first | (intro acts; rw [hret _ acts rfl rfl rfl]) | rw [hret _ _ rfl rfl rfl]
  exact Steps.refl _
/-- what holds at the law's entry: the machine, the code, the tables' words (any of lw_tbl by 'hts w (by decide +kernel)'), the script of L ints xs at the cell b, what the Statement gives of the start (any of its parts by flat_of_before) -/
def lw_At (p : Program) (s : State) (m : MethodId) (meth : Method) (c : Code) (b L : Nat) (xs : Nat → Int32) : Prop :=
  p.tables.exec = Jvm.exec ∧ c.code = code ∧ meth.sig.returnType = ret ∧ c.maxLocals = 4 ∧ s.vm.findClass R_law = some m.cls ∧ (∀ w ∈ lw_tbl, w.before #[Value.ref b] s = true) ∧ va_X b L xs s s.heap ∧ b < s.heap.size ∧ meth.locks = false ∧ (Jvm.Cond.and given_1 narrow_1).before #[Value.ref b] s = true

def tLow (j : Nat) : Int32 := if j = 0 then 1 else 0
def tHigh (j : Nat) : Int32 := if j = 0 then 4 else if j = 1 then 100 else if j = 2 then 60 else if j = 3 then 60 else 50
/-- the small machine as the law finds it: the script, three rows of numbers that nobody writes -/
def iS (L : Nat) : mS := (4, 0, fun _ => 19, fun k => if k = 0 then L else 5)
def iI (xs : Nat → Int32) : mI := fun k j => if k = 0 then xs j else if k = 1 then tLow j else if k = 2 then tHigh j else 2
def iL : mL := fun _ _ => 0
def iR : mR := fun _ _ => none
def lawQ : mQ := fun v S _ _ _ => v = .int 1 ∧ S.1 ≤ 600004 ∧ S.2.1 ≤ 7302250
theorem gsp_of {s : State} {args : Array Value} (hts : ∀ w ∈ lw_tbl, w.before args s = true) : ∀ w ∈ gsp, va_Nw w s :=
  List.forall_mem_cons.mpr ⟨hts (.arrayOver (.object RX3)) (by decide +kernel), List.forall_mem_cons.mpr ⟨hts (.arrayOver (.object RX5)) (by decide +kernel), List.forall_mem_cons.mpr ⟨hts (.arrayOver (.object RX7)) (by decide +kernel), List.forall_mem_cons.mpr ⟨hts (.arrayOver (.array .int)) (by decide +kernel), List.forall_mem_cons.mpr ⟨hts (.arrayOver (.array .long)) (by decide +kernel), List.forall_mem_cons.mpr ⟨va_any rfl (hts _ (by decide +kernel)), List.forall_mem_cons.mpr ⟨va_any rfl (hts _ (by decide +kernel)), List.forall_mem_cons.mpr ⟨va_any rfl (hts _ (by decide +kernel)), List.forall_mem_cons.mpr ⟨va_any rfl (hts _ (by decide +kernel)), List.forall_mem_cons.mpr ⟨va_any rfl (hts _ (by decide +kernel)), List.forall_mem_cons.mpr ⟨va_any rfl (hts _ (by decide +kernel)), fun _ h => absurd h List.not_mem_nil⟩⟩⟩⟩⟩⟩⟩⟩⟩⟩⟩
theorem arr_T {t N : Nat} {xs : Nat → Int32} {A : Nat → Prop} {U : State} {H : Heap} (h : va_X t N xs U H) (hA : ¬ A t) : va_T .int t N (fun j => .int (xs j)) A U H := by
  obtain ⟨cell, h1, h2, h3, h4, h5⟩ := h
  exact ⟨cell, h1, h2, h3, by omega, by rw [h4], h5, hA⟩
theorem arr_K {s : State} {args : Array Value} {ty : FieldType} (h : (Cond.arrayClass ty).before args s = true) (hty : ∀ C, ty ≠ .object C) : ∃ cA, ArrOfT s cA ty ∧ va_RA s cA ty := by
  obtain ⟨c, k, comp, h1, h2, h3⟩ := Cond.arrayClass_spec h
  refine ⟨c, fun n z => ⟨(fun q hq => by cases hq), k, h2, comp, h3⟩, ?_⟩
  cases ty <;> first | exact h1 | exact absurd rfl (hty _)
theorem arr_O {s : State} {args : Array Value} {C : String} (h : (Cond.arrayOver (.object C)).before args s = true) : ∃ cA, ArrOfT s cA (.object C) ∧ va_RA s cA (.object C) := by
  obtain ⟨comp, c, k, h1, -, h2, h3, h4⟩ := Cond.arrayOver_spec h
  exact ⟨c, fun n z => ⟨(fun q hq => by cases hq), k, h2, comp, h3⟩, k, comp, h2, h3, h1, h4⟩
theorem arr_A {s : State} {args : Array Value} {t : FieldType} (h : (Cond.arrayOver (.array t)).before args s = true) : ∃ cA, ArrOfT s cA (.array t) ∧ va_RA s cA (.array t) := by
  obtain ⟨comp, c, k, h1, -, h2, h3, h4⟩ := arrayOverA_spec h
  exact ⟨c, fun n z => ⟨(fun q hq => by cases hq), k, h2, comp, h3⟩, h4⟩
theorem gK_of {s : State} {args : Array Value} (hgt : ∀ w ∈ gt, w.before args s = true) (hts : ∀ w ∈ lw_tbl, w.before args s = true) (B : Nat) (ra rl : Nat → Nat) (rx : Nat → Nat → Int32) : ∃ (D : va_G) (cy : Nat → ClassId), gK (D, cy, B, ra, rl, rx) s := by
  obtain ⟨c0, i0, k0⟩ := u_known (C := RX0) (T := TX0) (N := 10) (n := 10) hgt gwX0 (hts (.instantiable RX0 10) (by decide +kernel))
  obtain ⟨c1, i1, k1⟩ := u_known (C := RX1) (T := TX1) (N := 10) (n := 10) hgt gwX1 (hts (.instantiable RX1 10) (by decide +kernel))
  obtain ⟨c2, i2, k2⟩ := u_known (C := RX2) (T := TX2) (N := 8) (n := 8) hgt gwX2 (hts (.instantiable RX2 8) (by decide +kernel))
  obtain ⟨c3, i3, k3⟩ := u_known (C := RX3) (T := TX3) (N := 13) (n := 13) hgt gwX3 (hts (.instantiable RX3 13) (by decide +kernel))
  obtain ⟨c4, i4, k4⟩ := u_known (C := RX4) (T := TX4) (N := 11) (n := 11) hgt gwX4 (hts (.instantiable RX4 11) (by decide +kernel))
  obtain ⟨c5, i5, k5⟩ := u_known (C := RX5) (T := TX5) (N := 4) (n := 4) hgt gwX5 (hts (.instantiable RX5 4) (by decide +kernel))
  obtain ⟨c6, i6, k6⟩ := u_known (C := RX6) (T := TX6) (N := 11) (n := 11) hgt gwX6 (hts (.instantiable RX6 11) (by decide +kernel))
  obtain ⟨c7, i7, k7⟩ := u_known (C := RX7) (T := TX7) (N := 10) (n := 10) hgt gwX7 (hts (.instantiable RX7 10) (by decide +kernel))
  obtain ⟨c8, i8, k8⟩ := u_known (C := RX8) (T := TX8) (N := 14) (n := 14) hgt gwX8 (hts (.instantiable RX8 14) (by decide +kernel))
  obtain ⟨c9, i9, k9⟩ := u_known (C := RX9) (T := TX9) (N := 67) (n := 67) hgt gwX9 (hts (.instantiable RX9 67) (by decide +kernel))
  obtain ⟨a10, r10⟩ := arr_K (hts (.arrayClass .byte) (by decide +kernel)) (fun _ h => by cases h)
  obtain ⟨a11, r11⟩ := arr_K (hts (.arrayClass .int) (by decide +kernel)) (fun _ h => by cases h)
  obtain ⟨a12, r12⟩ := arr_K (hts (.arrayClass .long) (by decide +kernel)) (fun _ h => by cases h)
  obtain ⟨a13, r13⟩ := arr_K (hts (.arrayClass .boolean) (by decide +kernel)) (fun _ h => by cases h)
  obtain ⟨a14, r14⟩ := arr_O (hts (.arrayOver (.object RX3)) (by decide +kernel))
  obtain ⟨a15, r15⟩ := arr_O (hts (.arrayOver (.object RX5)) (by decide +kernel))
  obtain ⟨a16, r16⟩ := arr_O (hts (.arrayOver (.object RX7)) (by decide +kernel))
  obtain ⟨a17, r17⟩ := arr_A (hts (.arrayOver (.array .int)) (by decide +kernel))
  obtain ⟨a18, r18⟩ := arr_A (hts (.arrayOver (.array .long)) (by decide +kernel))
  refine ⟨(fun k => if k = 0 then c0 else if k = 1 then c1 else if k = 2 then c2 else if k = 3 then c3 else if k = 4 then c4 else if k = 5 then c5 else if k = 6 then c6 else if k = 7 then c7 else if k = 8 then c8 else c9, fun k => if k = 0 then i0 else if k = 1 then i1 else if k = 2 then i2 else if k = 3 then i3 else if k = 4 then i4 else if k = 5 then i5 else if k = 6 then i6 else if k = 7 then i7 else if k = 8 then i8 else i9), fun k => if k = 10 then a10 else if k = 11 then a11 else if k = 12 then a12 else if k = 13 then a13 else if k = 14 then a14 else if k = 15 then a15 else if k = 16 then a16 else if k = 17 then a17 else a18, ?_, ?_⟩
  · intro k q hq
    match k, hq with
    | 0, hq => cases hq; exact k0
    | 1, hq => cases hq; exact k1
    | 2, hq => cases hq; exact k2
    | 3, hq => cases hq; exact k3
    | 4, hq => cases hq; exact k4
    | 5, hq => cases hq; exact k5
    | 6, hq => cases hq; exact k6
    | 7, hq => cases hq; exact k7
    | 8, hq => cases hq; exact k8
    | 9, hq => cases hq; exact k9
    | k + 10, hq => simp [vwCl] at hq
  · intro k h1 h2
    rcases (show k = 10 ∨ k = 11 ∨ k = 12 ∨ k = 13 ∨ k = 14 ∨ k = 15 ∨ k = 16 ∨ k = 17 ∨ k = 18 by omega) with rfl | rfl | rfl | rfl | rfl | rfl | rfl | rfl | rfl
    · exact r10
    · exact r11
    · exact r12
    · exact r13
    · exact r14
    · exact r15
    · exact r16
    · exact r17
    · exact r18
theorem st_TERM_LOW {s : State} {args : Array Value} (hgv : (Jvm.Cond.and given_1 narrow_1).before args s = true) (hts : ∀ w ∈ lw_tbl, w.before args s = true) : ∃ t : Nat, t < s.heap.size ∧ va_Z "HotIron" "TERM_LOW" "[I" (.ref t) (fun q => s.heap.size ≤ q) s s.heap ∧ va_T .int t 5 (fun j => .int (tLow j)) (fun q => s.heap.size ≤ q) s s.heap := by
  have hfl := flat_of_before _ hgv
  obtain ⟨t, ht, hT⟩ := va_Tof (tm := .static "HotIron" "TERM_LOW" "[I") (ty := .int) (N := 5) (f := fun j => .int (tLow j)) (A := fun q => s.heap.size ≤ q) (by decide) (hfl (.arrayOf (.static "HotIron" "TERM_LOW" "[I") .int) (by decide +kernel)) (va_eqt (hfl (.eq (.length (.static "HotIron" "TERM_LOW" "[I")) (.int 5)) (by decide +kernel))) (fun j hj => by
    rcases (show j = 0 ∨ j = 1 ∨ j = 2 ∨ j = 3 ∨ j = 4 by omega) with rfl | rfl | rfl | rfl | rfl
    · exact va_eqt (hfl (.eq (.elem (.static "HotIron" "TERM_LOW" "[I") (.int 0)) (.int 1)) (by decide +kernel))
    · exact va_eqt (hfl (.eq (.elem (.static "HotIron" "TERM_LOW" "[I") (.int 1)) (.int 0)) (by decide +kernel))
    · exact va_eqt (hfl (.eq (.elem (.static "HotIron" "TERM_LOW" "[I") (.int 2)) (.int 0)) (by decide +kernel))
    · exact va_eqt (hfl (.eq (.elem (.static "HotIron" "TERM_LOW" "[I") (.int 3)) (.int 0)) (by decide +kernel))
    · exact va_eqt (hfl (.eq (.elem (.static "HotIron" "TERM_LOW" "[I") (.int 4)) (.int 0)) (by decide +kernel))) (fun a h z => absurd h (Nat.not_lt.mpr z))
  obtain ⟨cell, h1, -⟩ := id hT
  exact ⟨t, (Array.getElem?_eq_some_iff.mp h1).1, va_Zref (hts (.laysStatic "HotIron" "TERM_LOW" "[I") (by decide +kernel)) (hts (.initialized "HotIron") (by decide +kernel)) ht (fun a h z => absurd h (Nat.not_lt.mpr z)), hT⟩
theorem st_TERM_HIGH {s : State} {args : Array Value} (hgv : (Jvm.Cond.and given_1 narrow_1).before args s = true) (hts : ∀ w ∈ lw_tbl, w.before args s = true) : ∃ t : Nat, t < s.heap.size ∧ va_Z "HotIron" "TERM_HIGH" "[I" (.ref t) (fun q => s.heap.size ≤ q) s s.heap ∧ va_T .int t 5 (fun j => .int (tHigh j)) (fun q => s.heap.size ≤ q) s s.heap := by
  have hfl := flat_of_before _ hgv
  obtain ⟨t, ht, hT⟩ := va_Tof (tm := .static "HotIron" "TERM_HIGH" "[I") (ty := .int) (N := 5) (f := fun j => .int (tHigh j)) (A := fun q => s.heap.size ≤ q) (by decide) (hfl (.arrayOf (.static "HotIron" "TERM_HIGH" "[I") .int) (by decide +kernel)) (va_eqt (hfl (.eq (.length (.static "HotIron" "TERM_HIGH" "[I")) (.int 5)) (by decide +kernel))) (fun j hj => by
    rcases (show j = 0 ∨ j = 1 ∨ j = 2 ∨ j = 3 ∨ j = 4 by omega) with rfl | rfl | rfl | rfl | rfl
    · exact va_eqt (hfl (.eq (.elem (.static "HotIron" "TERM_HIGH" "[I") (.int 0)) (.int 4)) (by decide +kernel))
    · exact va_eqt (hfl (.eq (.elem (.static "HotIron" "TERM_HIGH" "[I") (.int 1)) (.int 100)) (by decide +kernel))
    · exact va_eqt (hfl (.eq (.elem (.static "HotIron" "TERM_HIGH" "[I") (.int 2)) (.int 60)) (by decide +kernel))
    · exact va_eqt (hfl (.eq (.elem (.static "HotIron" "TERM_HIGH" "[I") (.int 3)) (.int 60)) (by decide +kernel))
    · exact va_eqt (hfl (.eq (.elem (.static "HotIron" "TERM_HIGH" "[I") (.int 4)) (.int 50)) (by decide +kernel))) (fun a h z => absurd h (Nat.not_lt.mpr z))
  obtain ⟨cell, h1, -⟩ := id hT
  exact ⟨t, (Array.getElem?_eq_some_iff.mp h1).1, va_Zref (hts (.laysStatic "HotIron" "TERM_HIGH" "[I") (by decide +kernel)) (hts (.initialized "HotIron") (by decide +kernel)) ht (fun a h z => absurd h (Nat.not_lt.mpr z)), hT⟩
theorem st_ALL_TWO {s : State} {args : Array Value} (hgv : (Jvm.Cond.and given_1 narrow_1).before args s = true) (hts : ∀ w ∈ lw_tbl, w.before args s = true) : ∃ t : Nat, t < s.heap.size ∧ va_Z "HotIron" "ALL_TWO" "[I" (.ref t) (fun q => s.heap.size ≤ q) s s.heap ∧ va_T .int t 5 (fun j => .int (2)) (fun q => s.heap.size ≤ q) s s.heap := by
  have hfl := flat_of_before _ hgv
  obtain ⟨t, ht, hT⟩ := va_Tof (tm := .static "HotIron" "ALL_TWO" "[I") (ty := .int) (N := 5) (f := fun j => .int (2)) (A := fun q => s.heap.size ≤ q) (by decide) (hfl (.arrayOf (.static "HotIron" "ALL_TWO" "[I") .int) (by decide +kernel)) (va_eqt (hfl (.eq (.length (.static "HotIron" "ALL_TWO" "[I")) (.int 5)) (by decide +kernel))) (fun j hj => by
    rcases (show j = 0 ∨ j = 1 ∨ j = 2 ∨ j = 3 ∨ j = 4 by omega) with rfl | rfl | rfl | rfl | rfl
    · exact va_eqt (hfl (.eq (.elem (.static "HotIron" "ALL_TWO" "[I") (.int 0)) (.int 2)) (by decide +kernel))
    · exact va_eqt (hfl (.eq (.elem (.static "HotIron" "ALL_TWO" "[I") (.int 1)) (.int 2)) (by decide +kernel))
    · exact va_eqt (hfl (.eq (.elem (.static "HotIron" "ALL_TWO" "[I") (.int 2)) (.int 2)) (by decide +kernel))
    · exact va_eqt (hfl (.eq (.elem (.static "HotIron" "ALL_TWO" "[I") (.int 3)) (.int 2)) (by decide +kernel))
    · exact va_eqt (hfl (.eq (.elem (.static "HotIron" "ALL_TWO" "[I") (.int 4)) (.int 2)) (by decide +kernel))) (fun a h z => absurd h (Nat.not_lt.mpr z))
  obtain ⟨cell, h1, -⟩ := id hT
  exact ⟨t, (Array.getElem?_eq_some_iff.mp h1).1, va_Zref (hts (.laysStatic "HotIron" "ALL_TWO" "[I") (by decide +kernel)) (hts (.initialized "HotIron") (by decide +kernel)) ht (fun a h z => absurd h (Nat.not_lt.mpr z)), hT⟩
abbrev ltm (i : Nat) : Term := .string "HotIron$Reader" (lsI.getD i 0)
theorem lt_m1 : ∀ i, i < 17 → Cond.exactly (ltm i) "java/lang/String" ∈ flatC (Jvm.Cond.and given_1 narrow_1) := by decide +kernel
theorem lt_m2 : ∀ i, i < 17 → Cond.eq (.field (ltm i) "java/lang/String" "coder" "B") (.int 0) ∈ flatC (Jvm.Cond.and given_1 narrow_1) := by decide +kernel
theorem lt_m3 : ∀ i, i < 17 → Cond.arrayOf (.field (ltm i) "java/lang/String" "value" "[B") .byte ∈ flatC (Jvm.Cond.and given_1 narrow_1) := by decide +kernel
theorem lt_m4 : ∀ i, i < 17 → Cond.eq (.length (.field (ltm i) "java/lang/String" "value" "[B")) (.int (Int32.ofNat (lsN.getD i 0))) ∈ flatC (Jvm.Cond.and given_1 narrow_1) := by decide +kernel
theorem lt_m5 : ∀ i, i < 17 → ∀ j, j < lsN.getD i 0 → Cond.eq (.elem (.field (ltm i) "java/lang/String" "value" "[B") (.int (Int32.ofNat j))) (.int ((lsB.getD i []).getD j 0)) ∈ flatC (Jvm.Cond.and given_1 narrow_1) := by decide +kernel
theorem lt_m6_1 : ∀ j, j < 1 → Cond.not (Cond.eq (ltm j) (ltm 1)) ∈ flatC (Jvm.Cond.and given_1 narrow_1) := by decide +kernel
theorem lt_m6_2 : ∀ j, j < 2 → Cond.not (Cond.eq (ltm j) (ltm 2)) ∈ flatC (Jvm.Cond.and given_1 narrow_1) := by decide +kernel
theorem lt_m6_3 : ∀ j, j < 3 → Cond.not (Cond.eq (ltm j) (ltm 3)) ∈ flatC (Jvm.Cond.and given_1 narrow_1) := by decide +kernel
theorem lt_m6_4 : ∀ j, j < 4 → Cond.not (Cond.eq (ltm j) (ltm 4)) ∈ flatC (Jvm.Cond.and given_1 narrow_1) := by decide +kernel
theorem lt_m6_5 : ∀ j, j < 5 → Cond.not (Cond.eq (ltm j) (ltm 5)) ∈ flatC (Jvm.Cond.and given_1 narrow_1) := by decide +kernel
theorem lt_m6_6 : ∀ j, j < 6 → Cond.not (Cond.eq (ltm j) (ltm 6)) ∈ flatC (Jvm.Cond.and given_1 narrow_1) := by decide +kernel
theorem lt_m6_7 : ∀ j, j < 7 → Cond.not (Cond.eq (ltm j) (ltm 7)) ∈ flatC (Jvm.Cond.and given_1 narrow_1) := by decide +kernel
theorem lt_m6_8 : ∀ j, j < 8 → Cond.not (Cond.eq (ltm j) (ltm 8)) ∈ flatC (Jvm.Cond.and given_1 narrow_1) := by decide +kernel
theorem lt_m6_9 : ∀ j, j < 9 → Cond.not (Cond.eq (ltm j) (ltm 9)) ∈ flatC (Jvm.Cond.and given_1 narrow_1) := by decide +kernel
theorem lt_m6_10 : ∀ j, j < 10 → Cond.not (Cond.eq (ltm j) (ltm 10)) ∈ flatC (Jvm.Cond.and given_1 narrow_1) := by decide +kernel
theorem lt_m6_11 : ∀ j, j < 11 → Cond.not (Cond.eq (ltm j) (ltm 11)) ∈ flatC (Jvm.Cond.and given_1 narrow_1) := by decide +kernel
theorem lt_m6_12 : ∀ j, j < 12 → Cond.not (Cond.eq (ltm j) (ltm 12)) ∈ flatC (Jvm.Cond.and given_1 narrow_1) := by decide +kernel
theorem lt_m6_13 : ∀ j, j < 13 → Cond.not (Cond.eq (ltm j) (ltm 13)) ∈ flatC (Jvm.Cond.and given_1 narrow_1) := by decide +kernel
theorem lt_m6_14 : ∀ j, j < 14 → Cond.not (Cond.eq (ltm j) (ltm 14)) ∈ flatC (Jvm.Cond.and given_1 narrow_1) := by decide +kernel
theorem lt_m6_15 : ∀ j, j < 15 → Cond.not (Cond.eq (ltm j) (ltm 15)) ∈ flatC (Jvm.Cond.and given_1 narrow_1) := by decide +kernel
theorem lt_m6_16 : ∀ j, j < 16 → Cond.not (Cond.eq (ltm j) (ltm 16)) ∈ flatC (Jvm.Cond.and given_1 narrow_1) := by decide +kernel
theorem lt_m6 : ∀ i, i < 17 → ∀ j, j < i → Cond.not (Cond.eq (ltm j) (ltm i)) ∈ flatC (Jvm.Cond.and given_1 narrow_1)
  | 0, _, j, h => absurd h (Nat.not_lt_zero j)
  | 1, _, j, h => lt_m6_1 j h
  | 2, _, j, h => lt_m6_2 j h
  | 3, _, j, h => lt_m6_3 j h
  | 4, _, j, h => lt_m6_4 j h
  | 5, _, j, h => lt_m6_5 j h
  | 6, _, j, h => lt_m6_6 j h
  | 7, _, j, h => lt_m6_7 j h
  | 8, _, j, h => lt_m6_8 j h
  | 9, _, j, h => lt_m6_9 j h
  | 10, _, j, h => lt_m6_10 j h
  | 11, _, j, h => lt_m6_11 j h
  | 12, _, j, h => lt_m6_12 j h
  | 13, _, j, h => lt_m6_13 j h
  | 14, _, j, h => lt_m6_14 j h
  | 15, _, j, h => lt_m6_15 j h
  | 16, _, j, h => lt_m6_16 j h
  | i + 17, h, _, _ => absurd h (by omega)
theorem lt_m7 : ∀ i, i < 17 → Cond.stringRef "HotIron$Reader" (lsI.getD i 0) (lsT.getD i "") ∈ lw_tbl := by decide +kernel
theorem lit_of {s : State} {args : Array Value} (hgv : (Jvm.Cond.and given_1 narrow_1).before args s = true) (hts : ∀ w ∈ lw_tbl, w.before args s = true) : ∃ (adK adV : Nat → Nat) (fv : Value), (fv = .null ∨ ∃ t, fv = .ref t) ∧ vk_S 17 lsN lsB adK adV (fun q => s.heap.size ≤ q) s s.heap ∧ (∀ i, i < 17 → vk_R "HotIron$Reader" (lsI.getD i 0) (lsT.getD i "") (adK i) s) ∧ va_Z "java/lang/String" "COMPACT_STRINGS" "Z" (.int 1) (fun q => s.heap.size ≤ q) s s.heap ∧ va_Z "jdk/internal/util/Preconditions" "SIOOBE_FORMATTER" "Ljava/util/function/BiFunction;" fv (fun q => s.heap.size ≤ q) s s.heap := by
  have hfl := flat_of_before _ hgv
  have nA : ∀ a : Nat, a < s.heap.size → ¬ (fun q => s.heap.size ≤ q) a := fun a h z => absurd h (Nat.not_lt.mpr z)
  obtain ⟨adK, adV, hS, hev⟩ := vk_Sof (args := args) (s := s) (N := 17) (tm := ltm) (len := lsN) (byt := lsB) (A := fun q => s.heap.size ≤ q) (by decide) (fun i hi => hfl _ (lt_m1 i hi)) (fun i hi => hfl _ (lt_m2 i hi)) (fun i hi => hfl _ (lt_m3 i hi)) (fun i hi => hfl _ (lt_m4 i hi)) (fun i hi j hj => hfl _ (lt_m5 i hi j hj)) (fun i j hi hj hne => by
    rcases Nat.lt_or_ge i j with h | h
    · exact Or.inl (hfl _ (lt_m6 j hj i h))
    · exact Or.inr (hfl _ (lt_m6 i hi j (by omega)))) nA
  obtain ⟨fv, hv, hvr⟩ := Cond.isRef_spec (hfl (.isRef (.static "jdk/internal/util/Preconditions" "SIOOBE_FORMATTER" "Ljava/util/function/BiFunction;")) (by decide +kernel))
  refine ⟨adK, adV, fv, (by cases fv <;> first | exact Or.inl rfl | exact Or.inr ⟨_, rfl⟩ | cases hvr), hS, fun i hi => vk_R.of (hts _ (lt_m7 i hi)) (hev i hi), va_Zof (hts (.laysStatic "java/lang/String" "COMPACT_STRINGS" "Z") (by decide +kernel)) (hts (.initialized "java/lang/String") (by decide +kernel)) (va_eqt (hfl (.eq (.static "java/lang/String" "COMPACT_STRINGS" "Z") (.int 1)) (by decide +kernel))) nA, va_Zof (hts (.laysStatic "jdk/internal/util/Preconditions" "SIOOBE_FORMATTER" "Ljava/util/function/BiFunction;") (by decide +kernel)) (hts (.initialized "jdk/internal/util/Preconditions") (by decide +kernel)) hv nA⟩
def raL (b t1 t2 t3 f : Nat) (adK adV : Nat → Nat) (k : Nat) : Nat := if k = 0 then b else if k = 1 then t1 else if k = 2 then t2 else if k = 3 then t3 else if k = 4 then f else if k % 2 = 1 then adK (k / 2 - 2) else adV (k / 2 - 3)
def rlL (L f : Nat) (k : Nat) : Nat := if k = 0 then L else if k = 4 then f else 5
theorem rlL_lt {L f k : Nat} (h : k < 4) : (if k = 0 then L else 5) = rlL L f k := by
  unfold rlL
  by_cases h0 : k = 0
  · rw [if_pos h0, if_pos h0]
  · rw [if_neg h0, if_neg h0, if_neg (by omega)]
theorem tab_law : mTab[248]? = some (yL_law, cL_law, 4, some .boolean) := rfl
set_option maxHeartbeats 2000000 in
theorem start_of (hlaw : ∀ (L : Nat) (xs : Nat → Int32), L ≤ 3072 → EvM 1000 248 [.ref 0] (iS L) (iI xs) iL iR lawQ) {p : Program} {e : Env} {s : State} {m : MethodId} {below : List Frame} {meth : Method} {c : Code} (l : Launch) {b L : Nat} {xs : Nat → Int32} (hL : L ≤ 3072) (C0 : lw_At p s m meth c b L xs) : W p l e room_1 s m #[Value.ref b] below meth c s.heap [] 0 0 (lw_Z below #[Value.ref b] s) (entryFrame m ([Value.ref b] : List Value).toArray 4) := by
  obtain ⟨hx, hb, hr, hml, hown, hts, hX, hbl, hlocks, hgv⟩ := id C0
  have hgt : ∀ w ∈ gt, w.before #[.ref b] s = true := fun w hw => hts w (List.mem_filter.mp hw).1
  obtain ⟨t1, l1, z1, y1⟩ := st_TERM_LOW hgv hts
  obtain ⟨t2, l2, z2, y2⟩ := st_TERM_HIGH hgv hts
  obtain ⟨t3, l3, z3, y3⟩ := st_ALL_TWO hgv hts
  obtain ⟨adK, adV, fv, hfv, hvS, hvR, hvC, hvF⟩ := lit_of hgv hts
  obtain ⟨fa, fl, hff⟩ : ∃ fa fl : Nat, fv = if fl = 0 then .null else .ref fa := by
    rcases hfv with rfl | ⟨t, rfl⟩
    · exact ⟨0, 0, rfl⟩
    · exact ⟨t, 1, rfl⟩
  obtain ⟨D, cy, hK⟩ := gK_of hgt hts s.heap.size (raL b t1 t2 t3 fa adK adV) (rlL L fl) (iI xs)
  generalize hE : ((D, cy, s.heap.size, raL b t1 t2 t3 fa adK adV, rlL L fl, iI xs) : gE) = E at hK
  have hEB : E.2.2.1 = s.heap.size := by rw [← hE]
  have hA : gA E = fun q => s.heap.size ≤ q := by unfold gA; rw [hEB]
  have hZ : gZ E s s.heap := by
    subst hE
    refine ⟨z1, z2, z3, fun k hk => ?_, gsp_of hts, ⟨fun i hi => ?_, fun i j hi hj e => ?_⟩, fun i hi => ?_, hvC, ?_⟩
    case refine_2 =>
      have e1 : raL b t1 t2 t3 fa adK adV (5 + 2 * i) = adK i := by
        unfold raL
        rw [if_neg (by omega), if_neg (by omega), if_neg (by omega), if_neg (by omega), if_neg (by omega), if_pos (by omega)]
        congr 1
        omega
      have e2 : raL b t1 t2 t3 fa adK adV (6 + 2 * i) = adV i := by
        unfold raL
        rw [if_neg (by omega), if_neg (by omega), if_neg (by omega), if_neg (by omega), if_neg (by omega), if_neg (by omega)]
        congr 1
        omega
      have := hvS.1 i hi
      rw [← e1, ← e2] at this
      exact this
    case refine_3 =>
      have e1 : ∀ i, raL b t1 t2 t3 fa adK adV (5 + 2 * i) = adK i := fun i => by
        unfold raL
        rw [if_neg (by omega), if_neg (by omega), if_neg (by omega), if_neg (by omega), if_neg (by omega), if_pos (by omega)]
        congr 1
        omega
      have e9 : raL b t1 t2 t3 fa adK adV (5 + 2 * i) = raL b t1 t2 t3 fa adK adV (5 + 2 * j) := e
      rw [e1, e1] at e9
      exact hvS.2 i j hi hj e9
    case refine_4 =>
      have e1 : raL b t1 t2 t3 fa adK adV (5 + 2 * i) = adK i := by
        unfold raL
        rw [if_neg (by omega), if_neg (by omega), if_neg (by omega), if_neg (by omega), if_neg (by omega), if_pos (by omega)]
        congr 1
        omega
      show vk_R _ _ _ (raL b t1 t2 t3 fa adK adV (5 + 2 * i)) s
      rw [e1]
      exact hvR i hi
    case refine_5 =>
      rw [hff] at hvF
      exact hvF
    rcases (show k = 0 ∨ k = 1 ∨ k = 2 ∨ k = 3 by omega) with rfl | rfl | rfl | rfl
    · exact ⟨arr_T hX (Nat.not_le.mpr hbl), hbl⟩
    · exact ⟨y1, l1⟩
    · exact ⟨y2, l2⟩
    · exact ⟨y3, l3⟩
  have hC : gCx E p s m #[.ref b] meth c yL_law.cls yL_law.name cL_law 4 (some .boolean) := ⟨hx, hb, hr, hml, hown, hgt, hlocks, (fun h => absurd h (by decide)), hK, hZ, by rw [hEB]; exact Nat.le_refl _⟩
  have hH : gH E (iS L) (iI xs) iL iR s.heap := by
    subst hE
    refine ⟨⟨Nat.le_refl 4, rfl⟩, fun a h1 h2 => absurd h2 (Nat.not_lt.mpr h1), fun k hk => ⟨rfl, rlL_lt hk, rfl⟩⟩
  obtain ⟨-, n, ⟨v, S', I', L', R'⟩, hrun, hv, hce, hsl⟩ := hlaw L xs hL
  dsimp only at hv hce hsl
  subst hv
  have hl := lv_entry ([.ref b]) (n := 4) (Nat.le_of_ble_eq_true rfl)
  rw [lg_entry_eq]
  generalize (lg_sl ([.ref b]) ++ List.replicate (4 - (lg_sl ([.ref b])).length) Slot.unset).toArray = lsA at hl ⊢
  have hlo : gLo E lsA 4 [.ref 0, nv, nv, nv] := ⟨hl.1, hl.2.1, fun i x hx hr => by
    match i, hx with
    | 0, hx =>
      cases hx
      have := hl.2.2 (0, .ref b) (List.Mem.head _)
      subst hE
      exact this
    | i + 1, hx =>
      have hx2 : ([nv, nv, nv] : List Value)[i]? = some x := hx
      rcases List.mem_of_getElem? hx2 with _ | ⟨_, h⟩
      all_goals first
        | exact absurd rfl (hr 0)
        | (have h9 : x = nv := by
             have := List.mem_of_getElem? hx2
             simpa using this
           exact absurd h9 (hr 0))⟩
  have K := snd ckm_all E l n 1000 248 0 _ _ _ _ _ _ _ _ _ _ _ hrun p e room_1 s m #[.ref b] below meth c 4 0 (lw_Z below #[.ref b] s) (yL_law, cL_law, 4, some .boolean) tab_law hC (Nat.le_refl 4) (Nat.le_refl 0) (by show _ ≤ 600000; omega) (by show _ ≤ 7302250; omega) (by decide) (by decide) rfl ?_ s.heap [] lsA hH va_S.rf hlo
  · exact K
  · intro pc o st H locs lsB ho h0 hrt hH1 hS1
    have hko := ck_m.op (ckm_all 248 (yL_law, cL_law, 4, some .boolean) tab_law) tab_law ho
    unfold ck_o at hko
    rw [if_pos h0] at hko
    unfold ck_r at hko
    simp only [Bool.or_eq_true, Bool.and_eq_true, decide_eq_true_eq] at hko
    refine va_forget (fun q hq => by have := hS1.2.2 q hq; rw [hA] at this; exact this) ?_
    refine W.widen (k := 600000) (n := 7302250) (by omega) (by omega) ?_
    unfold mRt at hrt
    have hst : o.2.2.1 = 4 ∧ decode cL_law pc = .ok (.ireturn, 1) := by
      rcases hko with ⟨k1, k2, k3⟩ | ⟨k1, k2, k3⟩ | ⟨k1, k2, k3⟩ | ⟨k1, k2, k3⟩ | ⟨k1, k2, k3⟩ | ⟨k1, k2, k3⟩ | ⟨k1, k2, k3⟩
      · cases k3
      · cases k3
      · cases k3
      · cases k3
      · exact ⟨k1, k2⟩
      · cases k3
      · cases k3
    rw [hst.1] at hrt
    split at hrt
    · contradiction
    · contradiction
    · contradiction
    · contradiction
    · contradiction
    · split at hrt
      · cases hrt
        exact lw_ret hx hb hr hlocks hst.2
      · cases hrt
    all_goals first
      | contradiction
      | (cases hrt; done)
