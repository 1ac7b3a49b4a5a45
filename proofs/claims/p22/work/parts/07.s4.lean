/-! an array of n arrays of k places: what the machine does for it, cell by cell -/
def m_out (c : ClassId) (N h i : Nat) : Cell := arrV c N (fun j => if j < i then .ref (h + 1 + j) else .null)
def m_fil (s : State) (cA cC : ClassId) (N M : Nat) (dv : Value) : Nat → State
  | 0 => s.pushCell (m_out cA N s.heap.size 0)
  | i + 1 => ((m_fil s cA cC N M dv i).pushCell (arrV cC M (fun _ => dv))).setCell s.heap.size (m_out cA N s.heap.size (i + 1))
theorem m_out_s (c : ClassId) (N h i : Nat) : (m_out c N h i).setSlot i (.ref (h + 1 + i)) = m_out c N h (i + 1) := by
  unfold m_out
  rw [arrV_store]
  congr 1
  funext j
  by_cases hj : j = i
  · subst hj; simp [updV]
  · by_cases h2 : j < i
    · simp [updV, hj, h2, Nat.lt_succ_of_lt h2]
    · simp [updV, hj, h2, show ¬ j < i + 1 by omega]
theorem m_fil_f (s : State) (cA cC : ClassId) (N M : Nat) (dv : Value) : ∀ i, (m_fil s cA cC N M dv i).heap.size = s.heap.size + 1 + i ∧ (m_fil s cA cC N M dv i).heap[s.heap.size]? = some (m_out cA N s.heap.size i) ∧ (m_fil s cA cC N M dv i).vm = s.vm ∧ (m_fil s cA cC N M dv i).slotsUsed = s.slotsUsed + N + i * M
  | 0 => ⟨by simp [m_fil], by simp [m_fil], rfl, by simp [m_fil, m_out, arrV_size]⟩
  | i + 1 => by
    obtain ⟨a, b, d, u⟩ := m_fil_f s cA cC N M dv i
    have hlt : s.heap.size < (m_fil s cA cC N M dv i).heap.size := by omega
    have hb : ((m_fil s cA cC N M dv i).pushCell (arrV cC M (fun _ => dv))).heap[s.heap.size]? = some (m_out cA N s.heap.size i) := by rw [State.heap_pushCell_of_lt (h := hlt)]; exact b
    refine ⟨?_, State.heap_setCell_self hb, by simp [m_fil, d], ?_⟩
    · simp [m_fil, State.setCell, a]; omega
    · simp [m_fil, u, arrV_size, Nat.succ_mul]; omega
theorem m_fil_o (s : State) (cA cC : ClassId) (N M : Nat) (dv : Value) {a : Addr} (ha : a < s.heap.size) : ∀ i, (m_fil s cA cC N M dv i).heap[a]? = s.heap[a]?
  | 0 => State.heap_pushCell_of_lt _ _ ha
  | i + 1 => by
    have f1 := (m_fil_f s cA cC N M dv i).1
    have hlt : a < (m_fil s cA cC N M dv i).heap.size := Nat.lt_of_lt_of_le ha (by rw [f1]; omega)
    show (((m_fil s cA cC N M dv i).pushCell (arrV cC M (fun _ => dv))).setCell s.heap.size _).heap[a]? = _
    rw [State.heap_setCell_other (Nat.ne_of_gt ha), State.heap_pushCell_of_lt (h := hlt)]
    exact m_fil_o s cA cC N M dv ha i
theorem m_fil_r (s : State) (cA cC : ClassId) (N M : Nat) (dv : Value) : ∀ i j, j < i → (m_fil s cA cC N M dv i).heap[s.heap.size + 1 + j]? = some (arrV cC M (fun _ => dv))
  | 0, _, h => absurd h (Nat.not_lt_zero _)
  | i + 1, j, h => by
    have f1 := (m_fil_f s cA cC N M dv i).1
    show (((m_fil s cA cC N M dv i).pushCell (arrV cC M (fun _ => dv))).setCell s.heap.size _).heap[s.heap.size + 1 + j]? = _
    rw [State.heap_setCell_other (show s.heap.size ≠ s.heap.size + 1 + j by omega)]
    rcases Nat.lt_or_ge j i with hj | hj
    · have hlt : s.heap.size + 1 + j < (m_fil s cA cC N M dv i).heap.size := by omega
      rw [State.heap_pushCell_of_lt (h := hlt)]
      exact m_fil_r s cA cC N M dv i j hj
    · have e : j = i := by omega
      subst e
      rw [← f1]
      exact State.heap_pushCell_size _ _
theorem m_fil_t (s : State) (f : JFrame) (cA cC : ClassId) (N M : Nat) (dv : Value) : ∀ i, m_fil (s.setTop f) cA cC N M dv i = (m_fil s cA cC N M dv i).setTop f
  | 0 => rfl
  | i + 1 => by simp only [m_fil, m_fil_t s f cA cC N M dv i, State.heap_setTop, State.pushCell_setTop, State.setCell_setTop]
section MW
variable {E : CtlPost} {e : Env} {d : Bool} {acts : List Action} {s : State}
theorem m_na {c comp : ClassId} {k : Class} {type : FieldType} {len : Nat} {v0 : Value} (hk : s.vm.classes[c]? = some k) (hkind : k.kind = .array comp type)
    (hlimit : ¬ len > e.platform.arrayLengthLimit) (hheap : ¬ len * componentBytes type > e.platform.maxHeapBytes) (hfit : fits type v0 = true) (hdef : v0.isDefault = true) {Q : Addr → Pre}
    (h1 : s.heap.size < e.platform.maxCells) (h2 : s.slotsUsed + len ≤ e.platform.maxSlots)
    (hq : Q s.heap.size d acts (s.pushCell (arrV c len (fun _ => v0)))) : wp (Jvm.newArray c len v0) Q E e d acts s := by
  have hfits : ∀ i v, (Array.replicate len v0)[i]? = some v → s.fitsSlot c .none i v = true := by
    intro i v hv
    simp only [Array.getElem?_replicate] at hv
    split at hv
    · cases hv; simp [State.fitsSlot, State.slotType?, hk, hkind, hfit]
    · cases hv
  have hda : allocActs (Array.replicate len v0) s.heap.size acts = acts := by
    have hall : ((Array.replicate len v0).all (·.isDefault)) = true := by
      rw [Array.all_replicate]; split <;> simp [hdef]
    unfold allocActs; rw [if_pos hall]
  rw [← arrV_new] at hq
  simp only [Jvm.newArray, Jvm.arrayFits, wp_bind', W.ask, W.ite, hlimit, if_false, wp_pure', W.theClass, hk, hkind, hheap, W.alloc, W.stop, Option.some.injEq, exists_eq_left', Array.size_replicate, hda]
  rw [if_neg (by omega)]
  exact ⟨h1, h2, hfits, hq⟩
theorem m_rf {t : FieldType} (h : t.isReference = true) (v : Option Nat) : fits t (va_rf v) = true := (nr h v).2
theorem m_mk {c comp cc : ClassId} {k kc : Class} {t0 type : FieldType} {n m : Int32} (hk : s.vm.classes[c]? = some k) (hkind : k.kind = .array comp t0) (href : t0.isReference = true)
    (hkc : s.vm.classes[comp]? = some kc) (hkindc : kc.kind = .array cc type) (hn : ¬ n < 0) (hm : ¬ m < 0)
    (hl1 : ¬ n.toNatClampNeg > e.platform.arrayLengthLimit) (hh1 : ¬ n.toNatClampNeg * componentBytes t0 > e.platform.maxHeapBytes)
    (hl2 : ¬ m.toNatClampNeg > e.platform.arrayLengthLimit) (hh2 : ¬ m.toNatClampNeg * componentBytes type > e.platform.maxHeapBytes)
    (hdf : fits type (defaultValue type) = true) (hdd : (defaultValue type).isDefault = true)
    (hc : s.heap.size + 1 + n.toNatClampNeg ≤ e.platform.maxCells) (hs : s.slotsUsed + n.toNatClampNeg + n.toNatClampNeg * m.toNatClampNeg ≤ e.platform.maxSlots)
    {Q : Addr → Pre} (hq : ∀ d' acts', Q s.heap.size d' acts' (m_fil s c comp n.toNatClampNeg m.toNatClampNeg (defaultValue type) n.toNatClampNeg)) :
    wp (multianewarray.make c [n, m]) Q E e d acts s := by
  have hfind : ([m].find? (· < 0)) = none := by simp [hm]
  rw [multianewarray.make]
  simp only [wp_bind', W.ite, hn, if_false, wp_pure', W.theClass, hk, hkind, Option.some.injEq, exists_eq_left']
  refine m_na (v0 := .null) hk hkind hl1 hh1 (m_rf href none) rfl (by omega) (by have := Nat.zero_le (n.toNatClampNeg * m.toNatClampNeg); omega) ?_
  simp only [hfind]
  rw [ite_self, wp_bind', Std.Legacy.Range.forIn_eq_forIn_range']
  have hsz : ([:n.toNatClampNeg] : Std.Legacy.Range).size = n.toNatClampNeg := by simp [Std.Legacy.Range.size]
  rw [hsz]
  have e0 : (arrV c n.toNatClampNeg (fun _ => Value.null)) = m_out c n.toNatClampNeg s.heap.size 0 := by
    unfold m_out
    congr 1
  rw [e0]
  show wp (forIn (List.range' 0 n.toNatClampNeg 1) PUnit.unit _) _ E e d acts _
  refine wp_forIn_inv (fun rest s' => ∃ i, i ≤ n.toNatClampNeg ∧ rest = List.range' i (n.toNatClampNeg - i) ∧ s' = m_fil s c comp n.toNatClampNeg m.toNatClampNeg (defaultValue type) i) _ _ ⟨0, Nat.zero_le _, rfl, rfl⟩ ?_ ?_
  · rintro x rest s' d' acts' Q' ⟨i, hi, hl, rfl⟩ hnext
    have hlt : i < n.toNatClampNeg := by
      rcases Nat.lt_or_ge i n.toNatClampNeg with h | h
      · exact h
      · rw [show n.toNatClampNeg - i = 0 from by omega] at hl; simp at hl
    obtain ⟨rfl, hrest⟩ : x = i ∧ rest = List.range' (i + 1) (n.toNatClampNeg - (i + 1)) := by
      rw [show n.toNatClampNeg - i = (n.toNatClampNeg - (i + 1)) + 1 from by omega, List.range'_succ] at hl
      exact ⟨(List.cons.inj hl).1, (List.cons.inj hl).2⟩
    obtain ⟨f1, f2, f3, f4⟩ := m_fil_f s c comp n.toNatClampNeg m.toNatClampNeg (defaultValue type) x
    have hmul : x * m.toNatClampNeg + m.toNatClampNeg ≤ n.toNatClampNeg * m.toNatClampNeg := by
      have := Nat.mul_le_mul_right m.toNatClampNeg (show x + 1 ≤ n.toNatClampNeg from hlt)
      rw [Nat.succ_mul] at this; exact this
    simp only [wp_bind']
    rw [multianewarray.make]
    simp only [wp_bind', W.ite, hm, if_false, wp_pure', W.theClass, f3, hkc, hkindc, Option.some.injEq, exists_eq_left']
    refine m_na (by rw [f3]; exact hkc) hkindc hl2 hh2 hdf hdd (by rw [f1]; omega) (by rw [f4]; omega) ?_
    have hlt0 : s.heap.size < (m_fil s c comp n.toNatClampNeg m.toNatClampNeg (defaultValue type) x).heap.size := by rw [f1]; omega
    simp only [wp_bind', W.writeLoc, wp_pure']
    refine ⟨m_out c n.toNatClampNeg s.heap.size x, by rw [State.heap_pushCell_of_lt (h := hlt0)]; exact f2, (fun z => by cases z), by unfold m_out; rw [arrV_size]; exact hlt, ?_, hnext _ _ _ ⟨x + 1, hlt, hrest, ?_⟩⟩
    · show State.fitsSlot _ c .none x _ = true
      simp [State.fitsSlot, State.slotType?, f3, hk, hkind]
      exact m_rf href (some _)
    · rw [f1, m_out_s]; rfl
  · rintro s' d' acts' ⟨i, hi, hl, rfl⟩
    have hiN : i = n.toNatClampNeg := by
      rcases Nat.lt_or_ge i n.toNatClampNeg with h | h
      · rw [show n.toNatClampNeg - i = (n.toNatClampNeg - (i + 1)) + 1 from by omega, List.range'_succ] at hl; cases hl
      · omega
    subst hiN
    simp only [wp_pure']
    exact hq _ _
end MW
section MS
variable {p : Program} {l : Launch} {e : Env} {R : Room} {s : State} {m : MethodId} {args : Array Value} {below : List Frame} {meth : Method} {c : Code} {H : Heap} {locs : List Loc} {cells slots : Nat} {Q : State → Prop}
theorem m_std {T : State} (X : Stand p l e R s m args below meth c T locs cells slots) (cA comp : ClassId) (N M : Nat) (dv : Value) :
    ∀ i, Stand p l e R s m args below meth c (m_fil T cA comp N M dv i) (locs ++ (List.range i).map fun j => ⟨T.heap.size, j⟩) (cells + 1 + i) (slots + N + i * M)
  | 0 => by
    have h := X.pushed (m_out cA N T.heap.size 0)
    rw [show (m_out cA N T.heap.size 0).slots.size = N from arrV_size _ _ _] at h
    simpa [m_fil] using h
  | i + 1 => by
    have Xi := m_std X cA comp N M dv i
    obtain ⟨f1, f2, f3, f4⟩ := m_fil_f T cA comp N M dv i
    have hlt0 : T.heap.size < (m_fil T cA comp N M dv i).heap.size := by rw [f1]; omega
    have hcell : ((m_fil T cA comp N M dv i).pushCell (arrV comp M (fun _ => dv))).heap[T.heap.size]? = some (m_out cA N T.heap.size i) := by rw [State.heap_pushCell_of_lt (h := hlt0)]; exact f2
    have h := (Xi.pushed (arrV comp M (fun _ => dv))).stored hcell i (.ref (T.heap.size + 1 + i))
    rw [arrV_size, m_out_s] at h
    have e2 : (locs ++ (List.range (i + 1)).map fun j => (⟨T.heap.size, j⟩ : Loc)) = (locs ++ (List.range i).map fun j => (⟨T.heap.size, j⟩ : Loc)) ++ [⟨T.heap.size, i⟩] := by simp [List.range_succ, List.append_assoc]
    have e3 : slots + N + (i + 1) * M = slots + N + i * M + M := by rw [Nat.succ_mul]; omega
    rw [e2, e3]
    exact h
theorem W.mult {cc : ByteArray} (hexec : p.tables.exec = Jvm.exec) (hb : c.code = cc) {own : String} {index : Nat} {ty : FieldType}
    (hown : s.vm.findClass own = some m.cls) (hclink : (Cond.classLink own index ("[" ++ (FieldType.array ty).toString)).before args s = true)
    (hover : (Cond.arrayOver (.array ty)).before args s = true) (harr : (Cond.arrayClass ty).before args s = true)
    {pc : Nat} {lsA : Array Slot} (hdg : decode cc pc = .ok (.multianewarray index 2, 4)) {n k : Int32} {rest : List Value}
    (hn : ¬ n < 0) (hk : ¬ k < 0) (hb1 : n.toNatClampNeg * 4 ≤ 536870912) (hb2 : k.toNatClampNeg * componentBytes ty ≤ 536870912) (hb3 : k.toNatClampNeg ≤ 536870912)
    (hdf : fits ty (defaultValue ty) = true) (hdd : (defaultValue ty).isDefault = true)
    (hcells : cells + (1 + n.toNatClampNeg) ≤ R.cells) (hslots : slots + (n.toNatClampNeg + n.toNatClampNeg * k.toNatClampNeg) ≤ R.slots)
    (kk : ∀ (H1 : Heap) (cA comp : ClassId), s.vm.findClass ("[" ++ (FieldType.array ty).toString) = some cA → s.vm.findClass (FieldType.array ty).toString = some comp → H1.size = H.size + 1 + n.toNatClampNeg → (∀ q, q < H.size → H1[q]? = H[q]?) → H1[H.size]? = some (m_out cA n.toNatClampNeg H.size n.toNatClampNeg) → (∀ j, j < n.toNatClampNeg → H1[H.size + 1 + j]? = some (arrV comp k.toNatClampNeg (fun _ => defaultValue ty))) →
      W p l e R s m args below meth c H1 locs (cells + 1 + n.toNatClampNeg) (slots + n.toNatClampNeg + n.toNatClampNeg * k.toNatClampNeg) Q (F0 m (pc + 4) lsA (.ref H.size :: rest))) :
    W p l e R s m args below meth c H locs cells slots Q (F0 m pc lsA (.int k :: .int n :: rest)) := by
  intro T hT X
  have hpl : e.platform.magicAccessors = ({} : Platform).magicAccessors := by rw [X.admits.platform]
  obtain ⟨comp, cA, kA, hcomp, hidx, hkA, hkindA, hnameA⟩ := arrayOverA_spec hover
  obtain ⟨comp', kC, cc', hcomp', hkC, hkindC⟩ := Cond.arrayClass_spec harr
  have ecomp : comp' = comp := Option.some.inj (hcomp'.symm.trans hcomp)
  subst ecomp
  obtain ⟨c0, hfc0, hcl⟩ := Cond.classLink_spec hown hclink e.platform hpl
  cases hnameA.symm.trans hfc0
  obtain ⟨hg₁, hwarm₁, hready₁⟩ := State.classEntry (e := e) X.warmed hcl
  generalize T.vm.noted m.cls index (.cls cA) = vm₁ at hg₁ hwarm₁ hready₁
  have hal : s.vm.Alike vm₁ := hwarm₁.alike
  obtain ⟨kA₁, hkA₁, heA⟩ := hal.2.2 _ _ hkA
  obtain ⟨kC₁, hkC₁, heC⟩ := hal.2.2 _ _ hkC
  have hkindA₁ : kA₁.kind = .array comp' (.array ty) := by rw [heA]; exact hkindA
  have hkindC₁ : kC₁.kind = .array cc' ty := by rw [heC]; exact hkindC
  have X₁ := X.noted hwarm₁
  obtain ⟨hr1, hr2⟩ := X.roomAbove hcells hslots
  have XF := m_std X₁ cA comp' n.toNatClampNeg k.toNatClampNeg (defaultValue ty) n.toNatClampNeg
  have hgr : s.heap.size ≤ T.heap.size := X.same.2.1
  have XG : Stand p l e R s m args below meth c (m_fil (T.setVm vm₁) cA comp' n.toNatClampNeg k.toNatClampNeg (defaultValue ty) n.toNatClampNeg) locs (cells + 1 + n.toNatClampNeg) (slots + n.toNatClampNeg + n.toNatClampNeg * k.toNatClampNeg) := Stand.forget XF (fun x hx => by
    obtain ⟨j, -, rfl⟩ := List.mem_map.mp hx
    exact hgr)
  obtain ⟨f1, f2, f3, f4⟩ := m_fil_f (T.setVm vm₁) cA comp' n.toNatClampNeg k.toNatClampNeg (defaultValue ty) n.toNatClampNeg
  have hTh : (T.setVm vm₁).heap = H := hT
  rw [hTh] at f1 f2
  obtain ⟨t, a1, b1⟩ := kk _ cA comp' hnameA hcomp f1 (fun q hq => by
      have := m_fil_o (T.setVm vm₁) cA comp' n.toNatClampNeg k.toNatClampNeg (defaultValue ty) (a := q) (by rw [hTh]; exact hq) n.toNatClampNeg
      rw [this, hTh]) f2 (fun j hj => by
      have := m_fil_r (T.setVm vm₁) cA comp' n.toNatClampNeg k.toNatClampNeg (defaultValue ty) n.toNatClampNeg j hj
      rw [hTh] at this
      exact this) _ rfl XG
  refine ⟨t, ?_, b1⟩
  have hl1 : ¬ n.toNatClampNeg > e.platform.arrayLengthLimit := by rw [Launch.admits_arrayLengthLimit X.admits]; omega
  have hh1 : ¬ n.toNatClampNeg * componentBytes (.array ty) > e.platform.maxHeapBytes := by
    rw [Launch.admits_maxHeapBytes X.admits]; show ¬ n.toNatClampNeg * 4 > 536870912; omega
  have hl2 : ¬ k.toNatClampNeg > e.platform.arrayLengthLimit := by rw [Launch.admits_arrayLengthLimit X.admits]; omega
  have hh2 : ¬ k.toNatClampNeg * componentBytes ty > e.platform.maxHeapBytes := by rw [Launch.admits_maxHeapBytes X.admits]; omega
  subst hb
  jvm_step X.here [hexec, hdg]
  simp only [multianewarray.sem, wp_bind', W.resolveClassAt_links (State.method?_setTop (F0 m pc lsA (.int k :: .int n :: rest)) X.here.top) hg₁]
  rw [W.popN, if_neg (by decide)]
  refine ⟨F0 m pc lsA (.int k :: .int n :: rest), State.topJava?_setTop' (s := T.setVm vm₁) _ X.here.top, [.int n, .int k], rest, rfl, rfl, ?_⟩
  simp only [List.mapM_cons, List.mapM_nil, wp_bind', wp_pure']
  refine m_mk (k := kA₁) (kc := kC₁) (comp := comp') (cc := cc') (t0 := .array ty) (type := ty) hkA₁ hkindA₁ rfl hkC₁ hkindC₁ hn hk hl1 hh1 hl2 hh2 hdf hdd (by show T.heap.size + 1 + _ ≤ _; omega) (by show T.slotsUsed + _ + _ ≤ _; omega) (fun d' acts' => ?_)
  have eS : ((T.setTop (F0 m pc lsA (.int k :: .int n :: rest))).setVm vm₁).setTop { F0 m pc lsA (.int k :: .int n :: rest) with stack := rest } = (T.setVm vm₁).setTop { F0 m pc lsA (.int k :: .int n :: rest) with stack := rest } := by
    show ((T.setVm vm₁).setTop _).setTop _ = _
    rw [State.setTop_setTop]
  rw [eS, m_fil_t]
  simp only [wp_bind', W.mark, W.pushRef, State.topJava?_setTop' _ XF.here.top, Option.some.injEq, exists_eq_left', State.setTop_setTop, State.heap_setTop]
  intro acts
  simp [jvm, XF.here.top]
  have e9 : T.heap.size = H.size := by rw [hT]
  rw [e9]
  exact a1
end MS
def ck87 : gCk := fun own _ cc pc o => match o.2.2.2.2.2 with
  | [i1, i2, i3] => decide (decode cc pc = .ok (.multianewarray o.2.2.2.1 2, 4)) && (decide (o.2.1 = pc + 4) && ((decide (o.2.2.1 = 17) && (wd i1 (.classLink own o.2.2.2.1 ("[" ++ (FieldType.array .int).toString)) && (wsp (.arrayOver (.array .int)) && wd i3 (.arrayClass .int)))) || (decide (o.2.2.1 = 18) && (wd i1 (.classLink own o.2.2.2.1 ("[" ++ (FieldType.array .long).toString)) && (wsp (.arrayOver (.array .long)) && wd i3 (.arrayClass .long))))))
  | _ => false
theorem mlt_lt {α : Type} {f : Nat → α} {a n b : Nat} {x y : α} (h : b < a) : mlt f a n x y b = f b := by unfold mlt; rw [if_neg (by omega), if_neg (by omega)]
theorem mlt_at {α : Type} {f : Nat → α} {a n : Nat} {x y : α} : mlt f a n x y a = x := by unfold mlt; rw [if_pos rfl]
theorem mlt_in {α : Type} {f : Nat → α} {a n j : Nat} {x y : α} (h : j < n) : mlt f a n x y (a + 1 + j) = y := by unfold mlt; rw [if_neg (by omega), if_pos (by omega)]
theorem so87 : sOK ck87 f_mu := by
  intro E p l e Rm s m args below meth c own nm cc nL ret n0 u0 Q pc o ls st S I L R q hC hk hf hn hu hcl hsl hfr hlo hll kk H locs lsA hH hS hl
  unfold ck87 at hk
  split at hk
  · simp only [Bool.and_eq_true, Bool.or_eq_true, decide_eq_true_eq] at hk
    obtain ⟨hdg, hnx, h3⟩ := hk
    unfold f_mu at hf
    split at hf
    · split at hf
      · rename_i k n st' hok
        cases hf
        dsimp only at kk hcl hsl
        rw [hnx] at kk
        obtain ⟨⟨g1, g2⟩, g3, g4⟩ := hok
        have hts := hC.2.2.2.2.2.1
        have e4 : S.1 + (1 + n.toNatClampNeg) - n0 = S.1 - n0 + 1 + n.toNatClampNeg := by omega
        have e5 : S.2.1 + (n.toNatClampNeg + n.toNatClampNeg * k.toNatClampNeg) - u0 = S.2.1 - u0 + n.toNatClampNeg + n.toNatClampNeg * k.toNatClampNeg := by omega
        have fin : ∀ (kd : Nat) (ty : FieldType), o.2.2.1 = kd → 17 ≤ kd → kd < 19 → gTy kd = .array ty → gTy (kd - 6) = ty → (defaultValue ty = if mkd (kd - 6) 0 = 0 then .int 0 else .long 0) → (∀ j, mkd (kd - 6) j = mkd (kd - 6) 0) → (mkd (kd - 6) 0 = 0 ∨ mkd (kd - 6) 0 = 1) → (∀ U cA, va_RA U cA (gTy (kd - 6)) → U.vm.findClass ("[" ++ ty.toString) = some cA) → (∀ U cA, va_RA U cA (gTy kd) → U.vm.findClass ("[" ++ (FieldType.array ty).toString) = some cA) → (FieldType.array ty).toString = "[" ++ ty.toString → 10 ≤ kd - 6 → ∀ (H1 : Heap) (cA comp : ClassId), s.vm.findClass ("[" ++ (FieldType.array ty).toString) = some cA → s.vm.findClass (FieldType.array ty).toString = some comp → H1.size = H.size + 1 + n.toNatClampNeg → (∀ q, q < H.size → H1[q]? = H[q]?) → H1[H.size]? = some (m_out cA n.toNatClampNeg H.size n.toNatClampNeg) → (∀ j, j < n.toNatClampNeg → H1[H.size + 1 + j]? = some (arrV comp k.toNatClampNeg (fun _ => defaultValue ty))) → W p l e Rm s m args below meth c H1 locs (S.1 - n0 + 1 + n.toNatClampNeg) (S.2.1 - u0 + n.toNatClampNeg + n.toNatClampNeg * k.toNatClampNeg) Q (F0 m (pc + 4) lsA (.ref H.size :: List.map (grv E) st')) := by
          intro kd ty hkd hk17 hk19 ty1 ty2 ty3 ty4 ty5 ty6 ty7 ty8 ty9 H1 cA comp f1 f2 z1 o1 c1 c2
          rw [hkd] at kk
          have hcA : cA = E.2.1 kd := Option.some.inj (f1.symm.trans (ty7 _ _ (hC.2.2.2.2.2.2.2.2.1.2 kd (by omega) hk19).2))
          have hcC : comp = E.2.1 (kd - 6) := Option.some.inj (f2.symm.trans (by rw [ty8]; exact ty6 _ _ (hC.2.2.2.2.2.2.2.2.1.2 (kd - 6) ty9 (by omega)).2))
          have hga : ∀ j, gad E (S.1 + 1 + j) = H.size + 1 + j := fun j => by
            unfold gad
            rw [if_neg (by have := hH.1.1; omega), hH.1.2]
            have := hH.1.1
            omega
          have k2 := kk H1 locs lsA (hH.grow (k := 1 + n.toNatClampNeg) rfl (by rw [z1]; omega) o1 (fun b hb => mlt_lt hb) (fun b hb => mlt_lt hb) (fun b hb => mlt_lt hb) (fun b hb => mlt_lt hb) (fun b hb => mlt_lt hb) (fun b hb1 hb2 => ?_)) (hS.grow (by omega) o1) hl
          · rw [e4, e5] at k2
            have e6 : List.map (grv E) (Value.ref S.1 :: st') = .ref H.size :: List.map (grv E) st' := by
              show Value.ref (gad E S.1) :: _ = _
              rw [gad_new hH]
            rw [e6] at k2
            exact k2
          · rcases Nat.eq_or_lt_of_le hb1 with hb | hb
            · subst hb
              refine ⟨by show mlt _ _ _ _ _ _ < 19; rw [mlt_at]; exact hk19, fun h9 => ?_, fun _ => ?_⟩
              · have h9 : mlt S.2.2.1 S.1 n.toNatClampNeg kd (kd - 6) S.1 < 10 := h9
                rw [mlt_at] at h9
                omega
              · show H1[gad E S.1]? = some (arrV (E.2.1 (mlt S.2.2.1 S.1 n.toNatClampNeg kd (kd - 6) S.1)) (mlt S.2.2.2 S.1 n.toNatClampNeg n.toNatClampNeg k.toNatClampNeg S.1) _)
                rw [mlt_at, mlt_at, gad_new hH, c1, hcA]
                unfold m_out
                congr 2
                funext j
                rw [gvl_r (show mkd (mlt S.2.2.1 S.1 n.toNatClampNeg kd (kd - 6) S.1) j = 2 by rw [mlt_at]; exact mkd_r (by omega) hk19), mlt_at]
                by_cases hj : j < n.toNatClampNeg
                · rw [if_pos hj, if_pos hj]
                  show _ = Value.ref (gad E (S.1 + 1 + j))
                  rw [hga]
                · rw [if_neg hj, if_neg hj]
                  rfl
            · obtain ⟨j, hj, rfl⟩ : ∃ j, j < n.toNatClampNeg ∧ b = S.1 + 1 + j := ⟨b - S.1 - 1, by omega, by omega⟩
              refine ⟨by show mlt _ _ _ _ _ _ < 19; rw [mlt_in hj]; omega, fun h9 => ?_, fun _ => ?_⟩
              · have h9 : mlt S.2.2.1 S.1 n.toNatClampNeg kd (kd - 6) (S.1 + 1 + j) < 10 := h9
                rw [mlt_in hj] at h9
                omega
              · show H1[gad E (S.1 + 1 + j)]? = some (arrV (E.2.1 (mlt S.2.2.1 S.1 n.toNatClampNeg kd (kd - 6) (S.1 + 1 + j))) (mlt S.2.2.2 S.1 n.toNatClampNeg n.toNatClampNeg k.toNatClampNeg (S.1 + 1 + j)) _)
                rw [mlt_in hj, mlt_in hj, hga, c2 j hj, hcC, ty3]
                congr 2
                funext z
                simp only [gvl, mlt_in hj, ty4 z]
                rcases ty5 with t | t <;> rw [t] <;> rfl
        rcases h3 with ⟨h4, h5, h6, h7⟩ | ⟨h4, h5, h6, h7⟩
        · refine W.mult (ty := .int) hC.1 hC.2.1 hC.2.2.2.2.1 (hts _ (wd.is h5)) (wsp.ao h6 hC.2.2.2.2.2.2.2.2.2.1) (hts _ (wd.is h7)) hdg g1 g3 (by omega) (by show _ * 4 ≤ _; omega) (by omega) rfl rfl (by omega) (by omega) (fin 17 .int h4 (by decide) (by decide) rfl rfl rfl (fun _ => rfl) (Or.inl rfl) (fun _ _ h => h) (fun _ _ h => h) rfl (by decide))
        · refine W.mult (ty := .long) hC.1 hC.2.1 hC.2.2.2.2.1 (hts _ (wd.is h5)) (wsp.ao h6 hC.2.2.2.2.2.2.2.2.2.1) (hts _ (wd.is h7)) hdg g1 g3 (by omega) (by show _ * 8 ≤ _; omega) (by omega) rfl rfl (by omega) (by omega) (fin 18 .long h4 (by decide) (by decide) rfl rfl rfl (fun _ => rfl) (Or.inr rfl) (fun _ _ h => h) (fun _ _ h => h) rfl (by decide))
      · cases hf
    · cases hf
  · cases hk
