/-! group G (p25): rows of PIECES on FIRES, over the naturals. mm: MINUTES; nd: 0 or the NEED plus 1. The free times as a sorted list -/
def ins (x : Nat) : List Nat → List Nat
  | [] => [x]
  | a :: l => if x ≤ a then x :: a :: l else a :: ins x l
def mx2 (x y : Nat) : Nat := if x < y then y else x
def mxl : List Nat → Nat
  | [] => 0
  | a :: l => mx2 a (mxl l)
def gsm : List Nat → Nat
  | [] => 0
  | a :: l => a + gsm l
def hdl : List Nat → Nat
  | [] => 0
  | a :: _ => a
def Srl : List Nat → Prop
  | [] => True
  | a :: l => (∀ x, x ∈ l → a ≤ x) ∧ Srl l
def ned (mm nd bg : Nat → Nat) (p : Nat) : Nat := if nd p = 0 then 0 else bg (nd p - 1) + mm (nd p - 1)
abbrev gSt : Type := List Nat × (Nat → Nat)
def gpl (mm nd : Nat → Nat) (p : Nat) (s : gSt) : gSt := (ins (mx2 (hdl s.1) (ned mm nd s.2 p) + mm p) s.1.tail, fun k => if k = p then mx2 (hdl s.1) (ned mm nd s.2 p) else s.2 k)
def rnl (mm nd : Nat → Nat) : List Nat → gSt → gSt
  | [], s => s
  | p :: r, s => rnl mm nd r (gpl mm nd p s)
def Rdy (nd : Nat → Nat) (π : List Nat) (p : Nat) : Prop := nd p = 0 ∨ (nd p - 1) ∈ π
/-- a row's NEEDS stand before; π: what is placed -/
def Okr (nd : Nat → Nat) : List Nat → List Nat → Prop
  | _, [] => True
  | π, p :: r => Rdy nd π p ∧ Okr nd (p :: π) r
def ltL : List Nat → List Nat → Prop
  | a :: l, b :: m => a < b ∨ (a = b ∧ ltL l m)
  | _, _ => False
def gs0 (F : Nat) : gSt := (List.replicate F 0, fun _ => 0)
def Vdr (nd : Nat → Nat) (n : Nat) (r : List Nat) : Prop := r.Perm (List.range n) ∧ Okr nd [] r
def lst (mm nd : Nat → Nat) (F : Nat) (r : List Nat) : Nat := mxl (rnl mm nd r (gs0 F)).1
/-- the row that SOONEST asks for -/
def FBr (mm nd : Nat → Nat) (n F : Nat) (R : List Nat) : Prop := Vdr nd n R ∧ (∀ r, Vdr nd n r → lst mm nd F R ≤ lst mm nd F r) ∧ ∀ r, Vdr nd n r → ltL r R → lst mm nd F R < lst mm nd F r
section GR
variable {mm nd bg : Nat → Nat} {n F t : Nat}
theorem mx2_l (x y : Nat) : x ≤ mx2 x y := by unfold mx2; split <;> omega
theorem mx2_r (x y : Nat) : y ≤ mx2 x y := by unfold mx2; split <;> omega
theorem mx2_le {x y z : Nat} (h1 : x ≤ z) (h2 : y ≤ z) : mx2 x y ≤ z := by unfold mx2; split <;> omega
theorem ins_n (x : Nat) : ins x [] = [x] := rfl
theorem ins_c (x a : Nat) (l : List Nat) : ins x (a :: l) = if x ≤ a then x :: a :: l else a :: ins x l := rfl
theorem ins_comm (x y : Nat) : ∀ l, ins x (ins y l) = ins y (ins x l)
  | [] => by
    rw [ins_n, ins_n, ins_c, ins_c, ins_n, ins_n]
    by_cases g : x ≤ y
    · by_cases g2 : y ≤ x
      · have e : x = y := by omega
        subst e
        rw [if_pos g]
      · rw [if_pos g, if_neg g2]
    · rw [if_neg g, if_pos (show y ≤ x by omega)]
  | a :: l => by
    have ih := ins_comm x y l
    rw [ins_c y a l, ins_c x a l]
    by_cases h1 : x ≤ a <;> by_cases h2 : y ≤ a
    · rw [if_pos h1, if_pos h2, ins_c, ins_c, ins_c, ins_c, if_pos h1, if_pos h2]
      by_cases g : x ≤ y
      · by_cases g2 : y ≤ x
        · have e : x = y := by omega
          subst e
          rw [if_pos g]
        · rw [if_pos g, if_neg g2]
      · rw [if_neg g, if_pos (show y ≤ x by omega)]
    · rw [if_pos h1, if_neg h2, ins_c, ins_c, if_pos h1, if_neg (show ¬ y ≤ x by omega), ins_c, if_neg h2]
    · rw [if_neg h1, if_pos h2, ins_c x y, if_neg (show ¬ x ≤ y by omega), ins_c x a, if_neg h1, ins_c y a, if_pos h2]
    · rw [if_neg h1, if_neg h2, ins_c, ins_c, if_neg h1, if_neg h2, ih]
theorem mem_ins {a x : Nat} : ∀ {l : List Nat}, a ∈ ins x l ↔ a = x ∨ a ∈ l
  | [] => by rw [ins_n, List.mem_singleton]; exact ⟨Or.inl, fun h => h.elim id (fun z => by cases z)⟩
  | b :: l => by
    rw [ins_c]
    by_cases g : x ≤ b
    · rw [if_pos g, List.mem_cons]
    · rw [if_neg g, List.mem_cons, mem_ins, List.mem_cons]
      constructor
      · rintro (h | h | h)
        · exact Or.inr (Or.inl h)
        · exact Or.inl h
        · exact Or.inr (Or.inr h)
      · rintro (h | h | h)
        · exact Or.inr (Or.inl h)
        · exact Or.inl h
        · exact Or.inr (Or.inr h)
theorem srl_ins {x : Nat} : ∀ {l : List Nat}, Srl l → Srl (ins x l)
  | [], _ => ⟨fun y hy => (by cases hy), trivial⟩
  | b :: l, h => by
    rw [ins_c]
    by_cases g : x ≤ b
    · rw [if_pos g]
      exact ⟨fun y hy => by
        rcases List.mem_cons.mp hy with e | hy
        · omega
        · have := h.1 y hy; omega, h⟩
    · rw [if_neg g]
      exact ⟨fun y hy => by
        rcases mem_ins.mp hy with e | hy
        · omega
        · exact h.1 y hy, srl_ins h.2⟩
theorem mxl_ins {x : Nat} : ∀ {l : List Nat}, mxl (ins x l) = mx2 x (mxl l)
  | [] => rfl
  | b :: l => by
    rw [ins_c]
    by_cases g : x ≤ b
    · rw [if_pos g]; rfl
    · rw [if_neg g]
      show mx2 b (mxl (ins x l)) = mx2 x (mx2 b (mxl l))
      rw [mxl_ins]
      unfold mx2
      repeat' split
      all_goals omega
theorem sml_ins {x : Nat} : ∀ {l : List Nat}, gsm (ins x l) = x + gsm l
  | [] => rfl
  | b :: l => by
    rw [ins_c]
    by_cases g : x ≤ b
    · rw [if_pos g]; rfl
    · rw [if_neg g]
      show b + gsm (ins x l) = x + (b + gsm l)
      rw [sml_ins]
      omega
theorem len_ins {x : Nat} : ∀ {l : List Nat}, (ins x l).length = l.length + 1
  | [] => rfl
  | b :: l => by
    rw [ins_c]
    by_cases g : x ≤ b
    · rw [if_pos g]; rfl
    · rw [if_neg g]
      show (ins x l).length + 1 = l.length + 1 + 1
      rw [len_ins]
theorem sml_mx : ∀ l : List Nat, gsm l ≤ l.length * mxl l
  | [] => Nat.zero_le _
  | a :: l => by
    have h := sml_mx l
    have h1 := mx2_l a (mxl l)
    have h2 := Nat.mul_le_mul_left l.length (mx2_r a (mxl l))
    show a + gsm l ≤ (l.length + 1) * mx2 a (mxl l)
    rw [Nat.add_mul, Nat.one_mul]
    omega
theorem mxl_mem : ∀ {l : List Nat} {x : Nat}, x ∈ l → x ≤ mxl l
  | a :: l, x, h => by
    rcases List.mem_cons.mp h with e | h
    · rw [e]; exact mx2_l _ _
    · exact Nat.le_trans (mxl_mem h) (mx2_r _ _)
theorem hd_mem : ∀ {l : List Nat}, 0 < l.length → hdl l ∈ l
  | a :: l, _ => List.mem_cons_self ..
theorem rnl_ap : ∀ (a b : List Nat) (s : gSt), rnl mm nd (a ++ b) s = rnl mm nd b (rnl mm nd a s)
  | [], _, _ => rfl
  | p :: a, b, s => rnl_ap a b (gpl mm nd p s)
/-- what holds behind the PIECES π -/
def Sti (mm nd : Nat → Nat) (F : Nat) (π : List Nat) (s : gSt) : Prop := Srl s.1 ∧ s.1.length = F ∧ (∀ p, p ∈ π → s.2 p + mm p ≤ mxl s.1) ∧ ∀ p, p ∈ π → ¬ nd p = 0 → (nd p - 1) ∈ π ∧ s.2 (nd p - 1) + mm (nd p - 1) ≤ s.2 p
theorem srl_rep : ∀ F, Srl (List.replicate F 0)
  | 0 => trivial
  | F + 1 => ⟨fun x _ => Nat.zero_le x, srl_rep F⟩
theorem Sti.i0 : Sti mm nd F [] (gs0 F) := ⟨srl_rep F, List.length_replicate, fun _ h => (by cases h), fun _ h => (by cases h)⟩
theorem tl_len {l : List Nat} {k : Nat} (h : l.length = k + 1) : l.tail.length = k := by rw [List.length_tail, h]; rfl
theorem srl_tl : ∀ {l : List Nat}, Srl l → Srl l.tail
  | [], _ => trivial
  | _ :: _, h => h.2
theorem mxl_c : ∀ {l : List Nat}, 0 < l.length → mxl l = mx2 (hdl l) (mxl l.tail)
  | _ :: _, _ => rfl
/-- the first free time, the last one: they only grow -/
theorem hd_gr {x : Nat} : ∀ {l : List Nat}, 0 < l.length → Srl l → hdl l ≤ x → hdl l ≤ hdl (ins x l.tail)
  | [a], _, _, hx => hx
  | a :: b :: l, _, h, hx => by
    show a ≤ hdl (ins x (b :: l))
    rw [ins_c]
    by_cases g : x ≤ b
    · rw [if_pos g]; exact hx
    · rw [if_neg g]; exact h.1 b (List.mem_cons_self ..)
theorem mx_gr {x : Nat} {l : List Nat} (h0 : 0 < l.length) (hx : hdl l ≤ x) : mxl l ≤ mxl (ins x l.tail) := by
  rw [mxl_ins, mxl_c h0]
  exact mx2_le (Nat.le_trans hx (mx2_l _ _)) (mx2_r _ _)
theorem Sti.st {π : List Nat} {s : gSt} {p : Nat} (h : Sti mm nd F π s) (hF : 0 < F) (hp : ¬ p ∈ π) (hr : Rdy nd π p) : Sti mm nd F (p :: π) (gpl mm nd p s) := by
  obtain ⟨h1, h2, h3, h4⟩ := h
  obtain ⟨k, rfl⟩ : ∃ k, F = k + 1 := ⟨F - 1, by omega⟩
  have l0 : 0 < s.1.length := by omega
  have b1 := mx2_l (hdl s.1) (ned mm nd s.2 p)
  have b2 := mx2_r (hdl s.1) (ned mm nd s.2 p)
  have g := mx_gr (x := mx2 (hdl s.1) (ned mm nd s.2 p) + mm p) l0 (by omega)
  have ot : ∀ q, q ∈ π → (gpl mm nd p s).2 q = s.2 q := fun q hq => if_neg (fun z : q = p => hp (z ▸ hq))
  have me : (gpl mm nd p s).2 p = mx2 (hdl s.1) (ned mm nd s.2 p) := if_pos rfl
  refine ⟨srl_ins (srl_tl h1), by show (ins _ s.1.tail).length = _; rw [len_ins, tl_len h2], fun q hq => ?_, fun q hq hn => ?_⟩
  · rcases List.mem_cons.mp hq with e | hq
    · subst e
      rw [me]
      show _ ≤ mxl (ins _ s.1.tail)
      rw [mxl_ins]
      exact mx2_l _ _
    · rw [ot q hq]
      exact Nat.le_trans (h3 q hq) g
  · rcases List.mem_cons.mp hq with e | hq
    · subst e
      have hm := hr.resolve_left hn
      refine ⟨List.mem_cons_of_mem _ hm, ?_⟩
      rw [me, ot _ hm]
      have e : ned mm nd s.2 q = s.2 (nd q - 1) + mm (nd q - 1) := if_neg hn
      rw [← e]
      exact b2
    · obtain ⟨m1, m2⟩ := h4 q hq hn
      refine ⟨List.mem_cons_of_mem _ m1, ?_⟩
      rw [ot q hq, ot _ m1]
      exact m2
/-- a row that goes on -/
theorem Sti.rn : ∀ (r : List Nat) {π : List Nat} {s : gSt}, Sti mm nd F π s → 0 < F → (∀ p, p ∈ r → ¬ p ∈ π) → r.Nodup → Okr nd π r → Sti mm nd F (r.reverse ++ π) (rnl mm nd r s) ∧ (∀ p, p ∈ π → (rnl mm nd r s).2 p = s.2 p) ∧ (∀ p, p ∈ r → hdl s.1 ≤ (rnl mm nd r s).2 p) ∧ hdl s.1 ≤ hdl (rnl mm nd r s).1 ∧ mxl s.1 ≤ mxl (rnl mm nd r s).1 ∧ gsm s.1 + gsm (r.map mm) ≤ gsm (rnl mm nd r s).1
  | [], π, s, h, _, _, _, _ => ⟨h, fun _ _ => rfl, fun _ hp => (by cases hp), Nat.le_refl _, Nat.le_refl _, Nat.le_refl _⟩
  | p :: r, π, s, h, hF, hd, hn, ho => by
    have hp := hd p (List.mem_cons_self ..)
    obtain ⟨n1, n2⟩ := List.nodup_cons.mp hn
    have h' := h.st hF hp ho.1
    have l0 : 0 < s.1.length := by have := h.2.1; omega
    have b1 := mx2_l (hdl s.1) (ned mm nd s.2 p)
    have g1 := mx_gr (x := mx2 (hdl s.1) (ned mm nd s.2 p) + mm p) l0 (by omega)
    have g2 := hd_gr (x := mx2 (hdl s.1) (ned mm nd s.2 p) + mm p) l0 h.1 (by omega)
    obtain ⟨r1, r2, r3, r4, r5, r6⟩ := Sti.rn r h' hF (fun q hq z => by
      rcases List.mem_cons.mp z with e | z
      · exact n1 (e ▸ hq)
      · exact hd q (List.mem_cons_of_mem _ hq) z) n2 ho.2
    have g3 : hdl s.1 ≤ hdl (gpl mm nd p s).1 := g2
    have g4 : mxl s.1 ≤ mxl (gpl mm nd p s).1 := g1
    have g5 : gsm (gpl mm nd p s).1 = mx2 (hdl s.1) (ned mm nd s.2 p) + mm p + gsm s.1.tail := sml_ins
    have g6 : gsm s.1 = hdl s.1 + gsm s.1.tail := by
      match s.1, l0 with
      | _ :: _, _ => rfl
    refine ⟨?_, fun q hq => ?_, fun q hq => ?_, Nat.le_trans g3 r4, Nat.le_trans g4 r5, ?_⟩
    · show Sti mm nd F ((p :: r).reverse ++ π) (rnl mm nd r (gpl mm nd p s))
      rw [List.reverse_cons, List.append_assoc]
      exact r1
    · show (rnl mm nd r (gpl mm nd p s)).2 q = s.2 q
      rw [r2 q (List.mem_cons_of_mem _ hq)]
      exact if_neg (fun z : q = p => hp (z ▸ hq))
    · show hdl s.1 ≤ (rnl mm nd r (gpl mm nd p s)).2 q
      rcases List.mem_cons.mp hq with e | hq
      · subst e
        rw [r2 q (List.mem_cons_self ..)]
        show hdl s.1 ≤ (if q = q then mx2 (hdl s.1) (ned mm nd s.2 q) else s.2 q)
        rw [if_pos rfl]
        exact b1
      · exact Nat.le_trans g3 (r3 q hq)
    · show gsm s.1 + (mm p + gsm (r.map mm)) ≤ gsm (rnl mm nd r (gpl mm nd p s)).1
      omega
/-- a chain ends no later than the last one -/
theorem chn {ch : Nat → Nat} {π : List Nat} {s : gSt} (h : Sti mm nd F π s) (hp : ∀ p, p < n → p ∈ π) (hc : ∀ i, i < n → ch i = mm i ∨ ∃ j, i < j ∧ j < n ∧ nd j = i + 1 ∧ ch i = mm i + ch j) : ∀ (k i : Nat), n ≤ i + k → i < n → s.2 i + ch i ≤ mxl s.1
  | 0, i, h1, h2 => by omega
  | k + 1, i, h1, h2 => by
    rcases hc i h2 with e | ⟨j, j1, j2, j3, e⟩
    · rw [e]; exact h.2.2.1 i (hp i h2)
    · have ih := chn h hp hc k j (by omega) j2
      obtain ⟨_, m⟩ := h.2.2.2 j (hp j j2) (by omega)
      rw [j3] at m
      have m' : s.2 i + mm i ≤ s.2 j := m
      omega
/-- no row that goes on from here is done sooner: the work -/
theorem bnd_w {π r : List Nat} {s : gSt} (h : Sti mm nd F π s) (hF : 0 < F) (hd : ∀ p, p ∈ r → ¬ p ∈ π) (hn : r.Nodup) (ho : Okr nd π r) : (gsm (r.map mm) + gsm s.1 + F - 1) / F ≤ mxl (rnl mm nd r s).1 := by
  obtain ⟨r1, _, _, _, _, r6⟩ := Sti.rn r h hF hd hn ho
  have a := sml_mx (rnl mm nd r s).1
  rw [r1.2.1] at a
  refine Nat.le_of_lt_succ ((Nat.div_lt_iff_lt_mul hF).mpr ?_)
  rw [Nat.mul_comm, Nat.mul_succ]
  omega
/-- and its chains -/
theorem bnd_c {ch : Nat → Nat} {π r : List Nat} {s : gSt} {i : Nat} (h : Sti mm nd F π s) (hF : 0 < F) (hd : ∀ p, p ∈ r → ¬ p ∈ π) (hn : r.Nodup) (ho : Okr nd π r) (hp : ∀ p, p < n → p ∈ r.reverse ++ π) (hc : ∀ i, i < n → ch i = mm i ∨ ∃ j, i < j ∧ j < n ∧ nd j = i + 1 ∧ ch i = mm i + ch j) (hi : i < n) (hr : i ∈ r) (hy : Rdy nd π i) : mx2 (hdl s.1) (ned mm nd s.2 i) + ch i ≤ mxl (rnl mm nd r s).1 := by
  obtain ⟨r1, r2, r3, _, _, _⟩ := Sti.rn r h hF hd hn ho
  have c := chn r1 hp hc n i (by omega) hi
  have m : mx2 (hdl s.1) (ned mm nd s.2 i) ≤ (rnl mm nd r s).2 i := by
    refine mx2_le (r3 i hr) ?_
    unfold ned
    by_cases e : nd i = 0
    · rw [if_pos e]; exact Nat.zero_le _
    · rw [if_neg e]
      have q := hy.resolve_left e
      rw [← r2 _ q]
      exact (r1.2.2.2 i (hp i hi) e).2
  omega
/-- two on FIRES that are free at once: either order -/
theorem swp2 {s : gSt} {b i : Nat} (h : Srl s.1) (hm : 0 < mm b ∧ 0 < mm i) (hne : ¬ b = i) (hi : ¬ nd i = b + 1) (hb : ¬ nd b = i + 1) (ht : hdl (gpl mm nd b s).1 = hdl s.1) (h0 : 0 < s.1.length) : gpl mm nd i (gpl mm nd b s) = gpl mm nd b (gpl mm nd i s) := by
  have n1 : ∀ (f : Nat → Nat) (v : Nat), ned mm nd (fun k => if k = b then v else f k) i = ned mm nd f i := fun f v => by
    unfold ned
    by_cases e : nd i = 0
    · rw [if_pos e, if_pos e]
    · rw [if_neg e, if_neg e]
      show (if nd i - 1 = b then v else f (nd i - 1)) + mm (nd i - 1) = _
      rw [if_neg (show ¬ nd i - 1 = b by omega)]
  have n2 : ∀ (f : Nat → Nat) (v : Nat), ned mm nd (fun k => if k = i then v else f k) b = ned mm nd f b := fun f v => by
    unfold ned
    by_cases e : nd b = 0
    · rw [if_pos e, if_pos e]
    · rw [if_neg e, if_neg e]
      show (if nd b - 1 = i then v else f (nd b - 1)) + mm (nd b - 1) = _
      rw [if_neg (show ¬ nd b - 1 = i by omega)]
  obtain ⟨l, f⟩ := s
  match l, h0, h, ht with
  | [t], _, _, ht =>
    have b1 := mx2_l t (ned mm nd f b)
    have ht' : mx2 t (ned mm nd f b) + mm b = t := ht
    omega
  | t :: u :: l, _, h, ht =>
    have b1 := mx2_l t (ned mm nd f b)
    have b2 := mx2_l t (ned mm nd f i)
    have e1 : ins (mx2 t (ned mm nd f b) + mm b) (u :: l) = if mx2 t (ned mm nd f b) + mm b ≤ u then (mx2 t (ned mm nd f b) + mm b) :: u :: l else u :: ins (mx2 t (ned mm nd f b) + mm b) l := rfl
    have eu : u = t := by
      have ht' : hdl (ins (mx2 t (ned mm nd f b) + mm b) (u :: l)) = t := ht
      rw [e1] at ht'
      by_cases g : mx2 t (ned mm nd f b) + mm b ≤ u
      · rw [if_pos g] at ht'
        have : mx2 t (ned mm nd f b) + mm b = t := ht'
        omega
      · rw [if_neg g] at ht'
        exact ht'
    subst eu
    have e2 : ins (mx2 u (ned mm nd f b) + mm b) (u :: l) = u :: ins (mx2 u (ned mm nd f b) + mm b) l := if_neg (by omega)
    have e3 : ins (mx2 u (ned mm nd f i) + mm i) (u :: l) = u :: ins (mx2 u (ned mm nd f i) + mm i) l := if_neg (by omega)
    unfold gpl
    show (ins (mx2 (hdl (ins (mx2 u (ned mm nd f b) + mm b) (u :: l))) (ned mm nd (fun k => if k = b then mx2 u (ned mm nd f b) else f k) i) + mm i) (ins (mx2 u (ned mm nd f b) + mm b) (u :: l)).tail, _) = (ins (mx2 (hdl (ins (mx2 u (ned mm nd f i) + mm i) (u :: l))) (ned mm nd (fun k => if k = i then mx2 u (ned mm nd f i) else f k) b) + mm b) (ins (mx2 u (ned mm nd f i) + mm i) (u :: l)).tail, _)
    rw [e2, e3, n1, n2]
    refine Prod.ext (ins_comm _ _ _) (funext (fun k => ?_))
    show (if k = i then mx2 (hdl (ins (mx2 u (ned mm nd f b) + mm b) (u :: l))) (ned mm nd (fun k => if k = b then mx2 u (ned mm nd f b) else f k) i) else if k = b then mx2 u (ned mm nd f b) else f k) = (if k = b then mx2 (hdl (ins (mx2 u (ned mm nd f i) + mm i) (u :: l))) (ned mm nd (fun k => if k = i then mx2 u (ned mm nd f i) else f k) b) else if k = i then mx2 u (ned mm nd f i) else f k)
    rw [e2, e3, n1, n2]
    by_cases k1 : k = i
    · rw [if_pos k1, if_neg (show ¬ k = b by omega), if_pos k1]
      rfl
    · rw [if_neg k1]
      by_cases k2 : k = b
      · rw [if_pos k2, if_pos k2]
        rfl
      · rw [if_neg k2, if_neg k2, if_neg k1]
end GR
