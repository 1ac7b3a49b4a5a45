/-! group C: what code comes to. Class's codes as they stand; the reference's by cM -/
def cM (x : Int32 × Int32) : Int32 := if x.1 = 0 then x.2 else if x.1 < 5 then 0 - x.1 else if x.1 = 20 then -8 else if x.1 = 21 then -9 else if x.1 = 24 then -10 else if x.1 = 25 then -11 else if x.1 = 26 then -12 else if x.1 = 27 then -7 else if x.1 = 28 then -13 else if x.1 = 29 then -14 else if x.1 = 32 then -5 else -6
def Okq (x : Int32 × Int32) : Prop := (x.1 = 0 ∧ ¬ x.2 < 0) ∨ (x.1 = 1 ∨ x.1 = 2 ∨ x.1 = 3 ∨ x.1 = 4) ∨ (x.1 = 27 ∨ x.1 = 32 ∨ x.1 = 33) ∨ (x.1 = 20 ∨ x.1 = 21 ∨ x.1 = 24 ∨ x.1 = 25 ∨ x.1 = 26 ∨ x.1 = 28 ∨ x.1 = 29)
abbrev rPv : Type := Int32 → Int32
abbrev rCv : Type := Int32 → Int32 → Int32
def stv (pv : rPv) (cv : rCv) (w : Int32) (st : List Int32) : List Int32 := if w < -4 then (if w < -7 then (match st with
  | b :: a :: s => jnF w a b :: s
  | _ => st) else (match st with
  | a :: s => (if w = -7 then 1 - a else cv w a) :: s
  | _ => st)) else pv w :: st
def evX (pv : rPv) (cv : rCv) : List Int32 → List Int32 → List Int32
  | [], st => st
  | w :: r, st => evX pv cv r (stv pv cv w st)
/-- no value is wanting -/
def evP (pv : rPv) (cv : rCv) : List Int32 → List Int32 → Prop
  | [], _ => True
  | w :: r, st => (w < -4 → 1 ≤ st.length ∧ (w < -7 → 2 ≤ st.length)) ∧ evP pv cv r (stv pv cv w st)
def pshL : List Int32 → Nat
  | [] => 0
  | w :: r => (if w < -4 then 0 else 1) + pshL r
def rCM (l : List (Int32 × Int32)) : List Int32 := l.map cM
/-- l: the reference's code, cl: the class's; both leave one value. Parts: n before, n' behind. tb: it is 0 or 1 -/
def Ve (tb : Prop) (n n' : Nat) (l : List (Int32 × Int32)) (cl : List Int32) : Prop := (∀ y, y ∈ l → Okq y) ∧ pshL (rCM l) + n ≤ n' ∧ pshL cl + n ≤ n' ∧ ∃ f : rPv → rCv → Int32, (∀ pv cv st, evX pv cv (rCM l) st = f pv cv :: st ∧ evP pv cv (rCM l) st) ∧ (∀ pv cv st, evX pv cv cl st = f pv cv :: st ∧ evP pv cv cl st) ∧ (tb → ∀ pv cv, f pv cv = 0 ∨ f pv cv = 1)
def sgc (F : Nat → Int32) : Nat → Nat → List Int32
  | _, 0 => []
  | c, k + 1 => F c :: sgc F (c + 1) k
def Sg (C : mI) (c c' : Nat) : List Int32 := sgc (C 15) c (c' - c)
def Kp (c : Nat) (C D : mI) : Prop := ∀ k, k < c → D 15 k = C 15 k
section EV
variable {pv : rPv} {cv : rCv} {st l1 l2 : List Int32} {w : Int32}
theorem evX_ap : ∀ {l1 st : List Int32}, evX pv cv (l1 ++ l2) st = evX pv cv l2 (evX pv cv l1 st)
  | [], _ => rfl
  | w :: r, st => by
    show evX pv cv (r ++ l2) (stv pv cv w st) = evX pv cv l2 (evX pv cv r (stv pv cv w st))
    exact evX_ap
theorem evP_ap : ∀ {l1 st : List Int32}, evP pv cv l1 st → evP pv cv l2 (evX pv cv l1 st) → evP pv cv (l1 ++ l2) st
  | [], _, _, h => h
  | w :: r, st, h, g => ⟨h.1, evP_ap (l1 := r) h.2 g⟩
theorem evP_1 (h : w < -4 → 1 ≤ st.length ∧ (w < -7 → 2 ≤ st.length)) : evP pv cv [w] st := ⟨h, trivial⟩
theorem psh_ap : ∀ {l1 : List Int32}, pshL (l1 ++ l2) = pshL l1 + pshL l2
  | [] => (Nat.zero_add _).symm
  | w :: r => by
    show (if w < -4 then 0 else 1) + pshL (r ++ l2) = (if w < -4 then 0 else 1) + pshL r + pshL l2
    rw [psh_ap, Nat.add_assoc]
theorem psh_1 (h : w < -4) : pshL [w] = 0 := by
  show (if w < -4 then 0 else 1) + 0 = 0
  rw [if_pos h]
theorem psh_2 (h : ¬ w < -4) : pshL [w] = 1 := by
  show (if w < -4 then 0 else 1) + 0 = 1
  rw [if_neg h]
theorem stv_b {a b : Int32} (h : w < -7) : stv pv cv w (b :: a :: st) = jnF w a b :: st := by
  have h4 : w < -4 := Int32.lt_trans h (by decide)
  unfold stv
  rw [if_pos h4, if_pos h]
theorem stv_u {a : Int32} (h4 : w < -4) (h : ¬ w < -7) : stv pv cv w (a :: st) = (if w = -7 then 1 - a else cv w a) :: st := by
  unfold stv
  rw [if_pos h4, if_neg h]
theorem stv_p (h : ¬ w < -4) : stv pv cv w st = pv w :: st := if_neg h
end EV
section VE
variable {A B tb : Prop} {n n1 n2 : Nat} {l l1 l2 : List (Int32 × Int32)} {c c1 c2 : List Int32} {y : Int32 × Int32} {w : Int32}
theorem rCM_ap : rCM (l1 ++ l2) = rCM l1 ++ rCM l2 := List.map_append
theorem Ve.at_ (hy : Okq y) (e : cM y = w) (h : ¬ w < -4) : Ve False n (n + 1) [y] [w] := by
  have er : rCM [y] = [w] := by
    show [cM y] = [w]
    rw [e]
  refine ⟨fun z hz => ?_, ?_, ?_, fun pv _ => pv w, fun pv cv st => ?_, fun pv cv st => ⟨stv_p h, evP_1 (fun z => absurd z h)⟩, fun z => z.elim⟩
  · rw [List.mem_singleton.mp hz]; exact hy
  · rw [er, psh_2 h]; omega
  · rw [psh_2 h]; omega
  · rw [er]; exact ⟨stv_p h, evP_1 (fun z => absurd z h)⟩
theorem Ve.bin (h1 : Ve A n n1 l1 c1) (h2 : Ve B n1 n2 l2 c2) (hy : Okq y) (e : cM y = w) (hw : w < -7) (hb : tb → ∀ a b : Int32, (A → a = 0 ∨ a = 1) → (B → b = 0 ∨ b = 1) → jnF w a b = 0 ∨ jnF w a b = 1) : Ve tb n n2 (l1 ++ l2 ++ [y]) (c1 ++ c2 ++ [w]) := by
  obtain ⟨a1, a2, a3, f, a4, a5, a6⟩ := h1
  obtain ⟨b1, b2, b3, g, b4, b5, b6⟩ := h2
  have h4 : w < -4 := Int32.lt_trans hw (by decide)
  have er : rCM [y] = [w] := by
    show [cM y] = [w]
    rw [e]
  refine ⟨fun z hz => ?_, ?_, ?_, fun pv cv => jnF w (f pv cv) (g pv cv), fun pv cv st => ?_, fun pv cv st => ?_, fun t pv cv => hb t _ _ (fun z => a6 z pv cv) (fun z => b6 z pv cv)⟩
  · rcases List.mem_append.mp hz with hz | hz
    · rcases List.mem_append.mp hz with hz | hz
      · exact a1 z hz
      · exact b1 z hz
    · rw [List.mem_singleton.mp hz]; exact hy
  · rw [rCM_ap, rCM_ap, er, psh_ap, psh_ap, psh_1 h4]; omega
  · rw [psh_ap, psh_ap, psh_1 h4]; omega
  · have e1 := (a4 pv cv st).1
    have e2 := (b4 pv cv (f pv cv :: st)).1
    have e3 : evX pv cv (rCM l1 ++ rCM l2) st = g pv cv :: f pv cv :: st := by rw [evX_ap, e1, e2]
    rw [rCM_ap, rCM_ap, er]
    refine ⟨by rw [evX_ap, e3]; exact stv_b hw, evP_ap (evP_ap (a4 pv cv st).2 (by rw [e1]; exact (b4 pv cv _).2)) ?_⟩
    rw [e3]
    exact evP_1 (fun _ => ⟨Nat.le_add_left 1 _, fun _ => Nat.le_add_left 2 _⟩)
  · have e1 := (a5 pv cv st).1
    have e2 := (b5 pv cv (f pv cv :: st)).1
    have e3 : evX pv cv (c1 ++ c2) st = g pv cv :: f pv cv :: st := by rw [evX_ap, e1, e2]
    refine ⟨by rw [evX_ap, e3]; exact stv_b hw, evP_ap (evP_ap (a5 pv cv st).2 (by rw [e1]; exact (b5 pv cv _).2)) ?_⟩
    rw [e3]
    exact evP_1 (fun _ => ⟨Nat.le_add_left 1 _, fun _ => Nat.le_add_left 2 _⟩)
theorem Ve.un (h1 : Ve A n n1 l1 c1) (hy : Okq y) (e : cM y = w) (h4 : w < -4) (h7 : ¬ w < -7) : Ve False n n1 (l1 ++ [y]) (c1 ++ [w]) := by
  obtain ⟨a1, a2, a3, f, a4, a5, a6⟩ := h1
  have er : rCM [y] = [w] := by
    show [cM y] = [w]
    rw [e]
  refine ⟨fun z hz => ?_, ?_, ?_, fun pv cv => if w = -7 then 1 - f pv cv else cv w (f pv cv), fun pv cv st => ?_, fun pv cv st => ?_, fun z => z.elim⟩
  · rcases List.mem_append.mp hz with hz | hz
    · exact a1 z hz
    · rw [List.mem_singleton.mp hz]; exact hy
  · rw [rCM_ap, er, psh_ap, psh_1 h4]; omega
  · rw [psh_ap, psh_1 h4]; omega
  · have e1 := (a4 pv cv st).1
    rw [rCM_ap, er]
    refine ⟨by rw [evX_ap, e1]; exact stv_u h4 h7, evP_ap (a4 pv cv st).2 ?_⟩
    rw [e1]
    exact evP_1 (fun _ => ⟨Nat.le_add_left 1 _, fun z => absurd z h7⟩)
  · have e1 := (a5 pv cv st).1
    refine ⟨by rw [evX_ap, e1]; exact stv_u h4 h7, evP_ap (a5 pv cv st).2 ?_⟩
    rw [e1]
    exact evP_1 (fun _ => ⟨Nat.le_add_left 1 _, fun z => absurd z h7⟩)
theorem Ve.lo {m : Nat} (h : Ve tb n n1 l c) (hm : m ≤ n) : Ve tb m n1 l c := ⟨h.1, by have := h.2.1; omega, by have := h.2.2.1; omega, h.2.2.2⟩
theorem Ve.f (h : Ve tb n n1 l c) : Ve False n n1 l c := by
  obtain ⟨a1, a2, a3, f, a4, a5, a6⟩ := h
  exact ⟨a1, a2, a3, f, a4, a5, fun z => z.elim⟩
/-- NOTs: the reference writes them all, the class one if they are odd -/
theorem Ve.nt (h : Ve True n n1 l c) : Ve True n n1 (l ++ [(27, 0)]) (c ++ [-7]) := by
  obtain ⟨a1, a2, a3, f, a4, a5, a6⟩ := h
  have er : rCM [(27, 0)] = [-7] := by decide
  have u : ∀ pv cv st, ∀ v : Int32, stv pv cv (-7) (v :: st) = (1 - v) :: st := fun pv cv st v => (stv_u (by decide) (by decide)).trans (by rw [if_pos rfl])
  refine ⟨fun z hz => ?_, ?_, ?_, fun pv cv => 1 - f pv cv, fun pv cv st => ?_, fun pv cv st => ?_, fun _ pv cv => ?_⟩
  · rcases List.mem_append.mp hz with hz | hz
    · exact a1 z hz
    · rw [List.mem_singleton.mp hz]; exact Or.inr (Or.inr (Or.inl (Or.inl rfl)))
  · rw [rCM_ap, er, psh_ap, psh_1 (by decide)]; omega
  · rw [psh_ap, psh_1 (by decide)]; omega
  · have e1 := (a4 pv cv st).1
    rw [rCM_ap, er]
    refine ⟨by rw [evX_ap, e1]; exact u pv cv st _, evP_ap (a4 pv cv st).2 ?_⟩
    rw [e1]
    exact evP_1 (fun _ => ⟨Nat.le_add_left 1 _, fun z => absurd z (by decide)⟩)
  · have e1 := (a5 pv cv st).1
    refine ⟨by rw [evX_ap, e1]; exact u pv cv st _, evP_ap (a5 pv cv st).2 ?_⟩
    rw [e1]
    exact evP_1 (fun _ => ⟨Nat.le_add_left 1 _, fun z => absurd z (by decide)⟩)
  · show 1 - f pv cv = 0 ∨ 1 - f pv cv = 1
    rcases a6 trivial pv cv with e | e
    · rw [e]; exact Or.inr (by decide)
    · rw [e]; exact Or.inl (by decide)
theorem Ve.nn (h : Ve True n n1 (l ++ [(27, 0)] ++ [(27, 0)]) (c ++ [-7] ++ [-7])) (h0 : Ve True n n1 l c) : Ve True n n1 (l ++ [(27, 0)] ++ [(27, 0)]) c := by
  obtain ⟨a1, a2, a3, f, a4, a5, a6⟩ := h
  obtain ⟨b1, b2, b3, g, b4, b5, b6⟩ := h0
  have u : ∀ pv cv st, ∀ v : Int32, stv pv cv (-7) (v :: st) = (1 - v) :: st := fun pv cv st v => (stv_u (by decide) (by decide)).trans (by rw [if_pos rfl])
  refine ⟨a1, a2, b3, g, fun pv cv st => ?_, b5, b6⟩
  have er : rCM [(27, 0)] = [-7] := by decide
  refine ⟨?_, (a4 pv cv st).2⟩
  rw [rCM_ap, rCM_ap, er, evX_ap, evX_ap, (b4 pv cv st).1]
  have e1 : evX pv cv [-7] (g pv cv :: st) = (1 - g pv cv) :: st := u pv cv st _
  have e2 : evX pv cv [-7] ((1 - g pv cv) :: st) = (1 - (1 - g pv cv)) :: st := u pv cv st _
  rw [e1, e2]
  rcases b6 trivial pv cv with e | e
  · rw [e]; rfl
  · rw [e]; rfl
theorem rZp_ap {a b : List Int32} : rZp (a ++ b) = rZp a ++ rZp b := List.map_append
theorem Ve.nts {n n1 : Nat} {l : List (Int32 × Int32)} {c : List Int32} (h : Ve True n n1 l c) : ∀ (k : Nat) (ν : List Int32), ν.length = k → (∀ x, x ∈ ν → x = 27) → Ve True n n1 (l ++ rZp ν) (if k % 2 = 0 then c else c ++ [-7])
  | 0, ν, e, _ => by
    have : ν = [] := List.length_eq_zero_iff.mp e
    subst this
    rw [if_pos rfl, show rZp [] = [] from rfl, List.append_nil]
    exact h
  | 1, ν, e, g => by
    obtain ⟨x, rfl⟩ := List.length_eq_one_iff.mp e
    obtain rfl : x = 27 := g x (List.mem_singleton.mpr rfl)
    rw [if_neg (by decide)]
    exact h.nt
  | k + 2, ν, e, g => by
    match ν, e, g with
    | x :: y :: r, e, g =>
      obtain rfl : x = 27 := g x (List.mem_cons_self ..)
      obtain rfl : y = 27 := g y (List.mem_cons_of_mem _ (List.mem_cons_self ..))
      have h2 := h.nt.nt.nn h
      have er : r.length = k := by
        have : r.length + 1 + 1 = k + 2 := e
        omega
      have q := h2.nts k r er (fun z hz => g z (List.mem_cons_of_mem _ (List.mem_cons_of_mem _ hz)))
      rw [show (k + 2) % 2 = k % 2 by omega]
      have el : l ++ rZp (27 :: 27 :: r) = l ++ [(27, 0)] ++ [(27, 0)] ++ rZp r := by
        rw [List.append_assoc, List.append_assoc]
        rfl
      rw [el]
      exact q
    | [x], e, _ => exact absurd e (by show ¬ (1 = k + 2); omega)
    | [], e, _ => exact absurd e (by show ¬ (0 = k + 2); omega)
end VE
section SGC
variable {C D E : mI} {c c1 c2 : Nat} {w : Int32}
theorem sgc_ap {F : Nat → Int32} {b : Nat} : ∀ {a c : Nat}, sgc F c (a + b) = sgc F c a ++ sgc F (c + a) b
  | 0, c => by
    show sgc F c (0 + b) = [] ++ sgc F (c + 0) b
    rw [Nat.zero_add, Nat.add_zero, List.nil_append]
  | a + 1, c => by
    rw [show a + 1 + b = (a + b) + 1 by omega]
    show F c :: sgc F (c + 1) (a + b) = F c :: sgc F (c + 1) a ++ sgc F (c + (a + 1)) b
    rw [sgc_ap, show c + 1 + a = c + (a + 1) by omega]
    rfl
theorem sgc_cg {F G : Nat → Int32} : ∀ {k c : Nat}, (∀ j, c ≤ j → j < c + k → G j = F j) → sgc G c k = sgc F c k
  | 0, _, _ => rfl
  | k + 1, c, h => by
    show G c :: sgc G (c + 1) k = F c :: sgc F (c + 1) k
    rw [h c (by omega) (by omega), sgc_cg (fun j h1 h2 => h j (by omega) (by omega))]
theorem Sg.n : Sg C c c = [] := by
  unfold Sg
  rw [Nat.sub_self]
  rfl
theorem Sg.ap (h1 : c ≤ c1) (h2 : c1 ≤ c2) : Sg C c c2 = Sg C c c1 ++ Sg C c1 c2 := by
  unfold Sg
  rw [show c2 - c = (c1 - c) + (c2 - c1) by omega, sgc_ap, show c + (c1 - c) = c1 by omega]
theorem Sg.cg (h : ∀ k, k < c2 → D 15 k = C 15 k) : Sg D c c2 = Sg C c c2 := by
  unfold Sg
  exact sgc_cg (fun j h1 h2 => h j (by omega))
theorem Sg.o : Sg C c (c + 1) = [C 15 c] := by
  unfold Sg
  rw [show c + 1 - c = 1 by omega]
  rfl
theorem Kp.rf : Kp c C C := fun _ _ => rfl
theorem Kp.tr (h : Kp c C D) (g : Kp c1 D E) (hc : c ≤ c1) : Kp c C E := fun k hk => (g k (by omega)).trans (h k hk)
theorem Kp.e (e : D 15 = C 15) : Kp c C D := fun k _ => by rw [e]
/-- two pieces of code, one behind the other -/
theorem Sg.cat (h1 : c ≤ c1) (h2 : c1 ≤ c2) (k : Kp c1 D E) : Sg E c c2 = Sg D c c1 ++ Sg E c1 c2 := by
  rw [Sg.ap h1 h2]
  rw [Sg.cg (C := D) (D := E) (c2 := c1) k]
theorem Cst.k15 {T P : Nat → Int32} {m i n o : Nat} (h : Cst T P m C i n o c) (hT : TkO T P m) : Kp c C (emiF C w) ∧ Sg (emiF C w) c (c + 1) = [w] := by
  have hm := hT.1
  have h1 := h.2.2.2.2.2.2.1
  have hl := h.le
  have e : emiF C w = put (put C 15 c w) 14 1 (nI (c + 1)) := by
    unfold emiF
    rw [if_pos (by rw [h1]; exact nI_lt (a := c) (b := 416) (by omega) (by decide)), h1, nI_clamp (by omega), nI_1]
  rw [e]
  refine ⟨fun k hk => ?_, ?_⟩
  · rw [pt_m (by decide), pt_f (by omega)]
  · rw [Sg.o, pt_m (by decide), pt_s]
theorem Cst.k15n {T P : Nat → Int32} {m i n o : Nat} (h : Cst T P m C i n o c) (hT : TkO T P m) (g1 : ¬ T i < 0) (g2 : ¬ w < T i) : Kp c C (numF C w) ∧ Sg (numF C w) c (c + 1) = [T i] := by
  have hm := hT.1
  have hr := h.rok hT
  have ht := h.tkn hT
  have h1 := h.2.2.2.2.2.2.1
  have hl := h.le
  have g3 : ¬ (tok C < 0 ∨ w < tok C ∨ ¬ C 14 1 < 416) := by
    rw [ht, h1]
    intro z
    rcases z with z | z | z
    · exact g1 z
    · exact g2 z
    · exact z (nI_lt (a := c) (b := 416) (by omega) (by decide))
  have e : numF C w = advF (put (put C 15 c (T i)) 14 1 (nI (c + 1))) := by
    unfold numF
    rw [if_pos hr, if_neg g3, h1, nI_clamp (by omega), nI_1, ht]
  rw [e]
  unfold advF
  refine ⟨fun k hk => ?_, ?_⟩
  · rw [pt_m (by decide), pt_m (by decide), pt_f (by omega)]
  · rw [Sg.o, pt_m (by decide), pt_m (by decide), pt_s]
theorem ad15 : advF C 15 = C 15 := pt_n (by decide)
theorem de15 : decB C 15 = C 15 := pt_n (by decide)
theorem ta15 : takF C w 15 = C 15 := by
  unfold takF
  split
  · split
    · exact ad15
    · exact pt_n (by decide)
  · rfl
theorem en15 : entF C w 15 = C 15 := by
  unfold entF
  split
  · split
    · exact ad15.trans (pt_n (by decide))
    · exact pt_n (by decide)
  · rfl
theorem fa15 : faiF C 15 = C 15 := by
  unfold faiF
  split
  · exact pt_n (by decide)
  · rfl
theorem Sg.e15 (e : D 15 = C 15) : Sg D c c1 = Sg C c c1 := by
  unfold Sg
  rw [e]
end SGC
