/-! what the reference keeps for the next question: levels, the PLAN -/
def LvP (I : mI) (lev : Nat → Nat) : Prop := ∀ v, v < 59049 → lev v < 128 ∧ I 73 v = nI (lev v)
/-- what the reference keeps of a PLAN -/
def PlR (c : Nat) (nu : Int32) (B f t : Nat) (I : mI) : Prop := MinH (wt c) c nu B f t (I 54 60) ∧ ∀ H, H ≤ 6 → I 54 60 = nI H → ∃ pc pr, (∀ i, i < H → I 79 i = nI (pc i)) ∧ (∀ i, i < H → pr i < 59049 ∧ I 80 (i + 1) = nI (pr i)) ∧ PlnS (wt c) c nu B f t H pc pr
theorem PlR.cg {c : Nat} {nu : Int32} {B f t : Nat} {I J : mI} (h : PlR c nu B f t I) (e60 : J 54 60 = I 54 60) (e79 : J 79 = I 79) (e80 : J 80 = I 80) : PlR c nu B f t J := by
  unfold PlR
  rw [e60, e79, e80]
  exact h
/-- the row that stands, as the reference has it -/
def StM (I : mI) (c : Nat) (A A2 : Nat → Nat) (th B : Nat) : Prop := (c = 3 ∨ c = 4 ∨ c = 5) ∧ I 56 0 = nI c ∧ I 56 3 = nI th ∧ I 56 10 = nI B ∧ B < 2 ^ 4 ∧ (∀ i, i < c → I 56 (20 + i) = nI (A i) ∧ 1 ≤ A i ∧ A i ≤ 9) ∧ ∀ i, i < c → I 56 (30 + i) = nI (A2 i) ∧ 1 ≤ A2 i ∧ A2 i ≤ 9
def StQ (I J : mI) : Prop := ∀ k, (k = 0 ∨ k = 3 ∨ k = 10 ∨ (20 ≤ k ∧ k < 40)) → J 56 k = I 56 k
theorem StM.q {I J : mI} {c B th : Nat} {A A2 : Nat → Nat} (h : StM I c A A2 th B) (e : StQ I J) : StM J c A A2 th B := by
  obtain ⟨hc, e0, e3, e10, hB, kA, kA2⟩ := h
  refine ⟨hc, (e 0 (by omega)).trans e0, (e 3 (by omega)).trans e3, (e 10 (by omega)).trans e10, hB, fun i hi => ?_, fun i hi => ?_⟩
  · rw [e (20 + i) (by omega)]
    exact kA i hi
  · rw [e (30 + i) (by omega)]
    exact kA2 i hi
theorem StM.cg {I J : mI} {c B th : Nat} {A A2 : Nat → Nat} (h : StM I c A A2 th B) (e : J 56 = I 56) : StM J c A A2 th B := h.q (fun k _ => by rw [e])
theorem rnum_cg {w a b : Nat → Nat} : ∀ c, (∀ i, i < c → a i = b i) → rnum w a c = rnum w b c := by
  intro c
  induction c with
  | zero => exact fun _ => rfl
  | succ c ih =>
    intro h
    show rnum w a c + (a c - 1) * w c = rnum w b c + (b c - 1) * w c
    rw [ih (fun i hi => h i (by omega)), h c (by omega)]
theorem StM.u {I : mI} {c c' B B' th th' : Nat} {A A2 A' A2' : Nat → Nat} (h : StM I c A A2 th B) (k : StM I c' A' A2' th' B') : c = c' ∧ nI th = nI th' ∧ B = B' ∧ rnum (wt c) A c = rnum (wt c') A' c' ∧ rnum (wt c) A2 c = rnum (wt c') A2' c' := by
  obtain ⟨hc, e0, e3, e10, hB, kA, kA2⟩ := h
  obtain ⟨hc', e0', e3', e10', hB', kA', kA2'⟩ := k
  obtain rfl : c = c' := (nI_eq (by omega) (by omega)).mp (e0.symm.trans e0')
  refine ⟨rfl, e3.symm.trans e3', (nI_eq (by omega) (by omega)).mp (e10.symm.trans e10'), rnum_cg c (fun i hi => ?_), rnum_cg c (fun i hi => ?_)⟩
  · have a := kA i hi
    have b := kA' i hi
    exact (nI_eq (by omega) (by omega)).mp (a.1.symm.trans b.1)
  · have a := kA2 i hi
    have b := kA2' i hi
    exact (nI_eq (by omega) (by omega)).mp (a.1.symm.trans b.1)
def LvQ (I : mI) (c : Nat) (nu : Int32) (B r : Nat) : Prop := I 54 59 = -1 ∨ ∃ h lev, h ≤ 6 ∧ I 54 59 = nI h ∧ LvP I lev ∧ ∀ u k, k ≤ h → ((lev u).testBit k = true ↔ Lev (wt c) c nu B r k u)
theorem LvQ.cg {I J : mI} {c B r : Nat} {nu : Int32} (h : LvQ I c nu B r) (e59 : J 54 59 = I 54 59) (e73 : J 73 = I 73) : LvQ J c nu B r := by
  unfold LvQ LvP
  rw [e59, e73]
  exact h
def RcM (I : mI) : Prop := ∀ c A A2 th B, StM I c A A2 th B → LvQ I c (nI th) B (rnum (wt c) A c) ∧ (¬ I 54 60 = -2 → PlR c (nI th) B (rnum (wt c) A c) (rnum (wt c) A2 c) I)
theorem RcM.fg {I : mI} (h1 : I 54 59 = -1) (h2 : I 54 60 = -2) : RcM I := fun _ _ _ _ _ _ => ⟨Or.inl h1, fun z => absurd h2 z⟩
theorem RcM.cg {I J : mI} (h : RcM I) (eq : StQ I J) (e59 : J 54 59 = I 54 59) (e60 : J 54 60 = I 54 60) (e73 : J 73 = I 73) (e79 : J 79 = I 79) (e80 : J 80 = I 80) : RcM J := fun c A A2 th B k => by
  obtain ⟨a, b⟩ := h c A A2 th B (k.q (fun i hi => (eq i hi).symm))
  exact ⟨a.cg e59 e73, fun z => (b (fun y => z (e60.trans y))).cg e60 e79 e80⟩
theorem RcM.mk {I : mI} {c B th : Nat} {A A2 : Nat → Nat} (hK : StM I c A A2 th B) (l : LvQ I c (nI th) B (rnum (wt c) A c)) (p : ¬ I 54 60 = -2 → PlR c (nI th) B (rnum (wt c) A c) (rnum (wt c) A2 c) I) : RcM I := fun c' A' A2' th' B' k => by
  obtain ⟨rfl, e, rfl, e1, e2⟩ := hK.u k
  rw [← e, ← e1, ← e2]
  exact ⟨l, p⟩
