/-! a small machine over a heap by numbers: cell a, place k; ints, longs, references apart; its shape S = (how many cells, how many places, kinds, lengths) -/
def gt : List Cond := lw_tbl.filter goodWord
abbrev mI : Type := Nat → Nat → Int32
abbrev mL : Type := Nat → Nat → Int64
abbrev mR : Type := Nat → Nat → Option Nat
abbrev mS : Type := Nat × Nat × (Nat → Nat) × (Nat → Nat)
abbrev mCf : Type := Nat × List Value × List Value × mS × mI × mL × mR
abbrev mRs : Type := Value × mS × mI × mL × mR
abbrev mF : Type := mOp → List Value → List Value → mS → mI → mL → mR → Option mCf
/-- what a place of a cell of kind c holds: 0 an int, 1 a long, 2 a reference -/
def mkd (c k : Nat) : Nat := if c < 10 then (mfk.getD c []).getD k 0 else if c = 12 then 1 else if c < 14 then 0 else if c < 19 then 2 else 0
/-- an empty place of the locals -/
abbrev nv : Value := .retAddr 0
def st1 : List Value → Nat → Value → List Value
  | [], _, _ => []
  | _ :: l, 0, v => v :: l
  | a :: l, i + 1, v => (if i = 0 ∧ a.category = 2 then nv else a) :: st1 l i v
def st2 : List Value → Nat → Value → List Value
  | [], _, _ => []
  | [_], _, _ => []
  | _ :: _ :: l, 0, v => v :: nv :: l
  | a :: b :: l, i + 1, v => (if i = 0 ∧ a.category = 2 then nv else a) :: st2 (b :: l) i v
def cs : List Value → Nat
  | [] => 0
  | v :: l => v.category + cs l
def inb (i : Int32) (n : Nat) : Prop := ¬ i < 0 ∧ i.toNatClampNeg < n
def ok (S : mS) (a c : Nat) : Prop := a < S.1 ∧ S.2.2.1 a = c
def okI (S : mS) (a : Nat) : Prop := a < S.1 ∧ (S.2.2.1 a = 11 ∨ S.2.2.1 a = 19)
def okR (S : mS) (a : Nat) : Prop := a < S.1 ∧ 14 ≤ S.2.2.1 a ∧ S.2.2.1 a < 19
def okA (S : mS) (a : Nat) : Prop := a < S.1 ∧ 10 ≤ S.2.2.1 a
def elK (c : Nat) : Nat := if c = 14 then 3 else if c = 15 then 5 else 7
/-- the literals: their entries, texts, lengths, bytes -/
def lsI : List Nat := [84, 90, 92, 94, 96, 104, 106, 108, 110, 112, 114, 116, 118, 120, 122, 124, 126]
def lsT : List String := ["to", "if", "or", "and", "not", "iron", "hot", "cells", "left", "heats", "struck", "fire", "strike", "shoulder", "punch", "weld", "go"]
def lsN : List Nat := [2, 2, 2, 3, 3, 4, 3, 5, 4, 5, 6, 4, 6, 8, 5, 4, 2]
def lsB : List (List Int32) := [[116, 111], [105, 102], [111, 114], [97, 110, 100], [110, 111, 116], [105, 114, 111, 110], [104, 111, 116], [99, 101, 108, 108, 115], [108, 101, 102, 116], [104, 101, 97, 116, 115], [115, 116, 114, 117, 99, 107], [102, 105, 114, 101], [115, 116, 114, 105, 107, 101], [115, 104, 111, 117, 108, 100, 101, 114], [112, 117, 110, 99, 104], [119, 101, 108, 100], [103, 111]]
def flO (x : UInt32) : Prop := x.toNat % 2 = 1 ∧ x.toNat < 34
def flB (x : UInt32) : Prop := x.toNat % 2 = 0 ∧ 0 < x.toNat ∧ x.toNat < 35
def flN (x : UInt32) : Nat := lsN.getD (x.toNat / 2 - 1) 0
def flC (x : UInt32) (k : Nat) : Int32 := (lsB.getD (x.toNat / 2 - 1) []).getD k 0
def f_ic : mF := fun o ls st S I L R => match o.2.2.2.2.2 with | [v] => some (o.2.1, ls, .int (Int32.ofInt v) :: st, S, I, L, R) | _ => none
def f_lc : mF := fun o ls st S I L R => match o.2.2.2.2.2 with | [v] => some (o.2.1, ls, .long (Int64.ofInt v) :: st, S, I, L, R) | _ => none
def f_il : mF := fun o ls st S I L R => match ls[o.2.2.1]? with | some (.int v) => some (o.2.1, ls, .int v :: st, S, I, L, R) | _ => none
def f_ll : mF := fun o ls st S I L R => match ls[o.2.2.1]? with | some (.long v) => some (o.2.1, ls, .long v :: st, S, I, L, R) | _ => none
def f_al : mF := fun o ls st S I L R => match ls[o.2.2.1]? with | some (.ref v) => some (o.2.1, ls, .ref v :: st, S, I, L, R) | some .null => some (o.2.1, ls, .null :: st, S, I, L, R) | _ => none
def f_is : mF := fun o ls st S I L R => match st with | .int v :: st => if o.2.2.1 < ls.length then some (o.2.1, st1 ls o.2.2.1 (.int v), st, S, I, L, R) else none | _ => none
def f_as : mF := fun o ls st S I L R => match st with | .ref v :: st => if o.2.2.1 < ls.length then some (o.2.1, st1 ls o.2.2.1 (.ref v), st, S, I, L, R) else none | .null :: st => if o.2.2.1 < ls.length then some (o.2.1, st1 ls o.2.2.1 .null, st, S, I, L, R) else none | _ => none
def f_ls : mF := fun o ls st S I L R => match st with | .long v :: st => if o.2.2.1 + 1 < ls.length then some (o.2.1, st2 ls o.2.2.1 (.long v), st, S, I, L, R) else none | _ => none
def f_ii : mF := fun o ls st S I L R => match ls[o.2.2.1]?, o.2.2.2.2.2 with | some (.int x), [v] => some (o.2.1, st1 ls o.2.2.1 (.int (x + Int32.ofInt v)), st, S, I, L, R) | _, _ => none
def f_bi (g : Int32 → Int32 → Int32) : mF := fun o ls st S I L R => match st with | .int y :: .int x :: st => some (o.2.1, ls, .int (g x y) :: st, S, I, L, R) | _ => none
def f_bd (g : Int32 → Int32 → Int32) : mF := fun o ls st S I L R => match st with | .int y :: .int x :: st => if y = 0 then none else some (o.2.1, ls, .int (g x y) :: st, S, I, L, R) | _ => none
def f_bl (g : Int64 → Int64 → Int64) : mF := fun o ls st S I L R => match st with | .long y :: .long x :: st => some (o.2.1, ls, .long (g x y) :: st, S, I, L, R) | _ => none
def f_bld (g : Int64 → Int64 → Int64) : mF := fun o ls st S I L R => match st with | .long y :: .long x :: st => if y = 0 then none else some (o.2.1, ls, .long (g x y) :: st, S, I, L, R) | _ => none
def f_sl (g : Int64 → Int32 → Int64) : mF := fun o ls st S I L R => match st with | .int y :: .long x :: st => some (o.2.1, ls, .long (g x y) :: st, S, I, L, R) | _ => none
def f_ui (g : Int32 → Int32) : mF := fun o ls st S I L R => match st with | .int x :: st => some (o.2.1, ls, .int (g x) :: st, S, I, L, R) | _ => none
def f_lneg : mF := fun o ls st S I L R => match st with | .long x :: st => some (o.2.1, ls, .long (-x) :: st, S, I, L, R) | _ => none
def f_i2l : mF := fun o ls st S I L R => match st with | .int x :: st => some (o.2.1, ls, .long x.toInt64 :: st, S, I, L, R) | _ => none
def f_l2i : mF := fun o ls st S I L R => match st with | .long x :: st => some (o.2.1, ls, .int x.toInt32 :: st, S, I, L, R) | _ => none
def f_lcmp : mF := fun o ls st S I L R => match st with | .long y :: .long x :: st => some (o.2.1, ls, .int (lg_cmp x y) :: st, S, I, L, R) | _ => none
def f_dup : mF := fun o ls st S I L R => match st with | v :: st => if v.category = 1 then some (o.2.1, ls, v :: v :: st, S, I, L, R) else none | _ => none
def f_dup2 : mF := fun o ls st S I L R => match st with | v :: z :: st => if v.category = 1 ∧ z.category = 1 then some (o.2.1, ls, v :: z :: v :: z :: st, S, I, L, R) else none | _ => none
def f_pop : mF := fun o ls st S I L R => match st with | v :: st => if v.category = 1 then some (o.2.1, ls, st, S, I, L, R) else none | _ => none
def f_pop2 : mF := fun o ls st S I L R => match st with | v :: st => if v.category = 2 then some (o.2.1, ls, st, S, I, L, R) else none | _ => none
def f_if (g : Int32 → Bool) : mF := fun o ls st S I L R => match st with | .int x :: st => some (if g x then o.2.2.1 else o.2.1, ls, st, S, I, L, R) | _ => none
def f_cp (g : Int32 → Int32 → Bool) : mF := fun o ls st S I L R => match st with | .int y :: .int x :: st => some (if g x y then o.2.2.1 else o.2.1, ls, st, S, I, L, R) | _ => none
def f_go : mF := fun o ls st S I L R => some (o.2.1, ls, st, S, I, L, R)
def f_nu : mF := fun o ls st S I L R => match st with | .null :: st => some (o.2.2.1, ls, st, S, I, L, R) | .ref _ :: st => some (o.2.1, ls, st, S, I, L, R) | _ => none
def f_nn : mF := fun o ls st S I L R => match st with | .null :: st => some (o.2.1, ls, st, S, I, L, R) | .ref _ :: st => some (o.2.2.1, ls, st, S, I, L, R) | _ => none
def f_an : mF := fun o ls st S I L R => some (o.2.1, ls, .null :: st, S, I, L, R)
def f_ts : mF := fun o ls st S I L R => match st, o.2.2.2.2.2 with | .int x :: st, lo :: ts => some (if x.toInt < lo ∨ lo + ts.length ≤ x.toInt then o.2.1 else (ts.getD (x.toInt - lo).toNat 0).toNat, ls, st, S, I, L, R) | _, _ => none
def f_gi : mF := fun o ls st S I L R => match st with | .ref a :: st => if a < S.1 ∧ S.2.2.1 a = o.2.2.1 then some (o.2.1, ls, .int (I a o.2.2.2.1) :: st, S, I, L, R) else none | _ => none
def f_gl : mF := fun o ls st S I L R => match st with | .ref a :: st => if a < S.1 ∧ S.2.2.1 a = o.2.2.1 then some (o.2.1, ls, .long (L a o.2.2.2.1) :: st, S, I, L, R) else none | _ => none
def f_gr : mF := fun o ls st S I L R => match st with | .ref a :: st => if a < S.1 ∧ S.2.2.1 a = o.2.2.1 then some (o.2.1, ls, va_rf (R a o.2.2.2.1) :: st, S, I, L, R) else none | _ => none
def f_pi : mF := fun o ls st S I L R => match st with | .int v :: .ref a :: st => if a < S.1 ∧ S.2.2.1 a = o.2.2.1 then some (o.2.1, ls, st, S, va_up I a (va_up (I a) o.2.2.2.1 v), L, R) else none | _ => none
def f_pz : mF := fun o ls st S I L R => match st with | .int v :: .ref a :: st => if (a < S.1 ∧ S.2.2.1 a = o.2.2.1) ∧ (v = 0 ∨ v = 1) then some (o.2.1, ls, st, S, va_up I a (va_up (I a) o.2.2.2.1 v), L, R) else none | _ => none
def f_pl : mF := fun o ls st S I L R => match st with | .long v :: .ref a :: st => if a < S.1 ∧ S.2.2.1 a = o.2.2.1 then some (o.2.1, ls, st, S, I, va_up L a (va_up (L a) o.2.2.2.1 v), R) else none | _ => none
def f_pr : mF := fun o ls st S I L R => match st with | .ref v :: .ref a :: st => if a < S.1 ∧ S.2.2.1 a = o.2.2.1 then some (o.2.1, ls, st, S, I, L, va_up R a (va_up (R a) o.2.2.2.1 (some v))) else none | .null :: .ref a :: st => if a < S.1 ∧ S.2.2.1 a = o.2.2.1 then some (o.2.1, ls, st, S, I, L, va_up R a (va_up (R a) o.2.2.2.1 none)) else none | _ => none
def f_ia : mF := fun o ls st S I L R => match st with | .int i :: .ref a :: st => if (a < S.1 ∧ (S.2.2.1 a = 11 ∨ S.2.2.1 a = 19)) ∧ (¬ i < 0 ∧ i.toNatClampNeg < S.2.2.2 a) then some (o.2.1, ls, .int (I a i.toNatClampNeg) :: st, S, I, L, R) else none | _ => none
def f_za (k : Nat) : mF := fun o ls st S I L R => match st with | .int i :: .ref a :: st => if (a < S.1 ∧ S.2.2.1 a = k) ∧ (¬ i < 0 ∧ i.toNatClampNeg < S.2.2.2 a) then some (o.2.1, ls, .int (I a i.toNatClampNeg) :: st, S, I, L, R) else none | _ => none
def f_la : mF := fun o ls st S I L R => match st with | .int i :: .ref a :: st => if (a < S.1 ∧ S.2.2.1 a = 12) ∧ (¬ i < 0 ∧ i.toNatClampNeg < S.2.2.2 a) then some (o.2.1, ls, .long (L a i.toNatClampNeg) :: st, S, I, L, R) else none | _ => none
def f_aa : mF := fun o ls st S I L R => match st with | .int i :: .ref a :: st => if (a < S.1 ∧ 14 ≤ S.2.2.1 a ∧ S.2.2.1 a < 19) ∧ (¬ i < 0 ∧ i.toNatClampNeg < S.2.2.2 a) then some (o.2.1, ls, va_rf (R a i.toNatClampNeg) :: st, S, I, L, R) else none | _ => none
def f_sia : mF := fun o ls st S I L R => match st with | .int v :: .int i :: .ref a :: st => if (a < S.1 ∧ S.2.2.1 a = 11) ∧ (¬ i < 0 ∧ i.toNatClampNeg < S.2.2.2 a) then some (o.2.1, ls, st, S, va_up I a (va_up (I a) i.toNatClampNeg v), L, R) else none | _ => none
def f_sba : mF := fun o ls st S I L R => match st with | .int v :: .int i :: .ref a :: st => if (a < S.1 ∧ S.2.2.1 a = 10) ∧ (¬ i < 0 ∧ i.toNatClampNeg < S.2.2.2 a) then some (o.2.1, ls, st, S, va_up I a (va_up (I a) i.toNatClampNeg v.toInt8.toInt32), L, R) else none | _ => none
def f_sza : mF := fun o ls st S I L R => match st with | .int v :: .int i :: .ref a :: st => if ((a < S.1 ∧ S.2.2.1 a = 13) ∧ (v = 0 ∨ v = 1)) ∧ (¬ i < 0 ∧ i.toNatClampNeg < S.2.2.2 a) then some (o.2.1, ls, st, S, va_up I a (va_up (I a) i.toNatClampNeg v), L, R) else none | _ => none
def f_sla : mF := fun o ls st S I L R => match st with | .long v :: .int i :: .ref a :: st => if (a < S.1 ∧ S.2.2.1 a = 12) ∧ (¬ i < 0 ∧ i.toNatClampNeg < S.2.2.2 a) then some (o.2.1, ls, st, S, I, va_up L a (va_up (L a) i.toNatClampNeg v), R) else none | _ => none
def f_saa : mF := fun o ls st S I L R => match st with | .ref v :: .int i :: .ref a :: st => if ((a < S.1 ∧ 14 ≤ S.2.2.1 a ∧ S.2.2.1 a < 17) ∧ (v < S.1 ∧ S.2.2.1 v = elK (S.2.2.1 a))) ∧ (¬ i < 0 ∧ i.toNatClampNeg < S.2.2.2 a) then some (o.2.1, ls, st, S, I, L, va_up R a (va_up (R a) i.toNatClampNeg (some v))) else none | .null :: .int i :: .ref a :: st => if (a < S.1 ∧ 14 ≤ S.2.2.1 a ∧ S.2.2.1 a < 17) ∧ (¬ i < 0 ∧ i.toNatClampNeg < S.2.2.2 a) then some (o.2.1, ls, st, S, I, L, va_up R a (va_up (R a) i.toNatClampNeg none)) else none | _ => none
def f_len : mF := fun o ls st S I L R => match st with | .ref a :: st => if a < S.1 ∧ 10 ≤ S.2.2.1 a then some (o.2.1, ls, .int (nI (S.2.2.2 a)) :: st, S, I, L, R) else none | _ => none
def f_new : mF := fun o ls st S I L R => some (o.2.1, ls, .ref S.1 :: st, (S.1 + 1, S.2.1 + o.2.2.2.1, va_up S.2.2.1 S.1 o.2.2.1, va_up S.2.2.2 S.1 0), va_up I S.1 (fun _ => 0), va_up L S.1 (fun _ => 0), va_up R S.1 (fun _ => none))
def f_na : mF := fun o ls st S I L R => match st with | .int n :: st => if ¬ n < 0 ∧ n.toNatClampNeg ≤ 67108864 then some (o.2.1, ls, .ref S.1 :: st, (S.1 + 1, S.2.1 + n.toNatClampNeg, va_up S.2.2.1 S.1 o.2.2.1, va_up S.2.2.2 S.1 n.toNatClampNeg), va_up I S.1 (fun _ => 0), va_up L S.1 (fun _ => 0), va_up R S.1 (fun _ => none)) else none | _ => none
/-- n rows of kind c behind an outer array at a -/
def mlt {α : Type} (f : Nat → α) (a n : Nat) (x y : α) : Nat → α := fun b => if b = a then x else if a < b ∧ b < a + 1 + n then y else f b
def f_mu : mF := fun o ls st S I L R => match st with | .int k :: .int n :: st => if (¬ n < 0 ∧ n.toNatClampNeg ≤ 67108864) ∧ (¬ k < 0 ∧ k.toNatClampNeg ≤ 67108864) then some (o.2.1, ls, .ref S.1 :: st, (S.1 + (1 + n.toNatClampNeg), S.2.1 + (n.toNatClampNeg + n.toNatClampNeg * k.toNatClampNeg), mlt S.2.2.1 S.1 n.toNatClampNeg o.2.2.1 (o.2.2.1 - 6), mlt S.2.2.2 S.1 n.toNatClampNeg n.toNatClampNeg k.toNatClampNeg), mlt I S.1 n.toNatClampNeg (fun _ => 0) (fun _ => 0), mlt L S.1 n.toNatClampNeg (fun _ => 0) (fun _ => 0), mlt R S.1 n.toNatClampNeg (fun i => if i < n.toNatClampNeg then some (S.1 + 1 + i) else none) (fun _ => none)) else none | _ => none
def f_gs : mF := fun o ls st S I L R => some (o.2.1, ls, .ref o.2.2.1 :: st, S, I, L, R)
def f_oi : mF := fun o ls st S I L R => match st with | .ref _ :: st => if cs st ≤ 8 then some (o.2.1, ls, st, S, I, L, R) else none | _ => none
def f_ac : mF := fun o ls st S I L R => match st with | .int n :: .int dp :: .ref b :: .int sp :: .ref a :: st => if ((((a < S.1 ∧ S.2.2.1 a = o.2.2.1) ∧ (b < S.1 ∧ S.2.2.1 b = o.2.2.1)) ∧ (¬ sp < 0 ∧ ¬ dp < 0 ∧ ¬ n < 0)) ∧ (sp.toNatClampNeg + n.toNatClampNeg ≤ S.2.2.2 a ∧ dp.toNatClampNeg + n.toNatClampNeg ≤ S.2.2.2 b)) ∧ cs st ≤ 8 then some (o.2.1, ls, st, S, (if o.2.2.1 = 11 then va_up I b (va_cpy (I a) (I b) sp.toNatClampNeg dp.toNatClampNeg n.toNatClampNeg) else I), (if o.2.2.1 = 11 then L else va_up L b (va_cpy (L a) (L b) sp.toNatClampNeg dp.toNatClampNeg n.toNatClampNeg)), R) else none | _ => none
def f_mm (g : Int32 → Int32 → Int32) : mF := fun o ls st S I L R => match st with | .int y :: .int x :: st => if cs st ≤ 8 then some (o.2.1, ls, .int (g x y) :: st, S, I, L, R) else none | _ => none
def f_ma : mF := fun o ls st S I L R => match st with | .int x :: st => if cs st ≤ 8 then some (o.2.1, ls, .int (if 0 ≤ x then x else 0 - x) :: st, S, I, L, R) else none | _ => none
def f_lds : mF := fun o ls st S I L R => some (o.2.1, ls, .float (UInt32.ofNat o.2.2.1) :: st, S, I, L, R)
def f_afl : mF := fun o ls st S I L R => match ls[o.2.2.1]? with | some (.float x) => if x ≠ 0 then some (o.2.1, ls, .float x :: st, S, I, L, R) else none | _ => none
def f_flv : mF := fun o ls st S I L R => match st with | .float x :: st => if x.toNat % 2 = 1 ∧ x.toNat < 34 then some (o.2.1, ls, .float (UInt32.ofNat (x.toNat + 1)) :: st, S, I, L, R) else none | _ => none
def f_flc : mF := fun o ls st S I L R => match st with | .float x :: st => if x.toNat % 2 = 1 ∧ x.toNat < 34 then some (o.2.1, ls, .int 0 :: st, S, I, L, R) else none | _ => none
def f_fln : mF := fun o ls st S I L R => match st with | .float x :: st => if x.toNat % 2 = 0 ∧ 0 < x.toNat ∧ x.toNat < 35 then some (o.2.1, ls, .int (nI (flN x)) :: st, S, I, L, R) else none | _ => none
def f_fba : mF := fun o ls st S I L R => match st with | .int i :: .float x :: st => if (x.toNat % 2 = 0 ∧ 0 < x.toNat ∧ x.toNat < 35) ∧ (¬ i < 0 ∧ i.toNatClampNeg < flN x) then some (o.2.1, ls, .int (flC x i.toNatClampNeg) :: st, S, I, L, R) else none | _ => none
def f_gcs : mF := fun o ls st S I L R => some (o.2.1, ls, .int 1 :: st, S, I, L, R)
def f_gfm : mF := fun o ls st S I L R => some (o.2.1, ls, .float 0 :: st, S, I, L, R)
def f_cln : mF := fun o ls st S I L R => match st with | .ref a :: st => if (a < S.1 ∧ S.2.2.1 a = 11) ∧ cs st ≤ 8 then some (o.2.1, ls, .ref S.1 :: st, (S.1 + 1, S.2.1 + S.2.2.2 a, va_up S.2.2.1 S.1 11, va_up S.2.2.2 S.1 (S.2.2.2 a)), va_up I S.1 (I a), va_up L S.1 (fun _ => 0), va_up R S.1 (fun _ => none)) else none | _ => none
def f_cci : mF := fun o ls st S I L R => match st with | .ref a :: st => if a < S.1 ∧ S.2.2.1 a = 11 then some (o.2.1, ls, .ref a :: st, S, I, L, R) else none | _ => none
def f_bad : mF := fun o ls st S I L R => none
def mFs : List mF := [f_bad, f_bad, f_ic, f_ic, f_ic, f_ic, f_lc, f_lc, f_il, f_il, f_ll, f_ll, f_al, f_al, f_is, f_is, f_ls, f_ls, f_as, f_as, f_ii, f_bi (fun x y => x + y), f_bi (fun x y => x - y), f_bi (fun x y => x * y), f_bi (fun x y => x &&& y), f_bi (fun x y => x ||| y), f_bi (fun x y => x ^^^ y), f_bd (fun x y => x / y), f_bd (fun x y => x - x / y * y), f_ui (fun x => -x), f_bi (fun x y => x <<< (y &&& 31)), f_bi (fun x y => x >>> (y &&& 31)), f_bl (fun x y => x + y), f_bl (fun x y => x - y), f_bl (fun x y => x * y), f_bl (fun x y => x &&& y), f_bl (fun x y => x ||| y), f_bl (fun x y => x ^^^ y), f_bld (fun x y => x / y), f_bld (fun x y => x - x / y * y), f_lneg, f_sl (fun x y => x <<< (y.toInt64 &&& 63)), f_sl (fun x y => (x.toUInt64 >>> (y.toInt64.toUInt64 &&& Int64.toUInt64 63)).toInt64), f_lcmp, f_i2l, f_l2i, f_ui (fun x => x.toInt8.toInt32), f_ui (fun x => (x.toUInt32 % 65536).toInt32), f_dup, f_dup2, f_pop, f_if (fun x => decide (x = 0)), f_if (fun x => !decide (x = 0)), f_if (fun x => decide (x < 0)), f_if (fun x => !decide (x < 0)), f_if (fun x => decide (0 < x)), f_if (fun x => !decide (0 < x)), f_cp (fun x y => decide (x = y)), f_cp (fun x y => !decide (x = y)), f_cp (fun x y => decide (x < y)), f_cp (fun x y => !decide (x < y)), f_cp (fun x y => decide (y < x)), f_cp (fun x y => !decide (y < x)), f_go, f_nu, f_nn, f_an, f_gi, f_gl, f_gr, f_pi, f_pl, f_pr, f_ia, f_za 10, f_za 13, f_la, f_aa, f_sia, f_sba, f_sza, f_sla, f_saa, f_len, f_new, f_na, f_na, f_mu, f_gs, f_oi, f_ac, f_ts, f_pi, f_pl, f_pr, f_pz, f_pz, f_pop2, f_gs, f_ic, f_mm (fun x y => if x < y then y else x), f_mm (fun x y => if y < x then y else x), f_ma, f_bad, f_lds, f_afl, f_flv, f_flc, f_fln, f_fba, f_gcs, f_gfm, f_cln, f_cci]
def mStp (o : mOp) : mF := (mFs[o.1]?).getD f_bad
def mOf (l : List (Nat × mOp)) (pc : Nat) : Option mOp := match l with | [] => none | q :: l => if q.1 = pc then some q.2 else mOf l pc
def opAt (j pc : Nat) : Option mOp := match mCode[j]? with | none => none | some l => mOf l pc
def mxL (j : Nat) : Nat := match mTab[j]? with | none => 0 | some q => q.2.2.1
/-- the locals at a method's entry -/
def ent : Nat → List Value → List Value
  | n, [] => List.replicate n nv
  | n, v :: l => if v.category = 2 then v :: nv :: ent (n - 2) l else v :: ent (n - 1) l
/-- the answer of a return: void, int, long, reference, boolean -/
def mRt (o : mOp) (st : List Value) : Option Value := match o.2.2.1, st with
  | 0, [] => some .null
  | 1, [.int v] => some (.int v)
  | 2, [.long v] => some (.long v)
  | 3, [.ref v] => some (.ref v)
  | 3, [.null] => some .null
  | 4, [.int v] => if v = 0 ∨ v = 1 then some (.int v) else none
  | 5, [.int v] => if v.toInt8.toInt32 = v then some (.int v) else none
  | 6, [.int v] => if (v.toUInt32 % 65536).toInt32 = v then some (.int v) else none
  | _, _ => none
/-- a call's arguments and what stays below them -/
def mAr (o : mOp) (st : List Value) (S : mS) : Option (List Value × List Value) :=
  if (o.2.2.2.2.2).getD 0 0 = 1 then (if o.2.2.2.1 ≤ st.length ∧ cs (st.drop o.2.2.2.1) ≤ 8 then some ((st.take o.2.2.2.1).reverse, st.drop o.2.2.2.1) else none)
  else if (o.2.2.2.2.2).getD 0 0 = 4 then (match st.drop o.2.2.2.1 with
    | .float x :: rest => if (x.toNat % 2 = 1 ∧ x.toNat < 34) ∧ cs rest ≤ 8 then some (.float x :: (st.take o.2.2.2.1).reverse, rest) else none
    | _ => none)
  else match st.drop o.2.2.2.1 with
    | .ref a :: rest => if (a < S.1 ∧ S.2.2.1 a = o.2.2.2.2.1) ∧ cs rest ≤ 8 then some (.ref a :: (st.take o.2.2.2.1).reverse, rest) else none
    | _ => none
def mPu (o : mOp) (v : Value) (st : List Value) : List Value := if (o.2.2.2.2.2).getD 1 0 = 1 then v :: st else st
def run : Nat → Nat → Nat → Nat → List Value → List Value → mS → mI → mL → mR → Option mRs
  | 0, _, _, _, _, _, _, _, _, _ => none
  | n + 1, d, j, pc, ls, st, S, I, L, R => match d with
    | 0 => none
    | d + 1 => match opAt j pc with
      | none => none
      | some o =>
        if o.1 = 0 then (match mRt o st with | none => none | some v => some (v, S, I, L, R))
        else if o.1 = 1 then (match mAr o st S with
          | none => none
          | some q => if cs q.1 ≤ mxL o.2.2.1 then (match run n d o.2.2.1 0 (ent (mxL o.2.2.1) q.1) [] S I L R with
            | none => none
            | some r => run n (d + 1) j o.2.1 ls (mPu o r.1 q.2) r.2.1 r.2.2.1 r.2.2.2.1 r.2.2.2.2) else none)
        else (match mStp o o ls st S I L R with
          | none => none
          | some q => run n (d + 1) j q.1 q.2.1 q.2.2.1 q.2.2.2.1 q.2.2.2.2.1 q.2.2.2.2.2.1 q.2.2.2.2.2.2)
abbrev mQ : Type := Value → mS → mI → mL → mR → Prop
/-- from here the method ends, and the end is as Q says -/
def Ev (d j pc : Nat) (ls st : List Value) (S : mS) (I : mI) (L : mL) (R : mR) (Q : mQ) : Prop := ∃ n r, run n d j pc ls st S I L R = some r ∧ Q r.1 r.2.1 r.2.2.1 r.2.2.2.1 r.2.2.2.2
/-- a call of method j -/
def EvM (d j : Nat) (as : List Value) (S : mS) (I : mI) (L : mL) (R : mR) (Q : mQ) : Prop := cs as ≤ mxL j ∧ Ev d j 0 (ent (mxL j) as) [] S I L R Q
theorem run_more : ∀ (n d j pc : Nat) (ls st : List Value) (S : mS) (I : mI) (L : mL) (R : mR) (r : mRs), run n d j pc ls st S I L R = some r → run (n + 1) d j pc ls st S I L R = some r := by
  intro n
  induction n with
  | zero => intro d j pc ls st S I L R r h; simp [run] at h
  | succ n ih =>
    intro d j pc ls st S I L R r h
    cases d with
    | zero => simp [run] at h
    | succ d =>
      rw [run] at h ⊢
      try dsimp only at h ⊢
      cases ho : opAt j pc with
      | none => rw [ho] at h; cases h
      | some o =>
        rw [ho] at h
        dsimp only at h ⊢
        by_cases h0 : o.1 = 0
        · rw [if_pos h0] at h ⊢; exact h
        · rw [if_neg h0] at h ⊢
          by_cases h1 : o.1 = 1
          · rw [if_pos h1] at h ⊢
            cases hq : mAr o st S with
            | none => rw [hq] at h; cases h
            | some q =>
              rw [hq] at h
              dsimp only at h ⊢
              by_cases hcs : cs q.1 ≤ mxL o.2.2.1
              case neg => rw [if_neg hcs] at h; cases h
              rw [if_pos hcs] at h ⊢
              cases hr : run n d o.2.2.1 0 (ent (mxL o.2.2.1) q.1) [] S I L R with
              | none => rw [hr] at h; cases h
              | some r1 =>
                rw [hr] at h
                rw [ih _ _ _ _ _ _ _ _ _ _ hr]
                exact ih _ _ _ _ _ _ _ _ _ _ h
          · rw [if_neg h1] at h ⊢
            cases hq : mStp o o ls st S I L R with
            | none => rw [hq] at h; cases h
            | some q =>
              rw [hq] at h
              exact ih _ _ _ _ _ _ _ _ _ _ h
theorem run_le {n k d j pc : Nat} {ls st : List Value} {S : mS} {I : mI} {L : mL} {R : mR} {r : mRs} (h : run n d j pc ls st S I L R = some r) (hk : n ≤ k) : run k d j pc ls st S I L R = some r := by
  induction hk with
  | refl => exact h
  | step _ ih => exact run_more _ _ _ _ _ _ _ _ _ _ _ ih
theorem run_one {n k d j pc : Nat} {ls st : List Value} {S : mS} {I : mI} {L : mL} {R : mR} {r q : mRs} (h : run n d j pc ls st S I L R = some r) (h2 : run k d j pc ls st S I L R = some q) : r = q := by
  have a := run_le h (Nat.le_max_left n k)
  have b := run_le h2 (Nat.le_max_right n k)
  exact Option.some.inj (a.symm.trans b)
section EV
variable {d j pc : Nat} {ls st : List Value} {S : mS} {I : mI} {L : mL} {R : mR} {Q Q' : mQ} {o : mOp}
theorem Ev.mono (h : Ev d j pc ls st S I L R Q) (hq : ∀ v S I L R, Q v S I L R → Q' v S I L R) : Ev d j pc ls st S I L R Q' := by
  obtain ⟨n, r, h1, h2⟩ := h
  exact ⟨n, r, h1, hq _ _ _ _ _ h2⟩
theorem EvM.mono {as : List Value} (h : EvM d j as S I L R Q) (hq : ∀ v S I L R, Q v S I L R → Q' v S I L R) : EvM d j as S I L R Q' := ⟨h.1, Ev.mono h.2 hq⟩
theorem evm_in {as : List Value} (h : cs as ≤ mxL j) : EvM d j as S I L R Q = Ev d j 0 (ent (mxL j) as) [] S I L R Q := propext ⟨fun k => k.2, fun k => ⟨h, k⟩⟩
/-- a step -/
theorem ev_stp (ho : opAt j pc = some o) (h0 : o.1 ≠ 0) (h1 : o.1 ≠ 1) {q : mCf} (hf : mStp o o ls st S I L R = some q) : Ev (d + 1) j pc ls st S I L R Q = Ev (d + 1) j q.1 q.2.1 q.2.2.1 q.2.2.2.1 q.2.2.2.2.1 q.2.2.2.2.2.1 q.2.2.2.2.2.2 Q := by
  have key : ∀ n, run (n + 1) (d + 1) j pc ls st S I L R = run n (d + 1) j q.1 q.2.1 q.2.2.1 q.2.2.2.1 q.2.2.2.2.1 q.2.2.2.2.2.1 q.2.2.2.2.2.2 := by
    intro n
    rw [run]
    try dsimp only
    rw [ho]
    dsimp only
    rw [if_neg h0, if_neg h1, hf]
  apply propext
  constructor
  · rintro ⟨n, r, h, hq⟩
    cases n with
    | zero => simp [run] at h
    | succ n => rw [key] at h; exact ⟨n, r, h, hq⟩
  · rintro ⟨n, r, h, hq⟩
    exact ⟨n + 1, r, by rw [key]; exact h, hq⟩
/-- a step that can't be done -/
theorem ev_no (ho : opAt j pc = some o) (h0 : o.1 ≠ 0) (h1 : o.1 ≠ 1) (hf : mStp o o ls st S I L R = none) : Ev (d + 1) j pc ls st S I L R Q = False := by
  apply propext
  constructor
  · rintro ⟨n, r, h, hq⟩
    cases n with
    | zero => simp [run] at h
    | succ n =>
      rw [run] at h
      try dsimp only at h
      rw [ho] at h
      dsimp only at h
      rw [if_neg h0, if_neg h1, hf] at h
      cases h
  · exact False.elim
theorem ev_ret (ho : opAt j pc = some o) (h0 : o.1 = 0) {v : Value} (hv : mRt o st = some v) : Ev (d + 1) j pc ls st S I L R Q = Q v S I L R := by
  have key : ∀ n, run (n + 1) (d + 1) j pc ls st S I L R = some (v, S, I, L, R) := by
    intro n
    rw [run]
    try dsimp only
    rw [ho]
    dsimp only
    rw [if_pos h0, hv]
  apply propext
  constructor
  · rintro ⟨n, r, h, hq⟩
    cases n with
    | zero => simp [run] at h
    | succ n => rw [key] at h; cases h; exact hq
  · intro hq
    exact ⟨1, _, key 0, hq⟩
theorem ev_noret (ho : opAt j pc = some o) (h0 : o.1 = 0) (hv : mRt o st = none) : Ev (d + 1) j pc ls st S I L R Q = False := by
  apply propext
  constructor
  · rintro ⟨n, r, h, hq⟩
    cases n with
    | zero => simp [run] at h
    | succ n =>
      rw [run] at h
      try dsimp only at h
      rw [ho] at h
      dsimp only at h
      rw [if_pos h0, hv] at h
      cases h
  · exact False.elim
theorem ev_call (ho : opAt j pc = some o) (h1 : o.1 = 1) {q : List Value × List Value} (hq : mAr o st S = some q) : Ev (d + 1) j pc ls st S I L R Q = EvM d o.2.2.1 q.1 S I L R (fun v S I L R => Ev (d + 1) j o.2.1 ls (mPu o v q.2) S I L R Q) := by
  have key : ∀ n, run (n + 1) (d + 1) j pc ls st S I L R = (if cs q.1 ≤ mxL o.2.2.1 then (match run n d o.2.2.1 0 (ent (mxL o.2.2.1) q.1) [] S I L R with
            | none => none
            | some r => run n (d + 1) j o.2.1 ls (mPu o r.1 q.2) r.2.1 r.2.2.1 r.2.2.2.1 r.2.2.2.2) else none) := by
    intro n
    rw [run]
    try dsimp only
    rw [ho]
    dsimp only
    rw [if_neg (by rw [h1]; decide), if_pos h1, hq]
  apply propext
  constructor
  · rintro ⟨n, r, h, hr⟩
    cases n with
    | zero => simp [run] at h
    | succ n =>
      rw [key] at h
      by_cases hcs : cs q.1 ≤ mxL o.2.2.1
      case neg => rw [if_neg hcs] at h; cases h
      rw [if_pos hcs] at h
      cases hc : run n d o.2.2.1 0 (ent (mxL o.2.2.1) q.1) [] S I L R with
      | none => rw [hc] at h; cases h
      | some r1 =>
        rw [hc] at h
        exact ⟨hcs, n, r1, hc, n, r, h, hr⟩
  · rintro ⟨hcs, n, r1, hc, k, r, h, hr⟩
    refine ⟨max n k + 1, r, ?_, hr⟩
    rw [key, if_pos hcs, run_le hc (Nat.le_max_left n k)]
    exact run_le h (Nat.le_max_right n k)
theorem ev_nocall (ho : opAt j pc = some o) (h1 : o.1 = 1) (hq : mAr o st S = none) : Ev (d + 1) j pc ls st S I L R Q = False := by
  apply propext
  constructor
  · rintro ⟨n, r, h, hr⟩
    cases n with
    | zero => simp [run] at h
    | succ n =>
      rw [run] at h
      try dsimp only at h
      rw [ho] at h
      dsimp only at h
      rw [if_neg (by rw [h1]; decide), if_pos h1, hq] at h
      cases h
  · exact False.elim
/-- a method that is known to end so: the call is its end -/
theorem EvM.is {as : List Value} {v : Value} {S' : mS} {I' : mI} {L' : mL} {R' : mR} (h : EvM d j as S I L R (fun v2 S2 I2 L2 R2 => v2 = v ∧ S2 = S' ∧ I2 = I' ∧ L2 = L' ∧ R2 = R')) : EvM d j as S I L R Q = Q v S' I' L' R' := by
  obtain ⟨hc, n, r, h1, h2⟩ := h
  obtain ⟨rv, rS, rI, rL, rR⟩ := r
  obtain ⟨rfl, rfl, rfl, rfl, rfl⟩ := h2
  apply propext
  constructor
  · rintro ⟨-, k, q, hk, hq⟩
    cases run_one h1 hk
    exact hq
  · intro hq
    exact ⟨hc, n, _, h1, hq⟩
end EV
