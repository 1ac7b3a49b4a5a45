/-! group B: tokens on both sides -/
def rdl (g : Nat → Nat) (f : Nat) : Nat → List Nat
  | 0 => []
  | n + 1 => g (f + n) :: rdl g f n
def rcd : List Nat → Nat
  | [] => 0
  | d :: l => rcd l * 32 + d
def dok (l : List Nat) : Prop := ∀ d, d ∈ l → 1 ≤ d ∧ d ≤ 26
theorem dok.hd {d : Nat} {l : List Nat} (h : dok (d :: l)) : 1 ≤ d ∧ d ≤ 26 := h d (List.mem_cons_self ..)
theorem dok.tl {d : Nat} {l : List Nat} (h : dok (d :: l)) : dok l := fun x hx => h x (List.mem_cons_of_mem _ hx)
theorem rcd_inj : ∀ {l l' : List Nat}, dok l → dok l' → rcd l = rcd l' → l = l'
  | [], [], _, _, _ => rfl
  | [], d :: l, _, h, e => by
    have e' : 0 = rcd l * 32 + d := e
    have := h.hd
    omega
  | d :: l, [], h, _, e => by
    have e' : rcd l * 32 + d = 0 := e
    have := h.hd
    omega
  | d :: l, d' :: l', h, h', e => by
    have e' : rcd l * 32 + d = rcd l' * 32 + d' := e
    have a := h.hd
    have b := h'.hd
    have e1 : d = d' := by omega
    have e2 : rcd l = rcd l' := by omega
    rw [e1, rcd_inj h.tl h'.tl e2]
theorem rdl_len {g : Nat → Nat} {f : Nat} : ∀ n, (rdl g f n).length = n
  | 0 => rfl
  | n + 1 => by
    show (rdl g f n).length + 1 = n + 1
    rw [rdl_len n]
theorem rdl_eq {g h : Nat → Nat} {f : Nat} : ∀ n, (rdl g f n = rdl h 0 n ↔ ∀ i, i < n → g (f + i) = h i)
  | 0 => ⟨fun _ i hi => absurd hi (by omega), fun _ => rfl⟩
  | n + 1 => by
    have ih := rdl_eq (g := g) (h := h) (f := f) n
    show (g (f + n) :: rdl g f n = h (0 + n) :: rdl h 0 n) ↔ _
    rw [List.cons.injEq, ih, Nat.zero_add]
    constructor
    · rintro ⟨a, b⟩ i hi
      by_cases e : i = n
      · rw [e]; exact a
      · exact b i (by omega)
    · exact fun a => ⟨a n (by omega), fun i hi => a i (by omega)⟩
theorem rdl_dok {g : Nat → Nat} {f : Nat} : ∀ n, (∀ k, f ≤ k → k < f + n → 1 ≤ g k ∧ g k ≤ 26) → dok (rdl g f n)
  | 0, _ => fun d hd => by cases hd
  | n + 1, h => fun d hd => by
    rcases List.mem_cons.mp hd with e | hd
    · rw [e]; exact h _ (by omega) (by omega)
    · exact rdl_dok n (fun k h1 h2 => h k h1 (by omega)) d hd
theorem rcd_lt {g : Nat → Nat} {f : Nat} : ∀ n, (∀ k, f ≤ k → k < f + n → 1 ≤ g k ∧ g k ≤ 26) → rcd (rdl g f n) < 32 ^ n
  | 0, _ => by
    show 0 < 1
    decide
  | n + 1, h => by
    have a := rcd_lt n (fun k h1 h2 => h k h1 (by omega))
    have b := h (f + n) (by omega) (by omega)
    show rcd (rdl g f n) * 32 + g (f + n) < 32 ^ (n + 1)
    rw [Nat.pow_succ]
    omega
def gY (Y : Nat → Int32) (k : Nat) : Nat := (Y k).toNatClampNeg - 96
theorem smI {x : Int32} (h : smB x = true) : ∃ e, 1 ≤ e ∧ e ≤ 26 ∧ x = nI (96 + e) := by
  unfold smB at h
  rw [decide_eq_true_iff, Int32.lt_iff_toInt_lt, Int32.lt_iff_toInt_lt, show (97 : Int32).toInt = 97 from rfl, show (122 : Int32).toInt = 122 from rfl] at h
  refine ⟨x.toInt.toNat - 96, by omega, by omega, ti_nI (z := x.toInt) rfl (by omega) (by omega)⟩
theorem smG {Y : Nat → Int32} {k : Nat} (h : smB (Y k) = true) : 1 ≤ gY Y k ∧ gY Y k ≤ 26 ∧ Y k = nI (96 + gY Y k) := by
  obtain ⟨e, h1, h2, h3⟩ := smI h
  have q : gY Y k = e := by
    unfold gY
    rw [h3, nI_clamp (by omega)]
    omega
  rw [q]
  exact ⟨h1, h2, h3⟩
def rlt (k n : Nat) : List Nat := rdl (fun i => (lch k i).toNatClampNeg - 96) 0 n
theorem iwF_iff {X : mI} {t : Nat} {ch : Nat → Int32} {x : Nat} : ∀ m i, (iwF X t ch x m i = true ↔ ∀ j, i ≤ j → j < i + m → X t (x + j) = ch j)
  | 0, i => ⟨fun _ j h1 h2 => absurd h2 (by omega), fun _ => rfl⟩
  | m + 1, i => by
    have ih := iwF_iff (X := X) (t := t) (ch := ch) (x := x) m (i + 1)
    unfold iwF
    by_cases g : X t (x + i) = ch i
    · rw [if_pos g, ih]
      constructor
      · intro h j h1 h2
        by_cases e : j = i
        · rw [e]; exact g
        · exact h j (by omega) (by omega)
      · exact fun h j h1 h2 => h j (by omega) (by omega)
    · rw [if_neg g]
      exact ⟨fun h => (by cases h), fun h => absurd (h i (Nat.le_refl i) (by omega)) g⟩
theorem iw_rdl {X : mI} {Y : Nat → Int32} {f e n k : Nat} (hX : ∀ j, f ≤ j → j < e → X 13 j = Y j ∧ smB (Y j) = true) (hl : ∀ i, i < n → smB (lch k i) = true) (hfe : f ≤ e) : iw X 13 n (lch k) f e = true ↔ rdl (gY Y) f (e - f) = rlt k n := by
  unfold iw
  by_cases g : e = f + n
  · rw [if_pos g, iwF_iff, show e - f = n by omega]
    unfold rlt
    rw [rdl_eq]
    constructor
    · intro h i hi
      have a := h i (Nat.zero_le i) (by omega)
      rw [(hX (f + i) (by omega) (by omega)).1] at a
      show (Y (f + i)).toNatClampNeg - 96 = _
      rw [a]
    · intro h i _ hi
      have b := hX (f + i) (by omega) (by omega)
      have c := smG b.2
      obtain ⟨u, u1, u2, u3⟩ := smI (hl i (by omega))
      have d := h i (by omega)
      rw [u3, nI_clamp (by omega), show 96 + u - 96 = u by omega] at d
      rw [b.1, c.2.2, d, u3]
  · rw [if_neg g]
    refine ⟨fun h => (by cases h), fun h => absurd ?_ g⟩
    have q := congrArg List.length h
    unfold rlt at q
    rw [rdl_len, rdl_len] at q
    omega
def wv (Y : Nat → Int32) (f n : Nat) : Int64 := if n ≤ 10 then Int64.ofNat (rcd (rdl (gY Y) f n)) else -1
theorem wv_iff {Y : Nat → Int32} {f n k l : Nat} (hY : ∀ j, f ≤ j → j < f + n → smB (Y j) = true) (hl : ∀ i, i < l → smB (lch k i) = true) (h8 : l ≤ 8) : wv Y f n = Int64.ofNat (rcd (rlt k l)) ↔ rdl (gY Y) f n = rlt k l := by
  have dk : ∀ j, f ≤ j → j < f + n → 1 ≤ gY Y j ∧ gY Y j ≤ 26 := fun j h1 h2 => ⟨(smG (hY j h1 h2)).1, (smG (hY j h1 h2)).2.1⟩
  have dl : ∀ j, 0 ≤ j → j < 0 + l → 1 ≤ (fun i => (lch k i).toNatClampNeg - 96) j ∧ (fun i => (lch k i).toNatClampNeg - 96) j ≤ 26 := fun j _ h2 => by
    obtain ⟨u, u1, u2, u3⟩ := smI (hl j (by omega))
    show 1 ≤ (lch k j).toNatClampNeg - 96 ∧ (lch k j).toNatClampNeg - 96 ≤ 26
    rw [u3, nI_clamp (by omega)]
    omega
  have bl : rcd (rlt k l) < 32 ^ 10 := Nat.lt_of_lt_of_le (rcd_lt l dl) (Nat.pow_le_pow_right (by decide) (by omega))
  have p10 : 32 ^ 10 = 1125899906842624 := by decide
  unfold wv
  by_cases g : n ≤ 10
  · rw [if_pos g]
    have bn : rcd (rdl (gY Y) f n) < 32 ^ 10 := Nat.lt_of_lt_of_le (rcd_lt n dk) (Nat.pow_le_pow_right (by decide) g)
    constructor
    · intro h
      refine rcd_inj (rdl_dok n dk) (rdl_dok l dl) ?_
      have q := congrArg Int64.toInt h
      rw [Int64.toInt_ofNat_of_lt (by omega), Int64.toInt_ofNat_of_lt (by omega)] at q
      have q' : rcd (rdl (gY Y) f n) = rcd (rlt k l) := by omega
      exact q'
    · intro h
      rw [h]
  · rw [if_neg g]
    constructor
    · intro h
      have q := congrArg Int64.toInt h
      rw [Int64.toInt_ofNat_of_lt (by omega), show (-1 : Int64).toInt = -1 from rfl] at q
      omega
    · intro h
      have q := congrArg List.length h
      unfold rlt at q
      rw [rdl_len, rdl_len] at q
      omega
theorem i64n {a b e : Nat} (hb : b + e < 2 ^ 31) : Int64.ofNat a * 32 + (nI (b + e)).toInt64 - Int64.ofNat b = Int64.ofNat (a * 32 + e) := by
  rw [ni64_m hb, show (32 : Int64) = Int64.ofNat 32 from rfl, ← Int64.ofNat_mul, Nat.add_comm b e, Int64.ofNat_add, ← Int64.add_assoc, Int64.add_sub_cancel, ← Int64.ofNat_add]
theorem wv_s {Y : Nat → Int32} {f j : Nat} (hj : j < 10) (h : smB (Y (f + j)) = true) : wv Y f j * 32 + (Y (f + j)).toInt64 - 96 = wv Y f (j + 1) := by
  obtain ⟨h1, h2, h3⟩ := smG h
  unfold wv
  rw [if_pos (by omega), if_pos (by omega), h3]
  exact i64n (a := rcd (rdl (gY Y) f j)) (b := 96) (e := gY Y (f + j)) (by omega)
theorem wv_m {Y : Nat → Int32} {f j : Nat} (hj : ¬ j < 10) : wv Y f (j + 1) = -1 := if_neg (by omega)
def wcd (w : Int64) : Int32 := if w = 655 then (-3 : Int32) else if w = 294 then (-4 : Int32) else if w = 498 then (-5 : Int32) else if w = 1476 then (-6 : Int32) else if w = 14836 then (-7 : Int32) else if w = 313838 then (-45 : Int32) else if w = 8692 then (-46 : Int32) else if w = 3322259 then (-41 : Int32) else if w = 398548 then (-42 : Int32) else if w = 8554131 then (-43 : Int32) else if w = 659117163 then (-44 : Int32) else if w = 206405 then (-20 : Int32) else if w = 659105125 then (-21 : Int32) else if w = 661950697650 then (-22 : Int32) else if w = 17479784 then (-23 : Int32) else if w = 759172 then (-24 : Int32) else if w = 239 then (-25 : Int32) else -2
theorem lsm0 : ∀ i, i < 2 → smB (lch 0 i) = true := by decide
theorem lky0 : Int64.ofNat (rcd (rlt 0 2)) = 655 := by decide
theorem lsm1 : ∀ i, i < 2 → smB (lch 1 i) = true := by decide
theorem lky1 : Int64.ofNat (rcd (rlt 1 2)) = 294 := by decide
theorem lsm2 : ∀ i, i < 2 → smB (lch 2 i) = true := by decide
theorem lky2 : Int64.ofNat (rcd (rlt 2 2)) = 498 := by decide
theorem lsm3 : ∀ i, i < 3 → smB (lch 3 i) = true := by decide
theorem lky3 : Int64.ofNat (rcd (rlt 3 3)) = 1476 := by decide
theorem lsm4 : ∀ i, i < 3 → smB (lch 4 i) = true := by decide
theorem lky4 : Int64.ofNat (rcd (rlt 4 3)) = 14836 := by decide
theorem lsm5 : ∀ i, i < 4 → smB (lch 5 i) = true := by decide
theorem lky5 : Int64.ofNat (rcd (rlt 5 4)) = 313838 := by decide
theorem lsm6 : ∀ i, i < 3 → smB (lch 6 i) = true := by decide
theorem lky6 : Int64.ofNat (rcd (rlt 6 3)) = 8692 := by decide
theorem lsm7 : ∀ i, i < 5 → smB (lch 7 i) = true := by decide
theorem lky7 : Int64.ofNat (rcd (rlt 7 5)) = 3322259 := by decide
theorem lsm8 : ∀ i, i < 4 → smB (lch 8 i) = true := by decide
theorem lky8 : Int64.ofNat (rcd (rlt 8 4)) = 398548 := by decide
theorem lsm9 : ∀ i, i < 5 → smB (lch 9 i) = true := by decide
theorem lky9 : Int64.ofNat (rcd (rlt 9 5)) = 8554131 := by decide
theorem lsm10 : ∀ i, i < 6 → smB (lch 10 i) = true := by decide
theorem lky10 : Int64.ofNat (rcd (rlt 10 6)) = 659117163 := by decide
theorem lsm11 : ∀ i, i < 4 → smB (lch 11 i) = true := by decide
theorem lky11 : Int64.ofNat (rcd (rlt 11 4)) = 206405 := by decide
theorem lsm12 : ∀ i, i < 6 → smB (lch 12 i) = true := by decide
theorem lky12 : Int64.ofNat (rcd (rlt 12 6)) = 659105125 := by decide
theorem lsm13 : ∀ i, i < 8 → smB (lch 13 i) = true := by decide
theorem lky13 : Int64.ofNat (rcd (rlt 13 8)) = 661950697650 := by decide
theorem lsm14 : ∀ i, i < 5 → smB (lch 14 i) = true := by decide
theorem lky14 : Int64.ofNat (rcd (rlt 14 5)) = 17479784 := by decide
theorem lsm15 : ∀ i, i < 4 → smB (lch 15 i) = true := by decide
theorem lky15 : Int64.ofNat (rcd (rlt 15 4)) = 759172 := by decide
theorem lsm16 : ∀ i, i < 2 → smB (lch 16 i) = true := by decide
theorem lky16 : Int64.ofNat (rcd (rlt 16 2)) = 239 := by decide
theorem wdF_c {X : mI} {Y : Nat → Int32} {f e : Nat} (hX : ∀ j, f ≤ j → j < e → X 13 j = Y j ∧ smB (Y j) = true) (hfe : f ≤ e) : wdF X 13 f e = wcd (wv Y f (e - f)) := by
  have hY : ∀ j, f ≤ j → j < f + (e - f) → smB (Y j) = true := fun j h1 h2 => (hX j h1 (by omega)).2
  have i0 : (iw X 13 2 (lch 0) f e = true) = (wv Y f (e - f) = 655) := propext ((iw_rdl hX lsm0 hfe).trans (by rw [← lky0]; exact (wv_iff hY lsm0 (by decide)).symm))
  have i1 : (iw X 13 2 (lch 1) f e = true) = (wv Y f (e - f) = 294) := propext ((iw_rdl hX lsm1 hfe).trans (by rw [← lky1]; exact (wv_iff hY lsm1 (by decide)).symm))
  have i2 : (iw X 13 2 (lch 2) f e = true) = (wv Y f (e - f) = 498) := propext ((iw_rdl hX lsm2 hfe).trans (by rw [← lky2]; exact (wv_iff hY lsm2 (by decide)).symm))
  have i3 : (iw X 13 3 (lch 3) f e = true) = (wv Y f (e - f) = 1476) := propext ((iw_rdl hX lsm3 hfe).trans (by rw [← lky3]; exact (wv_iff hY lsm3 (by decide)).symm))
  have i4 : (iw X 13 3 (lch 4) f e = true) = (wv Y f (e - f) = 14836) := propext ((iw_rdl hX lsm4 hfe).trans (by rw [← lky4]; exact (wv_iff hY lsm4 (by decide)).symm))
  have i5 : (iw X 13 4 (lch 5) f e = true) = (wv Y f (e - f) = 313838) := propext ((iw_rdl hX lsm5 hfe).trans (by rw [← lky5]; exact (wv_iff hY lsm5 (by decide)).symm))
  have i6 : (iw X 13 3 (lch 6) f e = true) = (wv Y f (e - f) = 8692) := propext ((iw_rdl hX lsm6 hfe).trans (by rw [← lky6]; exact (wv_iff hY lsm6 (by decide)).symm))
  have i7 : (iw X 13 5 (lch 7) f e = true) = (wv Y f (e - f) = 3322259) := propext ((iw_rdl hX lsm7 hfe).trans (by rw [← lky7]; exact (wv_iff hY lsm7 (by decide)).symm))
  have i8 : (iw X 13 4 (lch 8) f e = true) = (wv Y f (e - f) = 398548) := propext ((iw_rdl hX lsm8 hfe).trans (by rw [← lky8]; exact (wv_iff hY lsm8 (by decide)).symm))
  have i9 : (iw X 13 5 (lch 9) f e = true) = (wv Y f (e - f) = 8554131) := propext ((iw_rdl hX lsm9 hfe).trans (by rw [← lky9]; exact (wv_iff hY lsm9 (by decide)).symm))
  have i10 : (iw X 13 6 (lch 10) f e = true) = (wv Y f (e - f) = 659117163) := propext ((iw_rdl hX lsm10 hfe).trans (by rw [← lky10]; exact (wv_iff hY lsm10 (by decide)).symm))
  have i11 : (iw X 13 4 (lch 11) f e = true) = (wv Y f (e - f) = 206405) := propext ((iw_rdl hX lsm11 hfe).trans (by rw [← lky11]; exact (wv_iff hY lsm11 (by decide)).symm))
  have i12 : (iw X 13 6 (lch 12) f e = true) = (wv Y f (e - f) = 659105125) := propext ((iw_rdl hX lsm12 hfe).trans (by rw [← lky12]; exact (wv_iff hY lsm12 (by decide)).symm))
  have i13 : (iw X 13 8 (lch 13) f e = true) = (wv Y f (e - f) = 661950697650) := propext ((iw_rdl hX lsm13 hfe).trans (by rw [← lky13]; exact (wv_iff hY lsm13 (by decide)).symm))
  have i14 : (iw X 13 5 (lch 14) f e = true) = (wv Y f (e - f) = 17479784) := propext ((iw_rdl hX lsm14 hfe).trans (by rw [← lky14]; exact (wv_iff hY lsm14 (by decide)).symm))
  have i15 : (iw X 13 4 (lch 15) f e = true) = (wv Y f (e - f) = 759172) := propext ((iw_rdl hX lsm15 hfe).trans (by rw [← lky15]; exact (wv_iff hY lsm15 (by decide)).symm))
  have i16 : (iw X 13 2 (lch 16) f e = true) = (wv Y f (e - f) = 239) := propext ((iw_rdl hX lsm16 hfe).trans (by rw [← lky16]; exact (wv_iff hY lsm16 (by decide)).symm))
  generalize wv Y f (e - f) = w at i0 i1 i2 i3 i4 i5 i6 i7 i8 i9 i10 i11 i12 i13 i14 i15 i16
  unfold wdF ptF spF wcd
  simp only [i0, i1, i2, i3, i4, i5, i6, i7, i8, i9, i10, i11, i12, i13, i14, i15, i16]
  by_cases h0 : w = 655
  · rw [h0]; decide
  by_cases h1 : w = 294
  · rw [h1]; decide
  by_cases h2 : w = 498
  · rw [h2]; decide
  by_cases h3 : w = 1476
  · rw [h3]; decide
  by_cases h4 : w = 14836
  · rw [h4]; decide
  by_cases h5 : w = 313838
  · rw [h5]; decide
  by_cases h6 : w = 8692
  · rw [h6]; decide
  by_cases h7 : w = 3322259
  · rw [h7]; decide
  by_cases h8 : w = 398548
  · rw [h8]; decide
  by_cases h9 : w = 8554131
  · rw [h9]; decide
  by_cases h10 : w = 659117163
  · rw [h10]; decide
  by_cases h11 : w = 206405
  · rw [h11]; decide
  by_cases h12 : w = 659105125
  · rw [h12]; decide
  by_cases h13 : w = 661950697650
  · rw [h13]; decide
  by_cases h14 : w = 17479784
  · rw [h14]; decide
  by_cases h15 : w = 759172
  · rw [h15]; decide
  by_cases h16 : w = 239
  · rw [h16]; decide
  simp only [h0, h1, h2, h3, h4, h5, h6, h7, h8, h9, h10, h11, h12, h13, h14, h15, h16, ↓reduceIte]
  all_goals decide
theorem wcd_o (w : Int64) : (w = 655 ∧ wcd w = -3) ∨ (w = 294 ∧ wcd w = -4) ∨ (w = 498 ∧ wcd w = -5) ∨ (w = 1476 ∧ wcd w = -6) ∨ (w = 14836 ∧ wcd w = -7) ∨ (w = 313838 ∧ wcd w = -45) ∨ (w = 8692 ∧ wcd w = -46) ∨ (w = 3322259 ∧ wcd w = -41) ∨ (w = 398548 ∧ wcd w = -42) ∨ (w = 8554131 ∧ wcd w = -43) ∨ (w = 659117163 ∧ wcd w = -44) ∨ (w = 206405 ∧ wcd w = -20) ∨ (w = 659105125 ∧ wcd w = -21) ∨ (w = 661950697650 ∧ wcd w = -22) ∨ (w = 17479784 ∧ wcd w = -23) ∨ (w = 759172 ∧ wcd w = -24) ∨ (w = 239 ∧ wcd w = -25) ∨ (wcd w = -2 ∧ ¬ w = 655 ∧ ¬ w = 294 ∧ ¬ w = 498 ∧ ¬ w = 1476 ∧ ¬ w = 14836 ∧ ¬ w = 313838 ∧ ¬ w = 8692 ∧ ¬ w = 3322259 ∧ ¬ w = 398548 ∧ ¬ w = 8554131 ∧ ¬ w = 659117163 ∧ ¬ w = 206405 ∧ ¬ w = 659105125 ∧ ¬ w = 661950697650 ∧ ¬ w = 17479784 ∧ ¬ w = 759172 ∧ ¬ w = 239) := by
  by_cases h0 : w = 655
  · exact Or.inl ⟨h0, by rw [h0]; decide⟩
  by_cases h1 : w = 294
  · exact Or.inr (Or.inl ⟨h1, by rw [h1]; decide⟩)
  by_cases h2 : w = 498
  · exact Or.inr (Or.inr (Or.inl ⟨h2, by rw [h2]; decide⟩))
  by_cases h3 : w = 1476
  · exact Or.inr (Or.inr (Or.inr (Or.inl ⟨h3, by rw [h3]; decide⟩)))
  by_cases h4 : w = 14836
  · exact Or.inr (Or.inr (Or.inr (Or.inr (Or.inl ⟨h4, by rw [h4]; decide⟩))))
  by_cases h5 : w = 313838
  · exact Or.inr (Or.inr (Or.inr (Or.inr (Or.inr (Or.inl ⟨h5, by rw [h5]; decide⟩)))))
  by_cases h6 : w = 8692
  · exact Or.inr (Or.inr (Or.inr (Or.inr (Or.inr (Or.inr (Or.inl ⟨h6, by rw [h6]; decide⟩))))))
  by_cases h7 : w = 3322259
  · exact Or.inr (Or.inr (Or.inr (Or.inr (Or.inr (Or.inr (Or.inr (Or.inl ⟨h7, by rw [h7]; decide⟩)))))))
  by_cases h8 : w = 398548
  · exact Or.inr (Or.inr (Or.inr (Or.inr (Or.inr (Or.inr (Or.inr (Or.inr (Or.inl ⟨h8, by rw [h8]; decide⟩))))))))
  by_cases h9 : w = 8554131
  · exact Or.inr (Or.inr (Or.inr (Or.inr (Or.inr (Or.inr (Or.inr (Or.inr (Or.inr (Or.inl ⟨h9, by rw [h9]; decide⟩)))))))))
  by_cases h10 : w = 659117163
  · exact Or.inr (Or.inr (Or.inr (Or.inr (Or.inr (Or.inr (Or.inr (Or.inr (Or.inr (Or.inr (Or.inl ⟨h10, by rw [h10]; decide⟩))))))))))
  by_cases h11 : w = 206405
  · exact Or.inr (Or.inr (Or.inr (Or.inr (Or.inr (Or.inr (Or.inr (Or.inr (Or.inr (Or.inr (Or.inr (Or.inl ⟨h11, by rw [h11]; decide⟩)))))))))))
  by_cases h12 : w = 659105125
  · exact Or.inr (Or.inr (Or.inr (Or.inr (Or.inr (Or.inr (Or.inr (Or.inr (Or.inr (Or.inr (Or.inr (Or.inr (Or.inl ⟨h12, by rw [h12]; decide⟩))))))))))))
  by_cases h13 : w = 661950697650
  · exact Or.inr (Or.inr (Or.inr (Or.inr (Or.inr (Or.inr (Or.inr (Or.inr (Or.inr (Or.inr (Or.inr (Or.inr (Or.inr (Or.inl ⟨h13, by rw [h13]; decide⟩)))))))))))))
  by_cases h14 : w = 17479784
  · exact Or.inr (Or.inr (Or.inr (Or.inr (Or.inr (Or.inr (Or.inr (Or.inr (Or.inr (Or.inr (Or.inr (Or.inr (Or.inr (Or.inr (Or.inl ⟨h14, by rw [h14]; decide⟩))))))))))))))
  by_cases h15 : w = 759172
  · exact Or.inr (Or.inr (Or.inr (Or.inr (Or.inr (Or.inr (Or.inr (Or.inr (Or.inr (Or.inr (Or.inr (Or.inr (Or.inr (Or.inr (Or.inr (Or.inl ⟨h15, by rw [h15]; decide⟩)))))))))))))))
  by_cases h16 : w = 239
  · exact Or.inr (Or.inr (Or.inr (Or.inr (Or.inr (Or.inr (Or.inr (Or.inr (Or.inr (Or.inr (Or.inr (Or.inr (Or.inr (Or.inr (Or.inr (Or.inr (Or.inl ⟨h16, by rw [h16]; decide⟩))))))))))))))))
  refine Or.inr (Or.inr (Or.inr (Or.inr (Or.inr (Or.inr (Or.inr (Or.inr (Or.inr (Or.inr (Or.inr (Or.inr (Or.inr (Or.inr (Or.inr (Or.inr (Or.inr (⟨?_, h0, h1, h2, h3, h4, h5, h6, h7, h8, h9, h10, h11, h12, h13, h14, h15, h16⟩)))))))))))))))))
  unfold wcd
  simp only [h0, h1, h2, h3, h4, h5, h6, h7, h8, h9, h10, h11, h12, h13, h14, h15, h16, ↓reduceIte]
/-- a token's code, sort, worth -/
def Tv (c s : Int32) (w : Int64) : Prop := (s = 0 ∧ c = -1) ∨ (s = 1 ∧ c = wcd w) ∨ (s = 2 ∧ ∃ g : Nat, g ≤ 20000 ∧ w = Int64.ofNat g ∧ c = nI (if g ≤ 1000 then g else 1000)) ∨ (s = 3 ∧ ∃ u : Nat, u < 256 ∧ w = Int64.ofNat u ∧ c = -100 - nI u)
theorem sg_t : ∀ u, u < 256 → (-100 - nI u : Int32).toInt = -100 - (u : Int) := by decide +kernel
theorem Tv.z {c s : Int32} {w : Int64} (h : Tv c s w) : (s = 0 ↔ c = -1) := by
  rcases h with ⟨h1, h2⟩ | ⟨h1, h2⟩ | ⟨h1, g, h2, h3, h4⟩ | ⟨h1, u, h2, h3, h4⟩
  · exact ⟨fun _ => h2, fun _ => h1⟩
  · have : ¬ c = -1 := fun z => by
      rw [h2] at z
      rcases wcd_o w with ⟨_, q⟩ | ⟨_, q⟩ | ⟨_, q⟩ | ⟨_, q⟩ | ⟨_, q⟩ | ⟨_, q⟩ | ⟨_, q⟩ | ⟨_, q⟩ | ⟨_, q⟩ | ⟨_, q⟩ | ⟨_, q⟩ | ⟨_, q⟩ | ⟨_, q⟩ | ⟨_, q⟩ | ⟨_, q⟩ | ⟨_, q⟩ | ⟨_, q⟩ | ⟨q, _⟩ <;> (rw [q] at z; exact absurd z (by decide))
    exact ⟨fun z => absurd (h1.symm.trans z) (by decide), fun z => absurd z this⟩
  · exact ⟨fun z => absurd (h1.symm.trans z) (by decide), fun z => by
      have q := congrArg Int32.toInt (h4.symm.trans z)
      rw [nI_toInt (by split <;> omega), show (-1 : Int32).toInt = -1 from rfl] at q
      omega⟩
  · exact ⟨fun z => absurd (h1.symm.trans z) (by decide), fun z => by
      have q := congrArg Int32.toInt (h4.symm.trans z)
      rw [sg_t u h2, show (-1 : Int32).toInt = -1 from rfl] at q
      omega⟩
theorem Tv.wc {c s : Int32} {w : Int64} (h : Tv c s w) (h1 : -100 < c.toInt) (h2 : c.toInt < -1) : s = 1 ∧ c = wcd w := by
  rcases h with ⟨_, h3⟩ | h | ⟨_, g, h3, h4, h5⟩ | ⟨_, u, h3, h4, h5⟩
  · rw [h3] at h2; exact absurd h2 (by decide)
  · exact h
  · rw [h5, nI_toInt (by split <;> omega)] at h2
    omega
  · rw [h5, sg_t u h3] at h1
    omega
theorem Tv.sg {c s : Int32} {w : Int64} (h : Tv c s w) {x : Nat} (hx : x < 256) : (s = 3 ∧ w = (nI x).toInt64) ↔ c = -100 - nI x := by
  constructor
  · rintro ⟨e1, e2⟩
    rcases h with ⟨h1, _⟩ | ⟨h1, _⟩ | ⟨h1, _⟩ | ⟨_, u, h2, h3, h4⟩
    · exact absurd (e1.symm.trans h1) (by decide)
    · exact absurd (e1.symm.trans h1) (by decide)
    · exact absurd (e1.symm.trans h1) (by decide)
    · rw [h3, ni64_m (by omega)] at e2
      have q := congrArg Int64.toInt e2
      rw [Int64.toInt_ofNat_of_lt (by omega), Int64.toInt_ofNat_of_lt (by omega)] at q
      rw [h4, show u = x by omega]
  · intro e
    have et : c.toInt = -100 - (x : Int) := by rw [e]; exact sg_t x hx
    rcases h with ⟨_, h3⟩ | ⟨h1, h2⟩ | ⟨_, g, h3, h4, h5⟩ | ⟨h1, u, h3, h4, h5⟩
    · rw [h3] at et; rw [show (-1 : Int32).toInt = -1 from rfl] at et; omega
    · exfalso
      rw [h2] at et
      rcases wcd_o w with ⟨_, q⟩ | ⟨_, q⟩ | ⟨_, q⟩ | ⟨_, q⟩ | ⟨_, q⟩ | ⟨_, q⟩ | ⟨_, q⟩ | ⟨_, q⟩ | ⟨_, q⟩ | ⟨_, q⟩ | ⟨_, q⟩ | ⟨_, q⟩ | ⟨_, q⟩ | ⟨_, q⟩ | ⟨_, q⟩ | ⟨_, q⟩ | ⟨_, q⟩ | ⟨q, _⟩ <;> (rw [q] at et; revert et; simp only [show (-2 : Int32).toInt = -2 from rfl, show (-3 : Int32).toInt = -3 from rfl, show (-4 : Int32).toInt = -4 from rfl, show (-5 : Int32).toInt = -5 from rfl, show (-6 : Int32).toInt = -6 from rfl, show (-7 : Int32).toInt = -7 from rfl, show (-45 : Int32).toInt = -45 from rfl, show (-46 : Int32).toInt = -46 from rfl, show (-41 : Int32).toInt = -41 from rfl, show (-42 : Int32).toInt = -42 from rfl, show (-43 : Int32).toInt = -43 from rfl, show (-44 : Int32).toInt = -44 from rfl, show (-20 : Int32).toInt = -20 from rfl, show (-21 : Int32).toInt = -21 from rfl, show (-22 : Int32).toInt = -22 from rfl, show (-23 : Int32).toInt = -23 from rfl, show (-24 : Int32).toInt = -24 from rfl, show (-25 : Int32).toInt = -25 from rfl]; omega)
    · rw [h5, nI_toInt (by split <;> omega)] at et
      omega
    · rw [h5, sg_t u h3] at et
      rw [show x = u by omega, ni64_m (by omega)]
      exact ⟨h1, h4⟩
theorem wcd_0 {w : Int64} : wcd w = -3 ↔ w = 655 := by
  constructor
  · intro h
    rcases wcd_o w with ⟨p, q⟩ | ⟨p, q⟩ | ⟨p, q⟩ | ⟨p, q⟩ | ⟨p, q⟩ | ⟨p, q⟩ | ⟨p, q⟩ | ⟨p, q⟩ | ⟨p, q⟩ | ⟨p, q⟩ | ⟨p, q⟩ | ⟨p, q⟩ | ⟨p, q⟩ | ⟨p, q⟩ | ⟨p, q⟩ | ⟨p, q⟩ | ⟨p, q⟩ | ⟨q, _⟩
    all_goals first
      | exact p
      | (rw [q] at h; exact absurd h (by decide))
  · intro h
    rw [h]
    decide
theorem wcd_1 {w : Int64} : wcd w = -4 ↔ w = 294 := by
  constructor
  · intro h
    rcases wcd_o w with ⟨p, q⟩ | ⟨p, q⟩ | ⟨p, q⟩ | ⟨p, q⟩ | ⟨p, q⟩ | ⟨p, q⟩ | ⟨p, q⟩ | ⟨p, q⟩ | ⟨p, q⟩ | ⟨p, q⟩ | ⟨p, q⟩ | ⟨p, q⟩ | ⟨p, q⟩ | ⟨p, q⟩ | ⟨p, q⟩ | ⟨p, q⟩ | ⟨p, q⟩ | ⟨q, _⟩
    all_goals first
      | exact p
      | (rw [q] at h; exact absurd h (by decide))
  · intro h
    rw [h]
    decide
theorem wcd_2 {w : Int64} : wcd w = -5 ↔ w = 498 := by
  constructor
  · intro h
    rcases wcd_o w with ⟨p, q⟩ | ⟨p, q⟩ | ⟨p, q⟩ | ⟨p, q⟩ | ⟨p, q⟩ | ⟨p, q⟩ | ⟨p, q⟩ | ⟨p, q⟩ | ⟨p, q⟩ | ⟨p, q⟩ | ⟨p, q⟩ | ⟨p, q⟩ | ⟨p, q⟩ | ⟨p, q⟩ | ⟨p, q⟩ | ⟨p, q⟩ | ⟨p, q⟩ | ⟨q, _⟩
    all_goals first
      | exact p
      | (rw [q] at h; exact absurd h (by decide))
  · intro h
    rw [h]
    decide
theorem wcd_3 {w : Int64} : wcd w = -6 ↔ w = 1476 := by
  constructor
  · intro h
    rcases wcd_o w with ⟨p, q⟩ | ⟨p, q⟩ | ⟨p, q⟩ | ⟨p, q⟩ | ⟨p, q⟩ | ⟨p, q⟩ | ⟨p, q⟩ | ⟨p, q⟩ | ⟨p, q⟩ | ⟨p, q⟩ | ⟨p, q⟩ | ⟨p, q⟩ | ⟨p, q⟩ | ⟨p, q⟩ | ⟨p, q⟩ | ⟨p, q⟩ | ⟨p, q⟩ | ⟨q, _⟩
    all_goals first
      | exact p
      | (rw [q] at h; exact absurd h (by decide))
  · intro h
    rw [h]
    decide
theorem wcd_4 {w : Int64} : wcd w = -7 ↔ w = 14836 := by
  constructor
  · intro h
    rcases wcd_o w with ⟨p, q⟩ | ⟨p, q⟩ | ⟨p, q⟩ | ⟨p, q⟩ | ⟨p, q⟩ | ⟨p, q⟩ | ⟨p, q⟩ | ⟨p, q⟩ | ⟨p, q⟩ | ⟨p, q⟩ | ⟨p, q⟩ | ⟨p, q⟩ | ⟨p, q⟩ | ⟨p, q⟩ | ⟨p, q⟩ | ⟨p, q⟩ | ⟨p, q⟩ | ⟨q, _⟩
    all_goals first
      | exact p
      | (rw [q] at h; exact absurd h (by decide))
  · intro h
    rw [h]
    decide
theorem wcd_5 {w : Int64} : wcd w = -45 ↔ w = 313838 := by
  constructor
  · intro h
    rcases wcd_o w with ⟨p, q⟩ | ⟨p, q⟩ | ⟨p, q⟩ | ⟨p, q⟩ | ⟨p, q⟩ | ⟨p, q⟩ | ⟨p, q⟩ | ⟨p, q⟩ | ⟨p, q⟩ | ⟨p, q⟩ | ⟨p, q⟩ | ⟨p, q⟩ | ⟨p, q⟩ | ⟨p, q⟩ | ⟨p, q⟩ | ⟨p, q⟩ | ⟨p, q⟩ | ⟨q, _⟩
    all_goals first
      | exact p
      | (rw [q] at h; exact absurd h (by decide))
  · intro h
    rw [h]
    decide
theorem wcd_6 {w : Int64} : wcd w = -46 ↔ w = 8692 := by
  constructor
  · intro h
    rcases wcd_o w with ⟨p, q⟩ | ⟨p, q⟩ | ⟨p, q⟩ | ⟨p, q⟩ | ⟨p, q⟩ | ⟨p, q⟩ | ⟨p, q⟩ | ⟨p, q⟩ | ⟨p, q⟩ | ⟨p, q⟩ | ⟨p, q⟩ | ⟨p, q⟩ | ⟨p, q⟩ | ⟨p, q⟩ | ⟨p, q⟩ | ⟨p, q⟩ | ⟨p, q⟩ | ⟨q, _⟩
    all_goals first
      | exact p
      | (rw [q] at h; exact absurd h (by decide))
  · intro h
    rw [h]
    decide
theorem wcd_7 {w : Int64} : wcd w = -41 ↔ w = 3322259 := by
  constructor
  · intro h
    rcases wcd_o w with ⟨p, q⟩ | ⟨p, q⟩ | ⟨p, q⟩ | ⟨p, q⟩ | ⟨p, q⟩ | ⟨p, q⟩ | ⟨p, q⟩ | ⟨p, q⟩ | ⟨p, q⟩ | ⟨p, q⟩ | ⟨p, q⟩ | ⟨p, q⟩ | ⟨p, q⟩ | ⟨p, q⟩ | ⟨p, q⟩ | ⟨p, q⟩ | ⟨p, q⟩ | ⟨q, _⟩
    all_goals first
      | exact p
      | (rw [q] at h; exact absurd h (by decide))
  · intro h
    rw [h]
    decide
theorem wcd_8 {w : Int64} : wcd w = -42 ↔ w = 398548 := by
  constructor
  · intro h
    rcases wcd_o w with ⟨p, q⟩ | ⟨p, q⟩ | ⟨p, q⟩ | ⟨p, q⟩ | ⟨p, q⟩ | ⟨p, q⟩ | ⟨p, q⟩ | ⟨p, q⟩ | ⟨p, q⟩ | ⟨p, q⟩ | ⟨p, q⟩ | ⟨p, q⟩ | ⟨p, q⟩ | ⟨p, q⟩ | ⟨p, q⟩ | ⟨p, q⟩ | ⟨p, q⟩ | ⟨q, _⟩
    all_goals first
      | exact p
      | (rw [q] at h; exact absurd h (by decide))
  · intro h
    rw [h]
    decide
theorem wcd_9 {w : Int64} : wcd w = -43 ↔ w = 8554131 := by
  constructor
  · intro h
    rcases wcd_o w with ⟨p, q⟩ | ⟨p, q⟩ | ⟨p, q⟩ | ⟨p, q⟩ | ⟨p, q⟩ | ⟨p, q⟩ | ⟨p, q⟩ | ⟨p, q⟩ | ⟨p, q⟩ | ⟨p, q⟩ | ⟨p, q⟩ | ⟨p, q⟩ | ⟨p, q⟩ | ⟨p, q⟩ | ⟨p, q⟩ | ⟨p, q⟩ | ⟨p, q⟩ | ⟨q, _⟩
    all_goals first
      | exact p
      | (rw [q] at h; exact absurd h (by decide))
  · intro h
    rw [h]
    decide
theorem wcd_10 {w : Int64} : wcd w = -44 ↔ w = 659117163 := by
  constructor
  · intro h
    rcases wcd_o w with ⟨p, q⟩ | ⟨p, q⟩ | ⟨p, q⟩ | ⟨p, q⟩ | ⟨p, q⟩ | ⟨p, q⟩ | ⟨p, q⟩ | ⟨p, q⟩ | ⟨p, q⟩ | ⟨p, q⟩ | ⟨p, q⟩ | ⟨p, q⟩ | ⟨p, q⟩ | ⟨p, q⟩ | ⟨p, q⟩ | ⟨p, q⟩ | ⟨p, q⟩ | ⟨q, _⟩
    all_goals first
      | exact p
      | (rw [q] at h; exact absurd h (by decide))
  · intro h
    rw [h]
    decide
theorem wcd_11 {w : Int64} : wcd w = -20 ↔ w = 206405 := by
  constructor
  · intro h
    rcases wcd_o w with ⟨p, q⟩ | ⟨p, q⟩ | ⟨p, q⟩ | ⟨p, q⟩ | ⟨p, q⟩ | ⟨p, q⟩ | ⟨p, q⟩ | ⟨p, q⟩ | ⟨p, q⟩ | ⟨p, q⟩ | ⟨p, q⟩ | ⟨p, q⟩ | ⟨p, q⟩ | ⟨p, q⟩ | ⟨p, q⟩ | ⟨p, q⟩ | ⟨p, q⟩ | ⟨q, _⟩
    all_goals first
      | exact p
      | (rw [q] at h; exact absurd h (by decide))
  · intro h
    rw [h]
    decide
theorem wcd_12 {w : Int64} : wcd w = -21 ↔ w = 659105125 := by
  constructor
  · intro h
    rcases wcd_o w with ⟨p, q⟩ | ⟨p, q⟩ | ⟨p, q⟩ | ⟨p, q⟩ | ⟨p, q⟩ | ⟨p, q⟩ | ⟨p, q⟩ | ⟨p, q⟩ | ⟨p, q⟩ | ⟨p, q⟩ | ⟨p, q⟩ | ⟨p, q⟩ | ⟨p, q⟩ | ⟨p, q⟩ | ⟨p, q⟩ | ⟨p, q⟩ | ⟨p, q⟩ | ⟨q, _⟩
    all_goals first
      | exact p
      | (rw [q] at h; exact absurd h (by decide))
  · intro h
    rw [h]
    decide
theorem wcd_13 {w : Int64} : wcd w = -22 ↔ w = 661950697650 := by
  constructor
  · intro h
    rcases wcd_o w with ⟨p, q⟩ | ⟨p, q⟩ | ⟨p, q⟩ | ⟨p, q⟩ | ⟨p, q⟩ | ⟨p, q⟩ | ⟨p, q⟩ | ⟨p, q⟩ | ⟨p, q⟩ | ⟨p, q⟩ | ⟨p, q⟩ | ⟨p, q⟩ | ⟨p, q⟩ | ⟨p, q⟩ | ⟨p, q⟩ | ⟨p, q⟩ | ⟨p, q⟩ | ⟨q, _⟩
    all_goals first
      | exact p
      | (rw [q] at h; exact absurd h (by decide))
  · intro h
    rw [h]
    decide
theorem wcd_14 {w : Int64} : wcd w = -23 ↔ w = 17479784 := by
  constructor
  · intro h
    rcases wcd_o w with ⟨p, q⟩ | ⟨p, q⟩ | ⟨p, q⟩ | ⟨p, q⟩ | ⟨p, q⟩ | ⟨p, q⟩ | ⟨p, q⟩ | ⟨p, q⟩ | ⟨p, q⟩ | ⟨p, q⟩ | ⟨p, q⟩ | ⟨p, q⟩ | ⟨p, q⟩ | ⟨p, q⟩ | ⟨p, q⟩ | ⟨p, q⟩ | ⟨p, q⟩ | ⟨q, _⟩
    all_goals first
      | exact p
      | (rw [q] at h; exact absurd h (by decide))
  · intro h
    rw [h]
    decide
theorem wcd_15 {w : Int64} : wcd w = -24 ↔ w = 759172 := by
  constructor
  · intro h
    rcases wcd_o w with ⟨p, q⟩ | ⟨p, q⟩ | ⟨p, q⟩ | ⟨p, q⟩ | ⟨p, q⟩ | ⟨p, q⟩ | ⟨p, q⟩ | ⟨p, q⟩ | ⟨p, q⟩ | ⟨p, q⟩ | ⟨p, q⟩ | ⟨p, q⟩ | ⟨p, q⟩ | ⟨p, q⟩ | ⟨p, q⟩ | ⟨p, q⟩ | ⟨p, q⟩ | ⟨q, _⟩
    all_goals first
      | exact p
      | (rw [q] at h; exact absurd h (by decide))
  · intro h
    rw [h]
    decide
theorem wcd_16 {w : Int64} : wcd w = -25 ↔ w = 239 := by
  constructor
  · intro h
    rcases wcd_o w with ⟨p, q⟩ | ⟨p, q⟩ | ⟨p, q⟩ | ⟨p, q⟩ | ⟨p, q⟩ | ⟨p, q⟩ | ⟨p, q⟩ | ⟨p, q⟩ | ⟨p, q⟩ | ⟨p, q⟩ | ⟨p, q⟩ | ⟨p, q⟩ | ⟨p, q⟩ | ⟨p, q⟩ | ⟨p, q⟩ | ⟨p, q⟩ | ⟨p, q⟩ | ⟨q, _⟩
    all_goals first
      | exact p
      | (rw [q] at h; exact absurd h (by decide))
  · intro h
    rw [h]
    decide
theorem Tv.w0 {c s : Int32} {w : Int64} (h : Tv c s w) : (s = 1 ∧ w = 655) ↔ c = -3 := by
  constructor
  · rintro ⟨e1, e2⟩
    rcases h with ⟨h1, _⟩ | ⟨_, h2⟩ | ⟨h1, _⟩ | ⟨h1, _⟩
    · exact absurd (e1.symm.trans h1) (by decide)
    · rw [h2]; exact wcd_0.mpr e2
    · exact absurd (e1.symm.trans h1) (by decide)
    · exact absurd (e1.symm.trans h1) (by decide)
  · intro e
    obtain ⟨h1, h2⟩ := h.wc (by rw [e]; decide) (by rw [e]; decide)
    exact ⟨h1, wcd_0.mp (h2.symm.trans e)⟩
theorem Tv.w1 {c s : Int32} {w : Int64} (h : Tv c s w) : (s = 1 ∧ w = 294) ↔ c = -4 := by
  constructor
  · rintro ⟨e1, e2⟩
    rcases h with ⟨h1, _⟩ | ⟨_, h2⟩ | ⟨h1, _⟩ | ⟨h1, _⟩
    · exact absurd (e1.symm.trans h1) (by decide)
    · rw [h2]; exact wcd_1.mpr e2
    · exact absurd (e1.symm.trans h1) (by decide)
    · exact absurd (e1.symm.trans h1) (by decide)
  · intro e
    obtain ⟨h1, h2⟩ := h.wc (by rw [e]; decide) (by rw [e]; decide)
    exact ⟨h1, wcd_1.mp (h2.symm.trans e)⟩
theorem Tv.w2 {c s : Int32} {w : Int64} (h : Tv c s w) : (s = 1 ∧ w = 498) ↔ c = -5 := by
  constructor
  · rintro ⟨e1, e2⟩
    rcases h with ⟨h1, _⟩ | ⟨_, h2⟩ | ⟨h1, _⟩ | ⟨h1, _⟩
    · exact absurd (e1.symm.trans h1) (by decide)
    · rw [h2]; exact wcd_2.mpr e2
    · exact absurd (e1.symm.trans h1) (by decide)
    · exact absurd (e1.symm.trans h1) (by decide)
  · intro e
    obtain ⟨h1, h2⟩ := h.wc (by rw [e]; decide) (by rw [e]; decide)
    exact ⟨h1, wcd_2.mp (h2.symm.trans e)⟩
theorem Tv.w3 {c s : Int32} {w : Int64} (h : Tv c s w) : (s = 1 ∧ w = 1476) ↔ c = -6 := by
  constructor
  · rintro ⟨e1, e2⟩
    rcases h with ⟨h1, _⟩ | ⟨_, h2⟩ | ⟨h1, _⟩ | ⟨h1, _⟩
    · exact absurd (e1.symm.trans h1) (by decide)
    · rw [h2]; exact wcd_3.mpr e2
    · exact absurd (e1.symm.trans h1) (by decide)
    · exact absurd (e1.symm.trans h1) (by decide)
  · intro e
    obtain ⟨h1, h2⟩ := h.wc (by rw [e]; decide) (by rw [e]; decide)
    exact ⟨h1, wcd_3.mp (h2.symm.trans e)⟩
theorem Tv.w4 {c s : Int32} {w : Int64} (h : Tv c s w) : (s = 1 ∧ w = 14836) ↔ c = -7 := by
  constructor
  · rintro ⟨e1, e2⟩
    rcases h with ⟨h1, _⟩ | ⟨_, h2⟩ | ⟨h1, _⟩ | ⟨h1, _⟩
    · exact absurd (e1.symm.trans h1) (by decide)
    · rw [h2]; exact wcd_4.mpr e2
    · exact absurd (e1.symm.trans h1) (by decide)
    · exact absurd (e1.symm.trans h1) (by decide)
  · intro e
    obtain ⟨h1, h2⟩ := h.wc (by rw [e]; decide) (by rw [e]; decide)
    exact ⟨h1, wcd_4.mp (h2.symm.trans e)⟩
theorem Tv.w5 {c s : Int32} {w : Int64} (h : Tv c s w) : (s = 1 ∧ w = 313838) ↔ c = -45 := by
  constructor
  · rintro ⟨e1, e2⟩
    rcases h with ⟨h1, _⟩ | ⟨_, h2⟩ | ⟨h1, _⟩ | ⟨h1, _⟩
    · exact absurd (e1.symm.trans h1) (by decide)
    · rw [h2]; exact wcd_5.mpr e2
    · exact absurd (e1.symm.trans h1) (by decide)
    · exact absurd (e1.symm.trans h1) (by decide)
  · intro e
    obtain ⟨h1, h2⟩ := h.wc (by rw [e]; decide) (by rw [e]; decide)
    exact ⟨h1, wcd_5.mp (h2.symm.trans e)⟩
theorem Tv.w6 {c s : Int32} {w : Int64} (h : Tv c s w) : (s = 1 ∧ w = 8692) ↔ c = -46 := by
  constructor
  · rintro ⟨e1, e2⟩
    rcases h with ⟨h1, _⟩ | ⟨_, h2⟩ | ⟨h1, _⟩ | ⟨h1, _⟩
    · exact absurd (e1.symm.trans h1) (by decide)
    · rw [h2]; exact wcd_6.mpr e2
    · exact absurd (e1.symm.trans h1) (by decide)
    · exact absurd (e1.symm.trans h1) (by decide)
  · intro e
    obtain ⟨h1, h2⟩ := h.wc (by rw [e]; decide) (by rw [e]; decide)
    exact ⟨h1, wcd_6.mp (h2.symm.trans e)⟩
theorem Tv.w7 {c s : Int32} {w : Int64} (h : Tv c s w) : (s = 1 ∧ w = 3322259) ↔ c = -41 := by
  constructor
  · rintro ⟨e1, e2⟩
    rcases h with ⟨h1, _⟩ | ⟨_, h2⟩ | ⟨h1, _⟩ | ⟨h1, _⟩
    · exact absurd (e1.symm.trans h1) (by decide)
    · rw [h2]; exact wcd_7.mpr e2
    · exact absurd (e1.symm.trans h1) (by decide)
    · exact absurd (e1.symm.trans h1) (by decide)
  · intro e
    obtain ⟨h1, h2⟩ := h.wc (by rw [e]; decide) (by rw [e]; decide)
    exact ⟨h1, wcd_7.mp (h2.symm.trans e)⟩
theorem Tv.w8 {c s : Int32} {w : Int64} (h : Tv c s w) : (s = 1 ∧ w = 398548) ↔ c = -42 := by
  constructor
  · rintro ⟨e1, e2⟩
    rcases h with ⟨h1, _⟩ | ⟨_, h2⟩ | ⟨h1, _⟩ | ⟨h1, _⟩
    · exact absurd (e1.symm.trans h1) (by decide)
    · rw [h2]; exact wcd_8.mpr e2
    · exact absurd (e1.symm.trans h1) (by decide)
    · exact absurd (e1.symm.trans h1) (by decide)
  · intro e
    obtain ⟨h1, h2⟩ := h.wc (by rw [e]; decide) (by rw [e]; decide)
    exact ⟨h1, wcd_8.mp (h2.symm.trans e)⟩
theorem Tv.w9 {c s : Int32} {w : Int64} (h : Tv c s w) : (s = 1 ∧ w = 8554131) ↔ c = -43 := by
  constructor
  · rintro ⟨e1, e2⟩
    rcases h with ⟨h1, _⟩ | ⟨_, h2⟩ | ⟨h1, _⟩ | ⟨h1, _⟩
    · exact absurd (e1.symm.trans h1) (by decide)
    · rw [h2]; exact wcd_9.mpr e2
    · exact absurd (e1.symm.trans h1) (by decide)
    · exact absurd (e1.symm.trans h1) (by decide)
  · intro e
    obtain ⟨h1, h2⟩ := h.wc (by rw [e]; decide) (by rw [e]; decide)
    exact ⟨h1, wcd_9.mp (h2.symm.trans e)⟩
theorem Tv.w10 {c s : Int32} {w : Int64} (h : Tv c s w) : (s = 1 ∧ w = 659117163) ↔ c = -44 := by
  constructor
  · rintro ⟨e1, e2⟩
    rcases h with ⟨h1, _⟩ | ⟨_, h2⟩ | ⟨h1, _⟩ | ⟨h1, _⟩
    · exact absurd (e1.symm.trans h1) (by decide)
    · rw [h2]; exact wcd_10.mpr e2
    · exact absurd (e1.symm.trans h1) (by decide)
    · exact absurd (e1.symm.trans h1) (by decide)
  · intro e
    obtain ⟨h1, h2⟩ := h.wc (by rw [e]; decide) (by rw [e]; decide)
    exact ⟨h1, wcd_10.mp (h2.symm.trans e)⟩
theorem Tv.w11 {c s : Int32} {w : Int64} (h : Tv c s w) : (s = 1 ∧ w = 206405) ↔ c = -20 := by
  constructor
  · rintro ⟨e1, e2⟩
    rcases h with ⟨h1, _⟩ | ⟨_, h2⟩ | ⟨h1, _⟩ | ⟨h1, _⟩
    · exact absurd (e1.symm.trans h1) (by decide)
    · rw [h2]; exact wcd_11.mpr e2
    · exact absurd (e1.symm.trans h1) (by decide)
    · exact absurd (e1.symm.trans h1) (by decide)
  · intro e
    obtain ⟨h1, h2⟩ := h.wc (by rw [e]; decide) (by rw [e]; decide)
    exact ⟨h1, wcd_11.mp (h2.symm.trans e)⟩
theorem Tv.w12 {c s : Int32} {w : Int64} (h : Tv c s w) : (s = 1 ∧ w = 659105125) ↔ c = -21 := by
  constructor
  · rintro ⟨e1, e2⟩
    rcases h with ⟨h1, _⟩ | ⟨_, h2⟩ | ⟨h1, _⟩ | ⟨h1, _⟩
    · exact absurd (e1.symm.trans h1) (by decide)
    · rw [h2]; exact wcd_12.mpr e2
    · exact absurd (e1.symm.trans h1) (by decide)
    · exact absurd (e1.symm.trans h1) (by decide)
  · intro e
    obtain ⟨h1, h2⟩ := h.wc (by rw [e]; decide) (by rw [e]; decide)
    exact ⟨h1, wcd_12.mp (h2.symm.trans e)⟩
theorem Tv.w13 {c s : Int32} {w : Int64} (h : Tv c s w) : (s = 1 ∧ w = 661950697650) ↔ c = -22 := by
  constructor
  · rintro ⟨e1, e2⟩
    rcases h with ⟨h1, _⟩ | ⟨_, h2⟩ | ⟨h1, _⟩ | ⟨h1, _⟩
    · exact absurd (e1.symm.trans h1) (by decide)
    · rw [h2]; exact wcd_13.mpr e2
    · exact absurd (e1.symm.trans h1) (by decide)
    · exact absurd (e1.symm.trans h1) (by decide)
  · intro e
    obtain ⟨h1, h2⟩ := h.wc (by rw [e]; decide) (by rw [e]; decide)
    exact ⟨h1, wcd_13.mp (h2.symm.trans e)⟩
theorem Tv.w14 {c s : Int32} {w : Int64} (h : Tv c s w) : (s = 1 ∧ w = 17479784) ↔ c = -23 := by
  constructor
  · rintro ⟨e1, e2⟩
    rcases h with ⟨h1, _⟩ | ⟨_, h2⟩ | ⟨h1, _⟩ | ⟨h1, _⟩
    · exact absurd (e1.symm.trans h1) (by decide)
    · rw [h2]; exact wcd_14.mpr e2
    · exact absurd (e1.symm.trans h1) (by decide)
    · exact absurd (e1.symm.trans h1) (by decide)
  · intro e
    obtain ⟨h1, h2⟩ := h.wc (by rw [e]; decide) (by rw [e]; decide)
    exact ⟨h1, wcd_14.mp (h2.symm.trans e)⟩
theorem Tv.w15 {c s : Int32} {w : Int64} (h : Tv c s w) : (s = 1 ∧ w = 759172) ↔ c = -24 := by
  constructor
  · rintro ⟨e1, e2⟩
    rcases h with ⟨h1, _⟩ | ⟨_, h2⟩ | ⟨h1, _⟩ | ⟨h1, _⟩
    · exact absurd (e1.symm.trans h1) (by decide)
    · rw [h2]; exact wcd_15.mpr e2
    · exact absurd (e1.symm.trans h1) (by decide)
    · exact absurd (e1.symm.trans h1) (by decide)
  · intro e
    obtain ⟨h1, h2⟩ := h.wc (by rw [e]; decide) (by rw [e]; decide)
    exact ⟨h1, wcd_15.mp (h2.symm.trans e)⟩
theorem Tv.w16 {c s : Int32} {w : Int64} (h : Tv c s w) : (s = 1 ∧ w = 239) ↔ c = -25 := by
  constructor
  · rintro ⟨e1, e2⟩
    rcases h with ⟨h1, _⟩ | ⟨_, h2⟩ | ⟨h1, _⟩ | ⟨h1, _⟩
    · exact absurd (e1.symm.trans h1) (by decide)
    · rw [h2]; exact wcd_16.mpr e2
    · exact absurd (e1.symm.trans h1) (by decide)
    · exact absurd (e1.symm.trans h1) (by decide)
  · intro e
    obtain ⟨h1, h2⟩ := h.wc (by rw [e]; decide) (by rw [e]; decide)
    exact ⟨h1, wcd_16.mp (h2.symm.trans e)⟩
