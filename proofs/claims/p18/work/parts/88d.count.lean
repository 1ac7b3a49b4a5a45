/-! how many bits are set: Long.bitCount -/
def cnt (f : Nat → Bool) : Nat → Nat
  | 0 => 0
  | n + 1 => cnt f n + (if f n = true then 1 else 0)
theorem cnt_add (f : Nat → Bool) (m n : Nat) : cnt f (m + n) = cnt f m + cnt (fun i => f (m + i)) n := by
  induction n with
  | zero => rfl
  | succ n ih =>
    show cnt f (m + n) + _ = cnt f m + (cnt (fun i => f (m + i)) n + _)
    rw [ih, Nat.add_assoc]
    rfl
theorem cnt_cong {f g : Nat → Bool} {n : Nat} (h : ∀ k, k < n → f k = g k) : cnt f n = cnt g n := by
  induction n with
  | zero => rfl
  | succ n ih =>
    show cnt f n + _ = cnt g n + _
    rw [ih (fun k hk => h k (by omega)), h n (by omega)]
theorem cnt_le (f : Nat → Bool) (n : Nat) : cnt f n ≤ n := by
  induction n with
  | zero => exact Nat.le_refl 0
  | succ n ih =>
    show cnt f n + _ ≤ n + 1
    split <;> omega
theorem cnt_zero {f : Nat → Bool} {n : Nat} (h : ∀ k, k < n → f k = false) : cnt f n = 0 := by
  induction n with
  | zero => rfl
  | succ n ih =>
    show cnt f n + _ = 0
    rw [ih (fun k hk => h k (by omega)), h n (by omega)]
    rfl
theorem cnt_tail {f : Nat → Bool} {m n : Nat} (h : ∀ k, m ≤ k → k < n → f k = false) (hmn : m ≤ n) : cnt f n = cnt f m := by
  obtain ⟨j, rfl⟩ : ∃ j, n = m + j := ⟨n - m, by omega⟩
  rw [cnt_add, cnt_zero (f := fun i => f (m + i)) (fun k hk => h (m + k) (by omega) (by omega)), Nat.add_zero]
def pq1 (M X : Nat) : Nat := X - (X / 2 &&& M)
def pq2 (M X : Nat) : Nat := (X &&& M) + (X / 4 &&& M)
def pq3 (M X : Nat) : Nat := (X + X / 16) &&& M
theorem and_split {u v m k : Nat} (hu : u < 256) (hm : m < 256) : (u + 256 * v) &&& (m + 256 * k) = (u &&& m) + 256 * (v &&& k) := by
  have ha : u &&& m < 2 ^ 8 := Nat.and_lt_two_pow u hm
  rw [show u + 256 * v = 2 ^ 8 * v + u by omega, show m + 256 * k = 2 ^ 8 * k + m by omega, show (u &&& m) + 256 * (v &&& k) = 2 ^ 8 * (v &&& k) + (u &&& m) by omega]
  apply Nat.eq_of_testBit_eq
  intro j
  rw [Nat.testBit_and, Nat.testBit_two_pow_mul_add _ hu, Nat.testBit_two_pow_mul_add _ hm, Nat.testBit_two_pow_mul_add _ ha]
  by_cases h : j < 8
  · rw [if_pos h, if_pos h, if_pos h, Nat.testBit_and]
  · rw [if_neg h, if_neg h, if_neg h, Nat.testBit_and]
theorem fin1 : ∀ b, b < 256 → ∀ t, t < 2 → (b / 2 + 128 * t) &&& 85 = b / 2 &&& 85 := by decide +kernel
theorem fin2 : ∀ b, b < 256 → ∀ t, t < 4 → (b / 4 + 64 * t) &&& 51 = b / 4 &&& 51 := by decide +kernel
theorem fin3 : ∀ b, b < 69 → ∀ t, t < 5 → (b + b / 16 + 16 * t) &&& 15 = (b + b / 16) &&& 15 := by decide +kernel
set_option maxHeartbeats 200000 in
theorem finq : ∀ b, b < 256 → pq1 85 b < 256 ∧ pq2 51 (pq1 85 b) ≤ 68 ∧ pq2 51 (pq1 85 b) % 16 ≤ 4 ∧ pq3 15 (pq2 51 (pq1 85 b)) = cnt b.testBit 8 := by decide +kernel
set_option maxHeartbeats 200000 in
theorem ps1 {b Y k : Nat} (hb : b < 256) : pq1 (85 + 256 * k) (b + 256 * Y) = pq1 85 b + 256 * pq1 k Y := by
  unfold pq1
  rw [show (b + 256 * Y) / 2 = (b / 2 + 128 * (Y % 2)) + 256 * (Y / 2) by omega, and_split (by omega) (by decide), fin1 b hb _ (by omega)]
  have h1 : b / 2 &&& 85 ≤ b / 2 := Nat.and_le_left
  have h2 : Y / 2 &&& k ≤ Y / 2 := Nat.and_le_left
  generalize b / 2 &&& 85 = s at *
  generalize Y / 2 &&& k = t at *
  omega
set_option maxHeartbeats 200000 in
theorem ps2 {a Y k : Nat} (ha : a < 256) : pq2 (51 + 256 * k) (a + 256 * Y) = pq2 51 a + 256 * pq2 k Y := by
  unfold pq2
  rw [show (a + 256 * Y) / 4 = (a / 4 + 64 * (Y % 4)) + 256 * (Y / 4) by omega, and_split ha (by decide), and_split (by omega) (by decide), fin2 a ha _ (by omega)]
  generalize a &&& 51 = s at *
  generalize a / 4 &&& 51 = t at *
  generalize Y &&& k = s' at *
  generalize Y / 4 &&& k = t' at *
  omega
set_option maxHeartbeats 200000 in
theorem ps3 {a Y k : Nat} (ha : a ≤ 68) (hY : Y % 16 ≤ 4) : pq3 (15 + 256 * k) (a + 256 * Y) = pq3 15 a + 256 * pq3 k Y := by
  unfold pq3
  rw [show a + 256 * Y + (a + 256 * Y) / 16 = (a + a / 16 + 16 * (Y % 16)) + 256 * (Y + Y / 16) by omega, and_split (by omega) (by decide), fin3 a (by omega) _ (by omega)]
/-- a mask of n bytes -/
def mk8 (m : Nat) : Nat → Nat
  | 0 => 0
  | n + 1 => m + 256 * mk8 m n
def cS : Nat → Nat → Nat
  | 0, _ => 0
  | n + 1, X => cnt (X % 256).testBit 8 + 256 * cS n (X / 256)
set_option maxHeartbeats 200000 in
theorem pg_n (n : Nat) : ∀ X, X < 256 ^ n → pq2 (mk8 51 n) (pq1 (mk8 85 n) X) % 16 ≤ 4 ∧ pq2 (mk8 51 n) (pq1 (mk8 85 n) X) ≤ mk8 68 n ∧ pq3 (mk8 15 n) (pq2 (mk8 51 n) (pq1 (mk8 85 n) X)) = cS n X := by
  induction n with
  | zero =>
    intro X hX
    obtain rfl : X = 0 := by omega
    decide
  | succ n ih =>
    intro X hX
    have hY : X / 256 < 256 ^ n := by rw [Nat.pow_succ] at hX; omega
    obtain ⟨i1, i2, i3⟩ := ih (X / 256) hY
    obtain ⟨q1, q2, q3, q4⟩ := finq (X % 256) (by omega)
    have eX : X = X % 256 + 256 * (X / 256) := by omega
    have e1 : pq1 (mk8 85 (n + 1)) X = pq1 85 (X % 256) + 256 * pq1 (mk8 85 n) (X / 256) := by
      conv => lhs; rw [eX]
      exact ps1 (by omega)
    have e2 : pq2 (mk8 51 (n + 1)) (pq1 (mk8 85 (n + 1)) X) = pq2 51 (pq1 85 (X % 256)) + 256 * pq2 (mk8 51 n) (pq1 (mk8 85 n) (X / 256)) := by
      rw [e1]
      exact ps2 q1
    refine ⟨?_, ?_, ?_⟩
    · rw [e2]
      omega
    · rw [e2]
      show _ ≤ 68 + 256 * mk8 68 n
      omega
    · rw [e2]
      show pq3 (15 + 256 * mk8 15 n) _ = cnt (X % 256).testBit 8 + 256 * cS n (X / 256)
      rw [ps3 q2 i1, i3, q4]
set_option maxHeartbeats 200000 in
theorem cnt_bytes (n : Nat) : ∀ X, cnt X.testBit (8 * (n + 1)) = cnt (X % 256).testBit 8 + cnt (X / 256).testBit (8 * n) := by
  intro X
  rw [show 8 * (n + 1) = 8 + 8 * n by omega, cnt_add]
  congr 1
  · apply cnt_cong
    intro k hk
    rw [show (256 : Nat) = 2 ^ 8 from rfl, Nat.testBit_mod_two_pow]
    simp [hk]
  · apply cnt_cong
    intro k hk
    show X.testBit (8 + k) = _
    rw [show (256 : Nat) = 2 ^ 8 from rfl, Nat.testBit_div_two_pow]
    congr 1
    omega
set_option maxHeartbeats 200000 in
theorem fold8 {c0 c1 c2 c3 c4 c5 c6 c7 : Nat} (h0 : c0 ≤ 8) (h1 : c1 ≤ 8) (h2 : c2 ≤ 8) (h3 : c3 ≤ 8) (h4 : c4 ≤ 8) (h5 : c5 ≤ 8) (h6 : c6 ≤ 8) (h7 : c7 ≤ 8) {Z U V W : Nat} (hZ : Z = c0 + 256 * (c1 + 256 * (c2 + 256 * (c3 + 256 * (c4 + 256 * (c5 + 256 * (c6 + 256 * c7))))))) (hU : U = Z + Z / 256) (hV : V = U + U / 65536) (hW : W = V + V / 4294967296) : U < 2 ^ 64 ∧ V < 2 ^ 64 ∧ W < 2 ^ 64 ∧ W % 128 = c0 + (c1 + (c2 + (c3 + (c4 + (c5 + (c6 + c7)))))) := by
  obtain ⟨R6, e6⟩ : ∃ R, R = c6 + 256 * c7 := ⟨_, rfl⟩
  rw [← e6] at hZ
  obtain ⟨R5, e5⟩ : ∃ R, R = c5 + 256 * R6 := ⟨_, rfl⟩
  rw [← e5] at hZ
  obtain ⟨R4, e4⟩ : ∃ R, R = c4 + 256 * R5 := ⟨_, rfl⟩
  rw [← e4] at hZ
  obtain ⟨R3, e3⟩ : ∃ R, R = c3 + 256 * R4 := ⟨_, rfl⟩
  rw [← e3] at hZ
  obtain ⟨R2, e2⟩ : ∃ R, R = c2 + 256 * R3 := ⟨_, rfl⟩
  rw [← e2] at hZ
  obtain ⟨R1, e1⟩ : ∃ R, R = c1 + 256 * R2 := ⟨_, rfl⟩
  rw [← e1] at hZ
  have b6 : R6 ≤ 2056 := by clear hU hV hW hZ e1 e2 e3 e4 e5; omega
  have b5 : R5 ≤ 526344 := by clear hU hV hW hZ e1 e2 e3 e4 e6; omega
  have b4 : R4 ≤ 134744072 := by clear hU hV hW hZ e1 e2 e3 e5 e6; omega
  have b3 : R3 ≤ 34494482440 := by clear hU hV hW hZ e1 e2 e4 e5 e6; omega
  have b2 : R2 ≤ 8830587504648 := by clear hU hV hW hZ e1 e3 e4 e5 e6; omega
  have b1 : R1 ≤ 2260630401189896 := by clear hU hV hW hZ e2 e3 e4 e5 e6; omega
  have bZ : Z ≤ 578721382704613384 := by clear hU hV hW e1 e2 e3 e4 e5 e6; omega
  have u : U = Z + R1 := by
    rw [hU]
    congr 1
    clear hU hV hW e1 e2 e3 e4 e5 e6 b6 b5 b4 b3 b2 b1 bZ
    omega
  have q0 : Z = c0 + 256 * c1 + 65536 * R2 := by clear hU hV hW e2 e3 e4 e5 e6 u; omega
  have q1 : R1 = c1 + 256 * c2 + 65536 * R3 := by clear hU hV hW hZ e3 e4 e5 e6 u q0; omega
  have v : V = Z + R1 + (R2 + R3) := by
    rw [hV, u]
    congr 1
    clear hU hV hW hZ e1 e2 e3 e4 e5 e6 b6 b5 b4 b3 b2 b1 bZ u
    omega
  have p0 : Z = c0 + 256 * c1 + 65536 * c2 + 16777216 * c3 + 4294967296 * R4 := by clear hU hV hW hZ e1 e4 e5 e6 u v q1; omega
  have p1 : R1 = c1 + 256 * c2 + 65536 * c3 + 16777216 * c4 + 4294967296 * R5 := by clear hU hV hW hZ e1 e2 e5 e6 u v q0 p0; omega
  have p2 : R2 = c2 + 256 * c3 + 65536 * c4 + 16777216 * c5 + 4294967296 * R6 := by clear hU hV hW hZ e1 e6 u v q0 q1 p0 p1; omega
  have p3 : R3 = c3 + 256 * c4 + 65536 * c5 + 16777216 * c6 + 4294967296 * c7 := by clear hU hV hW hZ e1 e2 u v q0 q1 p0 p1 p2; omega
  have w : W = Z + R1 + (R2 + R3) + (R4 + R5 + R6 + c7) := by
    rw [hW, v]
    congr 1
    clear hU hV hW hZ e1 e2 e3 e4 e5 e6 b6 b5 b4 b3 b2 b1 bZ u v q0 q1
    omega
  refine ⟨?_, ?_, ?_, ?_⟩
  · clear hU hV hW hZ e1 e2 e3 e4 e5 e6 v w q0 q1 p0 p1 p2 p3; omega
  · clear hU hV hW hZ e1 e2 e3 e4 e5 e6 u w q0 q1 p0 p1 p2 p3; omega
  · clear hU hV hW hZ e1 e2 e3 e4 e5 e6 u v q0 q1 p0 p1 p2 p3; omega
  · have : W = (c0 + c1 + c2 + c3 + c4 + c5 + c6 + c7) + 256 * (R1 + R2 + R3 + R4 + R5 + R6 + c7) := by
      clear hU hV hW u v q0 q1 p0 p1 p2 p3 b6 b5 b4 b3 b2 b1 bZ
      omega
    clear hU hV hW hZ e1 e2 e3 e4 e5 e6 u v w q0 q1 p0 p1 p2 p3 b6 b5 b4 b3 b2 b1 bZ
    omega
def bsh (x : Int64) (k : Int32) : Int64 := (x.toUInt64 >>> (k.toInt64.toUInt64 &&& Int64.toUInt64 63)).toInt64
def tN (x : Int64) : Nat := x.toBitVec.toNat
theorem bsh_n {x : Int64} {s : Nat} (hs : s < 64) : tN (bsh x (nI s)) = tN x / 2 ^ s := by
  have e : (bsh x (nI s)).toBitVec = x.toBitVec >>> s := by
    show (x.toUInt64 >>> ((nI s).toInt64.toUInt64 &&& Int64.toUInt64 63)).toBitVec = _
    rw [UInt64.toBitVec_shiftRight, ush_n s hs]
    show x.toBitVec >>> (BitVec.ofNat 64 s) = _
    rw [BitVec.ushiftRight_eq', BitVec.toNat_ofNat, Nat.mod_eq_of_lt (by omega)]
  unfold tN
  rw [e, BitVec.toNat_ushiftRight, Nat.shiftRight_eq_div_pow]
theorem tN_and (x y : Int64) : tN (x &&& y) = tN x &&& tN y := by
  unfold tN
  rw [Int64.toBitVec_and, BitVec.toNat_and]
theorem tN_add {x y : Int64} (h : tN x + tN y < 2 ^ 64) : tN (x + y) = tN x + tN y := by
  unfold tN at *
  rw [Int64.toBitVec_add, BitVec.toNat_add, Nat.mod_eq_of_lt h]
theorem tN_sub {x y : Int64} (h : tN y ≤ tN x) : tN (x - y) = tN x - tN y := by
  unfold tN at *
  have := x.toBitVec.isLt
  rw [Int64.toBitVec_sub, BitVec.toNat_sub]
  omega
theorem tN_lt (x : Int64) : tN x < 2 ^ 64 := x.toBitVec.isLt
def bc1 (x : Int64) : Int64 := x - (bsh x 1 &&& 6148914691236517205)
def bc2 (x : Int64) : Int64 := (bc1 x &&& 3689348814741910323) + (bsh (bc1 x) 2 &&& 3689348814741910323)
def bc3 (x : Int64) : Int64 := bc2 x + bsh (bc2 x) 4 &&& 1085102592571150095
def bc4 (x : Int64) : Int64 := bc3 x + bsh (bc3 x) 8
def bc5 (x : Int64) : Int64 := bc4 x + bsh (bc4 x) 16
def bc6 (x : Int64) : Int64 := bc5 x + bsh (bc5 x) 32
set_option maxHeartbeats 200000 in
theorem bc_val (x : Int64) : (bc6 x).toInt32 &&& 127 = nI (cnt (fun i => x.toBitVec.getLsbD i) 64) := by
  have hx := tN_lt x
  have m5 : tN 6148914691236517205 = mk8 85 8 := by decide +kernel
  have m3 : tN 3689348814741910323 = mk8 51 8 := by decide +kernel
  have mf : tN 1085102592571150095 = mk8 15 8 := by decide +kernel
  have m8 : mk8 68 8 < 2 ^ 63 := by decide +kernel
  obtain ⟨g1, g2, g3⟩ := pg_n 8 (tN x) (by omega)
  have s1 : tN (bsh x 1) = tN x / 2 := bsh_n (s := 1) (by decide)
  have e1 : tN (bc1 x) = pq1 (mk8 85 8) (tN x) := by
    have h : tN (bsh x 1 &&& 6148914691236517205) = tN x / 2 &&& mk8 85 8 := by rw [tN_and, s1, m5]
    have l : tN x / 2 &&& mk8 85 8 ≤ tN x / 2 := Nat.and_le_left
    unfold bc1 pq1
    rw [tN_sub (by rw [h]; omega), h]
  have s2 : tN (bsh (bc1 x) 2) = tN (bc1 x) / 4 := bsh_n (s := 2) (by decide)
  have e2 : tN (bc2 x) = pq2 (mk8 51 8) (pq1 (mk8 85 8) (tN x)) := by
    have h : tN (bc1 x &&& 3689348814741910323) + tN (bsh (bc1 x) 2 &&& 3689348814741910323) = pq2 (mk8 51 8) (pq1 (mk8 85 8) (tN x)) := by
      rw [tN_and, tN_and, s2, m3, e1]
      rfl
    unfold bc2
    rw [tN_add (by rw [h]; omega), h]
  have s4 : tN (bsh (bc2 x) 4) = tN (bc2 x) / 16 := bsh_n (s := 4) (by decide)
  have e3 : tN (bc3 x) = cS 8 (tN x) := by
    unfold bc3
    rw [tN_and, tN_add (by rw [s4, e2]; omega), s4, mf, e2, ← g3]
    rfl
  have s8 : tN (bsh (bc3 x) 8) = tN (bc3 x) / 256 := bsh_n (s := 8) (by decide)
  have s16 : tN (bsh (bc4 x) 16) = tN (bc4 x) / 65536 := bsh_n (s := 16) (by decide)
  have s32 : tN (bsh (bc5 x) 32) = tN (bc5 x) / 4294967296 := bsh_n (s := 32) (by decide)
  have cc : cnt (fun i => x.toBitVec.getLsbD i) 64 = cnt (tN x).testBit (8 * 8) := rfl
  have key := fold8 (cnt_le ((tN x) % 256).testBit 8) (cnt_le ((tN x) / 256 % 256).testBit 8) (cnt_le ((tN x) / 256 / 256 % 256).testBit 8) (cnt_le ((tN x) / 256 / 256 / 256 % 256).testBit 8) (cnt_le ((tN x) / 256 / 256 / 256 / 256 % 256).testBit 8) (cnt_le ((tN x) / 256 / 256 / 256 / 256 / 256 % 256).testBit 8) (cnt_le ((tN x) / 256 / 256 / 256 / 256 / 256 / 256 % 256).testBit 8) (cnt_le ((tN x) / 256 / 256 / 256 / 256 / 256 / 256 / 256 % 256).testBit 8) (Z := tN (bc3 x)) (by rw [e3]; rfl) rfl rfl rfl
  have e4 : tN (bc4 x) = tN (bc3 x) + tN (bc3 x) / 256 := by
    unfold bc4
    rw [tN_add (by rw [s8]; exact key.1), s8]
  have e5 : tN (bc5 x) = tN (bc4 x) + tN (bc4 x) / 65536 := by
    unfold bc5
    rw [tN_add (by rw [s16, e4]; exact key.2.1), s16]
  have e6 : tN (bc6 x) = tN (bc5 x) + tN (bc5 x) / 4294967296 := by
    unfold bc6
    rw [tN_add (by rw [s32, e5, e4]; exact key.2.2.1), s32]
  rw [pk_and _ 7 (by decide)]
  congr 1
  have t32 : (bc6 x).toInt32.toBitVec.toNat = tN (bc6 x) % 2 ^ 32 := by
    unfold tN
    rw [Int64.toBitVec_toInt32, BitVec.signExtend_eq_setWidth_of_le _ (by decide), BitVec.toNat_setWidth]
  have k4 := key.2.2.2
  rw [t32, cc, cnt_bytes, cnt_bytes, cnt_bytes, cnt_bytes, cnt_bytes, cnt_bytes, cnt_bytes, cnt_bytes]
  rw [e6, e5, e4]
  show _ % 2 ^ 32 % 128 = _
  rw [Nat.mod_mod_of_dvd _ (by decide : 128 ∣ 2 ^ 32), k4]
  rfl
theorem bitC {d : Nat} {x : Int64} {S : mS} {I : mI} {L : mL} {R : mR} {Q : mQ} : EvM (d + 1) 230 [.long x] S I L R Q = Q (.int (nI (cnt (fun i => x.toBitVec.getLsbD i) 64))) S I L R := by
  simp only [M230, E230_0, E230_1, E230_2, E230_3, E230_4, E230_7, E230_8, E230_9, E230_10, E230_11, E230_14, E230_15, E230_16, E230_17, E230_18, E230_21, E230_22, E230_23, E230_24, E230_25, E230_26, E230_27, E230_28, E230_29, E230_32, E230_33, E230_34, E230_35, E230_36, E230_38, E230_39, E230_40, E230_41, E230_42, E230_43, E230_45, E230_46, E230_47, E230_48, E230_49, E230_50, E230_52, E230_53, E230_54, E230_55, E230_56, E230_57, E230_59, E230_60, rfs, rfn, cs0, csi, csl, csr, csn, kti, ktl, ktr, ktn, ktv, ktf, true_and, and_true, and_self, ↓reduceIte, Nat.reduceAdd, Nat.reduceSub, Nat.reduceMul, Nat.reduceLT, Nat.reduceLeDiff, Nat.reduceEqDiff, true_or, or_true, false_or, or_false, not_true_eq_false, not_false_eq_true, reduceCtorEq, cmp_lt, cmp_gt, cmp_eq, Int32.reduceAdd, Int32.reduceSub, Int32.reduceMul, Int32.reduceLT, Int32.reduceToNatClampNeg, eq_self, ne_eq, Int64.reduceAdd, Int64.reduceSub, Int64.reduceMul, Int64.reduceLT]
  exact congrArg (fun v => Q (.int v) S I L R) (bc_val x)
set_option maxHeartbeats 200000 in
/-- how many rows a set has -/
theorem siz_lp {d a n : Nat} {S : mS} {I : mI} {L : mL} {R : mR} {Q : mQ} (la : lon S a n) (hn : n < 2 ^ 24) : ∀ (m i : Nat), i + m = n → Ev (d + 2) 9 4 [.ref a, .int (nI (cnt (gb (L a)) (64 * i))), .int (nI i)] [] S I L R Q = Q (.int (nI (cnt (gb (L a)) (64 * n)))) S I L R := by
  obtain ⟨la1, la2⟩ := la
  have hA : okA S a := ⟨la1.1, by rw [la1.2]; decide⟩
  intro m
  induction m with
  | zero =>
    intro i hi
    obtain rfl : i = n := by omega
    have e0 : (nI i < nI i) = False := eq_false (nI_nlt (Nat.le_refl i) (by omega))
    rw [E9_4]
    simp only [E9_0, E9_1, E9_2, E9_3, E9_5, E9_6, E9_7, E9_10, E9_11, E9_12, E9_13, E9_14, E9_17, E9_18, E9_19, E9_22, E9_25, E9_26, e0, hA, la2, rfs, rfn, cs0, csi, csl, csr, csn, kti, ktl, ktr, ktn, ktv, ktf, true_and, and_true, and_self, ↓reduceIte, Nat.reduceAdd, Nat.reduceSub, Nat.reduceMul, Nat.reduceLT, Nat.reduceLeDiff, Nat.reduceEqDiff, true_or, or_true, false_or, or_false, not_true_eq_false, not_false_eq_true, reduceCtorEq, cmp_lt, cmp_gt, cmp_eq, Int32.reduceAdd, Int32.reduceSub, Int32.reduceMul, Int32.reduceLT, Int32.reduceToNatClampNeg, eq_self, ne_eq, Int64.reduceAdd, Int64.reduceSub, Int64.reduceMul, Int64.reduceLT]
  | succ m ih =>
    intro i hi
    have e1 : (nI i < nI n) = True := eq_true (nI_lt (a := i) (b := n) (by omega) (by omega))
    have e3 : inb (nI i) n = True := inb_nI (by omega) (by omega)
    have e4 : (nI i).toNatClampNeg = i := nI_clamp (by omega)
    rw [E9_4]
    simp only [E9_0, E9_1, E9_2, E9_3, E9_5, E9_6, E9_7, E9_10, E9_11, E9_12, E9_13, E9_14, E9_17, E9_18, E9_19, E9_22, E9_25, E9_26, e1, e3, e4, hA, la1, la2, bitC (d := d), rfs, rfn, cs0, csi, csl, csr, csn, kti, ktl, ktr, ktn, ktv, ktf, true_and, and_true, and_self, ↓reduceIte, Nat.reduceAdd, Nat.reduceSub, Nat.reduceMul, Nat.reduceLT, Nat.reduceLeDiff, Nat.reduceEqDiff, true_or, or_true, false_or, or_false, not_true_eq_false, not_false_eq_true, reduceCtorEq, cmp_lt, cmp_gt, cmp_eq, Int32.reduceAdd, Int32.reduceSub, Int32.reduceMul, Int32.reduceLT, Int32.reduceToNatClampNeg, eq_self, ne_eq, Int64.reduceAdd, Int64.reduceSub, Int64.reduceMul, Int64.reduceLT, nI_1, nI_add]
    rw [← ih (i + 1) (by omega), show 64 * (i + 1) = 64 * i + 64 by omega, cnt_add]
    have e : cnt (fun j => gb (L a) (64 * i + j)) 64 = cnt (fun j => (L a i).toBitVec.getLsbD j) 64 := cnt_cong (fun k hk => by
      unfold gb
      rw [show (64 * i + k) / 64 = i by omega, show (64 * i + k) % 64 = k by omega])
    rw [e]
theorem sizA {d a n : Nat} {S : mS} {I : mI} {L : mL} {R : mR} {Q : mQ} (la : lon S a n) (hn : n < 2 ^ 24) : EvM (d + 2) 9 [.ref a] S I L R Q = Q (.int (nI (cnt (gb (L a)) (64 * n)))) S I L R := by
  simp only [M9, E9_0, E9_1, E9_2, E9_3, E9_5, E9_6, E9_7, E9_10, E9_11, E9_12, E9_13, E9_14, E9_17, E9_18, E9_19, E9_22, E9_25, E9_26, rfs, rfn, cs0, csi, csl, csr, csn, kti, ktl, ktr, ktn, ktv, ktf, true_and, and_true, and_self, ↓reduceIte, Nat.reduceAdd, Nat.reduceSub, Nat.reduceMul, Nat.reduceLT, Nat.reduceLeDiff, Nat.reduceEqDiff, true_or, or_true, false_or, or_false, not_true_eq_false, not_false_eq_true, reduceCtorEq, cmp_lt, cmp_gt, cmp_eq, Int32.reduceAdd, Int32.reduceSub, Int32.reduceMul, Int32.reduceLT, Int32.reduceToNatClampNeg, eq_self, ne_eq, Int64.reduceAdd, Int64.reduceSub, Int64.reduceMul, Int64.reduceLT]
  exact siz_lp la hn n 0 (by omega)
