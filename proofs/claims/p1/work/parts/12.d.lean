theorem mk16 (n : Int32) : (n &&& (-16) = 0) = (¬ n < 0 ∧ ¬ 15 < n) := by
  apply propext
  constructor
  · intro h1
    have hb : n.toBitVec &&& (-16 : Int32).toBitVec = 0#32 := congrArg Int32.toBitVec h1
    have hn : n.toBitVec = n.toBitVec &&& 15#32 := by
      apply BitVec.eq_of_getLsbD_eq
      intro i hi
      have := congrArg (fun b => b.getLsbD i) hb
      simp only [BitVec.getLsbD_and, BitVec.getLsbD_zero] at this ⊢
      have key : ∀ i, i < 32 → ((-16 : Int32).toBitVec.getLsbD i = true ∨ (15#32).getLsbD i = true) := by decide
      rcases key i hi with k | k
      · rw [k, Bool.and_true] at this
        rw [this, Bool.false_and]
      · rw [k, Bool.and_true]
    have h9 : n.toBitVec.toNat ≤ 15 := by
      rw [hn, BitVec.toNat_and]
      exact Nat.and_le_right
    have e : n = nI n.toBitVec.toNat := by
      apply Int32.toBitVec_inj.mp
      apply BitVec.eq_of_toNat_eq
      rw [pk_tn (by omega)]
    generalize n.toBitVec.toNat = k at e h9
    subst e
    have fin : ∀ k, k < 16 → ¬ nI k < 0 ∧ ¬ 15 < nI k := by decide +kernel
    exact fin k (by omega)
  · intro ⟨h2, h3⟩
    obtain ⟨k, hk, rfl⟩ := nI_of h2
    rw [Int32.lt_iff_toInt_lt, show (15 : Int32).toInt = 15 from rfl, nI_toInt hk] at h3
    have fin : ∀ k, k < 16 → nI k &&& (-16) = 0 := by decide +kernel
    exact fin k (by omega)
theorem dg10 {a : Nat} (h : a < 2 ^ 31) : (nI a - nI (a / 10) * 10 = 0) = (a % 10 = 0) := by
  have e : nI a - nI (a / 10) * 10 = nI (a % 10) := by
    rw [show (10 : Int32) = nI 10 from rfl, pk_mul, pk_sub (by omega)]
    congr 1
    omega
  rw [e]
  exact propext (nI_eq (b := 0) (by omega) (by decide))
theorem okR_is {S : mS} {a : Nat} : okR S a = (a < S.1 ∧ 14 ≤ S.2.2.1 a ∧ S.2.2.1 a < 19) := rfl
theorem pkr1 {S : mS} (h : Pm S) : S.2.2.1 1 = 19 := (h.2 1 (by decide) (by decide)).1
theorem pkr2 {S : mS} (h : Pm S) : S.2.2.1 2 = 19 := (h.2 2 (by decide) (by decide)).1
theorem pkr3 {S : mS} (h : Pm S) : S.2.2.1 3 = 19 := (h.2 3 (by decide) (by decide)).1
theorem pkr4 {S : mS} (h : Pm S) : S.2.2.1 4 = 8 := (h.2 4 (by decide) (by decide)).1
theorem pkr5 {S : mS} (h : Pm S) : S.2.2.1 5 = 7 := (h.2 5 (by decide) (by decide)).1
theorem pkr6 {S : mS} (h : Pm S) : S.2.2.1 6 = 11 := (h.2 6 (by decide) (by decide)).1
theorem pkr7 {S : mS} (h : Pm S) : S.2.2.1 7 = 11 := (h.2 7 (by decide) (by decide)).1
theorem pkr8 {S : mS} (h : Pm S) : S.2.2.1 8 = 11 := (h.2 8 (by decide) (by decide)).1
theorem pkr9 {S : mS} (h : Pm S) : S.2.2.1 9 = 15 := (h.2 9 (by decide) (by decide)).1
theorem pkr10 {S : mS} (h : Pm S) : S.2.2.1 10 = 11 := (h.2 10 (by decide) (by decide)).1
theorem pkr11 {S : mS} (h : Pm S) : S.2.2.1 11 = 11 := (h.2 11 (by decide) (by decide)).1
theorem pkr12 {S : mS} (h : Pm S) : S.2.2.1 12 = 16 := (h.2 12 (by decide) (by decide)).1
theorem pkr13 {S : mS} (h : Pm S) : S.2.2.1 13 = 10 := (h.2 13 (by decide) (by decide)).1
theorem pkr14 {S : mS} (h : Pm S) : S.2.2.1 14 = 4 := (h.2 14 (by decide) (by decide)).1
theorem pkr15 {S : mS} (h : Pm S) : S.2.2.1 15 = 11 := (h.2 15 (by decide) (by decide)).1
theorem pkr16 {S : mS} (h : Pm S) : S.2.2.1 16 = 11 := (h.2 16 (by decide) (by decide)).1
theorem pkr17 {S : mS} (h : Pm S) : S.2.2.1 17 = 11 := (h.2 17 (by decide) (by decide)).1
theorem pkr18 {S : mS} (h : Pm S) : S.2.2.1 18 = 11 := (h.2 18 (by decide) (by decide)).1
theorem pkr19 {S : mS} (h : Pm S) : S.2.2.1 19 = 11 := (h.2 19 (by decide) (by decide)).1
theorem pkr20 {S : mS} (h : Pm S) : S.2.2.1 20 = 6 := (h.2 20 (by decide) (by decide)).1
theorem pkr21 {S : mS} (h : Pm S) : S.2.2.1 21 = 11 := (h.2 21 (by decide) (by decide)).1
theorem pkr22 {S : mS} (h : Pm S) : S.2.2.1 22 = 11 := (h.2 22 (by decide) (by decide)).1
theorem pkr23 {S : mS} (h : Pm S) : S.2.2.1 23 = 11 := (h.2 23 (by decide) (by decide)).1
theorem pkr24 {S : mS} (h : Pm S) : S.2.2.1 24 = 11 := (h.2 24 (by decide) (by decide)).1
theorem pkr25 {S : mS} (h : Pm S) : S.2.2.1 25 = 11 := (h.2 25 (by decide) (by decide)).1
theorem pkr26 {S : mS} (h : Pm S) : S.2.2.1 26 = 6 := (h.2 26 (by decide) (by decide)).1
theorem pkr27 {S : mS} (h : Pm S) : S.2.2.1 27 = 11 := (h.2 27 (by decide) (by decide)).1
theorem pkr28 {S : mS} (h : Pm S) : S.2.2.1 28 = 11 := (h.2 28 (by decide) (by decide)).1
theorem pkr29 {S : mS} (h : Pm S) : S.2.2.1 29 = 11 := (h.2 29 (by decide) (by decide)).1
theorem pkr30 {S : mS} (h : Pm S) : S.2.2.1 30 = 11 := (h.2 30 (by decide) (by decide)).1
theorem pkr31 {S : mS} (h : Pm S) : S.2.2.1 31 = 11 := (h.2 31 (by decide) (by decide)).1
theorem pkr32 {S : mS} (h : Pm S) : S.2.2.1 32 = 6 := (h.2 32 (by decide) (by decide)).1
theorem pkr33 {S : mS} (h : Pm S) : S.2.2.1 33 = 11 := (h.2 33 (by decide) (by decide)).1
theorem pkr34 {S : mS} (h : Pm S) : S.2.2.1 34 = 11 := (h.2 34 (by decide) (by decide)).1
theorem pkr35 {S : mS} (h : Pm S) : S.2.2.1 35 = 11 := (h.2 35 (by decide) (by decide)).1
theorem pkr36 {S : mS} (h : Pm S) : S.2.2.1 36 = 11 := (h.2 36 (by decide) (by decide)).1
theorem pkr37 {S : mS} (h : Pm S) : S.2.2.1 37 = 11 := (h.2 37 (by decide) (by decide)).1
theorem pkr38 {S : mS} (h : Pm S) : S.2.2.1 38 = 11 := (h.2 38 (by decide) (by decide)).1
theorem pkr39 {S : mS} (h : Pm S) : S.2.2.1 39 = 14 := (h.2 39 (by decide) (by decide)).1
theorem pkr40 {S : mS} (h : Pm S) : S.2.2.1 40 = 1 := (h.2 40 (by decide) (by decide)).1
theorem pkr41 {S : mS} (h : Pm S) : S.2.2.1 41 = 11 := (h.2 41 (by decide) (by decide)).1
theorem pkr42 {S : mS} (h : Pm S) : S.2.2.1 42 = 11 := (h.2 42 (by decide) (by decide)).1
theorem pkr43 {S : mS} (h : Pm S) : S.2.2.1 43 = 11 := (h.2 43 (by decide) (by decide)).1
theorem pkr44 {S : mS} (h : Pm S) : S.2.2.1 44 = 11 := (h.2 44 (by decide) (by decide)).1
theorem pkr45 {S : mS} (h : Pm S) : S.2.2.1 45 = 11 := (h.2 45 (by decide) (by decide)).1
theorem pkr46 {S : mS} (h : Pm S) : S.2.2.1 46 = 11 := (h.2 46 (by decide) (by decide)).1
theorem pkr47 {S : mS} (h : Pm S) : S.2.2.1 47 = 11 := (h.2 47 (by decide) (by decide)).1
theorem pkr48 {S : mS} (h : Pm S) : S.2.2.1 48 = 17 := (h.2 48 (by decide) (by decide)).1
theorem pkr49 {S : mS} (h : Pm S) : S.2.2.1 49 = 11 := (h.2 49 (by decide) (by decide)).1
theorem pkr50 {S : mS} (h : Pm S) : S.2.2.1 50 = 11 := (h.2 50 (by decide) (by decide)).1
theorem pkr51 {S : mS} (h : Pm S) : S.2.2.1 51 = 11 := (h.2 51 (by decide) (by decide)).1
theorem pkr52 {S : mS} (h : Pm S) : S.2.2.1 52 = 11 := (h.2 52 (by decide) (by decide)).1
theorem pkr53 {S : mS} (h : Pm S) : S.2.2.1 53 = 11 := (h.2 53 (by decide) (by decide)).1
theorem pkr54 {S : mS} (h : Pm S) : S.2.2.1 54 = 9 := (h.2 54 (by decide) (by decide)).1
theorem pkr55 {S : mS} (h : Pm S) : S.2.2.1 55 = 11 := (h.2 55 (by decide) (by decide)).1
theorem pkr56 {S : mS} (h : Pm S) : S.2.2.1 56 = 11 := (h.2 56 (by decide) (by decide)).1
theorem pkr57 {S : mS} (h : Pm S) : S.2.2.1 57 = 11 := (h.2 57 (by decide) (by decide)).1
theorem pkr58 {S : mS} (h : Pm S) : S.2.2.1 58 = 13 := (h.2 58 (by decide) (by decide)).1
theorem pkr59 {S : mS} (h : Pm S) : S.2.2.1 59 = 11 := (h.2 59 (by decide) (by decide)).1
theorem pkr60 {S : mS} (h : Pm S) : S.2.2.1 60 = 11 := (h.2 60 (by decide) (by decide)).1
theorem pkr61 {S : mS} (h : Pm S) : S.2.2.1 61 = 11 := (h.2 61 (by decide) (by decide)).1
theorem pkr62 {S : mS} (h : Pm S) : S.2.2.1 62 = 11 := (h.2 62 (by decide) (by decide)).1
theorem pkr63 {S : mS} (h : Pm S) : S.2.2.1 63 = 11 := (h.2 63 (by decide) (by decide)).1
theorem pkr64 {S : mS} (h : Pm S) : S.2.2.1 64 = 11 := (h.2 64 (by decide) (by decide)).1
theorem pkr65 {S : mS} (h : Pm S) : S.2.2.1 65 = 11 := (h.2 65 (by decide) (by decide)).1
theorem pkr66 {S : mS} (h : Pm S) : S.2.2.1 66 = 11 := (h.2 66 (by decide) (by decide)).1
theorem pkr67 {S : mS} (h : Pm S) : S.2.2.1 67 = 11 := (h.2 67 (by decide) (by decide)).1
theorem pkr68 {S : mS} (h : Pm S) : S.2.2.1 68 = 11 := (h.2 68 (by decide) (by decide)).1
theorem pkr69 {S : mS} (h : Pm S) : S.2.2.1 69 = 11 := (h.2 69 (by decide) (by decide)).1
theorem pkr70 {S : mS} (h : Pm S) : S.2.2.1 70 = 11 := (h.2 70 (by decide) (by decide)).1
theorem pkr71 {S : mS} (h : Pm S) : S.2.2.1 71 = 11 := (h.2 71 (by decide) (by decide)).1
theorem pkr72 {S : mS} (h : Pm S) : S.2.2.1 72 = 11 := (h.2 72 (by decide) (by decide)).1
theorem pkr73 {S : mS} (h : Pm S) : S.2.2.1 73 = 11 := (h.2 73 (by decide) (by decide)).1
theorem pkr74 {S : mS} (h : Pm S) : S.2.2.1 74 = 11 := (h.2 74 (by decide) (by decide)).1
theorem pkr75 {S : mS} (h : Pm S) : S.2.2.1 75 = 11 := (h.2 75 (by decide) (by decide)).1
theorem pkr76 {S : mS} (h : Pm S) : S.2.2.1 76 = 11 := (h.2 76 (by decide) (by decide)).1
theorem pkr77 {S : mS} (h : Pm S) : S.2.2.1 77 = 11 := (h.2 77 (by decide) (by decide)).1
theorem pkr78 {S : mS} (h : Pm S) : S.2.2.1 78 = 11 := (h.2 78 (by decide) (by decide)).1
theorem pkr79 {S : mS} (h : Pm S) : S.2.2.1 79 = 11 := (h.2 79 (by decide) (by decide)).1
theorem pkr80 {S : mS} (h : Pm S) : S.2.2.1 80 = 11 := (h.2 80 (by decide) (by decide)).1
theorem pkr81 {S : mS} (h : Pm S) : S.2.2.1 81 = 11 := (h.2 81 (by decide) (by decide)).1
theorem pkr82 {S : mS} (h : Pm S) : S.2.2.1 82 = 11 := (h.2 82 (by decide) (by decide)).1
theorem pkr83 {S : mS} (h : Pm S) : S.2.2.1 83 = 11 := (h.2 83 (by decide) (by decide)).1
theorem pkr84 {S : mS} (h : Pm S) : S.2.2.1 84 = 11 := (h.2 84 (by decide) (by decide)).1
