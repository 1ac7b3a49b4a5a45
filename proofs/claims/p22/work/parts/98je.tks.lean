/-! group B: the TEXT's tokens, as the class splits them -/
def Byt (X : mI) (Y : Nat → Int32) (n : Nat) : Prop := ∀ k, k < n → ∃ u, u < 256 ∧ X 13 k = (nI u).toInt8.toInt32 ∧ Y k = nI u
theorem b_so0 : ∀ u, u < 256 → (soF ((nI u).toInt8.toInt32) = 0 ↔ smB (nI u) = true) := by decide +kernel
theorem b_so1 : ∀ u, u < 256 → (soF ((nI u).toInt8.toInt32) = 1 ↔ dgB (nI u) = true) := by decide +kernel
theorem b_so2 : ∀ u, u < 256 → (soF ((nI u).toInt8.toInt32) = 0 ∨ soF ((nI u).toInt8.toInt32) = 1 ∨ soF ((nI u).toInt8.toInt32) = 2) := by decide +kernel
theorem b_x : ∀ u, u < 256 → (smB (nI u) = true ∨ dgB (nI u) = true → (nI u).toInt8.toInt32 = nI u) := by decide +kernel
theorem b_sg : ∀ u, u < 256 → (nI u).toInt8.toInt32 &&& 255 = nI u := by decide +kernel
theorem b_32 : ∀ u, u < 256 → (-100 - nI u = (-132 : Int32) ↔ nI u = 32) := by decide +kernel
def bkp (Y : Nat → Int32) (n : Nat) : Nat → Nat → Nat
  | 0, f => f
  | N + 1, f => if f < n ∧ Y f = 32 then bkp Y n N (f + 1) else f
def bk (Y : Nat → Int32) (n f : Nat) : Nat := bkp Y n (n - f) f
theorem bk_s {Y : Nat → Int32} {n f : Nat} (h : f < n) (g : Y f = 32) : bk Y n f = bk Y n (f + 1) := by
  unfold bk
  rw [show n - f = n - (f + 1) + 1 by omega]
  show (if f < n ∧ Y f = 32 then bkp Y n (n - (f + 1)) (f + 1) else f) = _
  rw [if_pos ⟨h, g⟩]
theorem bk_n {Y : Nat → Int32} {n f : Nat} (g : ¬ (f < n ∧ Y f = 32)) : bk Y n f = f := by
  unfold bk
  by_cases h : f < n
  · rw [show n - f = n - (f + 1) + 1 by omega]
    exact if_neg g
  · rw [show n - f = 0 by omega]
    rfl
def nvF (Y : Nat → Int32) (f : Nat) : Nat → Nat
  | 0 => 0
  | j + 1 => if 1000 < nvF Y f j then nvF Y f j else nvF Y f j * 10 + ((Y (f + j)).toNatClampNeg - 48)
theorem dgG {x : Int32} (h : dgB x = true) : x.toNatClampNeg - 48 ≤ 9 ∧ x = nI (48 + (x.toNatClampNeg - 48)) := by
  obtain ⟨e, h1, h2⟩ := dgI h
  have q : x.toNatClampNeg - 48 = e := by
    rw [h2, nI_clamp (by omega)]
    omega
  rw [q]
  exact ⟨h1, h2⟩
theorem nvF_le {Y : Nat → Int32} {f : Nat} : ∀ j, (∀ k, f ≤ k → k < f + j → dgB (Y k) = true) → nvF Y f j ≤ 20000
  | 0, _ => Nat.zero_le _
  | j + 1, h => by
    have a := nvF_le j (fun k h1 h2 => h k h1 (by omega))
    have b := (dgG (h (f + j) (by omega) (by omega))).1
    show (if 1000 < nvF Y f j then nvF Y f j else nvF Y f j * 10 + ((Y (f + j)).toNatClampNeg - 48)) ≤ _
    split <;> omega
section TK
variable {X : mI} {Y : Nat → Int32} {n : Nat}
theorem en_is {t : Nat} {s : Int32} (hs : ¬ s = 2) : ∀ m e t', e ≤ t' → t' ≤ e + m → (∀ k, e ≤ k → k < t' → soF (X t k) = s) → (t' = e + m ∨ ¬ soF (X t t') = s) → enF X t s m e = t'
  | 0, e, t', h1, h2, _, _ => by
    show e = t'
    omega
  | m + 1, e, t', h1, h2, h3, h4 => by
    unfold enF
    rw [if_neg hs]
    by_cases g : soF (X t e) = s
    · rw [if_pos g]
      have l : e < t' := by
        rcases h4 with h4 | h4
        · omega
        · refine Nat.lt_of_le_of_ne h1 (fun z => h4 (by rw [← z]; exact g))
      exact en_is hs m (e + 1) t' (by omega) (by omega) (fun k k1 k2 => h3 k (by omega) k2) (by rcases h4 with h4 | h4; exact Or.inl (by omega); exact Or.inr h4)
    · rw [if_neg g]
      rcases Nat.lt_or_ge e t' with l | l
      · exact absurd (h3 e (Nat.le_refl e) l) g
      · omega
theorem nuF_is {f : Nat} : ∀ m i j q e, i = f + j → (∀ k, f ≤ k → k < f + j + m → dgB (Y k) = true ∧ X 13 k = Y k) → q = nI (if nvF Y f j ≤ 1000 then nvF Y f j else 1000) → nuF X 13 e m i q = nI (if nvF Y f (j + m) ≤ 1000 then nvF Y f (j + m) else 1000)
  | 0, i, j, q, e, _, _, hq => hq
  | m + 1, i, j, q, e, hi, hd, hq => by
    have a := hd (f + j) (by omega) (by omega)
    have b := dgG a.1
    have l := nvF_le (Y := Y) (f := f) j (fun k h1 h2 => (hd k h1 (by omega)).1)
    generalize hz : (Y (f + j)).toNatClampNeg - 48 = z at b
    have sv : nvF Y f (j + 1) = if 1000 < nvF Y f j then nvF Y f j else nvF Y f j * 10 + z := by
      rw [← hz]
      rfl
    unfold nuF
    have ex : X 13 i = nI (48 + z) := by rw [hi, a.2]; exact b.2
    generalize hv : nvF Y f j = v at sv l hq
    have e1 : ∀ w : Nat, nI w * 10 + nI (48 + z) - 48 = nI (w * 10 + z) := fun w => by
      rw [show (10 : Int32) = nI 10 from rfl, pk_mul, nI_add, show (48 : Int32) = nI 48 from rfl, pk_sub (by omega), show w * 10 + (48 + z) - 48 = w * 10 + z by omega]
    have key : (if q * 10 + X 13 i - 48 < 1000 then q * 10 + X 13 i - 48 else 1000) = nI (if nvF Y f (j + 1) ≤ 1000 then nvF Y f (j + 1) else 1000) := by
      rw [hq, ex, e1, sv]
      by_cases g : v ≤ 1000
      · rw [if_pos g, if_neg (show ¬ 1000 < v by omega)]
        by_cases g2 : v * 10 + z < 1000
        · rw [if_pos (show nI (v * 10 + z) < 1000 from nI_lt (a := v * 10 + z) (b := 1000) g2 (by decide)), if_pos (by omega)]
        · rw [if_neg (show ¬ nI (v * 10 + z) < 1000 from nI_nlt (a := v * 10 + z) (b := 1000) (by omega) (by omega))]
          by_cases g3 : v * 10 + z ≤ 1000
          · rw [if_pos g3, show v * 10 + z = 1000 by omega]
            rfl
          · rw [if_neg g3]
            rfl
      · rw [if_neg g, if_pos (show 1000 < v by omega), if_neg g, if_neg (show ¬ nI (1000 * 10 + z) < 1000 from nI_nlt (a := 1000 * 10 + z) (b := 1000) (by omega) (by omega))]
        rfl
    rw [key, show j + (m + 1) = j + 1 + m by omega]
    exact nuF_is m (i + 1) (j + 1) _ e (by omega) (fun k h1 h2 => hd k h1 (by omega)) rfl
/-- where the token that begins at f ends, and what it is -/
theorem tk_wd {f t : Nat} (hb : Byt X Y n) (hft : f < t) (htn : t ≤ n) (h1 : ∀ k, f ≤ k → k < t → smB (Y k) = true) (h2 : t = n ∨ (t < n ∧ smB (Y t) = false)) : tkE X 13 n f = t ∧ tkR X 13 n f = wcd (wv Y f (t - f)) := by
  have so : ∀ k, k < n → (soF (X 13 k) = 0 ↔ smB (Y k) = true) := fun k hk => by
    obtain ⟨u, u1, u2, u3⟩ := hb k hk
    rw [u2, u3]
    exact b_so0 u u1
  have s0 : soF (X 13 f) = 0 := (so f (by omega)).mpr (h1 f (Nat.le_refl f) hft)
  have e : tkE X 13 n f = t := by
    unfold tkE
    rw [s0]
    refine en_is (by decide) _ _ _ (by omega) (by omega) (fun k k1 k2 => (so k (by omega)).mpr (h1 k (by omega) k2)) ?_
    rcases h2 with h2 | ⟨h2, h3⟩
    · exact Or.inl (by omega)
    · exact Or.inr (fun z => by rw [(so t h2).mp z] at h3; cases h3)
  refine ⟨e, ?_⟩
  unfold tkR rdF
  rw [e, s0, if_pos rfl]
  refine wdF_c (fun j j1 j2 => ?_) (by omega)
  obtain ⟨u, u1, u2, u3⟩ := hb j (by omega)
  have s := h1 j j1 j2
  refine ⟨?_, s⟩
  rw [u3] at s ⊢
  rw [u2]
  exact b_x u u1 (Or.inl s)
theorem tk_nu {f t : Nat} (hb : Byt X Y n) (hft : f < t) (htn : t ≤ n) (h1 : ∀ k, f ≤ k → k < t → dgB (Y k) = true) (h2 : t = n ∨ (t < n ∧ dgB (Y t) = false)) : tkE X 13 n f = t ∧ tkR X 13 n f = nI (if nvF Y f (t - f) ≤ 1000 then nvF Y f (t - f) else 1000) := by
  have so : ∀ k, k < n → (soF (X 13 k) = 1 ↔ dgB (Y k) = true) := fun k hk => by
    obtain ⟨u, u1, u2, u3⟩ := hb k hk
    rw [u2, u3]
    exact b_so1 u u1
  have s0 : soF (X 13 f) = 1 := (so f (by omega)).mpr (h1 f (Nat.le_refl f) hft)
  have e : tkE X 13 n f = t := by
    unfold tkE
    rw [s0]
    refine en_is (by decide) _ _ _ (by omega) (by omega) (fun k k1 k2 => (so k (by omega)).mpr (h1 k (by omega) k2)) ?_
    rcases h2 with h2 | ⟨h2, h3⟩
    · exact Or.inl (by omega)
    · exact Or.inr (fun z => by rw [(so t h2).mp z] at h3; cases h3)
  refine ⟨e, ?_⟩
  unfold tkR rdF
  rw [e, s0, if_neg (by decide), if_pos rfl]
  have q := nuF_is (X := X) (Y := Y) (f := f) (t - f) f 0 0 t rfl (fun k k1 k2 => by
    obtain ⟨u, u1, u2, u3⟩ := hb k (by omega)
    have s := h1 k k1 (by omega)
    refine ⟨s, ?_⟩
    rw [u3] at s ⊢
    rw [u2]
    exact b_x u u1 (Or.inr s)) rfl
  rw [Nat.zero_add] at q
  exact q
theorem tk_sg {f : Nat} (hb : Byt X Y n) (hf : f < n) (h1 : smB (Y f) = false) (h2 : dgB (Y f) = false) : tkE X 13 n f = f + 1 ∧ ∃ u, u < 256 ∧ Y f = nI u ∧ tkR X 13 n f = -100 - nI u := by
  obtain ⟨u, u1, u2, u3⟩ := hb f hf
  have s2 : soF (X 13 f) = 2 := by
    rw [u2]
    rw [u3] at h1 h2
    rcases b_so2 u u1 with z | z | z
    · rw [(b_so0 u u1).mp z] at h1; cases h1
    · rw [(b_so1 u u1).mp z] at h2; cases h2
    · exact z
  have e : tkE X 13 n f = f + 1 := by
    unfold tkE
    rw [s2]
    cases n - (f + 1) with
    | zero => rfl
    | succ m => exact if_pos rfl
  refine ⟨e, u, u1, u3, ?_⟩
  unfold tkR rdF
  rw [s2, if_neg (by decide), if_neg (by decide), u2, b_sg u u1]
/-- the end of the letters, of the digits -/
theorem run_to {p : Nat → Bool} {f : Nat} (hf : f < n) (h : p f = true) : ∃ t, f < t ∧ t ≤ n ∧ (∀ k, f ≤ k → k < t → p k = true) ∧ (t = n ∨ (t < n ∧ p t = false)) := by
  have go : ∀ q t, t + q = n → f < t → (∀ k, f ≤ k → k < t → p k = true) → ∃ t, f < t ∧ t ≤ n ∧ (∀ k, f ≤ k → k < t → p k = true) ∧ (t = n ∨ (t < n ∧ p t = false)) := by
    intro q
    induction q with
    | zero => exact fun t h1 h2 h3 => ⟨t, h2, by omega, h3, Or.inl (by omega)⟩
    | succ q ih =>
      intro t h1 h2 h3
      cases e : p t with
      | false => exact ⟨t, h2, by omega, h3, Or.inr ⟨by omega, e⟩⟩
      | true =>
        refine ih (t + 1) (by omega) (by omega) (fun k k1 k2 => ?_)
        by_cases z : k = t
        · rw [z]; exact e
        · exact h3 k k1 (by omega)
  refine go (n - (f + 1)) (f + 1) (by omega) (by omega) (fun k k1 k2 => ?_)
  rw [show k = f by omega]
  exact h
theorem tk_all {f : Nat} (hb : Byt X Y n) (hf : f < n) : f < tkE X 13 n f ∧ tkE X 13 n f ≤ n ∧ ¬ tkR X 13 n f = -1 ∧ (tkR X 13 n f = -132 ↔ Y f = 32) ∧ (Y f = 32 → tkE X 13 n f = f + 1) := by
  have w1 : ∀ w, ¬ wcd w = -1 ∧ ¬ wcd w = -132 := fun w => by
    rcases wcd_o w with ⟨_, q⟩ | ⟨_, q⟩ | ⟨_, q⟩ | ⟨_, q⟩ | ⟨_, q⟩ | ⟨_, q⟩ | ⟨_, q⟩ | ⟨_, q⟩ | ⟨_, q⟩ | ⟨_, q⟩ | ⟨_, q⟩ | ⟨_, q⟩ | ⟨_, q⟩ | ⟨_, q⟩ | ⟨_, q⟩ | ⟨_, q⟩ | ⟨_, q⟩ | ⟨q, _⟩ <;> (rw [q]; decide)
  cases s : smB (Y f) with
  | true =>
    obtain ⟨t, t1, t2, t3, t4⟩ := run_to (p := fun k => smB (Y k)) hf s
    obtain ⟨e1, e2⟩ := tk_wd hb t1 t2 t3 t4
    rw [e1, e2]
    have n32 : ¬ Y f = 32 := fun z => by rw [z] at s; exact absurd s (by decide)
    exact ⟨t1, t2, (w1 _).1, ⟨fun z => absurd z (w1 _).2, fun z => absurd z n32⟩, fun z => absurd z n32⟩
  | false =>
    cases g : dgB (Y f) with
    | true =>
      obtain ⟨t, t1, t2, t3, t4⟩ := run_to (p := fun k => dgB (Y k)) hf g
      obtain ⟨e1, e2⟩ := tk_nu hb t1 t2 t3 t4
      rw [e1, e2]
      have n32 : ¬ Y f = 32 := fun z => by rw [z] at g; exact absurd g (by decide)
      have p0 : ∀ c : Int32, c.toInt < 0 → ¬ nI (if nvF Y f (t - f) ≤ 1000 then nvF Y f (t - f) else 1000) = c := fun c hc z => by
        have q := congrArg Int32.toInt z
        rw [nI_toInt (by split <;> omega)] at q
        omega
      exact ⟨t1, t2, p0 _ (by decide), ⟨fun z => absurd z (p0 _ (by decide)), fun z => absurd z n32⟩, fun z => absurd z n32⟩
    | false =>
      obtain ⟨e1, u, u1, u2, u3⟩ := tk_sg hb hf s g
      rw [e1, u3, u2]
      refine ⟨by omega, by omega, fun z => ?_, b_32 u u1, fun _ => rfl⟩
      have q := congrArg Int32.toInt z
      rw [sg_t u u1, show (-1 : Int32).toInt = -1 from rfl] at q
      omega
end TK
/-! only the row of the TEXT matters -/
theorem iwF_g {I J : mI} {t : Nat} (e : J t = I t) {ch : Nat → Int32} {x : Nat} : ∀ m i, iwF J t ch x m i = iwF I t ch x m i
  | 0, _ => rfl
  | m + 1, i => by
    unfold iwF
    rw [e, iwF_g e m (i + 1)]
theorem nuF_g {I J : mI} {t : Nat} (e : J t = I t) {y : Nat} : ∀ m i q, nuF J t y m i q = nuF I t y m i q
  | 0, _, _ => rfl
  | m + 1, i, q => by
    unfold nuF
    rw [e, nuF_g e m]
theorem enF_g {I J : mI} {t : Nat} (e : J t = I t) {s : Int32} : ∀ m k, enF J t s m k = enF I t s m k
  | 0, _ => rfl
  | m + 1, k => by
    unfold enF
    rw [e, enF_g e m]
theorem tkE_g {I J : mI} {t n f : Nat} (e : J t = I t) : tkE J t n f = tkE I t n f := by
  unfold tkE
  rw [e, enF_g e]
theorem tkR_g {I J : mI} {t n f : Nat} (e : J t = I t) : tkR J t n f = tkR I t n f := by
  have iw_g : ∀ m ch x y, iw J t m ch x y = iw I t m ch x y := fun m ch x y => by
    unfold iw
    rw [iwF_g e]
  unfold tkR rdF
  rw [tkE_g e, nuF_g e, e]
  unfold wdF ptF spF
  simp only [iw_g]
/-- the tokens T at the places P, m of them; p: where they begin -/
def Tks (X : mI) (Y T P : Nat → Int32) (n m : Nat) (p : Nat → Nat) : Prop := n ≤ 400 ∧ m ≤ n ∧ Byt X Y n ∧ p 0 = bk Y n 0 ∧ p m = n ∧ T m = -1 ∧ P m = nI n ∧ ∀ i, i < m → p i < n ∧ ¬ Y (p i) = 32 ∧ T i = tkR X 13 n (p i) ∧ P i = nI (p i) ∧ p (i + 1) = bk Y n (tkE X 13 n (p i))
theorem spL_ok {X : mI} {Y : Nat → Int32} {n : Nat} (hb : Byt X Y n) : ∀ N f k J, n - f ≤ N → k ≤ f → f ≤ n → J 13 = X 13 → ∃ (m : Nat) (p : Nat → Nat), k ≤ m ∧ m ≤ n ∧ (spL 13 n N f k J).2 = m ∧ p k = bk Y n f ∧ p m = n ∧ (∀ j, j < k → (spL 13 n N f k J).1 18 j = J 18 j ∧ (spL 13 n N f k J).1 19 j = J 19 j) ∧ ∀ i, k ≤ i → i < m → p i < n ∧ ¬ Y (p i) = 32 ∧ (spL 13 n N f k J).1 18 i = tkR X 13 n (p i) ∧ (spL 13 n N f k J).1 19 i = nI (p i) ∧ p (i + 1) = bk Y n (tkE X 13 n (p i)) := by
  have last : ∀ k (J : mI), k ≤ n → ∃ (m : Nat) (p : Nat → Nat), k ≤ m ∧ m ≤ n ∧ (J, k).2 = m ∧ p k = bk Y n n ∧ p m = n ∧ (∀ j, j < k → (J, k).1 18 j = J 18 j ∧ (J, k).1 19 j = J 19 j) ∧ ∀ i, k ≤ i → i < m → p i < n ∧ ¬ Y (p i) = 32 ∧ (J, k).1 18 i = tkR X 13 n (p i) ∧ (J, k).1 19 i = nI (p i) ∧ p (i + 1) = bk Y n (tkE X 13 n (p i)) := fun k J hk =>
    ⟨k, fun _ => n, Nat.le_refl k, hk, rfl, (bk_n (Y := Y) (n := n) (f := n) (fun z => absurd z.1 (Nat.lt_irrefl n))).symm, rfl, fun _ _ => ⟨rfl, rfl⟩, fun i h1 h2 => absurd h2 (by omega)⟩
  intro N
  induction N with
  | zero =>
    intro f k J h1 h2 h3 h4
    obtain rfl : f = n := by omega
    exact last k J h2
  | succ N ih =>
    intro f k J h1 h2 h3 h4
    by_cases g : f < n
    · obtain ⟨t1, t2, t3, t4, t5⟩ := tk_all hb g
      have er : tkR J 13 n f = tkR X 13 n f := tkR_g h4
      have ee : tkE J 13 n f = tkE X 13 n f := tkE_g h4
      unfold spL
      rw [if_pos g, er, ee]
      by_cases q : tkR X 13 n f = -132
      · rw [if_pos q, t5 (t4.mp q)]
        rw [bk_s g (t4.mp q)]
        exact ih (f + 1) k J (by omega) (by omega) (by omega) h4
      · rw [if_neg q]
        obtain ⟨m, p, m1, m2, m3, m4, m5, m6, m7⟩ := ih (tkE X 13 n f) (k + 1) (tkP J k (tkR X 13 n f) f) (by omega) (by omega) t2 ((pt_n (by decide)).trans ((pt_n (by decide)).trans h4))
        have n32 : ¬ Y f = 32 := fun z => q (t4.mpr z)
        have a18 : ∀ j, j < k + 1 → tkP J k (tkR X 13 n f) f 18 j = if j = k then tkR X 13 n f else J 18 j := fun j hj => by
          unfold tkP
          rw [pt_n (by decide)]
          by_cases z : j = k
          · rw [if_pos z, z, pt_s]
          · rw [if_neg z, pt_f z]
        have a19 : ∀ j, j < k + 1 → tkP J k (tkR X 13 n f) f 19 j = if j = k then nI f else J 19 j := fun j hj => by
          unfold tkP
          by_cases z : j = k
          · rw [if_pos z, z, pt_s]
          · rw [if_neg z, pt_f z, pt_n (by decide)]
        refine ⟨m, fun i => if i = k then f else p i, by omega, m2, m3, ?_, ?_, fun j hj => ?_, fun i i1 i2 => ?_⟩
        · show (if k = k then f else p k) = _
          rw [if_pos rfl, bk_n (fun z => n32 z.2)]
        · show (if m = k then f else p m) = _
          rw [if_neg (by omega)]
          exact m5
        · have z := m6 j (by omega)
          rw [z.1, z.2, a18 j (by omega), a19 j (by omega), if_neg (by omega), if_neg (by omega)]
          exact ⟨rfl, rfl⟩
        · show (if i = k then f else p i) < n ∧ ¬ Y (if i = k then f else p i) = 32 ∧ _ = tkR X 13 n (if i = k then f else p i) ∧ _ = nI (if i = k then f else p i) ∧ (if i + 1 = k then f else p (i + 1)) = bk Y n (tkE X 13 n (if i = k then f else p i))
          rw [if_neg (show ¬ i + 1 = k by omega)]
          by_cases z : i = k
          · rw [if_pos z]
            have y := m6 i (by omega)
            rw [y.1, y.2, a18 i (by omega), a19 i (by omega), if_pos z, if_pos z, z]
            exact ⟨g, n32, rfl, rfl, m4⟩
          · rw [if_neg z]
            exact m7 i (by omega) i2
    · obtain rfl : f = n := by omega
      unfold spL
      rw [if_neg g]
      exact last k J h2
theorem spl_ok {X : mI} {Y : Nat → Int32} {n : Nat} (hn : n ≤ 400) (hb : Byt X Y n) : ∃ (m : Nat) (p : Nat → Nat), Tks X Y (splF X 13 n 18) (splF X 13 n 19) n m p ∧ TkO (splF X 13 n 18) (splF X 13 n 19) m := by
  obtain ⟨m, p, m1, m2, m3, m4, m5, m6, m7⟩ := spL_ok hb n 0 0 X (by omega) (Nat.le_refl 0) (by omega) rfl
  have c18 : ∀ j, splF X 13 n 18 j = if j = m then -1 else (spL 13 n n 0 0 X).1 18 j := fun j => by
    unfold splF tkP
    rw [m3, pt_n (by decide)]
    by_cases z : j = m
    · rw [if_pos z, z, pt_s]
    · rw [if_neg z, pt_f z]
  have c19 : ∀ j, splF X 13 n 19 j = if j = m then nI n else (spL 13 n n 0 0 X).1 19 j := fun j => by
    unfold splF tkP
    rw [m3]
    by_cases z : j = m
    · rw [if_pos z, z, pt_s]
    · rw [if_neg z, pt_f z, pt_n (by decide)]
  have tk : Tks X Y (splF X 13 n 18) (splF X 13 n 19) n m p := by
    refine ⟨hn, m2, hb, m4, m5, by rw [c18, if_pos rfl], by rw [c19, if_pos rfl], fun i hi => ?_⟩
    rw [c18, c19, if_neg (by omega), if_neg (by omega)]
    exact m7 i (Nat.zero_le i) hi
  have n1 : ∀ k, k ≤ 400 → ¬ nI k = -1 := fun k hk z => by
    have q := congrArg Int32.toInt z
    rw [nI_toInt (by omega), show (-1 : Int32).toInt = -1 from rfl] at q
    omega
  refine ⟨m, p, tk, by omega, tk.2.2.2.2.2.1, fun j hj => ?_, fun j hj => ?_⟩
  · have a := tk.2.2.2.2.2.2.2 j hj
    rw [a.2.2.1]
    exact (tk_all hb a.1).2.2.1
  · rcases Nat.lt_or_ge j m with l | l
    · have a := tk.2.2.2.2.2.2.2 j l
      rw [a.2.2.2.1]
      exact n1 _ (by omega)
    · rw [show j = m by omega, tk.2.2.2.2.2.2.1]
      exact n1 _ hn
