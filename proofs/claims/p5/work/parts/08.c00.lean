def ckp (j a n : Nat) : Bool := match mTab[j]?, mCode[j]? with
  | some q, some l => plainName q.1.cls && ((l.drop a).take n).all (fun z => ck_o q z.1 z.2)
  | _, _ => false
def ckr (j a : Nat) : Bool := match mTab[j]?, mCode[j]? with
  | some q, some l => plainName q.1.cls && (l.drop a).all (fun z => ck_o q z.1 z.2)
  | _, _ => false
theorem ckr_0 {j : Nat} (h : ckr j 0 = true) : ck_m j = true := h
theorem ckp_r {j a n : Nat} (h1 : ckp j a n = true) (h2 : ckr j (a + n) = true) : ckr j a = true := by
  unfold ckp at h1
  unfold ckr at h2 ⊢
  revert h1 h2
  cases mTab[j]? with
  | none => exact fun h _ => h
  | some q =>
    cases mCode[j]? with
    | none => exact fun h _ => h
    | some l =>
      intro h1 h2
      simp only [Bool.and_eq_true] at h1 h2 ⊢
      refine ⟨h1.1, ?_⟩
      rw [← List.take_append_drop n (l.drop a), List.all_append, List.drop_drop, Bool.and_eq_true]
      exact ⟨h1.2, h2.2⟩
theorem ckq0_0 : ckp 0 0 40 = true := by decide +kernel
theorem ckq0_40 : ckp 0 40 40 = true := by decide +kernel
theorem ckq0_80 : ckr 0 80 = true := by decide +kernel
theorem ckm0 : ck_m 0 = true := ckr_0 (ckp_r ckq0_0 (ckp_r ckq0_40 (ckq0_80)))
theorem ckm1 : ck_m 1 = true := by decide +kernel
theorem ckm2 : ck_m 2 = true := by decide +kernel
theorem ckm3 : ck_m 3 = true := by decide +kernel
theorem ckm4 : ck_m 4 = true := by decide +kernel
theorem ckm5 : ck_m 5 = true := by decide +kernel
theorem ckm6 : ck_m 6 = true := by decide +kernel
theorem ckm7 : ck_m 7 = true := by decide +kernel
theorem ckm8 : ck_m 8 = true := by decide +kernel
theorem ckm9 : ck_m 9 = true := by decide +kernel
theorem ckm10 : ck_m 10 = true := by decide +kernel
theorem ckm11 : ck_m 11 = true := by decide +kernel
theorem ckm12 : ck_m 12 = true := by decide +kernel
theorem ckm13 : ck_m 13 = true := by decide +kernel
theorem ckq14_0 : ckp 14 0 40 = true := by decide +kernel
theorem ckq14_40 : ckp 14 40 40 = true := by decide +kernel
theorem ckq14_80 : ckp 14 80 40 = true := by decide +kernel
theorem ckq14_120 : ckr 14 120 = true := by decide +kernel
theorem ckm14 : ck_m 14 = true := ckr_0 (ckp_r ckq14_0 (ckp_r ckq14_40 (ckp_r ckq14_80 (ckq14_120))))
