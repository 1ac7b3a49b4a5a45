theorem ckm26 : ck_m0 26 = true := by decide +kernel
theorem ckm27 : ck_m0 27 = true := by decide +kernel
theorem ckm28 : ck_m0 28 = true := by decide +kernel
theorem ckm29 : ck_m0 29 = true := by decide +kernel
theorem ckm30 : ck_m0 30 = true := by decide +kernel
theorem ckq31_0 : ckp 31 0 40 = true := by decide +kernel
theorem ckq31_40 : ckp 31 40 40 = true := by decide +kernel
theorem ckq31_80 : ckr 31 80 = true := by decide +kernel
theorem ckm31 : ck_m0 31 = true := ckr_0 (ckp_r ckq31_0 (ckp_r ckq31_40 (ckq31_80)))
theorem ckq32_0 : ckp 32 0 40 = true := by decide +kernel
theorem ckq32_40 : ckr 32 40 = true := by decide +kernel
theorem ckm32 : ck_m0 32 = true := ckr_0 (ckp_r ckq32_0 (ckq32_40))
theorem ckm33 : ck_m0 33 = true := by decide +kernel
theorem ckm34 : ck_m0 34 = true := by decide +kernel
theorem ckm35 : ck_m0 35 = true := by decide +kernel
theorem ckq36_0 : ckp 36 0 40 = true := by decide +kernel
theorem ckq36_40 : ckp 36 40 40 = true := by decide +kernel
theorem ckq36_80 : ckr 36 80 = true := by decide +kernel
theorem ckm36 : ck_m0 36 = true := ckr_0 (ckp_r ckq36_0 (ckp_r ckq36_40 (ckq36_80)))
theorem ckq37_0 : ckp 37 0 40 = true := by decide +kernel
theorem ckq37_40 : ckr 37 40 = true := by decide +kernel
theorem ckm37 : ck_m0 37 = true := ckr_0 (ckp_r ckq37_0 (ckq37_40))
theorem ckm38 : ck_m0 38 = true := by decide +kernel
theorem ckm39 : ck_m0 39 = true := by decide +kernel
theorem ckm40 : ck_m0 40 = true := by decide +kernel
