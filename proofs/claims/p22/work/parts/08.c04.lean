theorem ckm53 : ck_m0 53 = true := by decide +kernel
theorem ckq54_0 : ckp 54 0 40 = true := by decide +kernel
theorem ckq54_40 : ckp 54 40 40 = true := by decide +kernel
theorem ckq54_80 : ckr 54 80 = true := by decide +kernel
theorem ckm54 : ck_m0 54 = true := ckr_0 (ckp_r ckq54_0 (ckp_r ckq54_40 (ckq54_80)))
theorem ckm55 : ck_m0 55 = true := by decide +kernel
theorem ckq56_0 : ckp 56 0 40 = true := by decide +kernel
theorem ckq56_40 : ckp 56 40 40 = true := by decide +kernel
theorem ckq56_80 : ckr 56 80 = true := by decide +kernel
theorem ckm56 : ck_m0 56 = true := ckr_0 (ckp_r ckq56_0 (ckp_r ckq56_40 (ckq56_80)))
theorem ckm57 : ck_m0 57 = true := by decide +kernel
theorem ckq58_0 : ckp 58 0 40 = true := by decide +kernel
theorem ckq58_40 : ckp 58 40 40 = true := by decide +kernel
theorem ckq58_80 : ckr 58 80 = true := by decide +kernel
theorem ckm58 : ck_m0 58 = true := ckr_0 (ckp_r ckq58_0 (ckp_r ckq58_40 (ckq58_80)))
theorem ckq59_0 : ckp 59 0 40 = true := by decide +kernel
theorem ckq59_40 : ckr 59 40 = true := by decide +kernel
theorem ckm59 : ck_m0 59 = true := ckr_0 (ckp_r ckq59_0 (ckq59_40))
theorem ckm60 : ck_m0 60 = true := by decide +kernel
theorem ckm61 : ck_m0 61 = true := by decide +kernel
theorem ckm62 : ck_m0 62 = true := by decide +kernel
theorem ckm63 : ck_m0 63 = true := by decide +kernel
theorem ckm64 : ck_m0 64 = true := by decide +kernel
theorem ckm65 : ck_m0 65 = true := by decide +kernel
