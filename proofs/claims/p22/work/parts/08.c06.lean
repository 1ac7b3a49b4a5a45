theorem ckm78 : ck_m0 78 = true := by decide +kernel
theorem ckm79 : ck_m0 79 = true := by decide +kernel
theorem ckm80 : ck_m0 80 = true := by decide +kernel
theorem ckq81_0 : ckp 81 0 40 = true := by decide +kernel
theorem ckq81_40 : ckr 81 40 = true := by decide +kernel
theorem ckm81 : ck_m0 81 = true := ckr_0 (ckp_r ckq81_0 (ckq81_40))
theorem ckm82 : ck_m0 82 = true := by decide +kernel
theorem ckm83 : ck_m0 83 = true := by decide +kernel
theorem ckm84 : ck_m0 84 = true := by decide +kernel
theorem ckm85 : ck_m0 85 = true := by decide +kernel
theorem ckm86 : ck_m0 86 = true := by decide +kernel
theorem ckq87_0 : ckp 87 0 40 = true := by decide +kernel
theorem ckq87_40 : ckp 87 40 40 = true := by decide +kernel
theorem ckq87_80 : ckr 87 80 = true := by decide +kernel
theorem ckm87 : ck_m0 87 = true := ckr_0 (ckp_r ckq87_0 (ckp_r ckq87_40 (ckq87_80)))
theorem ckm88 : ck_m0 88 = true := by decide +kernel
theorem ckm89 : ck_m0 89 = true := by decide +kernel
theorem ckm90 : ck_m0 90 = true := by decide +kernel
theorem ckm91 : ck_m0 91 = true := by decide +kernel
theorem ckm92 : ck_m0 92 = true := by decide +kernel
theorem ckq93_0 : ckp 93 0 40 = true := by decide +kernel
theorem ckq93_40 : ckp 93 40 40 = true := by decide +kernel
theorem ckq93_80 : ckr 93 80 = true := by decide +kernel
theorem ckm93 : ck_m0 93 = true := ckr_0 (ckp_r ckq93_0 (ckp_r ckq93_40 (ckq93_80)))
theorem ckm94 : ck_m0 94 = true := by decide +kernel
