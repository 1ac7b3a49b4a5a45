theorem ckq41_0 : ckp 41 0 40 = true := by decide +kernel
theorem ckq41_40 : ckr 41 40 = true := by decide +kernel
theorem ckm41 : ck_m0 41 = true := ckr_0 (ckp_r ckq41_0 (ckq41_40))
theorem ckq42_0 : ckp 42 0 40 = true := by decide +kernel
theorem ckq42_40 : ckr 42 40 = true := by decide +kernel
theorem ckm42 : ck_m0 42 = true := ckr_0 (ckp_r ckq42_0 (ckq42_40))
theorem ckm43 : ck_m0 43 = true := by decide +kernel
theorem ckm44 : ck_m0 44 = true := by decide +kernel
theorem ckm45 : ck_m0 45 = true := by decide +kernel
theorem ckm46 : ck_m0 46 = true := by decide +kernel
theorem ckq47_0 : ckp 47 0 40 = true := by decide +kernel
theorem ckq47_40 : ckp 47 40 40 = true := by decide +kernel
theorem ckq47_80 : ckr 47 80 = true := by decide +kernel
theorem ckm47 : ck_m0 47 = true := ckr_0 (ckp_r ckq47_0 (ckp_r ckq47_40 (ckq47_80)))
theorem ckm48 : ck_m0 48 = true := by decide +kernel
theorem ckm49 : ck_m0 49 = true := by decide +kernel
theorem ckq50_0 : ckp 50 0 40 = true := by decide +kernel
theorem ckq50_40 : ckr 50 40 = true := by decide +kernel
theorem ckm50 : ck_m0 50 = true := ckr_0 (ckp_r ckq50_0 (ckq50_40))
theorem ckm51 : ck_m0 51 = true := by decide +kernel
theorem ckm52 : ck_m0 52 = true := by decide +kernel
