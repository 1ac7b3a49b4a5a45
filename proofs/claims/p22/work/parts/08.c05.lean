theorem ckm66 : ck_m0 66 = true := by decide +kernel
theorem ckm67 : ck_m0 67 = true := by decide +kernel
theorem ckm68 : ck_m0 68 = true := by decide +kernel
theorem ckq69_0 : ckp 69 0 40 = true := by decide +kernel
theorem ckq69_40 : ckp 69 40 40 = true := by decide +kernel
theorem ckq69_80 : ckr 69 80 = true := by decide +kernel
theorem ckm69 : ck_m0 69 = true := ckr_0 (ckp_r ckq69_0 (ckp_r ckq69_40 (ckq69_80)))
theorem ckm70 : ck_m0 70 = true := by decide +kernel
theorem ckm71 : ck_m0 71 = true := by decide +kernel
theorem ckm72 : ck_m0 72 = true := by decide +kernel
theorem ckm73 : ck_m0 73 = true := by decide +kernel
theorem ckm74 : ck_m0 74 = true := by decide +kernel
theorem ckq75_0 : ckp 75 0 40 = true := by decide +kernel
theorem ckq75_40 : ckp 75 40 40 = true := by decide +kernel
theorem ckq75_80 : ckr 75 80 = true := by decide +kernel
theorem ckm75 : ck_m0 75 = true := ckr_0 (ckp_r ckq75_0 (ckp_r ckq75_40 (ckq75_80)))
theorem ckq76_0 : ckp 76 0 40 = true := by decide +kernel
theorem ckq76_40 : ckr 76 40 = true := by decide +kernel
theorem ckm76 : ck_m0 76 = true := ckr_0 (ckp_r ckq76_0 (ckq76_40))
theorem ckq77_0 : ckp 77 0 40 = true := by decide +kernel
theorem ckq77_40 : ckp 77 40 40 = true := by decide +kernel
theorem ckq77_80 : ckr 77 80 = true := by decide +kernel
theorem ckm77 : ck_m0 77 = true := ckr_0 (ckp_r ckq77_0 (ckp_r ckq77_40 (ckq77_80)))
