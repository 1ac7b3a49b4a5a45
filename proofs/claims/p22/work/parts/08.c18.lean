theorem ckq248_0 : ckp 248 0 40 = true := by decide +kernel
theorem ckq248_40 : ckp 248 40 40 = true := by decide +kernel
theorem ckq248_80 : ckp 248 80 40 = true := by decide +kernel
theorem ckq248_120 : ckp 248 120 40 = true := by decide +kernel
theorem ckq248_160 : ckp 248 160 40 = true := by decide +kernel
theorem ckq248_200 : ckp 248 200 40 = true := by decide +kernel
theorem ckq248_240 : ckp 248 240 40 = true := by decide +kernel
theorem ckq248_280 : ckp 248 280 40 = true := by decide +kernel
theorem ckq248_320 : ckp 248 320 40 = true := by decide +kernel
theorem ckq248_360 : ckp 248 360 40 = true := by decide +kernel
theorem ckq248_400 : ckp 248 400 40 = true := by decide +kernel
theorem ckq248_440 : ckp 248 440 40 = true := by decide +kernel
theorem ckq248_480 : ckp 248 480 40 = true := by decide +kernel
theorem ckq248_520 : ckp 248 520 40 = true := by decide +kernel
theorem ckq248_560 : ckp 248 560 40 = true := by decide +kernel
theorem ckq248_600 : ckr 248 600 = true := by decide +kernel
theorem ckm248 : ck_m0 248 = true := ckr_0 (ckp_r ckq248_0 (ckp_r ckq248_40 (ckp_r ckq248_80 (ckp_r ckq248_120 (ckp_r ckq248_160 (ckp_r ckq248_200 (ckp_r ckq248_240 (ckp_r ckq248_280 (ckp_r ckq248_320 (ckp_r ckq248_360 (ckp_r ckq248_400 (ckp_r ckq248_440 (ckp_r ckq248_480 (ckp_r ckq248_520 (ckp_r ckq248_560 (ckq248_600))))))))))))))))
