theorem ckq15_0 : ckp 15 0 40 = true := by decide +kernel
theorem ckq15_40 : ckp 15 40 40 = true := by decide +kernel
theorem ckq15_80 : ckr 15 80 = true := by decide +kernel
theorem ckm15 : ck_m0 15 = true := ckr_0 (ckp_r ckq15_0 (ckp_r ckq15_40 (ckq15_80)))
theorem ckq16_0 : ckp 16 0 40 = true := by decide +kernel
theorem ckq16_40 : ckr 16 40 = true := by decide +kernel
theorem ckm16 : ck_m0 16 = true := ckr_0 (ckp_r ckq16_0 (ckq16_40))
theorem ckm17 : ck_m0 17 = true := by decide +kernel
theorem ckm18 : ck_m0 18 = true := by decide +kernel
theorem ckm19 : ck_m0 19 = true := by decide +kernel
theorem ckm20 : ck_m0 20 = true := by decide +kernel
theorem ckq21_0 : ckp 21 0 40 = true := by decide +kernel
theorem ckq21_40 : ckr 21 40 = true := by decide +kernel
theorem ckm21 : ck_m0 21 = true := ckr_0 (ckp_r ckq21_0 (ckq21_40))
theorem ckm22 : ck_m0 22 = true := by decide +kernel
theorem ckq23_0 : ckp 23 0 40 = true := by decide +kernel
theorem ckq23_40 : ckp 23 40 40 = true := by decide +kernel
theorem ckq23_80 : ckp 23 80 40 = true := by decide +kernel
theorem ckq23_120 : ckr 23 120 = true := by decide +kernel
theorem ckm23 : ck_m0 23 = true := ckr_0 (ckp_r ckq23_0 (ckp_r ckq23_40 (ckp_r ckq23_80 (ckq23_120))))
theorem ckq24_0 : ckp 24 0 40 = true := by decide +kernel
theorem ckq24_40 : ckr 24 40 = true := by decide +kernel
theorem ckm24 : ck_m0 24 = true := ckr_0 (ckp_r ckq24_0 (ckq24_40))
theorem ckm25 : ck_m0 25 = true := by decide +kernel
