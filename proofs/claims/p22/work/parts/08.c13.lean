theorem ckq194_0 : ckp 194 0 40 = true := by decide +kernel
theorem ckq194_40 : ckp 194 40 40 = true := by decide +kernel
theorem ckq194_80 : ckp 194 80 40 = true := by decide +kernel
theorem ckq194_120 : ckr 194 120 = true := by decide +kernel
theorem ckm194 : ck_m0 194 = true := ckr_0 (ckp_r ckq194_0 (ckp_r ckq194_40 (ckp_r ckq194_80 (ckq194_120))))
theorem ckq195_0 : ckp 195 0 40 = true := by decide +kernel
theorem ckq195_40 : ckr 195 40 = true := by decide +kernel
theorem ckm195 : ck_m0 195 = true := ckr_0 (ckp_r ckq195_0 (ckq195_40))
theorem ckq196_0 : ckp 196 0 40 = true := by decide +kernel
theorem ckq196_40 : ckp 196 40 40 = true := by decide +kernel
theorem ckq196_80 : ckp 196 80 40 = true := by decide +kernel
theorem ckq196_120 : ckr 196 120 = true := by decide +kernel
theorem ckm196 : ck_m0 196 = true := ckr_0 (ckp_r ckq196_0 (ckp_r ckq196_40 (ckp_r ckq196_80 (ckq196_120))))
theorem ckq197_0 : ckp 197 0 40 = true := by decide +kernel
theorem ckq197_40 : ckp 197 40 40 = true := by decide +kernel
theorem ckq197_80 : ckp 197 80 40 = true := by decide +kernel
theorem ckq197_120 : ckr 197 120 = true := by decide +kernel
theorem ckm197 : ck_m0 197 = true := ckr_0 (ckp_r ckq197_0 (ckp_r ckq197_40 (ckp_r ckq197_80 (ckq197_120))))
theorem ckm198 : ck_m0 198 = true := by decide +kernel
theorem ckm199 : ck_m0 199 = true := by decide +kernel
theorem ckq200_0 : ckp 200 0 40 = true := by decide +kernel
theorem ckq200_40 : ckr 200 40 = true := by decide +kernel
theorem ckm200 : ck_m0 200 = true := ckr_0 (ckp_r ckq200_0 (ckq200_40))
