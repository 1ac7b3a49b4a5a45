theorem ckq221_0 : ckp 221 0 40 = true := by decide +kernel
theorem ckq221_40 : ckp 221 40 40 = true := by decide +kernel
theorem ckq221_80 : ckr 221 80 = true := by decide +kernel
theorem ckm221 : ck_m0 221 = true := ckr_0 (ckp_r ckq221_0 (ckp_r ckq221_40 (ckq221_80)))
theorem ckm222 : ck_m0 222 = true := by decide +kernel
theorem ckq223_0 : ckp 223 0 40 = true := by decide +kernel
theorem ckq223_40 : ckp 223 40 40 = true := by decide +kernel
theorem ckq223_80 : ckr 223 80 = true := by decide +kernel
theorem ckm223 : ck_m0 223 = true := ckr_0 (ckp_r ckq223_0 (ckp_r ckq223_40 (ckq223_80)))
theorem ckq224_0 : ckp 224 0 40 = true := by decide +kernel
theorem ckq224_40 : ckp 224 40 40 = true := by decide +kernel
theorem ckq224_80 : ckp 224 80 40 = true := by decide +kernel
theorem ckq224_120 : ckr 224 120 = true := by decide +kernel
theorem ckm224 : ck_m0 224 = true := ckr_0 (ckp_r ckq224_0 (ckp_r ckq224_40 (ckp_r ckq224_80 (ckq224_120))))
theorem ckq225_0 : ckp 225 0 40 = true := by decide +kernel
theorem ckq225_40 : ckr 225 40 = true := by decide +kernel
theorem ckm225 : ck_m0 225 = true := ckr_0 (ckp_r ckq225_0 (ckq225_40))
theorem ckm226 : ck_m0 226 = true := by decide +kernel
theorem ckq227_0 : ckp 227 0 40 = true := by decide +kernel
theorem ckq227_40 : ckp 227 40 40 = true := by decide +kernel
theorem ckq227_80 : ckr 227 80 = true := by decide +kernel
theorem ckm227 : ck_m0 227 = true := ckr_0 (ckp_r ckq227_0 (ckp_r ckq227_40 (ckq227_80)))
theorem ckq228_0 : ckp 228 0 40 = true := by decide +kernel
theorem ckq228_40 : ckr 228 40 = true := by decide +kernel
theorem ckm228 : ck_m0 228 = true := ckr_0 (ckp_r ckq228_0 (ckq228_40))
theorem ckm229 : ck_m0 229 = true := by decide +kernel
