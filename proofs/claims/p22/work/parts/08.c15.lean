theorem ckq213_0 : ckp 213 0 40 = true := by decide +kernel
theorem ckq213_40 : ckp 213 40 40 = true := by decide +kernel
theorem ckq213_80 : ckr 213 80 = true := by decide +kernel
theorem ckm213 : ck_m0 213 = true := ckr_0 (ckp_r ckq213_0 (ckp_r ckq213_40 (ckq213_80)))
theorem ckm214 : ck_m0 214 = true := by decide +kernel
theorem ckm215 : ck_m0 215 = true := by decide +kernel
theorem ckq216_0 : ckp 216 0 40 = true := by decide +kernel
theorem ckq216_40 : ckp 216 40 40 = true := by decide +kernel
theorem ckq216_80 : ckr 216 80 = true := by decide +kernel
theorem ckm216 : ck_m0 216 = true := ckr_0 (ckp_r ckq216_0 (ckp_r ckq216_40 (ckq216_80)))
theorem ckq217_0 : ckp 217 0 40 = true := by decide +kernel
theorem ckq217_40 : ckp 217 40 40 = true := by decide +kernel
theorem ckq217_80 : ckr 217 80 = true := by decide +kernel
theorem ckm217 : ck_m0 217 = true := ckr_0 (ckp_r ckq217_0 (ckp_r ckq217_40 (ckq217_80)))
theorem ckq218_0 : ckp 218 0 40 = true := by decide +kernel
theorem ckq218_40 : ckp 218 40 40 = true := by decide +kernel
theorem ckq218_80 : ckp 218 80 40 = true := by decide +kernel
theorem ckq218_120 : ckp 218 120 40 = true := by decide +kernel
theorem ckq218_160 : ckr 218 160 = true := by decide +kernel
theorem ckm218 : ck_m0 218 = true := ckr_0 (ckp_r ckq218_0 (ckp_r ckq218_40 (ckp_r ckq218_80 (ckp_r ckq218_120 (ckq218_160)))))
theorem ckm219 : ck_m0 219 = true := by decide +kernel
theorem ckm220 : ck_m0 220 = true := by decide +kernel
