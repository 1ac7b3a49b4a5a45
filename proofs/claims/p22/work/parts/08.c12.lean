theorem ckm182 : ck_m0 182 = true := by decide +kernel
theorem ckq183_0 : ckp 183 0 40 = true := by decide +kernel
theorem ckq183_40 : ckp 183 40 40 = true := by decide +kernel
theorem ckq183_80 : ckp 183 80 40 = true := by decide +kernel
theorem ckq183_120 : ckr 183 120 = true := by decide +kernel
theorem ckm183 : ck_m0 183 = true := ckr_0 (ckp_r ckq183_0 (ckp_r ckq183_40 (ckp_r ckq183_80 (ckq183_120))))
theorem ckm184 : ck_m0 184 = true := by decide +kernel
theorem ckm185 : ck_m0 185 = true := by decide +kernel
theorem ckm186 : ck_m0 186 = true := by decide +kernel
theorem ckm187 : ck_m0 187 = true := by decide +kernel
theorem ckq188_0 : ckp 188 0 40 = true := by decide +kernel
theorem ckq188_40 : ckp 188 40 40 = true := by decide +kernel
theorem ckq188_80 : ckr 188 80 = true := by decide +kernel
theorem ckm188 : ck_m0 188 = true := ckr_0 (ckp_r ckq188_0 (ckp_r ckq188_40 (ckq188_80)))
theorem ckm189 : ck_m0 189 = true := by decide +kernel
theorem ckm190 : ck_m0 190 = true := by decide +kernel
theorem ckq191_0 : ckp 191 0 40 = true := by decide +kernel
theorem ckq191_40 : ckp 191 40 40 = true := by decide +kernel
theorem ckq191_80 : ckr 191 80 = true := by decide +kernel
theorem ckm191 : ck_m0 191 = true := ckr_0 (ckp_r ckq191_0 (ckp_r ckq191_40 (ckq191_80)))
theorem ckm192 : ck_m0 192 = true := by decide +kernel
theorem ckm193 : ck_m0 193 = true := by decide +kernel
