theorem ckq152_0 : ckp 152 0 40 = true := by decide +kernel
theorem ckq152_40 : ckp 152 40 40 = true := by decide +kernel
theorem ckq152_80 : ckr 152 80 = true := by decide +kernel
theorem ckm152 : ck_m0 152 = true := ckr_0 (ckp_r ckq152_0 (ckp_r ckq152_40 (ckq152_80)))
theorem ckm153 : ck_m0 153 = true := by decide +kernel
theorem ckm154 : ck_m0 154 = true := by decide +kernel
theorem ckm155 : ck_m0 155 = true := by decide +kernel
theorem ckm156 : ck_m0 156 = true := by decide +kernel
theorem ckm157 : ck_m0 157 = true := by decide +kernel
theorem ckm158 : ck_m0 158 = true := by decide +kernel
theorem ckq159_0 : ckp 159 0 40 = true := by decide +kernel
theorem ckq159_40 : ckp 159 40 40 = true := by decide +kernel
theorem ckq159_80 : ckp 159 80 40 = true := by decide +kernel
theorem ckq159_120 : ckp 159 120 40 = true := by decide +kernel
theorem ckq159_160 : ckr 159 160 = true := by decide +kernel
theorem ckm159 : ck_m0 159 = true := ckr_0 (ckp_r ckq159_0 (ckp_r ckq159_40 (ckp_r ckq159_80 (ckp_r ckq159_120 (ckq159_160)))))
theorem ckm160 : ck_m0 160 = true := by decide +kernel
theorem ckm161 : ck_m0 161 = true := by decide +kernel
theorem ckm162 : ck_m0 162 = true := by decide +kernel
theorem ckm163 : ck_m0 163 = true := by decide +kernel
theorem ckm164 : ck_m0 164 = true := by decide +kernel
theorem ckm165 : ck_m0 165 = true := by decide +kernel
theorem ckm166 : ck_m0 166 = true := by decide +kernel
theorem ckm167 : ck_m0 167 = true := by decide +kernel
theorem ckm168 : ck_m0 168 = true := by decide +kernel
theorem ckm169 : ck_m0 169 = true := by decide +kernel
theorem ckm170 : ck_m0 170 = true := by decide +kernel
theorem ckm171 : ck_m0 171 = true := by decide +kernel
theorem ckm172 : ck_m0 172 = true := by decide +kernel
