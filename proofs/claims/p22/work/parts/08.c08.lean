theorem ckm119 : ck_m0 119 = true := by decide +kernel
theorem ckq120_0 : ckp 120 0 40 = true := by decide +kernel
theorem ckq120_40 : ckr 120 40 = true := by decide +kernel
theorem ckm120 : ck_m0 120 = true := ckr_0 (ckp_r ckq120_0 (ckq120_40))
theorem ckm121 : ck_m0 121 = true := by decide +kernel
theorem ckm122 : ck_m0 122 = true := by decide +kernel
theorem ckm123 : ck_m0 123 = true := by decide +kernel
theorem ckm124 : ck_m0 124 = true := by decide +kernel
theorem ckm125 : ck_m0 125 = true := by decide +kernel
theorem ckm126 : ck_m0 126 = true := by decide +kernel
theorem ckm127 : ck_m0 127 = true := by decide +kernel
theorem ckm128 : ck_m0 128 = true := by decide +kernel
theorem ckm129 : ck_m0 129 = true := by decide +kernel
theorem ckm130 : ck_m0 130 = true := by decide +kernel
theorem ckm131 : ck_m0 131 = true := by decide +kernel
theorem ckm132 : ck_m0 132 = true := by decide +kernel
theorem ckm133 : ck_m0 133 = true := by decide +kernel
theorem ckm134 : ck_m0 134 = true := by decide +kernel
theorem ckm135 : ck_m0 135 = true := by decide +kernel
theorem ckm136 : ck_m0 136 = true := by decide +kernel
theorem ckm137 : ck_m0 137 = true := by decide +kernel
